/-! THE REFERENCE: STEPS -/
theorem nxq_no {k h s how : Nat} {P : Nat → Nat → Prop} {z : Int} (H : NXQ k P h s how z) (hz : z < 0) : ∀ u, ¬ EDG k P h s how u := fun u e => by
  have := (H.2 u).mp e
  omega
theorem nxq_eq {k h s how n : Nat} {P : Nat → Nat → Prop} {z : Int} (H : NXQ k P h s how z) (hz : z = (n : Int)) : n < nkT k ∧ EDG k P h s how n ∧ ∀ u, EDG k P h s how u → u = n := ⟨by have := H.1; omega, (H.2 n).mpr hz, fun u e => by have := (H.2 u).mp e; omega⟩
theorem SD.cg {N f h jc : Nat} {E : Nat → Nat → Nat → Prop} {pr D st st' wq wq' : Nat → Int} (H : SD N E pr f h jc D st wq) (hs : ∀ u, st' u = st u) (hw : ∀ u, wq' u = wq u) : SD N E pr f h jc D st' wq' := by
  rw [show st' = st from funext hs, show wq' = wq from funext hw]
  exact H
theorem SQ.cg {N fi mn : Nat} {wt wq wt' wq' : Nat → Int} (H : SQ N fi mn wt wq) (ht : ∀ u, wt' u = wt u) (hw : ∀ u, wq' u = wq u) : SQ N fi mn wt' wq' := by
  rw [show wt' = wt from funext ht, show wq' = wq from funext hw]
  exact H
theorem c232 (A σ : am_S) (k nm ns : Nat) (D : Nat → Nat → Int) (hA : CI k nm ns D A) (hW : Wd σ) (hR : RRb k nm ns D A σ) (hNX : ∀ h, h < nkT k → ∀ j, j < 18 → NXQ k (GP (A.1 6)) h (j / 3) (j % 3) (σ.1 97 (18 * h + j))) (hI : DI k (A.1 6) (A.1 9) D) (f : Nat) (hf : f < nkT k) : CC 232 [vR 76, vI (((f : Nat) : Int))] σ (fun r σ' => r = none ∧ Fr [94, 95, 96] σ σ' ∧ (∀ u, u < nkT k → σ'.1 94 (462 * f + u) = D f u) ∧ (∀ y, (y < 462 * f ∨ 462 * f + 462 ≤ y) → σ'.1 94 y = σ.1 94 y)) := by
  show TT am_b232 (am_b232.getD 0 []) [(0, vR 76), (1, vI (((f : Nat) : Int)))] [] σ _
  have hk5 := hR.aa.1
  have hl27 := hR.aa.2.1
  have hs47 := hR.aa.2.2
  have hk6 := hA.x.1.2.1
  have hm12 := hA.x.2.2.1.2.1
  have hs16 := hA.st.2
  have hDA := hA.x.1
  have hHT := hA.x.2.1
  have hLA := hA.x.2.2.1
  have hHB := HB_of hDA hHT
  have hnb := nkT_bd k
  have hp9 := hDA.2.2.2.1
  refine tt_ar rfl ?_
  refine tt_ar rfl ?_
  refine tt_imul (by omega) (by omega) ?_
  refine tt_ar rfl ?_
  refine tt_ar rfl ?_
  refine tt_ar rfl ?_
  refine tt_nop ?_
  have lp1_1 : ∀ (μ : Nat) (i : Nat) (σ1 : am_S), nkT k - i < μ → Fr [94, 96] σ σ1 → (i ≤ nkT k) → (∀ u, u < i → σ1.1 94 (462 * f + u) = 100000 ∧ σ1.1 96 u = 0) → (∀ y, (y < 462 * f ∨ 462 * f + 462 ≤ y) → σ1.1 94 y = σ.1 94 y) → TT am_b232 (am_b232.getD 1 []) [(0, vR 76), (1, vI (((f : Nat) : Int))), (2, vI ((462 * ((f : Nat) : Int)))), (3, vI (((i : Nat) : Int)))] [] σ1 (fun r σ' => r = none ∧ Fr [94, 95, 96] σ σ' ∧ (∀ u, u < nkT k → σ'.1 94 (462 * f + u) = D f u) ∧ (∀ y, (y < 462 * f ∨ 462 * f + 462 ≤ y) → σ'.1 94 y = σ.1 94 y)) := by
    intro μ
    induction μ with
    | zero => intro i σ1 hμ; exact absurd hμ (Nat.not_lt_zero _)
    | succ μ ih1 =>
      intro i σ1 hμ hF_σ1 hi h94 hO1
      have hW_σ1 := Fr.wd hF_σ1 hW
      refine tt_ar rfl ?_
      refine tt_ar rfl ?_
      refine tt_getI (x := ((nkT k : Nat) : Int)) (wo_76 hW_σ1) rfl ((hF_σ1.2 76 (by decide) (27)).trans hR.hs.1) ?_
      refine tt_icge (fun h1_3 => ?_) (fun h1_3 => ?_)
      · have ei : i = nkT k := by omega
        have hSDi : SD (nkT k) (EJ k (GP (A.1 6))) (A.1 9) f (nkT k) 0 (D f) (fun u => (am_set (am_set (am_set σ1 94 (462 * f + f) 0) 95 0 ((f : Nat) : Int)) 96 f (1 % 2)).1 94 (462 * f + u)) ((am_set (am_set (am_set σ1 94 (462 * f + f) 0) 95 0 ((f : Nat) : Int)) 96 f (1 % 2)).1 96) := by
          have e1 : ∀ u, (am_set (am_set (am_set σ1 94 (462 * f + f) 0) 95 0 ((f : Nat) : Int)) 96 f (1 % 2)).1 94 (462 * f + u) = if u = f then 0 else σ1.1 94 (462 * f + u) := fun u => by
            rw [am_set_nb (by decide), am_set_nb (by decide), am_set_at]
            by_cases e : u = f
            · rw [if_pos (by omega), if_pos e]
            · rw [if_neg (by omega), if_neg e]
          refine ⟨fun u hu => ?_, (e1 f).trans (if_pos rfl), fun u hu hq j hj _ v e => ?_⟩
          · show D f u ≤ (am_set (am_set (am_set σ1 94 (462 * f + f) 0) 95 0 ((f : Nat) : Int)) 96 f (1 % 2)).1 94 (462 * f + u) ∧ 0 ≤ (am_set (am_set (am_set σ1 94 (462 * f + f) 0) 95 0 ((f : Nat) : Int)) 96 f (1 % 2)).1 94 (462 * f + u) ∧ (am_set (am_set (am_set σ1 94 (462 * f + f) 0) 95 0 ((f : Nat) : Int)) 96 f (1 % 2)).1 94 (462 * f + u) ≤ 100000
            have hb := DI.bd hk6 hp9 hI hf hu
            rw [e1]
            by_cases e : u = f
            · rw [if_pos e]
              have h0 := (hI f hf).1 f hf
              rw [e]
              unfold dlN at h0
              rw [if_pos rfl] at h0
              omega
            · rw [if_neg e, (h94 u (by omega)).1]
              omega
          · have hv := (ed_lt e).2
            show (am_set (am_set (am_set σ1 94 (462 * f + f) 0) 95 0 ((f : Nat) : Int)) 96 f (1 % 2)).1 94 (462 * f + v) ≤ (am_set (am_set (am_set σ1 94 (462 * f + f) 0) 95 0 ((f : Nat) : Int)) 96 f (1 % 2)).1 94 (462 * f + u) + A.1 9 (j % 3)
            have hpj := hp9 (j % 3) (by omega)
            have eu : u ≠ f := fun q => by
              rw [q, am_set_at, if_pos rfl] at hq
              omega
            rw [e1, e1, if_neg eu, (h94 u (by omega)).1]
            split
            · omega
            · rw [(h94 v (by omega)).1]
              omega
        refine tt_ar rfl ?_
        refine tt_getR (wo_76 hW_σ1) rfl (wr_76_32 hW_σ1) ?_
        refine tt_ar rfl ?_
        refine tt_ar rfl ?_
        refine tt_iadd (by omega) (by omega) ?_
        refine tt_ar rfl ?_
        refine tt_iast (((462 * f) + f)) (wa_94 hW_σ1) (by omega) (by omega) (by omega) ?_
        refine tt_ar rfl ?_
        refine tt_getR (wo_76 hW_σ1) rfl (wr_76_33 hW_σ1) ?_
        refine tt_ar rfl ?_
        refine tt_ar rfl ?_
        refine tt_iast (0) (wa_95 hW_σ1) (by omega) rfl (by omega) ?_
        refine tt_ar rfl ?_
        refine tt_getR (wo_76 hW_σ1) rfl (wr_76_34 hW_σ1) ?_
        refine tt_ar rfl ?_
        refine tt_ar rfl ?_
        refine tt_bastZ (f) (wa_96 hW_σ1) (by omega) rfl (by omega) ?_
        refine tt_ar rfl ?_
        refine tt_ar rfl ?_
        refine tt_ar rfl ?_
        refine tt_ar rfl ?_
        refine tt_nop ?_
        have lp3_2 : ∀ (μ : Nat) (fi : Nat) (mn : Nat) (σ3 : am_S), wM (nkT k) (fun u => σ3.1 94 (462 * f + u)) mn < μ → Fr [94, 95, 96] σ σ3 → (SQ (nkT k) fi mn (σ3.1 95) (σ3.1 96)) → (SD (nkT k) (EJ k (GP (A.1 6))) (A.1 9) f (nkT k) 0 (D f) (fun u => σ3.1 94 (462 * f + u)) (σ3.1 96)) → (∀ y, (y < 462 * f ∨ 462 * f + 462 ≤ y) → σ3.1 94 y = σ.1 94 y) → TT am_b232 (am_b232.getD 3 []) [(0, vR 76), (2, vI ((462 * ((f : Nat) : Int)))), (3, vI (((fi : Nat) : Int))), (4, vI (((mn : Nat) : Int)))] [] σ3 (fun r σ' => r = none ∧ Fr [94, 95, 96] σ σ' ∧ (∀ u, u < nkT k → σ'.1 94 (462 * f + u) = D f u) ∧ (∀ y, (y < 462 * f ∨ 462 * f + 462 ≤ y) → σ'.1 94 y = σ.1 94 y)) := by
          intro μ
          induction μ with
          | zero => intro fi mn σ3 hμ; exact absurd hμ (Nat.not_lt_zero _)
          | succ μ ih3 =>
            intro fi mn σ3 hμ hF_σ3 hSQ hSD hO3
            have hW_σ3 := Fr.wd hF_σ3 hW
            have hmn4 : mn ≤ nkT k := by have := hSQ.2.2.2.2.1; have := ctN_le (p := fun u => decide (σ3.1 96 u = 1)) (nkT k); omega
            have hfi4 := hSQ.2.2.2.2.2
            refine tt_ar rfl ?_
            refine tt_ifle (fun h3_1 => ?_) (fun h3_1 => ?_)
            · refine tt_vret ?_
              have em : mn = 0 := by omega
              subst em
              have hq0 : ∀ u, u < nkT k → σ3.1 96 u = 0 := fun u hu => by
                rcases hSQ.1 u hu with q | q
                · exact q
                · obtain ⟨i, i1, -⟩ := hSQ.2.2.2.1 u hu q
                  omega
              exact ⟨rfl, hF_σ3, sd_end hk6 hp9 hI hf hq0 hSD, hO3⟩
            · obtain ⟨h, hh, hqh, hqw⟩ := hSQ.head (by omega)
              refine tt_ar rfl ?_
              refine tt_getR (wo_76 hW_σ3) rfl (wr_76_33 hW_σ3) ?_
              refine tt_ar rfl ?_
              refine tt_iald (fi) (x := ((h : Nat) : Int)) (wa_95 hW_σ3) rfl (by omega) hqh ?_
              refine tt_ar rfl ?_
              refine tt_ar rfl ?_
              refine tt_ar rfl ?_
              refine tt_iadd (by omega) (by omega) ?_
              refine tt_ar rfl ?_
              refine tt_dI (g := (fun a b => Int.tmod a b)) (z := (((fi + 1) % 462 : Nat) : Int)) rfl (by omega) rfl ?_
              refine tt_ar rfl ?_
              refine tt_iinc (y := ((mn - 1 : Nat) : Int)) rfl (iinc_fit (by omega) (by omega) (by omega)) ?_
              refine tt_ar rfl ?_
              refine tt_getR (wo_76 hW_σ3) rfl (wr_76_34 hW_σ3) ?_
              refine tt_ar rfl ?_
              refine tt_ar rfl ?_
              refine tt_bastZ (h) (wa_96 hW_σ3) (by omega) rfl (by omega) ?_
              refine tt_ar rfl ?_
              refine tt_ar rfl ?_
              refine tt_nop ?_
              have lp4_3 : ∀ (μ : Nat) (j : Nat) (m4 : Nat) (σ4 : am_S), 18 - j < μ → Fr [94, 95, 96] σ σ4 → (j ≤ 18) → (SQ (nkT k) ((fi + 1) % 462) m4 (σ4.1 95) (σ4.1 96)) → (SD (nkT k) (EJ k (GP (A.1 6))) (A.1 9) f h j (D f) (fun u => σ4.1 94 (462 * f + u)) (σ4.1 96)) → (∀ y, (y < 462 * f ∨ 462 * f + 462 ≤ y) → σ4.1 94 y = σ.1 94 y) → (wM (nkT k) (fun u => σ4.1 94 (462 * f + u)) m4 + 1 ≤ wM (nkT k) (fun u => σ3.1 94 (462 * f + u)) mn) → TT am_b232 (am_b232.getD 4 []) [(0, vR 76), (2, vI ((462 * ((f : Nat) : Int)))), (3, vI ((((fi + 1) % 462 : Nat) : Int))), (4, vI (((m4 : Nat) : Int))), (5, vI (((h : Nat) : Int))), (6, vI (((j : Nat) : Int)))] [] σ4 (fun r σ' => r = none ∧ Fr [94, 95, 96] σ σ' ∧ (∀ u, u < nkT k → σ'.1 94 (462 * f + u) = D f u) ∧ (∀ y, (y < 462 * f ∨ 462 * f + 462 ≤ y) → σ'.1 94 y = σ.1 94 y)) := by
                intro μ
                induction μ with
                | zero => intro j m4 σ4 hμ; exact absurd hμ (Nat.not_lt_zero _)
                | succ μ ih4 =>
                  intro j m4 σ4 hμ hF_σ4 hj hSQ4 hSD4 hO4 hM4
                  have hW_σ4 := Fr.wd hF_σ4 hW
                  have hm4 : m4 ≤ nkT k := by have := hSQ4.2.2.2.2.1; have := ctN_le (p := fun u => decide (σ4.1 96 u = 1)) (nkT k); omega
                  have hbh : D f h ≤ σ4.1 94 (462 * f + h) ∧ 0 ≤ σ4.1 94 (462 * f + h) ∧ σ4.1 94 (462 * f + h) ≤ 100000 := hSD4.1 h hh
                  have hnx := hNX h hh j
                  have hpj := hp9 (j % 3) (by omega)
                  refine tt_ar rfl ?_
                  refine tt_ar rfl ?_
                  refine tt_icge (fun h4_2 => ?_) (fun h4_2 => ?_)
                  · have hSDn : SD (nkT k) (EJ k (GP (A.1 6))) (A.1 9) f h 18 (D f) (fun u => σ4.1 94 (462 * f + u)) (σ4.1 96) := by rw [show (18 : Nat) = j by omega]; exact hSD4
                    refine tt_goto ?_
                    refine tt_loc [(0, vR 76), (2, vI ((462 * ((f : Nat) : Int)))), (3, vI ((((fi + 1) % 462 : Nat) : Int))), (4, vI (((m4 : Nat) : Int)))] rfl rfl ⟨rfl, rfl, rfl, rfl, trivial⟩ ?_
                    exact ih3 ((fi + 1) % 462) (m4) σ4 (by omega) (Fr.tr Fr.rf hF_σ4 (by decide)) hSQ4 hSDn.fin hO4
                  · refine tt_ar rfl ?_
                    refine tt_getR (wo_76 hW_σ4) rfl (wr_76_35 hW_σ4) ?_
                    refine tt_ar rfl ?_
                    refine tt_ar rfl ?_
                    refine tt_imul (by omega) (by omega) ?_
                    refine tt_ar rfl ?_
                    refine tt_iadd (by omega) (by omega) ?_
                    refine tt_iald (((18 * h) + j)) (x := σ.1 97 (((18 * h) + j))) (wa_97 hW_σ4) (by omega) (by omega) (hF_σ4.2 97 (by decide) (((18 * h) + j))) ?_
                    refine tt_ar rfl ?_
                    refine tt_ar rfl ?_
                    refine tt_iflt (fun h4_13 => ?_) (fun h4_13 => ?_)
                    · have hSDa : SD (nkT k) (EJ k (GP (A.1 6))) (A.1 9) f h (j + 1) (D f) (fun u => σ4.1 94 (462 * f + u)) (σ4.1 96) := hSD4.no (fun v e => absurd e (nxq_no (hnx (by omega)) (by omega) v))
                      refine tt_iinc (y := ((j + 1 : Nat) : Int)) rfl (iinc_fit (by omega) (by omega) (by omega)) ?_
                      refine tt_goto ?_
                      refine tt_loc [(0, vR 76), (2, vI ((462 * ((f : Nat) : Int)))), (3, vI ((((fi + 1) % 462 : Nat) : Int))), (4, vI (((m4 : Nat) : Int))), (5, vI (((h : Nat) : Int))), (6, vI (((j + 1 : Nat) : Int)))] rfl rfl ⟨rfl, rfl, rfl, rfl, rfl, rfl, trivial⟩ ?_
                      exact ih4 (j + 1) (m4) σ4 (by omega) (Fr.tr Fr.rf hF_σ4 (by decide)) (by omega) (by first | exact hSQ4 | exact hSQc | exact hSQp) (by first | exact hSDa | exact hSDc | exact hSDp) (by first | exact hO4 | exact (fun y hy => by rw [am_set_at, if_neg (by omega)]; exact hO4 y hy) | exact (fun y hy => by rw [am_set_nb (by decide), am_set_nb (by decide), am_set_at, if_neg (by omega)]; exact hO4 y hy)) (by first | exact hM4 | omega)
                    · obtain ⟨zn, hzn⟩ : ∃ n : Nat, σ.1 97 (18 * h + j) = (n : Int) := ⟨_, (Int.toNat_of_nonneg (by omega)).symm⟩
                      obtain ⟨hznN, hznE, hznU⟩ := nxq_eq (hnx (by omega)) hzn
                      refine tt_loc [(0, vR 76), (2, vI ((462 * ((f : Nat) : Int)))), (3, vI ((((fi + 1) % 462 : Nat) : Int))), (4, vI (((m4 : Nat) : Int))), (5, vI (((h : Nat) : Int))), (6, vI (((j : Nat) : Int))), (7, vI (((zn : Nat) : Int)))] rfl rfl ⟨rfl, rfl, rfl, rfl, rfl, rfl, lv_to rfl hzn, trivial⟩ ?_
                      have hbz : D f zn ≤ σ4.1 94 (462 * f + zn) ∧ 0 ≤ σ4.1 94 (462 * f + zn) ∧ σ4.1 94 (462 * f + zn) ≤ 100000 := hSD4.1 zn hznN
                      refine tt_ar rfl ?_
                      refine tt_getR (wo_76 hW_σ4) rfl (wr_76_32 hW_σ4) ?_
                      refine tt_ar rfl ?_
                      refine tt_ar rfl ?_
                      refine tt_iadd (by omega) (by omega) ?_
                      refine tt_iald (((462 * f) + h)) (x := σ4.1 94 (((462 * f) + h))) (wa_94 hW_σ4) (by omega) (by omega) rfl ?_
                      refine tt_ar rfl ?_
                      refine tt_getR (wo_76 hW_σ4) rfl (wr_76_16 hW_σ4) ?_
                      refine tt_ar rfl ?_
                      refine tt_ar rfl ?_
                      refine tt_dI (g := (fun a b => Int.tmod a b)) (z := ((j % 3 : Nat) : Int)) rfl (by omega) rfl ?_
                      refine tt_iald (j % 3) (x := A.1 9 (j % 3)) (wa_86 hW_σ4) rfl (by omega) ((hF_σ4.2 86 (by decide) (j % 3)).trans (hR.wl.2.2.2.2 (j % 3) (by omega))) ?_
                      refine tt_iadd (by omega) (by omega) ?_
                      refine tt_ar rfl ?_
                      refine tt_getR (wo_76 hW_σ4) rfl (wr_76_32 hW_σ4) ?_
                      refine tt_ar rfl ?_
                      refine tt_ar rfl ?_
                      refine tt_iadd (by omega) (by omega) ?_
                      refine tt_iald (((462 * f) + zn)) (x := σ4.1 94 (((462 * f) + zn))) (wa_94 hW_σ4) (by omega) (by omega) rfl ?_
                      refine tt_icge (fun h4_33 => ?_) (fun h4_33 => ?_)
                      · have hSDa : SD (nkT k) (EJ k (GP (A.1 6))) (A.1 9) f h (j + 1) (D f) (fun u => σ4.1 94 (462 * f + u)) (σ4.1 96) := hSD4.no (fun v e => by rw [hznU v e]; show σ4.1 94 (462 * f + zn) ≤ σ4.1 94 (462 * f + h) + A.1 9 (j % 3); omega)
                        refine tt_iinc (y := ((j + 1 : Nat) : Int)) rfl (iinc_fit (by omega) (by omega) (by omega)) ?_
                        refine tt_goto ?_
                        refine tt_loc [(0, vR 76), (2, vI ((462 * ((f : Nat) : Int)))), (3, vI ((((fi + 1) % 462 : Nat) : Int))), (4, vI (((m4 : Nat) : Int))), (5, vI (((h : Nat) : Int))), (6, vI (((j + 1 : Nat) : Int)))] rfl rfl ⟨rfl, rfl, rfl, rfl, rfl, rfl, trivial⟩ ?_
                        exact ih4 (j + 1) (m4) σ4 (by omega) (Fr.tr Fr.rf hF_σ4 (by decide)) (by omega) (by first | exact hSQ4 | exact hSQc | exact hSQp) (by first | exact hSDa | exact hSDc | exact hSDp) (by first | exact hO4 | exact (fun y hy => by rw [am_set_at, if_neg (by omega)]; exact hO4 y hy) | exact (fun y hy => by rw [am_set_nb (by decide), am_set_nb (by decide), am_set_at, if_neg (by omega)]; exact hO4 y hy)) (by first | exact hM4 | omega)
                      · refine tt_ar rfl ?_
                        refine tt_getR (wo_76 hW_σ4) rfl (wr_76_32 hW_σ4) ?_
                        refine tt_ar rfl ?_
                        refine tt_ar rfl ?_
                        refine tt_iadd (by omega) (by omega) ?_
                        refine tt_ar rfl ?_
                        refine tt_getR (wo_76 hW_σ4) rfl (wr_76_32 hW_σ4) ?_
                        refine tt_ar rfl ?_
                        refine tt_ar rfl ?_
                        refine tt_iadd (by omega) (by omega) ?_
                        refine tt_iald (((462 * f) + h)) (x := σ4.1 94 (((462 * f) + h))) (wa_94 hW_σ4) (by omega) (by omega) rfl ?_
                        refine tt_ar rfl ?_
                        refine tt_getR (wo_76 hW_σ4) rfl (wr_76_16 hW_σ4) ?_
                        refine tt_ar rfl ?_
                        refine tt_ar rfl ?_
                        refine tt_dI (g := (fun a b => Int.tmod a b)) (z := ((j % 3 : Nat) : Int)) rfl (by omega) rfl ?_
                        refine tt_iald (j % 3) (x := A.1 9 (j % 3)) (wa_86 hW_σ4) rfl (by omega) ((hF_σ4.2 86 (by decide) (j % 3)).trans (hR.wl.2.2.2.2 (j % 3) (by omega))) ?_
                        refine tt_iadd (by omega) (by omega) ?_
                        refine tt_iast (((462 * f) + zn)) (wa_94 hW_σ4) (by omega) (by omega) (by omega) ?_
                        refine tt_ar rfl ?_
                        refine tt_getR (wo_76 hW_σ4) rfl (wr_76_34 hW_σ4) ?_
                        refine tt_ar rfl ?_
                        refine tt_baldZ (zn) (x := σ4.1 96 (zn)) (wa_96 hW_σ4) rfl (by omega) rfl ?_
                        refine tt_ifne (fun h4_57 => ?_) (fun h4_57 => ?_)
                        · have hst1 : ∀ u, u ≠ zn → (am_set σ4 94 (462 * f + zn) (σ4.1 94 (462 * f + h) + A.1 9 (j % 3))).1 94 (462 * f + u) = σ4.1 94 (462 * f + u) := fun u e => by rw [am_set_at, if_neg (by omega)]
                          have hst0 : (am_set σ4 94 (462 * f + zn) (σ4.1 94 (462 * f + h) + A.1 9 (j % 3))).1 94 (462 * f + zn) = σ4.1 94 (462 * f + h) + A.1 9 (j % 3) := am_set_rd
                          have hDz : D f zn ≤ D f h + A.1 9 (j % 3) := sd_D hI hf hh hznE
                          have hnn : ∀ u, u < nkT k → 0 ≤ (am_set σ4 94 (462 * f + zn) (σ4.1 94 (462 * f + h) + A.1 9 (j % 3))).1 94 (462 * f + u) := fun u hu => by by_cases e : u = zn; (rw [e, hst0]; omega); (rw [hst1 u e]; exact (hSD4.1 u hu).2.1)
                          have hw1 : σ4.1 96 zn = 1 := by have := hSQ4.1 zn hznN; omega
                          have hSQc : SQ (nkT k) ((fi + 1) % 462) m4 ((am_set σ4 94 (462 * f + zn) (σ4.1 94 (462 * f + h) + A.1 9 (j % 3))).1 95) ((am_set σ4 94 (462 * f + zn) (σ4.1 94 (462 * f + h) + A.1 9 (j % 3))).1 96) := hSQ4.cg (fun u => am_set_nb (by decide)) (fun u => am_set_nb (by decide))
                          have hSDc : SD (nkT k) (EJ k (GP (A.1 6))) (A.1 9) f h (j + 1) (D f) (fun u => (am_set σ4 94 (462 * f + zn) (σ4.1 94 (462 * f + h) + A.1 9 (j % 3))).1 94 (462 * f + u)) ((am_set σ4 94 (462 * f + zn) (σ4.1 94 (462 * f + h) + A.1 9 (j % 3))).1 96) := (hSD4.up (st' := (fun u => (am_set σ4 94 (462 * f + zn) (σ4.1 94 (462 * f + h) + A.1 9 (j % 3))).1 94 (462 * f + u))) (wq' := σ4.1 96) hh hznN hznU hDz (by omega) (by show σ4.1 94 (462 * f + h) + A.1 9 (j % 3) < σ4.1 94 (462 * f + zn); omega) hst0 hst1 hw1 (fun u e => rfl)).cg (fun u => rfl) (fun u => am_set_nb (by decide))
                          have hMc : wM (nkT k) (fun u => (am_set σ4 94 (462 * f + zn) (σ4.1 94 (462 * f + h) + A.1 9 (j % 3))).1 94 (462 * f + u)) m4 < wM (nkT k) (fun u => σ4.1 94 (462 * f + u)) m4 := wM_up (z := zn) hznN (by show (am_set σ4 94 (462 * f + zn) (σ4.1 94 (462 * f + h) + A.1 9 (j % 3))).1 94 (462 * f + zn) < σ4.1 94 (462 * f + zn); omega) hst1 hnn (by omega)
                          refine tt_iinc (y := ((j + 1 : Nat) : Int)) rfl (iinc_fit (by omega) (by omega) (by omega)) ?_
                          refine tt_goto ?_
                          refine tt_loc [(0, vR 76), (2, vI ((462 * ((f : Nat) : Int)))), (3, vI ((((fi + 1) % 462 : Nat) : Int))), (4, vI (((m4 : Nat) : Int))), (5, vI (((h : Nat) : Int))), (6, vI (((j + 1 : Nat) : Int)))] rfl rfl ⟨rfl, rfl, rfl, rfl, rfl, rfl, trivial⟩ ?_
                          exact ih4 (j + 1) (m4) _ (by omega) (Fr.put (Fr.tr Fr.rf hF_σ4 (by decide)) (by decide)) (by omega) (by first | exact hSQ4 | exact hSQc | exact hSQp) (by first | exact hSDa | exact hSDc | exact hSDp) (by first | exact hO4 | exact (fun y hy => by rw [am_set_at, if_neg (by omega)]; exact hO4 y hy) | exact (fun y hy => by rw [am_set_nb (by decide), am_set_nb (by decide), am_set_at, if_neg (by omega)]; exact hO4 y hy)) (by first | exact hM4 | omega)
                        · refine tt_ar rfl ?_
                          refine tt_getR (wo_76 hW_σ4) rfl (wr_76_34 hW_σ4) ?_
                          refine tt_ar rfl ?_
                          refine tt_ar rfl ?_
                          refine tt_bastZ (zn) (wa_96 hW_σ4) (by omega) rfl (by omega) ?_
                          refine tt_ar rfl ?_
                          refine tt_getR (wo_76 hW_σ4) rfl (wr_76_33 hW_σ4) ?_
                          refine tt_ar rfl ?_
                          refine tt_ar rfl ?_
                          refine tt_iadd (by omega) (by omega) ?_
                          refine tt_ar rfl ?_
                          refine tt_dI (g := (fun a b => Int.tmod a b)) (z := ((((fi + 1) % 462 + m4) % 462 : Nat) : Int)) rfl (by omega) rfl ?_
                          refine tt_ar rfl ?_
                          refine tt_iast (((fi + 1) % 462 + m4) % 462) (wa_95 hW_σ4) (by omega) rfl (by omega) ?_
                          refine tt_iinc (y := ((m4 + 1 : Nat) : Int)) rfl (iinc_fit (by omega) (by omega) (by omega)) ?_
                          refine tt_nop ?_
                          have hst1 : ∀ u, u ≠ zn → (am_set σ4 94 (462 * f + zn) (σ4.1 94 (462 * f + h) + A.1 9 (j % 3))).1 94 (462 * f + u) = σ4.1 94 (462 * f + u) := fun u e => by rw [am_set_at, if_neg (by omega)]
                          have hst0 : (am_set σ4 94 (462 * f + zn) (σ4.1 94 (462 * f + h) + A.1 9 (j % 3))).1 94 (462 * f + zn) = σ4.1 94 (462 * f + h) + A.1 9 (j % 3) := am_set_rd
                          have hDz : D f zn ≤ D f h + A.1 9 (j % 3) := sd_D hI hf hh hznE
                          have hnn : ∀ u, u < nkT k → 0 ≤ (am_set σ4 94 (462 * f + zn) (σ4.1 94 (462 * f + h) + A.1 9 (j % 3))).1 94 (462 * f + u) := fun u hu => by by_cases e : u = zn; (rw [e, hst0]; omega); (rw [hst1 u e]; exact (hSD4.1 u hu).2.1)
                          have hw0 : σ4.1 96 zn = 0 := by have := hSQ4.1 zn hznN; omega
                          have hlt4 := hSQ4.lt hznN hw0
                          have hSQp : SQ (nkT k) ((fi + 1) % 462) (m4 + 1) ((am_set (am_set (am_set σ4 94 (462 * f + zn) (σ4.1 94 (462 * f + h) + A.1 9 (j % 3))) 96 zn (1 % 2)) 95 (((fi + 1) % 462 + m4) % 462) ((zn : Nat) : Int)).1 95) ((am_set (am_set (am_set σ4 94 (462 * f + zn) (σ4.1 94 (462 * f + h) + A.1 9 (j % 3))) 96 zn (1 % 2)) 95 (((fi + 1) % 462 + m4) % 462) ((zn : Nat) : Int)).1 96) := hSQ4.push (by omega) hznN hw0 (by rw [am_set_nb (by decide), am_set_at, if_pos rfl]; rfl) (fun u e => by rw [am_set_nb (by decide), am_set_at, if_neg e, am_set_nb (by decide)]) am_set_rd (fun i e => by rw [am_set_at, if_neg e, am_set_nb (by decide), am_set_nb (by decide)])
                          have hSDp : SD (nkT k) (EJ k (GP (A.1 6))) (A.1 9) f h (j + 1) (D f) (fun u => (am_set (am_set (am_set σ4 94 (462 * f + zn) (σ4.1 94 (462 * f + h) + A.1 9 (j % 3))) 96 zn (1 % 2)) 95 (((fi + 1) % 462 + m4) % 462) ((zn : Nat) : Int)).1 94 (462 * f + u)) ((am_set (am_set (am_set σ4 94 (462 * f + zn) (σ4.1 94 (462 * f + h) + A.1 9 (j % 3))) 96 zn (1 % 2)) 95 (((fi + 1) % 462 + m4) % 462) ((zn : Nat) : Int)).1 96) := (hSD4.up (st' := (fun u => (am_set σ4 94 (462 * f + zn) (σ4.1 94 (462 * f + h) + A.1 9 (j % 3))).1 94 (462 * f + u))) (wq' := (am_set (am_set (am_set σ4 94 (462 * f + zn) (σ4.1 94 (462 * f + h) + A.1 9 (j % 3))) 96 zn (1 % 2)) 95 (((fi + 1) % 462 + m4) % 462) ((zn : Nat) : Int)).1 96) hh hznN hznU hDz (by omega) (by show σ4.1 94 (462 * f + h) + A.1 9 (j % 3) < σ4.1 94 (462 * f + zn); omega) hst0 hst1 (by rw [am_set_nb (by decide), am_set_at, if_pos rfl]; rfl) (fun u e => by rw [am_set_nb (by decide), am_set_at, if_neg e, am_set_nb (by decide)])).cg (fun u => (am_set_nb (by decide)).trans (am_set_nb (by decide))) (fun u => rfl)
                          have hMp : wM (nkT k) (fun u => (am_set (am_set (am_set σ4 94 (462 * f + zn) (σ4.1 94 (462 * f + h) + A.1 9 (j % 3))) 96 zn (1 % 2)) 95 (((fi + 1) % 462 + m4) % 462) ((zn : Nat) : Int)).1 94 (462 * f + u)) (m4 + 1) < wM (nkT k) (fun u => σ4.1 94 (462 * f + u)) m4 := by rw [show (fun u => (am_set (am_set (am_set σ4 94 (462 * f + zn) (σ4.1 94 (462 * f + h) + A.1 9 (j % 3))) 96 zn (1 % 2)) 95 (((fi + 1) % 462 + m4) % 462) ((zn : Nat) : Int)).1 94 (462 * f + u)) = (fun u => (am_set σ4 94 (462 * f + zn) (σ4.1 94 (462 * f + h) + A.1 9 (j % 3))).1 94 (462 * f + u)) from funext fun u => (am_set_nb (by decide)).trans (am_set_nb (by decide))]; exact wM_up (z := zn) hznN (by show (am_set σ4 94 (462 * f + zn) (σ4.1 94 (462 * f + h) + A.1 9 (j % 3))).1 94 (462 * f + zn) < σ4.1 94 (462 * f + zn); omega) hst1 hnn (by omega)
                          refine tt_iinc (y := ((j + 1 : Nat) : Int)) rfl (iinc_fit (by omega) (by omega) (by omega)) ?_
                          refine tt_goto ?_
                          refine tt_loc [(0, vR 76), (2, vI ((462 * ((f : Nat) : Int)))), (3, vI ((((fi + 1) % 462 : Nat) : Int))), (4, vI (((m4 + 1 : Nat) : Int))), (5, vI (((h : Nat) : Int))), (6, vI (((j + 1 : Nat) : Int)))] rfl rfl ⟨rfl, rfl, rfl, rfl, rfl, rfl, trivial⟩ ?_
                          exact ih4 (j + 1) (m4 + 1) _ (by omega) (Fr.put (Fr.put (Fr.put (Fr.tr Fr.rf hF_σ4 (by decide)) (by decide)) (by decide)) (by decide)) (by omega) (by first | exact hSQ4 | exact hSQc | exact hSQp) (by first | exact hSDa | exact hSDc | exact hSDp) (by first | exact hO4 | exact (fun y hy => by rw [am_set_at, if_neg (by omega)]; exact hO4 y hy) | exact (fun y hy => by rw [am_set_nb (by decide), am_set_nb (by decide), am_set_at, if_neg (by omega)]; exact hO4 y hy)) (by first | exact hM4 | omega)
              refine tt_loc [(0, vR 76), (2, vI ((462 * ((f : Nat) : Int)))), (3, vI ((((fi + 1) % 462 : Nat) : Int))), (4, vI (((mn - 1 : Nat) : Int))), (5, vI (((h : Nat) : Int))), (6, vI (((0 : Nat) : Int)))] rfl rfl ⟨rfl, rfl, rfl, rfl, rfl, lv_to rfl (by omega), trivial⟩ ?_
              exact lp4_3 _ (0) (mn - 1) _ (Nat.lt_succ_self _) (Fr.put (Fr.tr Fr.rf hF_σ3 (by decide)) (by decide)) (by omega) ((hSQ.pop (wq' := (am_set σ3 96 h (0 % 2)).1 96) (by omega) hh hqh hqw (by rw [am_set_at, if_pos rfl]; rfl) (fun u e => by rw [am_set_at, if_neg e])).cg (fun u => am_set_nb (by decide)) (fun u => rfl)) ((hSD.pop (h := h) (wq' := (am_set σ3 96 h (0 % 2)).1 96) (fun u e => by rw [am_set_at, if_neg e])).cg (fun u => am_set_nb (by decide)) (fun u => rfl)) (fun y hy => (am_set_nb (by decide)).trans (hO3 y hy)) (by rw [show (fun u => (am_set σ3 96 h (0 % 2)).1 94 (462 * f + u)) = (fun u => σ3.1 94 (462 * f + u)) from funext fun u => am_set_nb (by decide)]; unfold wM; omega)
        refine tt_loc [(0, vR 76), (2, vI ((462 * ((f : Nat) : Int)))), (3, vI (((0 : Nat) : Int))), (4, vI (((1 : Nat) : Int)))] rfl rfl ⟨rfl, rfl, lv_to rfl (by omega), lv_to rfl (by omega), trivial⟩ ?_
        exact lp3_2 _ (0) (1) _ (Nat.lt_succ_self _) (Fr.put (Fr.put (Fr.put (Fr.tr Fr.rf hF_σ1 (by decide)) (by decide)) (by decide)) (by decide)) (SQ.one hf (by rw [am_set_at, if_pos rfl]; rfl) (fun u hu e => by rw [am_set_at, if_neg e, am_set_nb (by decide), am_set_nb (by decide)]; exact (h94 u (by omega)).2) (by rw [am_set_nb (by decide)]; exact am_set_rd)) hSDi (fun y hy => by rw [am_set_nb (by decide), am_set_nb (by decide), am_set_at, if_neg (by omega)]; exact hO1 y hy)
      · refine tt_ar rfl ?_
        refine tt_getR (wo_76 hW_σ1) rfl (wr_76_32 hW_σ1) ?_
        refine tt_ar rfl ?_
        refine tt_ar rfl ?_
        refine tt_iadd (by omega) (by omega) ?_
        refine tt_ar rfl ?_
        refine tt_iast (((462 * f) + i)) (wa_94 hW_σ1) (by omega) (by omega) (by omega) ?_
        refine tt_ar rfl ?_
        refine tt_getR (wo_76 hW_σ1) rfl (wr_76_34 hW_σ1) ?_
        refine tt_ar rfl ?_
        refine tt_ar rfl ?_
        refine tt_bastZ (i) (wa_96 hW_σ1) (by omega) rfl (by omega) ?_
        refine tt_iinc (y := ((i + 1 : Nat) : Int)) rfl (iinc_fit (by omega) (by omega) (by omega)) ?_
        refine tt_goto ?_
        refine tt_loc [(0, vR 76), (1, vI (((f : Nat) : Int))), (2, vI ((462 * ((f : Nat) : Int)))), (3, vI (((i + 1 : Nat) : Int)))] rfl rfl ⟨rfl, rfl, rfl, rfl, trivial⟩ ?_
        exact ih1 (i + 1) _ (by omega) (Fr.put (Fr.put (Fr.tr Fr.rf hF_σ1 (by decide)) (by decide)) (by decide)) (by omega) (fun u hu => by rw [am_set_nb (by decide), am_set_at, am_set_at]; by_cases e : u = i; (rw [if_pos (by omega), if_pos e]; exact ⟨rfl, rfl⟩); (rw [if_neg (by omega), if_neg e]; exact h94 u (by omega))) (fun y hy => by rw [am_set_nb (by decide), am_set_at, if_neg (by omega)]; exact hO1 y hy)
  refine tt_loc [(0, vR 76), (1, vI (((f : Nat) : Int))), (2, vI ((462 * ((f : Nat) : Int)))), (3, vI (((0 : Nat) : Int)))] rfl rfl ⟨rfl, rfl, rfl, lv_to rfl (by omega), trivial⟩ ?_
  exact lp1_1 _ (0) σ (Nat.lt_succ_self _) Fr.rf (by omega) (fun u hu => absurd hu (Nat.not_lt_zero u)) (fun y hy => rfl)

