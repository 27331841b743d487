/-! THE REFERENCE'S CALLS: THE DIGEST -/
def mwA (k nm ns : Nat) (A : am_S) (g : Int) : Int := dgN (4 * ns) (dgN (10 * nm) (dgN 5 (w64 (w64 (31 * dgN (17 * k) g (wdD (A.1 6) (A.1 7) (A.1 8))) + A.1 5 4)) (A.1 9)) (fun j => lnD A (j / 10) (j % 10))) (fun j => stD A (j / 4) (j % 4))
theorem mx_1 {σ : am_S} {x v g : Int} {f : Nat → Int} {n : Nat} (h : x = dgN n g f) (e : f n = v) : (am_set σ 76 47 (w64 (w64 (31 * x) + v))).1 76 47 = dgN (n + 1) g f := by
  rw [am_set_rd, dgN_s, h, e]
theorem mx_K {σ σ' : am_S} {v : Int} (h : ∀ j, j ≠ 47 → σ'.1 76 j = σ.1 76 j) : ∀ j, j ≠ 47 → (am_set σ' 76 47 v).1 76 j = σ.1 76 j := fun j hj => (if_neg (fun e => hj e.2)).trans (h j hj)
theorem dgA_eq {k nm ns : Nat} {A : am_S} : dgA k nm ns A = dsT 68 A (dsT 56 A (mwA k nm ns A (dgN 6 17 (cnA ns A))) 6) 4 := rfl
theorem dsT_s {b r : Nat} {A : am_S} {h : Int} : dsT b A h (r + 1) = dgN (A.1 (b + 2 * r) 1).toNat (w64 (w64 (31 * dsT b A h r) + A.1 (b + 2 * r) 1)) (A.1 (b + 1 + 2 * r)) := rfl
theorem c276 (A σ : am_S) (k nm ns : Nat) (D : Nat → Nat → Int) (hA : CI k nm ns D A) (hW : Wd σ) (hR : RRb k nm ns D A σ) : CC 276 [vR 76] σ (fun r σ' => (Fr [76] σ σ' ∧ (∀ j, j ≠ 47 → σ'.1 76 j = σ.1 76 j) ∧ σ'.1 76 47 = mwA k nm ns A (σ.1 76 47)) ∧ r = none) := by
  show TT am_b276 (am_b276.getD 0 []) [(0, vR 76)] [] σ _
  have hk5 := hR.aa.1
  have hl27 := hR.aa.2.1
  have hs47 := hR.aa.2.2
  have hk6 := hA.x.1.2.1
  have hm12 := hA.x.2.2.1.2.1
  have hs16 := hA.st.2
  have hDA := hA.x.1
  have hHT := hA.x.2.1
  have hLA := hA.x.2.2.1
  have hHB := HB_of hDA hHT
  have hnb := nkT_bd k
  refine tt_ar rfl ?_
  refine tt_ar rfl ?_
  refine tt_nop ?_
  have lp1_1 : ∀ (μ : Nat) (m : Nat) (σ1 : am_S), k - m < μ → Fr [76] σ σ1 → (m ≤ k) → (∀ j, j ≠ 47 → σ1.1 76 j = σ.1 76 j) → (σ1.1 76 47 = dgN (17 * m) (σ.1 76 47) (wdD (A.1 6) (A.1 7) (A.1 8))) → TT am_b276 (am_b276.getD 1 []) [(0, vR 76), (1, vI (((m : Nat) : Int)))] [] σ1 (fun r σ' => (Fr [76] σ σ' ∧ (∀ j, j ≠ 47 → σ'.1 76 j = σ.1 76 j) ∧ σ'.1 76 47 = mwA k nm ns A (σ.1 76 47)) ∧ r = none) := by
    intro μ
    induction μ with
    | zero => intro m σ1 hμ; exact absurd hμ (Nat.not_lt_zero _)
    | succ μ ih1 =>
      intro m σ1 hμ hF_σ1 hm hK_σ1 h47_σ1
      have hW_σ1 := Fr.wd hF_σ1 hW
      refine tt_ar rfl ?_
      refine tt_ar rfl ?_
      refine tt_getI (x := ((k : Nat) : Int)) (wo_76 hW_σ1) rfl ((hK_σ1 11 (by decide)).trans hR.wl.1) ?_
      refine tt_icge (fun h1_3 => ?_) (fun h1_3 => ?_)
      · refine tt_ar rfl ?_
        refine tt_ar rfl ?_
        refine tt_getI (x := A.1 5 4) (wo_76 hW_σ1) rfl ((hK_σ1 15 (by decide)).trans hR.wl.2.1) ?_
        refine tt_cv2 2 rfl (wo_76 hW_σ1) (c275 σ1 (A.1 5 4) hW_σ1) (ksn ?_)
        refine tt_ar rfl ?_
        refine tt_ar rfl ?_
        refine tt_nop ?_
        have lp5_2 : ∀ (μ : Nat) (i : Nat) (σ3 : am_S), 5 - i < μ → Fr [76] σ σ3 → (i ≤ 5) → (∀ j, j ≠ 47 → σ3.1 76 j = σ.1 76 j) → (σ3.1 76 47 = dgN i (w64 (w64 (31 * dgN (17 * k) (σ.1 76 47) (wdD (A.1 6) (A.1 7) (A.1 8))) + A.1 5 4)) (A.1 9)) → TT am_b276 (am_b276.getD 5 []) [(0, vR 76), (1, vI (((i : Nat) : Int)))] [] σ3 (fun r σ' => (Fr [76] σ σ' ∧ (∀ j, j ≠ 47 → σ'.1 76 j = σ.1 76 j) ∧ σ'.1 76 47 = mwA k nm ns A (σ.1 76 47)) ∧ r = none) := by
          intro μ
          induction μ with
          | zero => intro i σ3 hμ; exact absurd hμ (Nat.not_lt_zero _)
          | succ μ ih5 =>
            intro i σ3 hμ hF_σ3 hi hK_σ3 h47_σ3
            have hW_σ3 := Fr.wd hF_σ3 hW
            refine tt_ar rfl ?_
            refine tt_ar rfl ?_
            refine tt_icge (fun h5_2 => ?_) (fun h5_2 => ?_)
            · refine tt_ar rfl ?_
              refine tt_ar rfl ?_
              refine tt_nop ?_
              have lp7_3 : ∀ (μ : Nat) (q : Nat) (σ4 : am_S), 10 * nm - q < μ → Fr [76] σ σ4 → (q ≤ 10 * nm) → (∀ j, j ≠ 47 → σ4.1 76 j = σ.1 76 j) → (σ4.1 76 47 = dgN q (dgN 5 (w64 (w64 (31 * dgN (17 * k) (σ.1 76 47) (wdD (A.1 6) (A.1 7) (A.1 8))) + A.1 5 4)) (A.1 9)) (fun j => lnD A (j / 10) (j % 10))) → TT am_b276 (am_b276.getD 7 []) [(0, vR 76), (1, vI (((q : Nat) : Int)))] [] σ4 (fun r σ' => (Fr [76] σ σ' ∧ (∀ j, j ≠ 47 → σ'.1 76 j = σ.1 76 j) ∧ σ'.1 76 47 = mwA k nm ns A (σ.1 76 47)) ∧ r = none) := by
                intro μ
                induction μ with
                | zero => intro q σ4 hμ; exact absurd hμ (Nat.not_lt_zero _)
                | succ μ ih7 =>
                  intro q σ4 hμ hF_σ4 hq hK_σ4 h47_σ4
                  have hW_σ4 := Fr.wd hF_σ4 hW
                  refine tt_ar rfl ?_
                  refine tt_ar rfl ?_
                  refine tt_ar rfl ?_
                  refine tt_getI (x := ((nm : Nat) : Int)) (wo_76 hW_σ4) rfl ((hK_σ4 25 (by decide)).trans hR.ln.1) ?_
                  refine tt_imul (by omega) (by omega) ?_
                  refine tt_icge (fun h7_5 => ?_) (fun h7_5 => ?_)
                  · refine tt_ar rfl ?_
                    refine tt_ar rfl ?_
                    refine tt_nop ?_
                    have lp9_4 : ∀ (μ : Nat) (p : Nat) (σ5 : am_S), 4 * ns - p < μ → Fr [76] σ σ5 → (p ≤ 4 * ns) → (∀ j, j ≠ 47 → σ5.1 76 j = σ.1 76 j) → (σ5.1 76 47 = dgN p (dgN (10 * nm) (dgN 5 (w64 (w64 (31 * dgN (17 * k) (σ.1 76 47) (wdD (A.1 6) (A.1 7) (A.1 8))) + A.1 5 4)) (A.1 9)) (fun j => lnD A (j / 10) (j % 10))) (fun j => stD A (j / 4) (j % 4))) → TT am_b276 (am_b276.getD 9 []) [(0, vR 76), (1, vI (((p : Nat) : Int)))] [] σ5 (fun r σ' => (Fr [76] σ σ' ∧ (∀ j, j ≠ 47 → σ'.1 76 j = σ.1 76 j) ∧ σ'.1 76 47 = mwA k nm ns A (σ.1 76 47)) ∧ r = none) := by
                      intro μ
                      induction μ with
                      | zero => intro p σ5 hμ; exact absurd hμ (Nat.not_lt_zero _)
                      | succ μ ih9 =>
                        intro p σ5 hμ hF_σ5 hp hK_σ5 h47_σ5
                        have hW_σ5 := Fr.wd hF_σ5 hW
                        refine tt_ar rfl ?_
                        refine tt_ar rfl ?_
                        refine tt_ar rfl ?_
                        refine tt_getI (x := ((ns : Nat) : Int)) (wo_76 hW_σ5) rfl ((hK_σ5 43 (by decide)).trans hR.st.1) ?_
                        refine tt_imul (by omega) (by omega) ?_
                        refine tt_icge (fun h9_5 => ?_) (fun h9_5 => ?_)
                        · refine tt_vret ?_
                          rw [show p = 4 * ns by omega] at h47_σ5
                          exact ⟨⟨hF_σ5, hK_σ5, h47_σ5⟩, rfl⟩
                        · refine tt_ar rfl ?_
                          refine tt_ar rfl ?_
                          refine tt_getR (wo_76 hW_σ5) rfl (wr_76_44 hW_σ5) ?_
                          refine tt_ar rfl ?_
                          refine tt_iald (p) (x := stD A (p / 4) (p % 4)) (wa_104 hW_σ5) rfl (by omega) ((hF_σ5.2 104 (by decide) (p)).trans (hR.l104 (by omega))) ?_
                          refine tt_cv2 2 rfl (wo_76 hW_σ5) (c275 σ5 (stD A (p / 4) (p % 4)) hW_σ5) (ksn ?_)
                          refine tt_iinc (y := ((p + 1 : Nat) : Int)) rfl (iinc_fit (by omega) (by omega) (by omega)) ?_
                          refine tt_goto ?_
                          refine tt_loc [(0, vR 76), (1, vI (((p + 1 : Nat) : Int)))] rfl rfl ⟨rfl, rfl, trivial⟩ ?_
                          exact ih9 (p + 1) _ (by omega) (Fr.put (Fr.tr Fr.rf hF_σ5 (by decide)) (by decide)) (by omega) (mx_K hK_σ5) (mx_1 h47_σ5 rfl)
                    refine tt_loc [(0, vR 76), (1, vI (((0 : Nat) : Int)))] rfl rfl ⟨rfl, lv_to rfl (by omega), trivial⟩ ?_
                    exact lp9_4 _ (0) σ4 (Nat.lt_succ_self _) (Fr.tr Fr.rf hF_σ4 (by decide)) (by omega) hK_σ4 (by rw [show q = 10 * nm by omega] at h47_σ4; exact h47_σ4)
                  · refine tt_ar rfl ?_
                    refine tt_ar rfl ?_
                    refine tt_getR (wo_76 hW_σ4) rfl (wr_76_26 hW_σ4) ?_
                    refine tt_ar rfl ?_
                    refine tt_iald (q) (x := lnD A (q / 10) (q % 10)) (wa_91 hW_σ4) rfl (by omega) ((hF_σ4.2 91 (by decide) (q)).trans (hR.l91 (by omega))) ?_
                    refine tt_cv2 2 rfl (wo_76 hW_σ4) (c275 σ4 (lnD A (q / 10) (q % 10)) hW_σ4) (ksn ?_)
                    refine tt_iinc (y := ((q + 1 : Nat) : Int)) rfl (iinc_fit (by omega) (by omega) (by omega)) ?_
                    refine tt_goto ?_
                    refine tt_loc [(0, vR 76), (1, vI (((q + 1 : Nat) : Int)))] rfl rfl ⟨rfl, rfl, trivial⟩ ?_
                    exact ih7 (q + 1) _ (by omega) (Fr.put (Fr.tr Fr.rf hF_σ4 (by decide)) (by decide)) (by omega) (mx_K hK_σ4) (mx_1 h47_σ4 rfl)
              refine tt_loc [(0, vR 76), (1, vI (((0 : Nat) : Int)))] rfl rfl ⟨rfl, lv_to rfl (by omega), trivial⟩ ?_
              exact lp7_3 _ (0) σ3 (Nat.lt_succ_self _) (Fr.tr Fr.rf hF_σ3 (by decide)) (by omega) hK_σ3 (by rw [show i = 5 by omega] at h47_σ3; exact h47_σ3)
            · refine tt_ar rfl ?_
              refine tt_ar rfl ?_
              refine tt_getR (wo_76 hW_σ3) rfl (wr_76_16 hW_σ3) ?_
              refine tt_ar rfl ?_
              refine tt_iald (i) (x := A.1 9 i) (wa_86 hW_σ3) rfl (by omega) ((hF_σ3.2 86 (by decide) (i)).trans (hR.wl.2.2.2.2 i (by omega))) ?_
              refine tt_cv2 2 rfl (wo_76 hW_σ3) (c275 σ3 (A.1 9 i) hW_σ3) (ksn ?_)
              refine tt_iinc (y := ((i + 1 : Nat) : Int)) rfl (iinc_fit (by omega) (by omega) (by omega)) ?_
              refine tt_goto ?_
              refine tt_loc [(0, vR 76), (1, vI (((i + 1 : Nat) : Int)))] rfl rfl ⟨rfl, rfl, trivial⟩ ?_
              exact ih5 (i + 1) _ (by omega) (Fr.put (Fr.tr Fr.rf hF_σ3 (by decide)) (by decide)) (by omega) (mx_K hK_σ3) (mx_1 h47_σ3 rfl)
        refine tt_loc [(0, vR 76), (1, vI (((0 : Nat) : Int)))] rfl rfl ⟨rfl, lv_to rfl (by omega), trivial⟩ ?_
        exact lp5_2 _ (0) _ (Nat.lt_succ_self _) (Fr.put (Fr.tr Fr.rf hF_σ1 (by decide)) (by decide)) (by omega) (mx_K hK_σ1) (by rw [show m = k by omega] at h47_σ1; rw [am_set_rd, h47_σ1]; rfl)
      · refine tt_ar rfl ?_
        refine tt_ar rfl ?_
        refine tt_getR (wo_76 hW_σ1) rfl (wr_76_12 hW_σ1) ?_
        refine tt_ar rfl ?_
        refine tt_iald (m) (x := A.1 6 m) (wa_83 hW_σ1) rfl (by omega) ((hF_σ1.2 83 (by decide) (m)).trans (hR.wl.2.2.1 m (by omega) (by omega))) ?_
        refine tt_cv2 2 rfl (wo_76 hW_σ1) (c275 σ1 (A.1 6 m) hW_σ1) (ksn ?_)
        refine tt_ar rfl ?_
        refine tt_ar rfl ?_
        refine tt_nop ?_
        have lp2_5 : ∀ (μ : Nat) (w : Nat) (σ2 : am_S), 8 - w < μ → Fr [76] σ σ2 → (w ≤ 8) → (∀ j, j ≠ 47 → σ2.1 76 j = σ.1 76 j) → (σ2.1 76 47 = dgN (17 * m + 1 + 2 * w) (σ.1 76 47) (wdD (A.1 6) (A.1 7) (A.1 8))) → TT am_b276 (am_b276.getD 2 []) [(0, vR 76), (1, vI (((m : Nat) : Int))), (2, vI (((w : Nat) : Int)))] [] σ2 (fun r σ' => (Fr [76] σ σ' ∧ (∀ j, j ≠ 47 → σ'.1 76 j = σ.1 76 j) ∧ σ'.1 76 47 = mwA k nm ns A (σ.1 76 47)) ∧ r = none) := by
          intro μ
          induction μ with
          | zero => intro w σ2 hμ; exact absurd hμ (Nat.not_lt_zero _)
          | succ μ ih2 =>
            intro w σ2 hμ hF_σ2 hw hK_σ2 h47_σ2
            have hW_σ2 := Fr.wd hF_σ2 hW
            refine tt_ar rfl ?_
            refine tt_ar rfl ?_
            refine tt_icge (fun h2_2 => ?_) (fun h2_2 => ?_)
            · refine tt_iinc (y := ((m + 1 : Nat) : Int)) rfl (iinc_fit (by omega) (by omega) (by omega)) ?_
              refine tt_goto ?_
              refine tt_loc [(0, vR 76), (1, vI (((m + 1 : Nat) : Int)))] rfl rfl ⟨rfl, rfl, trivial⟩ ?_
              exact ih1 (m + 1) σ2 (by omega) (Fr.tr Fr.rf hF_σ2 (by decide)) (by omega) hK_σ2 (by rw [show 17 * (m + 1) = 17 * m + 1 + 2 * w by omega]; exact h47_σ2)
            · refine tt_ar rfl ?_
              refine tt_ar rfl ?_
              refine tt_getR (wo_76 hW_σ2) rfl (wr_76_13 hW_σ2) ?_
              refine tt_ar rfl ?_
              refine tt_ar rfl ?_
              refine tt_imul (by omega) (by omega) ?_
              refine tt_ar rfl ?_
              refine tt_iadd (by omega) (by omega) ?_
              refine tt_iald (((8 * m) + w)) (x := A.1 7 (8 * m + w)) (wa_84 hW_σ2) (by omega) (by omega) ((hF_σ2.2 84 (by decide) (((8 * m) + w))).trans (hR.wl.2.2.2.1 (8 * m + w) (by omega)).1) ?_
              refine tt_cv2 2 rfl (wo_76 hW_σ2) (c275 σ2 (A.1 7 (8 * m + w)) hW_σ2) (ksn ?_)
              refine tt_ar rfl ?_
              refine tt_ar rfl ?_
              refine tt_getR (wo_76 hW_σ2) rfl (wr_76_14 hW_σ2) ?_
              refine tt_ar rfl ?_
              refine tt_ar rfl ?_
              refine tt_imul (by omega) (by omega) ?_
              refine tt_ar rfl ?_
              refine tt_iadd (by omega) (by omega) ?_
              refine tt_iald (((8 * m) + w)) (x := A.1 8 (8 * m + w)) (wa_85 hW_σ2) (by omega) (by omega) ((hF_σ2.2 85 (by decide) (((8 * m) + w))).trans (hR.wl.2.2.2.1 (8 * m + w) (by omega)).2) ?_
              refine tt_cv2 2 rfl (wo_76 hW_σ2) (c275 (am_set σ2 76 (47) (w64 (w64 (31 * σ2.1 76 47) + A.1 7 (8 * m + w)))) (A.1 8 (8 * m + w)) hW_σ2) (ksn ?_)
              refine tt_iinc (y := ((w + 1 : Nat) : Int)) rfl (iinc_fit (by omega) (by omega) (by omega)) ?_
              refine tt_goto ?_
              refine tt_loc [(0, vR 76), (1, vI (((m : Nat) : Int))), (2, vI (((w + 1 : Nat) : Int)))] rfl rfl ⟨rfl, rfl, rfl, trivial⟩ ?_
              exact ih2 (w + 1) _ (by omega) (Fr.put (Fr.put (Fr.tr Fr.rf hF_σ2 (by decide)) (by decide)) (by decide)) (by omega) (mx_K (mx_K hK_σ2)) (mx_1 (n := 17 * m + 1 + 2 * w + 1) (mx_1 (n := 17 * m + 1 + 2 * w) h47_σ2 (wdD_l (by omega))) (wdD_m (by omega)))
        refine tt_loc [(0, vR 76), (1, vI (((m : Nat) : Int))), (2, vI (((0 : Nat) : Int)))] rfl rfl ⟨rfl, rfl, lv_to rfl (by omega), trivial⟩ ?_
        exact lp2_5 _ (0) _ (Nat.lt_succ_self _) (Fr.put (Fr.tr Fr.rf hF_σ1 (by decide)) (by decide)) (by omega) (mx_K hK_σ1) (mx_1 h47_σ1 wdD_0)
  refine tt_loc [(0, vR 76), (1, vI (((0 : Nat) : Int)))] rfl rfl ⟨rfl, lv_to rfl (by omega), trivial⟩ ?_
  exact lp1_1 _ (0) σ (Nat.lt_succ_self _) Fr.rf (by omega) (fun _ _ => rfl) rfl

theorem c274 (A σ : am_S) (k nm ns : Nat) (D : Nat → Nat → Int) (hA : CI k nm ns D A) (hW : Wd σ) (hR : RRb k nm ns D A σ) : CC 274 [vR 76] σ (fun r σ' => PMd A σ (x_digest k nm ns A) r σ') := by
  show TT am_b274 (am_b274.getD 0 []) [(0, vR 76)] [] σ _
  have hk5 := hR.aa.1
  have hl27 := hR.aa.2.1
  have hs47 := hR.aa.2.2
  have hk6 := hA.x.1.2.1
  have hm12 := hA.x.2.2.1.2.1
  have hs16 := hA.st.2
  have hDA := hA.x.1
  have hHT := hA.x.2.1
  have hLA := hA.x.2.2.1
  have hHB := HB_of hDA hHT
  have hnb := nkT_bd k
  refine tt_ar rfl ?_
  refine tt_ar rfl ?_
  refine tt_putL (wo_76 hW) rfl ?_
  refine tt_ar rfl ?_
  refine tt_ar rfl ?_
  refine tt_nop ?_
  have lp1_1 : ∀ (μ : Nat) (i : Nat) (σ1 : am_S), 6 - i < μ → Fr [76] σ σ1 → (i ≤ 6) → (∀ j, j ≠ 47 → σ1.1 76 j = σ.1 76 j) → (σ1.1 76 47 = dgN i (17) (cnA ns A)) → TT am_b274 (am_b274.getD 1 []) [(0, vR 76), (1, vI (((i : Nat) : Int)))] [] σ1 (fun r σ' => PMd A σ (x_digest k nm ns A) r σ') := by
    intro μ
    induction μ with
    | zero => intro i σ1 hμ; exact absurd hμ (Nat.not_lt_zero _)
    | succ μ ih1 =>
      intro i σ1 hμ hF_σ1 hi hK_σ1 h47_σ1
      have hW_σ1 := Fr.wd hF_σ1 hW
      refine tt_ar rfl ?_
      refine tt_ar rfl ?_
      refine tt_icgt (fun h1_2 => ?_) (fun h1_2 => ?_)
      · refine tt_ar rfl ?_
        refine tt_cv1 1 rfl (wo_76 hW_σ1) (c276 A σ1 k nm ns D hA hW_σ1 (hR.o47 hF_σ1 hK_σ1)) ?_
        intro r0 σ2 hq0
        obtain ⟨⟨hF2, hKx, h47x⟩, rfl⟩ := hq0
        have hW2 := Fr.wd hF2 hW_σ1
        have hK_σ2 : ∀ j, j ≠ 47 → σ2.1 76 j = σ.1 76 j := fun j hj => (hKx j hj).trans (hK_σ1 j hj)
        rw [h47_σ1, show i = 6 by omega] at h47x
        obtain ⟨H, hH⟩ : ∃ H : Int, mwA k nm ns A (dgN 6 17 (cnA ns A)) = H := ⟨_, rfl⟩
        rw [hH] at h47x
        refine tt_ar rfl ?_
        refine tt_ar rfl ?_
        refine tt_nop ?_
        have lp3_3 : ∀ (μ : Nat) (r : Nat) (σ3 : am_S), 6 - r < μ → Fr [76] σ σ3 → (r ≤ 6) → (∀ j, j ≠ 47 → σ3.1 76 j = σ.1 76 j) → (σ3.1 76 47 = dsT 56 A (H) r) → TT am_b274 (am_b274.getD 3 []) [(0, vR 76), (1, vI (((r : Nat) : Int)))] [] σ3 (fun r σ' => PMd A σ (x_digest k nm ns A) r σ') := by
          intro μ
          induction μ with
          | zero => intro r σ3 hμ; exact absurd hμ (Nat.not_lt_zero _)
          | succ μ ih3 =>
            intro r σ3 hμ hF_σ3 hr hK_σ3 h47_σ3
            have hW_σ3 := Fr.wd hF_σ3 hW
            refine tt_ar rfl ?_
            refine tt_ar rfl ?_
            refine tt_icge (fun h3_2 => ?_) (fun h3_2 => ?_)
            · refine tt_ar rfl ?_
              refine tt_ar rfl ?_
              refine tt_nop ?_
              have lp9_4 : ∀ (μ : Nat) (t : Nat) (σ5 : am_S), 4 - t < μ → Fr [76] σ σ5 → (t ≤ 4) → (∀ j, j ≠ 47 → σ5.1 76 j = σ.1 76 j) → (σ5.1 76 47 = dsT 68 A (dsT 56 A H 6) t) → TT am_b274 (am_b274.getD 9 []) [(0, vR 76), (1, vI (((t : Nat) : Int)))] [] σ5 (fun r σ' => PMd A σ (x_digest k nm ns A) r σ') := by
                intro μ
                induction μ with
                | zero => intro t σ5 hμ; exact absurd hμ (Nat.not_lt_zero _)
                | succ μ ih9 =>
                  intro t σ5 hμ hF_σ5 ht hK_σ5 h47_σ5
                  have hW_σ5 := Fr.wd hF_σ5 hW
                  refine tt_ar rfl ?_
                  refine tt_ar rfl ?_
                  refine tt_icge (fun h9_2 => ?_) (fun h9_2 => ?_)
                  · refine tt_ar rfl ?_
                    refine tt_getL (x := σ5.1 76 (47)) (wo_76 hW_σ5) rfl rfl ?_
                    refine tt_lret ?_
                    rw [show t = 4 by omega] at h47_σ5
                    exact pm_any (M := A) (hR.o47 hF_σ5 hK_σ5) (show x_digest k nm ns A = (_, A) by unfold x_digest; rw [dgA_eq, hH, ← h47_σ5]) (QR.of hF_σ5 (by decide))
                  · have hrw := (hA.txt t (by omega)).1
                    have hsz := szR_c (A.1 (68 + 2 * t) 1)
                    refine tt_ar rfl ?_
                    refine tt_ar rfl ?_
                    refine tt_getR (wo_76 hW_σ5) rfl (wr_76_9 hW_σ5) ?_
                    refine tt_ar rfl ?_
                    refine tt_iald (t) (x := szR (A.1 (68 + 2 * t) 1)) (wa_81 hW_σ5) rfl (by omega) ((hF_σ5.2 81 (by decide) (t)).trans (hR.tx t (by omega)).1) ?_
                    refine tt_ifge (fun h9_8 => ?_) (fun h9_8 => ?_)
                    · refine tt_ar rfl ?_
                      refine tt_getR (wo_76 hW_σ5) rfl (wr_76_9 hW_σ5) ?_
                      refine tt_ar rfl ?_
                      refine tt_iald (t) (x := szR (A.1 (68 + 2 * t) 1)) (wa_81 hW_σ5) rfl (by omega) ((hF_σ5.2 81 (by decide) (t)).trans (hR.tx t (by omega)).1) ?_
                      refine tt_nop ?_
                      have hv : szR (A.1 (68 + 2 * t) 1) = A.1 (68 + 2 * t) 1 := by omega
                      refine tt_cv2 2 rfl (wo_76 hW_σ5) (c275 σ5 (szR (A.1 (68 + 2 * t) 1)) hW_σ5) (ksn ?_)
                      refine tt_ar rfl ?_
                      refine tt_ar rfl ?_
                      refine tt_nop ?_
                      have lp12_5 : ∀ (μ : Nat) (u : Nat) (σ6 : am_S), (A.1 (68 + 2 * t) 1).toNat - u < μ → Fr [76] σ σ6 → (u ≤ (A.1 (68 + 2 * t) 1).toNat) → (∀ j, j ≠ 47 → σ6.1 76 j = σ.1 76 j) → (σ6.1 76 47 = dgN u (w64 (w64 (31 * dsT 68 A (dsT 56 A H 6) t) + A.1 (68 + 2 * t) 1)) (A.1 (69 + 2 * t))) → TT am_b274 (am_b274.getD 12 []) [(0, vR 76), (1, vI (((t : Nat) : Int))), (2, vI (((u : Nat) : Int)))] [] σ6 (fun r σ' => PMd A σ (x_digest k nm ns A) r σ') := by
                        intro μ
                        induction μ with
                        | zero => intro u σ6 hμ; exact absurd hμ (Nat.not_lt_zero _)
                        | succ μ ih12 =>
                          intro u σ6 hμ hF_σ6 hu hK_σ6 h47_σ6
                          have hW_σ6 := Fr.wd hF_σ6 hW
                          refine tt_ar rfl ?_
                          refine tt_ar rfl ?_
                          refine tt_getR (wo_76 hW_σ6) rfl (wr_76_9 hW_σ6) ?_
                          refine tt_ar rfl ?_
                          refine tt_iald (t) (x := szR (A.1 (68 + 2 * t) 1)) (wa_81 hW_σ6) rfl (by omega) ((hF_σ6.2 81 (by decide) (t)).trans (hR.tx t (by omega)).1) ?_
                          refine tt_icge (fun h12_5 => ?_) (fun h12_5 => ?_)
                          · refine tt_iinc (y := ((t + 1 : Nat) : Int)) rfl (iinc_fit (by omega) (by omega) (by omega)) ?_
                            refine tt_goto ?_
                            refine tt_loc [(0, vR 76), (1, vI (((t + 1 : Nat) : Int)))] rfl rfl ⟨rfl, rfl, trivial⟩ ?_
                            exact ih9 (t + 1) σ6 (by omega) (Fr.tr Fr.rf hF_σ6 (by decide)) (by omega) hK_σ6 (by rw [dsT_s, ← show u = (A.1 (68 + 2 * t) 1).toNat by omega]; exact h47_σ6)
                          · refine tt_ar rfl ?_
                            refine tt_ar rfl ?_
                            refine tt_getR (wo_76 hW_σ6) rfl (wr_76_10 hW_σ6) ?_
                            refine tt_ar rfl ?_
                            refine tt_ar rfl ?_
                            refine tt_imul (by omega) (by omega) ?_
                            refine tt_ar rfl ?_
                            refine tt_iadd (by omega) (by omega) ?_
                            refine tt_iald (((120 * t) + u)) (x := A.1 (69 + 2 * t) u) (wa_82 hW_σ6) (by omega) (by omega) ((hF_σ6.2 82 (by decide) (((120 * t) + u))).trans ((hR.tx t (by omega)).2 u (by omega))) ?_
                            refine tt_cv2 2 rfl (wo_76 hW_σ6) (c275 σ6 (A.1 (69 + 2 * t) u) hW_σ6) (ksn ?_)
                            refine tt_iinc (y := ((u + 1 : Nat) : Int)) rfl (iinc_fit (by omega) (by omega) (by omega)) ?_
                            refine tt_goto ?_
                            refine tt_loc [(0, vR 76), (1, vI (((t : Nat) : Int))), (2, vI (((u + 1 : Nat) : Int)))] rfl rfl ⟨rfl, rfl, rfl, trivial⟩ ?_
                            exact ih12 (u + 1) _ (by omega) (Fr.put (Fr.tr Fr.rf hF_σ6 (by decide)) (by decide)) (by omega) (mx_K hK_σ6) (mx_1 h47_σ6 rfl)
                      refine tt_loc [(0, vR 76), (1, vI (((t : Nat) : Int))), (2, vI (((0 : Nat) : Int)))] rfl rfl ⟨rfl, rfl, lv_to rfl (by omega), trivial⟩ ?_
                      exact lp12_5 _ (0) _ (Nat.lt_succ_self _) (Fr.put (Fr.tr Fr.rf hF_σ5 (by decide)) (by decide)) (Nat.zero_le _) (mx_K hK_σ5) (am_set_rd.trans (by rw [h47_σ5, hv]; rfl))
                    · refine tt_ar rfl ?_
                      refine tt_goto ?_
                      have hv : (-1) = A.1 (68 + 2 * t) 1 := by omega
                      refine tt_cv2 2 rfl (wo_76 hW_σ5) (c275 σ5 ((-1)) hW_σ5) (ksn ?_)
                      refine tt_ar rfl ?_
                      refine tt_ar rfl ?_
                      refine tt_nop ?_
                      have lp12_6 : ∀ (μ : Nat) (u : Nat) (σ6 : am_S), (A.1 (68 + 2 * t) 1).toNat - u < μ → Fr [76] σ σ6 → (u ≤ (A.1 (68 + 2 * t) 1).toNat) → (∀ j, j ≠ 47 → σ6.1 76 j = σ.1 76 j) → (σ6.1 76 47 = dgN u (w64 (w64 (31 * dsT 68 A (dsT 56 A H 6) t) + A.1 (68 + 2 * t) 1)) (A.1 (69 + 2 * t))) → TT am_b274 (am_b274.getD 12 []) [(0, vR 76), (1, vI (((t : Nat) : Int))), (2, vI (((u : Nat) : Int)))] [] σ6 (fun r σ' => PMd A σ (x_digest k nm ns A) r σ') := by
                        intro μ
                        induction μ with
                        | zero => intro u σ6 hμ; exact absurd hμ (Nat.not_lt_zero _)
                        | succ μ ih12 =>
                          intro u σ6 hμ hF_σ6 hu hK_σ6 h47_σ6
                          have hW_σ6 := Fr.wd hF_σ6 hW
                          refine tt_ar rfl ?_
                          refine tt_ar rfl ?_
                          refine tt_getR (wo_76 hW_σ6) rfl (wr_76_9 hW_σ6) ?_
                          refine tt_ar rfl ?_
                          refine tt_iald (t) (x := szR (A.1 (68 + 2 * t) 1)) (wa_81 hW_σ6) rfl (by omega) ((hF_σ6.2 81 (by decide) (t)).trans (hR.tx t (by omega)).1) ?_
                          refine tt_icge (fun h12_5 => ?_) (fun h12_5 => ?_)
                          · refine tt_iinc (y := ((t + 1 : Nat) : Int)) rfl (iinc_fit (by omega) (by omega) (by omega)) ?_
                            refine tt_goto ?_
                            refine tt_loc [(0, vR 76), (1, vI (((t + 1 : Nat) : Int)))] rfl rfl ⟨rfl, rfl, trivial⟩ ?_
                            exact ih9 (t + 1) σ6 (by omega) (Fr.tr Fr.rf hF_σ6 (by decide)) (by omega) hK_σ6 (by rw [dsT_s, ← show u = (A.1 (68 + 2 * t) 1).toNat by omega]; exact h47_σ6)
                          · refine tt_ar rfl ?_
                            refine tt_ar rfl ?_
                            refine tt_getR (wo_76 hW_σ6) rfl (wr_76_10 hW_σ6) ?_
                            refine tt_ar rfl ?_
                            refine tt_ar rfl ?_
                            refine tt_imul (by omega) (by omega) ?_
                            refine tt_ar rfl ?_
                            refine tt_iadd (by omega) (by omega) ?_
                            refine tt_iald (((120 * t) + u)) (x := A.1 (69 + 2 * t) u) (wa_82 hW_σ6) (by omega) (by omega) ((hF_σ6.2 82 (by decide) (((120 * t) + u))).trans ((hR.tx t (by omega)).2 u (by omega))) ?_
                            refine tt_cv2 2 rfl (wo_76 hW_σ6) (c275 σ6 (A.1 (69 + 2 * t) u) hW_σ6) (ksn ?_)
                            refine tt_iinc (y := ((u + 1 : Nat) : Int)) rfl (iinc_fit (by omega) (by omega) (by omega)) ?_
                            refine tt_goto ?_
                            refine tt_loc [(0, vR 76), (1, vI (((t : Nat) : Int))), (2, vI (((u + 1 : Nat) : Int)))] rfl rfl ⟨rfl, rfl, rfl, trivial⟩ ?_
                            exact ih12 (u + 1) _ (by omega) (Fr.put (Fr.tr Fr.rf hF_σ6 (by decide)) (by decide)) (by omega) (mx_K hK_σ6) (mx_1 h47_σ6 rfl)
                      refine tt_loc [(0, vR 76), (1, vI (((t : Nat) : Int))), (2, vI (((0 : Nat) : Int)))] rfl rfl ⟨rfl, rfl, lv_to rfl (by omega), trivial⟩ ?_
                      exact lp12_6 _ (0) _ (Nat.lt_succ_self _) (Fr.put (Fr.tr Fr.rf hF_σ5 (by decide)) (by decide)) (Nat.zero_le _) (mx_K hK_σ5) (am_set_rd.trans (by rw [h47_σ5, hv]; rfl))
              refine tt_loc [(0, vR 76), (1, vI (((0 : Nat) : Int)))] rfl rfl ⟨rfl, lv_to rfl (by omega), trivial⟩ ?_
              exact lp9_4 _ (0) σ3 (Nat.lt_succ_self _) (Fr.tr Fr.rf hF_σ3 (by decide)) (by omega) hK_σ3 (by rw [show r = 6 by omega] at h47_σ3; exact h47_σ3)
            · have hrw := hA.row r (by omega)
              have hsz := szR_c (A.1 (56 + 2 * r) 1)
              refine tt_ar rfl ?_
              refine tt_ar rfl ?_
              refine tt_getR (wo_76 hW_σ3) rfl (wr_76_6 hW_σ3) ?_
              refine tt_ar rfl ?_
              refine tt_iald (r) (x := szR (A.1 (56 + 2 * r) 1)) (wa_78 hW_σ3) rfl (by omega) ((hF_σ3.2 78 (by decide) (r)).trans (hR.rw r (by omega)).1) ?_
              refine tt_ifge (fun h3_8 => ?_) (fun h3_8 => ?_)
              · refine tt_ar rfl ?_
                refine tt_getR (wo_76 hW_σ3) rfl (wr_76_6 hW_σ3) ?_
                refine tt_ar rfl ?_
                refine tt_iald (r) (x := szR (A.1 (56 + 2 * r) 1)) (wa_78 hW_σ3) rfl (by omega) ((hF_σ3.2 78 (by decide) (r)).trans (hR.rw r (by omega)).1) ?_
                refine tt_nop ?_
                have hv : szR (A.1 (56 + 2 * r) 1) = A.1 (56 + 2 * r) 1 := by omega
                refine tt_cv2 2 rfl (wo_76 hW_σ3) (c275 σ3 (szR (A.1 (56 + 2 * r) 1)) hW_σ3) (ksn ?_)
                refine tt_ar rfl ?_
                refine tt_ar rfl ?_
                refine tt_nop ?_
                have lp6_7 : ∀ (μ : Nat) (j : Nat) (σ4 : am_S), (A.1 (56 + 2 * r) 1).toNat - j < μ → Fr [76] σ σ4 → (j ≤ (A.1 (56 + 2 * r) 1).toNat) → (∀ j, j ≠ 47 → σ4.1 76 j = σ.1 76 j) → (σ4.1 76 47 = dgN j (w64 (w64 (31 * dsT 56 A (H) r) + A.1 (56 + 2 * r) 1)) (A.1 (57 + 2 * r))) → TT am_b274 (am_b274.getD 6 []) [(0, vR 76), (1, vI (((r : Nat) : Int))), (2, vI (((j : Nat) : Int)))] [] σ4 (fun r σ' => PMd A σ (x_digest k nm ns A) r σ') := by
                  intro μ
                  induction μ with
                  | zero => intro j σ4 hμ; exact absurd hμ (Nat.not_lt_zero _)
                  | succ μ ih6 =>
                    intro j σ4 hμ hF_σ4 hj hK_σ4 h47_σ4
                    have hW_σ4 := Fr.wd hF_σ4 hW
                    refine tt_ar rfl ?_
                    refine tt_ar rfl ?_
                    refine tt_getR (wo_76 hW_σ4) rfl (wr_76_6 hW_σ4) ?_
                    refine tt_ar rfl ?_
                    refine tt_iald (r) (x := szR (A.1 (56 + 2 * r) 1)) (wa_78 hW_σ4) rfl (by omega) ((hF_σ4.2 78 (by decide) (r)).trans (hR.rw r (by omega)).1) ?_
                    refine tt_icge (fun h6_5 => ?_) (fun h6_5 => ?_)
                    · refine tt_iinc (y := ((r + 1 : Nat) : Int)) rfl (iinc_fit (by omega) (by omega) (by omega)) ?_
                      refine tt_goto ?_
                      refine tt_loc [(0, vR 76), (1, vI (((r + 1 : Nat) : Int)))] rfl rfl ⟨rfl, rfl, trivial⟩ ?_
                      exact ih3 (r + 1) σ4 (by omega) (Fr.tr Fr.rf hF_σ4 (by decide)) (by omega) hK_σ4 (by rw [dsT_s, ← show j = (A.1 (56 + 2 * r) 1).toNat by omega]; exact h47_σ4)
                    · refine tt_ar rfl ?_
                      refine tt_ar rfl ?_
                      refine tt_ar rfl ?_
                      refine tt_ar rfl ?_
                      refine tt_cv3 3 rfl (wo_76 hW_σ4) (c182 A σ4 k nm ns D hA hW_σ4 (hR.o47 hF_σ4 hK_σ4) r j (by omega) (by omega)) (kp ?_)
                      refine tt_cv2 2 rfl (wo_76 hW_σ4) (c275 σ4 (A.1 (57 + 2 * r) j) hW_σ4) (ksn ?_)
                      refine tt_iinc (y := ((j + 1 : Nat) : Int)) rfl (iinc_fit (by omega) (by omega) (by omega)) ?_
                      refine tt_goto ?_
                      refine tt_loc [(0, vR 76), (1, vI (((r : Nat) : Int))), (2, vI (((j + 1 : Nat) : Int)))] rfl rfl ⟨rfl, rfl, rfl, trivial⟩ ?_
                      exact ih6 (j + 1) _ (by omega) (Fr.put (Fr.tr Fr.rf hF_σ4 (by decide)) (by decide)) (by omega) (mx_K hK_σ4) (mx_1 h47_σ4 rfl)
                refine tt_loc [(0, vR 76), (1, vI (((r : Nat) : Int))), (2, vI (((0 : Nat) : Int)))] rfl rfl ⟨rfl, rfl, lv_to rfl (by omega), trivial⟩ ?_
                exact lp6_7 _ (0) _ (Nat.lt_succ_self _) (Fr.put (Fr.tr Fr.rf hF_σ3 (by decide)) (by decide)) (Nat.zero_le _) (mx_K hK_σ3) (am_set_rd.trans (by rw [h47_σ3, hv]; rfl))
              · refine tt_ar rfl ?_
                refine tt_goto ?_
                have hv : (-1) = A.1 (56 + 2 * r) 1 := by omega
                refine tt_cv2 2 rfl (wo_76 hW_σ3) (c275 σ3 ((-1)) hW_σ3) (ksn ?_)
                refine tt_ar rfl ?_
                refine tt_ar rfl ?_
                refine tt_nop ?_
                have lp6_8 : ∀ (μ : Nat) (j : Nat) (σ4 : am_S), (A.1 (56 + 2 * r) 1).toNat - j < μ → Fr [76] σ σ4 → (j ≤ (A.1 (56 + 2 * r) 1).toNat) → (∀ j, j ≠ 47 → σ4.1 76 j = σ.1 76 j) → (σ4.1 76 47 = dgN j (w64 (w64 (31 * dsT 56 A (H) r) + A.1 (56 + 2 * r) 1)) (A.1 (57 + 2 * r))) → TT am_b274 (am_b274.getD 6 []) [(0, vR 76), (1, vI (((r : Nat) : Int))), (2, vI (((j : Nat) : Int)))] [] σ4 (fun r σ' => PMd A σ (x_digest k nm ns A) r σ') := by
                  intro μ
                  induction μ with
                  | zero => intro j σ4 hμ; exact absurd hμ (Nat.not_lt_zero _)
                  | succ μ ih6 =>
                    intro j σ4 hμ hF_σ4 hj hK_σ4 h47_σ4
                    have hW_σ4 := Fr.wd hF_σ4 hW
                    refine tt_ar rfl ?_
                    refine tt_ar rfl ?_
                    refine tt_getR (wo_76 hW_σ4) rfl (wr_76_6 hW_σ4) ?_
                    refine tt_ar rfl ?_
                    refine tt_iald (r) (x := szR (A.1 (56 + 2 * r) 1)) (wa_78 hW_σ4) rfl (by omega) ((hF_σ4.2 78 (by decide) (r)).trans (hR.rw r (by omega)).1) ?_
                    refine tt_icge (fun h6_5 => ?_) (fun h6_5 => ?_)
                    · refine tt_iinc (y := ((r + 1 : Nat) : Int)) rfl (iinc_fit (by omega) (by omega) (by omega)) ?_
                      refine tt_goto ?_
                      refine tt_loc [(0, vR 76), (1, vI (((r + 1 : Nat) : Int)))] rfl rfl ⟨rfl, rfl, trivial⟩ ?_
                      exact ih3 (r + 1) σ4 (by omega) (Fr.tr Fr.rf hF_σ4 (by decide)) (by omega) hK_σ4 (by rw [dsT_s, ← show j = (A.1 (56 + 2 * r) 1).toNat by omega]; exact h47_σ4)
                    · refine tt_ar rfl ?_
                      refine tt_ar rfl ?_
                      refine tt_ar rfl ?_
                      refine tt_ar rfl ?_
                      refine tt_cv3 3 rfl (wo_76 hW_σ4) (c182 A σ4 k nm ns D hA hW_σ4 (hR.o47 hF_σ4 hK_σ4) r j (by omega) (by omega)) (kp ?_)
                      refine tt_cv2 2 rfl (wo_76 hW_σ4) (c275 σ4 (A.1 (57 + 2 * r) j) hW_σ4) (ksn ?_)
                      refine tt_iinc (y := ((j + 1 : Nat) : Int)) rfl (iinc_fit (by omega) (by omega) (by omega)) ?_
                      refine tt_goto ?_
                      refine tt_loc [(0, vR 76), (1, vI (((r : Nat) : Int))), (2, vI (((j + 1 : Nat) : Int)))] rfl rfl ⟨rfl, rfl, rfl, trivial⟩ ?_
                      exact ih6 (j + 1) _ (by omega) (Fr.put (Fr.tr Fr.rf hF_σ4 (by decide)) (by decide)) (by omega) (mx_K hK_σ4) (mx_1 h47_σ4 rfl)
                refine tt_loc [(0, vR 76), (1, vI (((r : Nat) : Int))), (2, vI (((0 : Nat) : Int)))] rfl rfl ⟨rfl, rfl, lv_to rfl (by omega), trivial⟩ ?_
                exact lp6_8 _ (0) _ (Nat.lt_succ_self _) (Fr.put (Fr.tr Fr.rf hF_σ3 (by decide)) (by decide)) (Nat.zero_le _) (mx_K hK_σ3) (am_set_rd.trans (by rw [h47_σ3, hv]; rfl))
        refine tt_loc [(0, vR 76), (1, vI (((0 : Nat) : Int)))] rfl rfl ⟨rfl, lv_to rfl (by omega), trivial⟩ ?_
        exact lp3_3 _ (0) σ2 (Nat.lt_succ_self _) (Fr.tr (Fr.tr Fr.rf hF_σ1 (by decide)) hF2 (by decide)) (by omega) hK_σ2 h47x
      · refine tt_ar rfl ?_
        refine tt_ar rfl ?_
        refine tt_ar rfl ?_
        refine tt_cv2 2 rfl (wo_76 hW_σ1) (c271 A σ1 k nm ns D hA hW_σ1 (hR.o47 hF_σ1 hK_σ1) i (by omega)) (kp ?_)
        refine tt_cv2 2 rfl (wo_76 hW_σ1) (c275 σ1 (cnA ns A i) hW_σ1) (ksn ?_)
        refine tt_iinc (y := ((i + 1 : Nat) : Int)) rfl (iinc_fit (by omega) (by omega) (by omega)) ?_
        refine tt_goto ?_
        refine tt_loc [(0, vR 76), (1, vI (((i + 1 : Nat) : Int)))] rfl rfl ⟨rfl, rfl, trivial⟩ ?_
        exact ih1 (i + 1) _ (by omega) (Fr.put (Fr.tr Fr.rf hF_σ1 (by decide)) (by decide)) (by omega) (mx_K hK_σ1) (mx_1 h47_σ1 rfl)
  refine tt_loc [(0, vR 76), (1, vI (((0 : Nat) : Int)))] rfl rfl ⟨rfl, lv_to rfl (by omega), trivial⟩ ?_
  exact lp1_1 _ (0) _ (Nat.lt_succ_self _) (Fr.put Fr.rf (by decide)) (by omega) (mx_K (fun _ _ => rfl)) am_set_rd

