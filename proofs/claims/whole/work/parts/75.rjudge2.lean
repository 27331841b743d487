/-! THE REFERENCE'S CALLS: JUDGE, DOUBTS, LEAST -/
theorem dsF_bd {A : am_S} {p : Nat → Int} {k m n x s : Nat} (hD : LD k A) (hn : n ≤ 16) (hp : 0 ≤ p s ∧ p s ≤ 5) (hs : s < 6) (hx : x < 8) : (0 ≤ fLN A p m n x s ∧ fLN A p m n x s ≤ 189) ∧ 0 ≤ fMN A p m n x s ∧ fMN A p m n x s ≤ 189 := by
  have h7 := hD.2.2.1 (s * 8 + x) (by omega)
  have h1 := amN_bd (A.1 48) (A.1 49) (A.1 50) m 5 s n
  have h2 := amN_bd (A.1 48) (A.1 49) (A.1 50) m 4 s n
  have h3 : 0 ≤ p s + gsN A m n s - ilN A p m n s ∧ p s + gsN A m n s - ilN A p m n s ≤ 21 := by
    unfold gsN ilN
    split <;> omega
  have h4 : 0 ≤ p s + gsN A m n s ∧ p s + gsN A m n s ≤ 21 := by
    unfold gsN
    omega
  have h5 := mul_bd (A := 21) (B := 9) h3.1 h3.2 h7.1 (by omega)
  have h6 := mul_bd (A := 21) (B := 9) h4.1 h4.2 (show 0 ≤ A.1 8 (s * 8 + x) by omega) h7.2.2
  unfold fLN fMN
  omega
theorem wi_sum {f : Nat → Nat → Int} {k : Nat} (hk : k ≤ 6) (h : ∀ x, x < 8 → ∀ s, s < k → 0 ≤ f x s ∧ f x s ≤ 189) : ∀ s, s ≤ k → wiN (fun x => sumN s (f x)) 1134 := fun s hs x hx => by
  have := sumN_bd (n := s) (f := f x) (a := 0) (b := 189) (fun i hi => h x hx i (by omega))
  show 0 ≤ sumN s (f x) ∧ sumN s (f x) ≤ 1134
  omega
theorem c258 (A σ : am_S) (k nm ns : Nat) (D : Nat → Nat → Int) (hA : CI k nm ns D A) (hW : Wd σ) (hR : RRb k nm ns D A σ) (m h : Nat) (p : Nat → Int) (hm : m < nm) (hh : h < nkT k) (hp0 : ∀ s, s < 6 → p s = (dg (tb k h) s : Int)) : CC 258 [vR 76, vI (((m : Nat) : Int)), vI (((h : Nat) : Int))] σ (fun r σ' => r = none ∧ Fr [105, 106] σ σ' ∧ (∀ x, x < 8 → σ'.1 105 x = hgL A k p m ns x) ∧ ∀ x, x < 8 → σ'.1 106 x = hgM A k p m ns x) := by
  show TT am_b258 (am_b258.getD 0 []) [(0, vR 76), (1, vI (((m : Nat) : Int))), (2, vI (((h : Nat) : Int)))] [] σ _
  have hk5 := hR.aa.1
  have hl27 := hR.aa.2.1
  have hs47 := hR.aa.2.2
  have hk6 := hA.x.1.2.1
  have hm12 := hA.x.2.2.1.2.1
  have hs16 := hA.st.2
  have hDA := hA.x.1
  have hHT := hA.x.2.1
  have hLA := hA.x.2.2.1
  have hHB := HB_of hDA hHT
  have hnb := nkT_bd k
  have hsh := hA.sh
  have hp5 : ∀ s, s < 6 → 0 ≤ p s ∧ p s ≤ 5 := fun s hs => by have := (hHB.2.2.2.2.1 (h * 6 + s) (by omega)); rw [(hHT.2.1 h hh).2.2 s hs] at this; rw [hp0 s hs]; exact this
  refine tt_ar rfl ?_
  refine tt_ar rfl ?_
  refine tt_nop ?_
  have lp1_1 : ∀ (μ : Nat) (x : Nat) (σ1 : am_S), 8 - x < μ → Fr [105, 106] σ σ1 → (x ≤ 8) → (∀ y, y < x → σ1.1 105 y = 0 ∧ σ1.1 106 y = 0) → TT am_b258 (am_b258.getD 1 []) [(0, vR 76), (1, vI (((m : Nat) : Int))), (2, vI (((h : Nat) : Int))), (3, vI (((x : Nat) : Int)))] [] σ1 (fun r σ' => r = none ∧ Fr [105, 106] σ σ' ∧ (∀ x, x < 8 → σ'.1 105 x = hgL A k p m ns x) ∧ ∀ x, x < 8 → σ'.1 106 x = hgM A k p m ns x) := by
    intro μ
    induction μ with
    | zero => intro x σ1 hμ; exact absurd hμ (Nat.not_lt_zero _)
    | succ μ ih1 =>
      intro x σ1 hμ hF_σ1 hx1 hz1
      have hW_σ1 := Fr.wd hF_σ1 hW
      refine tt_ar rfl ?_
      refine tt_ar rfl ?_
      refine tt_icge (fun h1_2 => ?_) (fun h1_2 => ?_)
      · refine tt_ar rfl ?_
        refine tt_ar rfl ?_
        refine tt_nop ?_
        have lp3_2 : ∀ (μ : Nat) (s : Nat) (σ3 : am_S), k - s < μ → Fr [105, 106] σ σ3 → (s ≤ k) → (∀ y, y < 8 → σ3.1 105 y = sumN s (fLN A p m ns y) ∧ σ3.1 106 y = sumN s (fMN A p m ns y)) → TT am_b258 (am_b258.getD 3 []) [(0, vR 76), (1, vI (((m : Nat) : Int))), (2, vI (((h : Nat) : Int))), (3, vI (((s : Nat) : Int)))] [] σ3 (fun r σ' => r = none ∧ Fr [105, 106] σ σ' ∧ (∀ x, x < 8 → σ'.1 105 x = hgL A k p m ns x) ∧ ∀ x, x < 8 → σ'.1 106 x = hgM A k p m ns x) := by
          intro μ
          induction μ with
          | zero => intro s σ3 hμ; exact absurd hμ (Nat.not_lt_zero _)
          | succ μ ih3 =>
            intro s σ3 hμ hF_σ3 hs h3
            have hW_σ3 := Fr.wd hF_σ3 hW
            have hR3 := hR.fr hF_σ3 (by decide)
            refine tt_ar rfl ?_
            refine tt_ar rfl ?_
            refine tt_getI (x := ((k : Nat) : Int)) (wo_76 hW_σ3) rfl ((hF_σ3.2 76 (by decide) (11)).trans hR.wl.1) ?_
            refine tt_icge (fun h3_3 => ?_) (fun h3_3 => ?_)
            · have es : s = k := by omega
              have hw70 : wiN (hgL0 A k p m ns) (1134 + 16 * ((0 : Nat) : Int)) ∧ wiN (hgM0 A k p m ns) (1134 + 16 * ((0 : Nat) : Int)) := ⟨wi_sum hk6 (fun x hx s hs => (dsF_bd hDA hs16 (hp5 s (by omega)) (by omega) hx).1) k (Nat.le_refl k), wi_sum hk6 (fun x hx s hs => (dsF_bd hDA hs16 (hp5 s (by omega)) (by omega) hx).2) k (Nat.le_refl k)⟩
              refine tt_ar rfl ?_
              refine tt_ar rfl ?_
              refine tt_nop ?_
              have lp7_3 : ∀ (μ : Nat) (d : Nat) (σ7 : am_S), m + 1 - d < μ → Fr [105, 106] σ σ7 → (d ≤ m + 1) → (∀ y, y < 8 → σ7.1 105 y = hdM (A.1 48) (A.1 49) (A.1 50) (A.1 51) ns d (hgL0 A k p m ns) y ∧ σ7.1 106 y = hdM (A.1 48) (A.1 49) (A.1 50) (A.1 51) ns d (hgM0 A k p m ns) y) → (wiN (hdM (A.1 48) (A.1 49) (A.1 50) (A.1 51) ns d (hgL0 A k p m ns)) (1134 + 16 * ((d : Nat) : Int)) ∧ wiN (hdM (A.1 48) (A.1 49) (A.1 50) (A.1 51) ns d (hgM0 A k p m ns)) (1134 + 16 * ((d : Nat) : Int))) → TT am_b258 (am_b258.getD 7 []) [(0, vR 76), (1, vI (((m : Nat) : Int))), (3, vI (((d : Nat) : Int)))] [] σ7 (fun r σ' => r = none ∧ Fr [105, 106] σ σ' ∧ (∀ x, x < 8 → σ'.1 105 x = hgL A k p m ns x) ∧ ∀ x, x < 8 → σ'.1 106 x = hgM A k p m ns x) := by
                intro μ
                induction μ with
                | zero => intro d σ7 hμ; exact absurd hμ (Nat.not_lt_zero _)
                | succ μ ih7 =>
                  intro d σ7 hμ hF_σ7 hd h7 w7
                  have hW_σ7 := Fr.wd hF_σ7 hW
                  refine tt_ar rfl ?_
                  refine tt_ar rfl ?_
                  refine tt_icgt (fun h7_2 => ?_) (fun h7_2 => ?_)
                  · have ed : d = m + 1 := by omega
                    have h7m : ∀ y, y < 8 → σ7.1 105 y = hdM (A.1 48) (A.1 49) (A.1 50) (A.1 51) ns (m + 1) (hgL0 A k p m ns) y ∧ σ7.1 106 y = hdM (A.1 48) (A.1 49) (A.1 50) (A.1 51) ns (m + 1) (hgM0 A k p m ns) y := fun y hy => by have z := h7 y hy; rw [ed] at z; exact z
                    refine tt_ar rfl ?_
                    refine tt_ar rfl ?_
                    refine tt_nop ?_
                    have lp12_4 : ∀ (μ : Nat) (x : Nat) (σ12 : am_S), 8 - x < μ → Fr [105, 106] σ σ12 → (x ≤ 8) → (∀ y, y < x → σ12.1 105 y = hgL A k p m ns y) → (∀ y, x ≤ y → y < 8 → σ12.1 105 y = hdM (A.1 48) (A.1 49) (A.1 50) (A.1 51) ns (m + 1) (hgL0 A k p m ns) y) → (∀ y, y < 8 → σ12.1 106 y = hgM A k p m ns y) → TT am_b258 (am_b258.getD 12 []) [(0, vR 76), (1, vI (((m : Nat) : Int))), (3, vI (((x : Nat) : Int)))] [] σ12 (fun r σ' => r = none ∧ Fr [105, 106] σ σ' ∧ (∀ x, x < 8 → σ'.1 105 x = hgL A k p m ns x) ∧ ∀ x, x < 8 → σ'.1 106 x = hgM A k p m ns x) := by
                      intro μ
                      induction μ with
                      | zero => intro x σ12 hμ; exact absurd hμ (Nat.not_lt_zero _)
                      | succ μ ih12 =>
                        intro x σ12 hμ hF_σ12 hx12 h12 h12b h12c
                        have hW_σ12 := Fr.wd hF_σ12 hW
                        have hR12 := hR.fr hF_σ12 (by decide)
                        refine tt_ar rfl ?_
                        refine tt_ar rfl ?_
                        refine tt_icge (fun h12_2 => ?_) (fun h12_2 => ?_)
                        · refine tt_vret ?_
                          have e8 : x = 8 := by omega
                          subst e8
                          exact ⟨rfl, hF_σ12, h12, h12c⟩
                        · refine tt_ar rfl ?_
                          refine tt_getR (wo_76 hW_σ12) rfl (wr_76_45 hW_σ12) ?_
                          refine tt_ar rfl ?_
                          refine tt_ar rfl ?_
                          refine tt_ar rfl ?_
                          refine tt_ar rfl ?_
                          refine tt_ar rfl ?_
                          refine tt_cv3 3 rfl (wo_76 hW_σ12) (c210 A σ12 k nm ns D hA hW_σ12 hR12 m 0 (by omega) (by omega)) (kp ?_)
                          refine tt_ar rfl ?_
                          refine tt_cv3 3 rfl (wo_76 hW_σ12) (c217 A σ12 k nm ns D hA hW_σ12 hR12 _ _) (kb (fun h12_12 => ?_) (fun h12_12 => ?_))
                          · have hins := h12_12
                            refine tt_ifeqF (by decide) ?_
                            refine tt_ar rfl ?_
                            refine tt_goto ?_
                            refine tt_iast (x) (wa_105 hW_σ12) (by omega) rfl (by omega) ?_
                            refine tt_iinc (y := ((x + 1 : Nat) : Int)) rfl (iinc_fit (by omega) (by omega) (by omega)) ?_
                            refine tt_goto ?_
                            refine tt_loc [(0, vR 76), (1, vI (((m : Nat) : Int))), (3, vI (((x + 1 : Nat) : Int)))] rfl rfl ⟨rfl, rfl, rfl, trivial⟩ ?_
                            exact ih12 (x + 1) _ (by omega) (Fr.put (Fr.tr Fr.rf hF_σ12 (by decide)) (by decide)) (by omega) (fun y hy => by rw [am_set_at]; by_cases q : y = x; (rw [if_pos q, q]; unfold hgL; first | exact (if_pos hins).symm | exact (if_neg hins).symm); (rw [if_neg q]; exact h12 y (by omega))) (fun y h1 h2 => by rw [am_set_at, if_neg (by omega)]; exact h12b y (by omega) h2) (fun y hy => by rw [am_set_nb (show (106 : Nat) ≠ 105 by decide)]; exact h12c y hy)
                          · have hins := h12_12
                            refine tt_ifeqT (by decide) ?_
                            refine tt_ar rfl ?_
                            refine tt_getR (wo_76 hW_σ12) rfl (wr_76_45 hW_σ12) ?_
                            refine tt_ar rfl ?_
                            refine tt_iald (x) (x := hdM (A.1 48) (A.1 49) (A.1 50) (A.1 51) ns (m + 1) (hgL0 A k p m ns) x) (wa_105 hW_σ12) rfl (by omega) (h12b x (Nat.le_refl x) (by omega)) ?_
                            refine tt_nop ?_
                            refine tt_iast (x) (wa_105 hW_σ12) (by omega) rfl (by omega) ?_
                            refine tt_iinc (y := ((x + 1 : Nat) : Int)) rfl (iinc_fit (by omega) (by omega) (by omega)) ?_
                            refine tt_goto ?_
                            refine tt_loc [(0, vR 76), (1, vI (((m : Nat) : Int))), (3, vI (((x + 1 : Nat) : Int)))] rfl rfl ⟨rfl, rfl, rfl, trivial⟩ ?_
                            exact ih12 (x + 1) _ (by omega) (Fr.put (Fr.tr Fr.rf hF_σ12 (by decide)) (by decide)) (by omega) (fun y hy => by rw [am_set_at]; by_cases q : y = x; (rw [if_pos q, q]; unfold hgL; first | exact (if_pos hins).symm | exact (if_neg hins).symm); (rw [if_neg q]; exact h12 y (by omega))) (fun y h1 h2 => by rw [am_set_at, if_neg (by omega)]; exact h12b y (by omega) h2) (fun y hy => by rw [am_set_nb (show (106 : Nat) ≠ 105 by decide)]; exact h12c y hy)
                    refine tt_loc [(0, vR 76), (1, vI (((m : Nat) : Int))), (3, vI (((0 : Nat) : Int)))] rfl rfl ⟨rfl, rfl, lv_to rfl (by omega), trivial⟩ ?_
                    exact lp12_4 _ (0) σ7 (Nat.lt_succ_self _) (Fr.tr Fr.rf hF_σ7 (by decide)) (by omega) (fun y hy => absurd hy (Nat.not_lt_zero y)) (fun y _ hy => (h7m y hy).1) (fun y hy => (h7m y hy).2)
                  · refine tt_ar rfl ?_
                    refine tt_ar rfl ?_
                    refine tt_nop ?_
                    have lp8_5 : ∀ (μ : Nat) (e : Nat) (σ8 : am_S), ns - e < μ → Fr [105, 106] σ σ8 → (e ≤ ns) → (∀ y, y < 8 → σ8.1 105 y = hdL (A.1 48) (A.1 49) (A.1 50) (A.1 51) d e (hdM (A.1 48) (A.1 49) (A.1 50) (A.1 51) ns d (hgL0 A k p m ns)) y ∧ σ8.1 106 y = hdL (A.1 48) (A.1 49) (A.1 50) (A.1 51) d e (hdM (A.1 48) (A.1 49) (A.1 50) (A.1 51) ns d (hgM0 A k p m ns)) y) → (wiN (hdL (A.1 48) (A.1 49) (A.1 50) (A.1 51) d e (hdM (A.1 48) (A.1 49) (A.1 50) (A.1 51) ns d (hgL0 A k p m ns))) (1134 + 16 * ((d : Nat) : Int) + ((e : Nat) : Int)) ∧ wiN (hdL (A.1 48) (A.1 49) (A.1 50) (A.1 51) d e (hdM (A.1 48) (A.1 49) (A.1 50) (A.1 51) ns d (hgM0 A k p m ns))) (1134 + 16 * ((d : Nat) : Int) + ((e : Nat) : Int))) → TT am_b258 (am_b258.getD 8 []) [(0, vR 76), (1, vI (((m : Nat) : Int))), (3, vI (((d : Nat) : Int))), (4, vI (((e : Nat) : Int)))] [] σ8 (fun r σ' => r = none ∧ Fr [105, 106] σ σ' ∧ (∀ x, x < 8 → σ'.1 105 x = hgL A k p m ns x) ∧ ∀ x, x < 8 → σ'.1 106 x = hgM A k p m ns x) := by
                      intro μ
                      induction μ with
                      | zero => intro e σ8 hμ; exact absurd hμ (Nat.not_lt_zero _)
                      | succ μ ih8 =>
                        intro e σ8 hμ hF_σ8 he h8 w8
                        have hW_σ8 := Fr.wd hF_σ8 hW
                        have hR8 := hR.fr hF_σ8 (by decide)
                        refine tt_ar rfl ?_
                        refine tt_ar rfl ?_
                        refine tt_getI (x := ((ns : Nat) : Int)) (wo_76 hW_σ8) rfl ((hF_σ8.2 76 (by decide) (43)).trans hR.st.1) ?_
                        refine tt_icge (fun h8_3 => ?_) (fun h8_3 => ?_)
                        · have ee : e = ns := by omega
                          have h7n : ∀ y, y < 8 → σ8.1 105 y = hdM (A.1 48) (A.1 49) (A.1 50) (A.1 51) ns (d + 1) (hgL0 A k p m ns) y ∧ σ8.1 106 y = hdM (A.1 48) (A.1 49) (A.1 50) (A.1 51) ns (d + 1) (hgM0 A k p m ns) y := fun y hy => by have z := h8 y hy; rw [ee] at z; exact z
                          have w7n : wiN (hdM (A.1 48) (A.1 49) (A.1 50) (A.1 51) ns (d + 1) (hgL0 A k p m ns)) (1134 + 16 * (((d + 1) : Nat) : Int)) ∧ wiN (hdM (A.1 48) (A.1 49) (A.1 50) (A.1 51) ns (d + 1) (hgM0 A k p m ns)) (1134 + 16 * (((d + 1) : Nat) : Int)) := by have z := w8; rw [ee] at z; exact ⟨z.1.mono (by omega), z.2.mono (by omega)⟩
                          refine tt_iinc (y := ((d + 1 : Nat) : Int)) rfl (iinc_fit (by omega) (by omega) (by omega)) ?_
                          refine tt_goto ?_
                          refine tt_loc [(0, vR 76), (1, vI (((m : Nat) : Int))), (3, vI (((d + 1 : Nat) : Int)))] rfl rfl ⟨rfl, rfl, rfl, trivial⟩ ?_
                          exact ih7 (d + 1) σ8 (by omega) (Fr.tr Fr.rf hF_σ8 (by decide)) (by omega) h7n w7n
                        · have hK : stD A e 0 = A.1 48 e := rfl
                          have hDd : stD A e 1 = A.1 49 e := rfl
                          have hAa : stD A e 2 = A.1 50 e := rfl
                          have hBb : stD A e 3 = A.1 51 e := rfl
                          have hse := hsh.2 e (by omega)
                          refine tt_ar rfl ?_
                          refine tt_ar rfl ?_
                          refine tt_ar rfl ?_
                          refine tt_cv3 3 rfl (wo_76 hW_σ8) (c252 A σ8 k nm ns D hA hW_σ8 hR8 e 0 (by omega) (by omega)) (kp ?_)
                          refine tt_ar rfl ?_
                          refine tt_icne (fun h8_9 => ?_) (fun h8_9 => ?_)
                          · refine tt_iinc (y := ((e + 1 : Nat) : Int)) rfl (iinc_fit (by omega) (by omega) (by omega)) ?_
                            refine tt_goto ?_
                            refine tt_loc [(0, vR 76), (1, vI (((m : Nat) : Int))), (3, vI (((d : Nat) : Int))), (4, vI (((e + 1 : Nat) : Int)))] rfl rfl ⟨rfl, rfl, rfl, rfl, trivial⟩ ?_
                            exact ih8 (e + 1) σ8 (by omega) (Fr.tr Fr.rf hF_σ8 (by decide)) (by omega) (fun y hy => by rw [hdL_s, hdL_s]; first | (rw [if_pos ⟨by omega, by omega⟩, if_pos ⟨by omega, by omega⟩, hat, hbt]; exact ⟨hh1 y hy, hh2 y hy⟩) | (rw [if_neg (fun q => by omega), if_neg (fun q => by omega)]; exact h8 y hy)) (by rw [hdL_s, hdL_s]; first | (rw [if_pos ⟨by omega, by omega⟩, if_pos ⟨by omega, by omega⟩, hat, hbt]; exact ⟨(w8.1.ho (by omega) (by omega)).mono (by omega), (w8.2.ho (by omega) (by omega)).mono (by omega)⟩) | (rw [if_neg (fun q => by omega), if_neg (fun q => by omega)]; exact ⟨w8.1.mono (by omega), w8.2.mono (by omega)⟩))
                          · refine tt_ar rfl ?_
                            refine tt_ar rfl ?_
                            refine tt_ar rfl ?_
                            refine tt_cv3 3 rfl (wo_76 hW_σ8) (c252 A σ8 k nm ns D hA hW_σ8 hR8 e 1 (by omega) (by omega)) (kp ?_)
                            refine tt_ar rfl ?_
                            refine tt_icne (fun h8_15 => ?_) (fun h8_15 => ?_)
                            · refine tt_iinc (y := ((e + 1 : Nat) : Int)) rfl (iinc_fit (by omega) (by omega) (by omega)) ?_
                              refine tt_goto ?_
                              refine tt_loc [(0, vR 76), (1, vI (((m : Nat) : Int))), (3, vI (((d : Nat) : Int))), (4, vI (((e + 1 : Nat) : Int)))] rfl rfl ⟨rfl, rfl, rfl, rfl, trivial⟩ ?_
                              exact ih8 (e + 1) σ8 (by omega) (Fr.tr Fr.rf hF_σ8 (by decide)) (by omega) (fun y hy => by rw [hdL_s, hdL_s]; first | (rw [if_pos ⟨by omega, by omega⟩, if_pos ⟨by omega, by omega⟩, hat, hbt]; exact ⟨hh1 y hy, hh2 y hy⟩) | (rw [if_neg (fun q => by omega), if_neg (fun q => by omega)]; exact h8 y hy)) (by rw [hdL_s, hdL_s]; first | (rw [if_pos ⟨by omega, by omega⟩, if_pos ⟨by omega, by omega⟩, hat, hbt]; exact ⟨(w8.1.ho (by omega) (by omega)).mono (by omega), (w8.2.ho (by omega) (by omega)).mono (by omega)⟩) | (rw [if_neg (fun q => by omega), if_neg (fun q => by omega)]; exact ⟨w8.1.mono (by omega), w8.2.mono (by omega)⟩))
                            · refine tt_ar rfl ?_
                              refine tt_ar rfl ?_
                              refine tt_ar rfl ?_
                              refine tt_ar rfl ?_
                              refine tt_cv3 3 rfl (wo_76 hW_σ8) (c252 A σ8 k nm ns D hA hW_σ8 hR8 e 2 (by omega) (by omega)) (kp ?_)
                              refine tt_ar rfl ?_
                              refine tt_ar rfl ?_
                              refine tt_ar rfl ?_
                              refine tt_cv3 3 rfl (wo_76 hW_σ8) (c252 A σ8 k nm ns D hA hW_σ8 hR8 e 3 (by omega) (by omega)) (kp ?_)
                              obtain ⟨an, han⟩ : ∃ n : Nat, A.1 50 e = (n : Int) := ⟨_, (Int.toNat_of_nonneg (by omega)).symm⟩
                              obtain ⟨bn, hbn⟩ : ∃ n : Nat, A.1 51 e = (n : Int) := ⟨_, (Int.toNat_of_nonneg (by omega)).symm⟩
                              have hat : (A.1 50 e).toNat = an := by rw [han]; rfl
                              have hbt : (A.1 51 e).toNat = bn := by rw [hbn]; rfl
                              have hc261 := c261 σ8 an bn hW_σ8 (by omega) (by omega) (hdL (A.1 48) (A.1 49) (A.1 50) (A.1 51) d e (hdM (A.1 48) (A.1 49) (A.1 50) (A.1 51) ns d (hgL0 A k p m ns))) (hdL (A.1 48) (A.1 49) (A.1 50) (A.1 51) d e (hdM (A.1 48) (A.1 49) (A.1 50) (A.1 51) ns d (hgM0 A k p m ns))) (1134 + 16 * ((d : Nat) : Int) + ((e : Nat) : Int)) (fun x hx => (h8 x hx).1) (fun x hx => (h8 x hx).2) w8.1 w8.2 (by omega)
                              rw [← han, ← hbn] at hc261
                              have hc261 : CC 261 [vR 76, vI (stD A e 2), vI (stD A e 3)] σ8 _ := hc261
                              refine tt_cv3 3 rfl (wo_76 hW_σ8) hc261 ?_
                              intro r0 σ9 hq0
                              obtain ⟨rfl, hF9, hh1, hh2⟩ := hq0
                              have hW6 := Fr.wd hF9 hW_σ8
                              refine tt_nop ?_
                              refine tt_iinc (y := ((e + 1 : Nat) : Int)) rfl (iinc_fit (by omega) (by omega) (by omega)) ?_
                              refine tt_goto ?_
                              refine tt_loc [(0, vR 76), (1, vI (((m : Nat) : Int))), (3, vI (((d : Nat) : Int))), (4, vI (((e + 1 : Nat) : Int)))] rfl rfl ⟨rfl, rfl, rfl, rfl, trivial⟩ ?_
                              exact ih8 (e + 1) σ9 (by omega) (Fr.tr (Fr.tr Fr.rf hF_σ8 (by decide)) hF9 (by decide)) (by omega) (fun y hy => by rw [hdL_s, hdL_s]; first | (rw [if_pos ⟨by omega, by omega⟩, if_pos ⟨by omega, by omega⟩, hat, hbt]; exact ⟨hh1 y hy, hh2 y hy⟩) | (rw [if_neg (fun q => by omega), if_neg (fun q => by omega)]; exact h8 y hy)) (by rw [hdL_s, hdL_s]; first | (rw [if_pos ⟨by omega, by omega⟩, if_pos ⟨by omega, by omega⟩, hat, hbt]; exact ⟨(w8.1.ho (by omega) (by omega)).mono (by omega), (w8.2.ho (by omega) (by omega)).mono (by omega)⟩) | (rw [if_neg (fun q => by omega), if_neg (fun q => by omega)]; exact ⟨w8.1.mono (by omega), w8.2.mono (by omega)⟩))
                    refine tt_loc [(0, vR 76), (1, vI (((m : Nat) : Int))), (3, vI (((d : Nat) : Int))), (4, vI (((0 : Nat) : Int)))] rfl rfl ⟨rfl, rfl, rfl, lv_to rfl (by omega), trivial⟩ ?_
                    exact lp8_5 _ (0) σ7 (Nat.lt_succ_self _) (Fr.tr Fr.rf hF_σ7 (by decide)) (by omega) h7 ⟨w7.1.mono (by omega), w7.2.mono (by omega)⟩
              refine tt_loc [(0, vR 76), (1, vI (((m : Nat) : Int))), (3, vI (((0 : Nat) : Int)))] rfl rfl ⟨rfl, rfl, lv_to rfl (by omega), trivial⟩ ?_
              exact lp7_3 _ (0) σ3 (Nat.lt_succ_self _) (Fr.tr Fr.rf hF_σ3 (by decide)) (by omega) (fun y hy => by have := h3 y hy; rw [show s = k by omega] at this; exact this) hw70
            · refine tt_ar rfl ?_
              refine tt_getR (wo_76 hW_σ3) rfl (wr_76_29 hW_σ3) ?_
              refine tt_ar rfl ?_
              refine tt_ar rfl ?_
              refine tt_imul (by omega) (by omega) ?_
              refine tt_ar rfl ?_
              refine tt_iadd (by omega) (by omega) ?_
              refine tt_iald (((6 * h) + s)) (x := ((dg (tb k h) s : Nat) : Int)) (wa_93 hW_σ3) (by omega) (by omega) ((hF_σ3.2 93 (by decide) (((6 * h) + s))).trans ((hR.hs.2 h hh).2 s (by omega))) ?_
              have hd9 := dg_lt (tb k h) s
              refine tt_ar rfl ?_
              refine tt_ar rfl ?_
              refine tt_ar rfl ?_
              refine tt_ar rfl ?_
              refine tt_ar rfl ?_
              have ham5 := amN_bd (A.1 48) (A.1 49) (A.1 50) (m : Int) 5 (s : Int) ns
              refine tt_cv4 4 rfl (wo_76 hW_σ3) (c259 A σ3 k nm ns D hA hW_σ3 hR3 m s (5)) (kp ?_)
              refine tt_ar rfl ?_
              refine tt_ar rfl ?_
              refine tt_ar rfl ?_
              refine tt_ar rfl ?_
              refine tt_ar rfl ?_
              have ham4 := amN_bd (A.1 48) (A.1 49) (A.1 50) (m : Int) 4 (s : Int) ns
              refine tt_cv4 4 rfl (wo_76 hW_σ3) (c259 A σ3 k nm ns D hA hW_σ3 hR3 m s (4)) (kp ?_)
              refine tt_ar rfl ?_
              refine tt_ar rfl ?_
              refine tt_ar rfl ?_
              refine tt_ar rfl ?_
              refine tt_ar rfl ?_
              refine tt_iadd (by omega) (by omega) ?_
              refine tt_ar rfl ?_
              refine tt_ar rfl ?_
              refine tt_icge (fun h3_32 => ?_) (fun h3_32 => ?_)
              · refine tt_ar rfl ?_
                refine tt_nop ?_
                refine tt_isub (by omega) (by omega) ?_
                refine tt_ar rfl ?_
                refine tt_ar rfl ?_
                refine tt_iadd (by omega) (by omega) ?_
                have hps := hp5 s (by omega)
                have hpd := hp0 s (by omega)
                have ea : (((((dg (tb k h) s : Nat) : Int) + amN (A.1 48) (A.1 49) (A.1 50) (m : Int) 5 (s : Int) ns) - ((dg (tb k h) s : Nat) : Int))) = p s + gsN A m ns s - ilN A p m ns s := by unfold gsN ilN; split <;> omega
                have eb : ((((dg (tb k h) s : Nat) : Int) + amN (A.1 48) (A.1 49) (A.1 50) (m : Int) 5 (s : Int) ns)) = p s + gsN A m ns s := by unfold gsN; omega
                have hc260 := c260 A σ3 k nm ns D hA hW_σ3 hR3 s (((((dg (tb k h) s : Nat) : Int) + amN (A.1 48) (A.1 49) (A.1 50) (m : Int) 5 (s : Int) ns) - ((dg (tb k h) s : Nat) : Int))) ((((dg (tb k h) s : Nat) : Int) + amN (A.1 48) (A.1 49) (A.1 50) (m : Int) 5 (s : Int) ns)) (by omega) (by omega) (by omega) (fun x => sumN s (fLN A p m ns x)) (fun x => sumN s (fMN A p m ns x)) 1134 (fun x hx => (h3 x hx).1) (fun x hx => (h3 x hx).2) (wi_sum hk6 (fun x hx s hs => (dsF_bd hDA hs16 (hp5 s (by omega)) (by omega) hx).1) s (by omega)) (wi_sum hk6 (fun x hx s hs => (dsF_bd hDA hs16 (hp5 s (by omega)) (by omega) hx).2) s (by omega)) (by omega)
                refine tt_cv4 4 rfl (wo_76 hW_σ3) hc260 ?_
                intro r0 σ4 hq0
                obtain ⟨rfl, hF4, hw1, hw2⟩ := hq0
                have hW7 := Fr.wd hF4 hW_σ3
                rw [ea] at hw1
                rw [eb] at hw2
                refine tt_iinc (y := ((s + 1 : Nat) : Int)) rfl (iinc_fit (by omega) (by omega) (by omega)) ?_
                refine tt_goto ?_
                refine tt_loc [(0, vR 76), (1, vI (((m : Nat) : Int))), (2, vI (((h : Nat) : Int))), (3, vI (((s + 1 : Nat) : Int)))] rfl rfl ⟨rfl, rfl, rfl, rfl, trivial⟩ ?_
                exact ih3 (s + 1) σ4 (by omega) (Fr.tr (Fr.tr Fr.rf hF_σ3 (by decide)) hF4 (by decide)) (by omega) (fun y hy => ⟨hw1 y hy, hw2 y hy⟩)
              · refine tt_ar rfl ?_
                refine tt_goto ?_
                refine tt_isub (by omega) (by omega) ?_
                refine tt_ar rfl ?_
                refine tt_ar rfl ?_
                refine tt_iadd (by omega) (by omega) ?_
                have hps := hp5 s (by omega)
                have hpd := hp0 s (by omega)
                have ea : (((((dg (tb k h) s : Nat) : Int) + amN (A.1 48) (A.1 49) (A.1 50) (m : Int) 5 (s : Int) ns) - amN (A.1 48) (A.1 49) (A.1 50) (m : Int) 4 (s : Int) ns)) = p s + gsN A m ns s - ilN A p m ns s := by unfold gsN ilN; split <;> omega
                have eb : ((((dg (tb k h) s : Nat) : Int) + amN (A.1 48) (A.1 49) (A.1 50) (m : Int) 5 (s : Int) ns)) = p s + gsN A m ns s := by unfold gsN; omega
                have hc260 := c260 A σ3 k nm ns D hA hW_σ3 hR3 s (((((dg (tb k h) s : Nat) : Int) + amN (A.1 48) (A.1 49) (A.1 50) (m : Int) 5 (s : Int) ns) - amN (A.1 48) (A.1 49) (A.1 50) (m : Int) 4 (s : Int) ns)) ((((dg (tb k h) s : Nat) : Int) + amN (A.1 48) (A.1 49) (A.1 50) (m : Int) 5 (s : Int) ns)) (by omega) (by omega) (by omega) (fun x => sumN s (fLN A p m ns x)) (fun x => sumN s (fMN A p m ns x)) 1134 (fun x hx => (h3 x hx).1) (fun x hx => (h3 x hx).2) (wi_sum hk6 (fun x hx s hs => (dsF_bd hDA hs16 (hp5 s (by omega)) (by omega) hx).1) s (by omega)) (wi_sum hk6 (fun x hx s hs => (dsF_bd hDA hs16 (hp5 s (by omega)) (by omega) hx).2) s (by omega)) (by omega)
                refine tt_cv4 4 rfl (wo_76 hW_σ3) hc260 ?_
                intro r0 σ4 hq0
                obtain ⟨rfl, hF4, hw1, hw2⟩ := hq0
                have hW8 := Fr.wd hF4 hW_σ3
                rw [ea] at hw1
                rw [eb] at hw2
                refine tt_iinc (y := ((s + 1 : Nat) : Int)) rfl (iinc_fit (by omega) (by omega) (by omega)) ?_
                refine tt_goto ?_
                refine tt_loc [(0, vR 76), (1, vI (((m : Nat) : Int))), (2, vI (((h : Nat) : Int))), (3, vI (((s + 1 : Nat) : Int)))] rfl rfl ⟨rfl, rfl, rfl, rfl, trivial⟩ ?_
                exact ih3 (s + 1) σ4 (by omega) (Fr.tr (Fr.tr Fr.rf hF_σ3 (by decide)) hF4 (by decide)) (by omega) (fun y hy => ⟨hw1 y hy, hw2 y hy⟩)
        refine tt_loc [(0, vR 76), (1, vI (((m : Nat) : Int))), (2, vI (((h : Nat) : Int))), (3, vI (((0 : Nat) : Int)))] rfl rfl ⟨rfl, rfl, rfl, lv_to rfl (by omega), trivial⟩ ?_
        exact lp3_2 _ (0) σ1 (Nat.lt_succ_self _) (Fr.tr Fr.rf hF_σ1 (by decide)) (by omega) (fun y hy => hz1 y (by omega))
      · refine tt_ar rfl ?_
        refine tt_getR (wo_76 hW_σ1) rfl (wr_76_45 hW_σ1) ?_
        refine tt_ar rfl ?_
        refine tt_ar rfl ?_
        refine tt_iast (x) (wa_105 hW_σ1) (by omega) rfl (by omega) ?_
        refine tt_ar rfl ?_
        refine tt_getR (wo_76 hW_σ1) rfl (wr_76_46 hW_σ1) ?_
        refine tt_ar rfl ?_
        refine tt_ar rfl ?_
        refine tt_iast (x) (wa_106 hW_σ1) (by omega) rfl (by omega) ?_
        refine tt_iinc (y := ((x + 1 : Nat) : Int)) rfl (iinc_fit (by omega) (by omega) (by omega)) ?_
        refine tt_goto ?_
        refine tt_loc [(0, vR 76), (1, vI (((m : Nat) : Int))), (2, vI (((h : Nat) : Int))), (3, vI (((x + 1 : Nat) : Int)))] rfl rfl ⟨rfl, rfl, rfl, rfl, trivial⟩ ?_
        exact ih1 (x + 1) _ (by omega) (Fr.put (Fr.put (Fr.tr Fr.rf hF_σ1 (by decide)) (by decide)) (by decide)) (by omega) (fun y hy => by rw [am_set_nb (show (105 : Nat) ≠ 106 by decide), am_set_at, am_set_at]; by_cases e : y = x; (rw [if_pos e, if_pos e]; exact ⟨rfl, rfl⟩); (rw [if_neg e, if_neg e, am_set_nb (show (106 : Nat) ≠ 105 by decide)]; exact hz1 y (by omega)))
  refine tt_loc [(0, vR 76), (1, vI (((m : Nat) : Int))), (2, vI (((h : Nat) : Int))), (3, vI (((0 : Nat) : Int)))] rfl rfl ⟨rfl, rfl, rfl, lv_to rfl (by omega), trivial⟩ ?_
  exact lp1_1 _ (0) σ (Nat.lt_succ_self _) Fr.rf (by omega) (fun y hy => absurd hy (Nat.not_lt_zero y))

