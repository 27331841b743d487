/-! THE REFERENCE'S CALLS: JUDGE, DOUBTS, LEAST (2) -/
theorem jd_no {A : am_S} {k n m : Nat} (h : toS (A.1 6) (A.1 48) (A.1 49) (A.1 50) n (m + 1) = none) : jdN A k n m = some (-9) := by
  unfold jdN
  rw [h]
theorem jd_bad {A : am_S} {k n m x : Nat} {p : Nat → Int} (h : toS (A.1 6) (A.1 48) (A.1 49) (A.1 50) n (m + 1) = some p) (hx : x < 8) (hb : badN A k p m n x = true) (h0 : ∀ y, y < x → badN A k p m n y = false) : jdN A k n m = some (x : Int) := by
  unfold jdN
  rw [h]
  show (if fstN (badN A k p m n) 8 < 8 then some (fstN (badN A k p m n) 8 : Int) else none) = _
  rw [fstN_eq hb h0 hx, if_pos hx]
theorem jd_good {A : am_S} {k n m : Nat} {p : Nat → Int} (h : toS (A.1 6) (A.1 48) (A.1 49) (A.1 50) n (m + 1) = some p) (h0 : ∀ y, y < 8 → badN A k p m n y = false) : jdN A k n m = none := by
  unfold jdN
  rw [h]
  show (if fstN (badN A k p m n) 8 < 8 then some (fstN (badN A k p m n) 8 : Int) else none) = _
  rw [fstN_none h0, if_neg (by omega)]
theorem db1_eq {A : am_S} {h m x : Nat} : cDb1 A h m x = dm (loF A (A.1 28 m) x (h : Int) - A.1 30 (m * 8 + x)) + dm (A.1 30 (m * 8 + x) - A.1 26 (h * 8 + x)) := rfl
theorem ld_s {db all : Nat → Int} {j : Nat} : ldN db all (j + 1) = if db (j + 1) < (ldN db all j).2 ∨ (db (j + 1) = (ldN db all j).2 ∧ all (j + 1) < all (ldN db all j).1) then (j + 1, db (j + 1)) else ldN db all j := rfl
theorem c257 (A σ : am_S) (k nm ns : Nat) (D : Nat → Nat → Int) (hA : CI k nm ns D A) (hW : Wd σ) (hR : RRb k nm ns D A σ) : CC 257 [vR 76] σ (fun r σ' => PMd A σ (x_judge k nm ns A ) r σ') := by
  show TT am_b257 (am_b257.getD 0 []) [(0, vR 76)] [] σ _
  have hk5 := hR.aa.1
  have hl27 := hR.aa.2.1
  have hs47 := hR.aa.2.2
  have hk6 := hA.x.1.2.1
  have hm12 := hA.x.2.2.1.2.1
  have hs16 := hA.st.2
  have hDA := hA.x.1
  have hHT := hA.x.2.1
  have hLA := hA.x.2.2.1
  have hHB := HB_of hDA hHT
  have hnb := nkT_bd k
  refine tt_ar rfl ?_
  refine tt_ar rfl ?_
  refine tt_nop ?_
  have lp1_1 : ∀ (μ : Nat) (m : Nat) (σ1 : am_S), nm - m < μ → Fr [105, 106] σ σ1 → (m ≤ nm) → (∀ j, j < m → jdN A k ns j = none) → TT am_b257 (am_b257.getD 1 []) [(0, vR 76), (1, vI (((m : Nat) : Int)))] [] σ1 (fun r σ' => PMd A σ (x_judge k nm ns A ) r σ') := by
    intro μ
    induction μ with
    | zero => intro m σ1 hμ; exact absurd hμ (Nat.not_lt_zero _)
    | succ μ ih1 =>
      intro m σ1 hμ hF_σ1 hm hJ
      have hW_σ1 := Fr.wd hF_σ1 hW
      have hR1 := hR.fr hF_σ1 (by decide)
      refine tt_ar rfl ?_
      refine tt_ar rfl ?_
      refine tt_getI (x := ((nm : Nat) : Int)) (wo_76 hW_σ1) rfl ((hF_σ1.2 76 (by decide) (25)).trans hR.ln.1) ?_
      refine tt_icge (fun h1_3 => ?_) (fun h1_3 => ?_)
      · refine tt_ar rfl ?_
        refine tt_iret ?_
        have em : m = nm := by omega
        rw [em] at hJ
        have ef : jfN k nm ns A = nm := fstN_none (fun t ht => by rw [hJ t ht]; rfl)
        exact pm_same hR1 (show x_judge k nm ns A = (vI (-9), A) by unfold x_judge; rw [if_neg (by omega)]) (QR.of hF_σ1 (by decide))
      · refine tt_ar rfl ?_
        refine tt_ar rfl ?_
        refine tt_cv2 2 rfl (wo_76 hW_σ1) (c255 A σ1 k nm ns D hA hW_σ1 hR1 m (by omega)) (kex fun z1 => kand fun hz1 => ks ?_)
        · refine tt_ar rfl ?_
          refine tt_ar rfl ?_
          refine tt_ifge (fun h1_9 => ?_) (fun h1_9 => ?_)
          · obtain ⟨hn, hhn, bhn, p0, hop, hp0⟩ := hz1.yes (by omega)
            refine tt_loc [(0, vR 76), (1, vI (((m : Nat) : Int))), (2, vI (((hn : Nat) : Int)))] rfl rfl ⟨rfl, rfl, lv_to rfl hhn, trivial⟩ ?_
            refine tt_ar rfl ?_
            refine tt_ar rfl ?_
            refine tt_ar rfl ?_
            refine tt_cv3 3 rfl (wo_76 hW_σ1) (c258 A σ1 k nm ns D hA hW_σ1 hR1 m hn p0 (by omega) bhn hp0) ?_
            intro r0 σ2 hq0
            obtain ⟨rfl, hF2, hgl, hgm⟩ := hq0
            have hW2 := Fr.wd hF2 hW_σ1
            have hR2 := hR1.fr hF2 (by decide)
            refine tt_ar rfl ?_
            refine tt_ar rfl ?_
            refine tt_nop ?_
            have lp3_3 : ∀ (μ : Nat) (x : Nat), 8 - x < μ → (x ≤ 8) → (∀ y, y < x → badN A k p0 m ns y = false) → TT am_b257 (am_b257.getD 3 []) [(0, vR 76), (1, vI (((m : Nat) : Int))), (3, vI (((x : Nat) : Int)))] [] σ2 (fun r σ' => PMd A σ (x_judge k nm ns A ) r σ') := by
              intro μ
              induction μ with
              | zero => intro x hμ; exact absurd hμ (Nat.not_lt_zero _)
              | succ μ ih3 =>
                intro x hμ hx8 hB
                refine tt_ar rfl ?_
                refine tt_ar rfl ?_
                refine tt_icge (fun h3_2 => ?_) (fun h3_2 => ?_)
                · refine tt_iinc (y := ((m + 1 : Nat) : Int)) rfl (iinc_fit (by omega) (by omega) (by omega)) ?_
                  refine tt_goto ?_
                  refine tt_loc [(0, vR 76), (1, vI (((m + 1 : Nat) : Int)))] rfl rfl ⟨rfl, rfl, trivial⟩ ?_
                  exact ih1 (m + 1) σ2 (by omega) (Fr.tr (Fr.tr Fr.rf hF_σ1 (by decide)) hF2 (by decide)) (by omega) (fun j hj => by by_cases e : j = m; (rw [e]; exact jd_good hop (fun y hy => hB y (by omega))); exact hJ j (by omega))
                · refine tt_ar rfl ?_
                  refine tt_ar rfl ?_
                  refine tt_ar rfl ?_
                  refine tt_ar rfl ?_
                  refine tt_getR (wo_76 hW2) rfl (wr_76_45 hW2) ?_
                  refine tt_ar rfl ?_
                  refine tt_iald (x) (x := hgL A k p0 m ns x) (wa_105 hW2) rfl (by omega) (hgl x (by omega)) ?_
                  refine tt_ar rfl ?_
                  refine tt_getR (wo_76 hW2) rfl (wr_76_46 hW2) ?_
                  refine tt_ar rfl ?_
                  refine tt_iald (x) (x := hgM A k p0 m ns x) (wa_106 hW2) rfl (by omega) (hgm x (by omega)) ?_
                  refine tt_cv5 5 rfl (wo_76 hW2) (c221 A σ2 k nm ns D hA hW2 hR2 m x _ _ (by omega) (by omega)) (kb (fun h3_14 => ?_) (fun h3_14 => ?_))
                  · have hwn := h3_14
                    refine tt_ifneT (by decide) ?_
                    refine tt_iinc (y := ((x + 1 : Nat) : Int)) rfl (iinc_fit (by omega) (by omega) (by omega)) ?_
                    refine tt_goto ?_
                    refine tt_loc [(0, vR 76), (1, vI (((m : Nat) : Int))), (3, vI (((x + 1 : Nat) : Int)))] rfl rfl ⟨rfl, rfl, rfl, trivial⟩ ?_
                    exact ih3 (x + 1) (by omega) (by omega) (fun y hy => by by_cases e : y = x; (rw [e]; exact decide_eq_false (fun q => by have := hwn.1; have := hwn.2; omega)); exact hB y (by omega))
                  · have hwn := h3_14
                    refine tt_ifneF (by decide) ?_
                    refine tt_ar rfl ?_
                    refine tt_ar rfl ?_
                    refine tt_ar rfl ?_
                    refine tt_cv3 3 rfl (wo_76 hW2) (c183 σ2 _ _ hW2) (ks ?_)
                    refine tt_iret ?_
                    have hjn := jd_bad (k := k) hop (show x < 8 by omega) (decide_eq_true (by by_cases q : A.1 30 (m * 8 + x) - A.1 29 m > hgM A k p0 m ns x; (exact Or.inl q); (refine Or.inr ?_; have : ¬ (hgL A k p0 m ns x ≤ A.1 30 (m * 8 + x) + A.1 29 m) := (fun w => hwn ⟨by omega, w⟩); omega))) hB
                    have ef : jfN k nm ns A = m := fstN_eq (by rw [hjn]; rfl) (fun t ht => by rw [hJ t ht]; rfl) (by omega)
                    exact pm_ak (M := A) hR2 (show x_judge k nm ns A = (vI (m : Int), upA ((x : Nat) : Int) A) by unfold x_judge; rw [ef, if_pos (by omega), hjn]; rfl) (QR.of (Fr.tr hF_σ1 hF2 (by decide)) (by decide))
            refine tt_loc [(0, vR 76), (1, vI (((m : Nat) : Int))), (3, vI (((0 : Nat) : Int)))] rfl rfl ⟨rfl, rfl, lv_to rfl (by omega), trivial⟩ ?_
            exact lp3_3 _ (0) (Nat.lt_succ_self _) (by omega) (fun y hy => absurd hy (Nat.not_lt_zero y))
          · refine tt_ar rfl ?_
            refine tt_ar rfl ?_
            refine tt_ar rfl ?_
            refine tt_cv3 3 rfl (wo_76 hW_σ1) (c183 σ1 _ _ hW_σ1) (ks ?_)
            refine tt_iret ?_
            have hjn := jd_no (k := k) (hz1.not (by omega))
            have ef : jfN k nm ns A = m := fstN_eq (by rw [hjn]; rfl) (fun t ht => by rw [hJ t ht]; rfl) (by omega)
            exact pm_ak (M := A) hR1 (show x_judge k nm ns A = (vI (m : Int), upA (-9) A) by unfold x_judge; rw [ef, if_pos (by omega), hjn]; rfl) (QR.of hF_σ1 (by decide))
  refine tt_loc [(0, vR 76), (1, vI (((0 : Nat) : Int)))] rfl rfl ⟨rfl, lv_to rfl (by omega), trivial⟩ ?_
  exact lp1_1 _ (0) σ (Nat.lt_succ_self _) Fr.rf (by omega) (fun j hj => absurd hj (Nat.not_lt_zero j))

theorem c263 (A σ : am_S) (k nm ns : Nat) (D : Nat → Nat → Int) (hA : CI k nm ns D A) (hW : Wd σ) (hR : RRb k nm ns D A σ) (h : Nat) (hh : h < nkT k) : CC 263 [vR 76, vI (((h : Nat) : Int))] σ (fun r σ' => r = some (vI (cDb A nm h)) ∧ σ' = σ) := by
  show TT am_b263 (am_b263.getD 0 []) [(0, vR 76), (1, vI (((h : Nat) : Int)))] [] σ _
  have hk5 := hR.aa.1
  have hl27 := hR.aa.2.1
  have hs47 := hR.aa.2.2
  have hk6 := hA.x.1.2.1
  have hm12 := hA.x.2.2.1.2.1
  have hs16 := hA.st.2
  have hDA := hA.x.1
  have hHT := hA.x.2.1
  have hLA := hA.x.2.2.1
  have hHB := HB_of hDA hHT
  have hnb := nkT_bd k
  refine tt_ar rfl ?_
  refine tt_ar rfl ?_
  refine tt_ar rfl ?_
  refine tt_ar rfl ?_
  refine tt_nop ?_
  have lp1_1 : ∀ (μ : Nat) (m : Nat), nm - m < μ → (m ≤ nm) → TT am_b263 (am_b263.getD 1 []) [(0, vR 76), (1, vI (((h : Nat) : Int))), (2, vI (sumN m (fun m => sumN 8 (cDb1 A h m)))), (3, vI (((m : Nat) : Int)))] [] σ (fun r σ' => r = some (vI (cDb A nm h)) ∧ σ' = σ) := by
    intro μ
    induction μ with
    | zero => intro m hμ; exact absurd hμ (Nat.not_lt_zero _)
    | succ μ ih1 =>
      intro m hμ hm
      have hdb := cDb_bd hLA hHB hh (show m ≤ 12 by omega)
      unfold cDb at hdb
      refine tt_ar rfl ?_
      refine tt_ar rfl ?_
      refine tt_getI (x := ((nm : Nat) : Int)) (wo_76 hW) rfl hR.ln.1 ?_
      refine tt_icge (fun h1_3 => ?_) (fun h1_3 => ?_)
      · refine tt_ar rfl ?_
        refine tt_iret ?_
        have em : m = nm := by omega
        subst em
        exact ⟨rfl, rfl⟩
      · refine tt_ar rfl ?_
        refine tt_ar rfl ?_
        refine tt_nop ?_
        have lp2_2 : ∀ (μ : Nat) (x : Nat), 8 - x < μ → (x ≤ 8) → TT am_b263 (am_b263.getD 2 []) [(0, vR 76), (1, vI (((h : Nat) : Int))), (2, vI ((sumN m (fun m => sumN 8 (cDb1 A h m)) + sumN x (cDb1 A h m)))), (3, vI (((m : Nat) : Int))), (4, vI (((x : Nat) : Int)))] [] σ (fun r σ' => r = some (vI (cDb A nm h)) ∧ σ' = σ) := by
          intro μ
          induction μ with
          | zero => intro x hμ; exact absurd hμ (Nat.not_lt_zero _)
          | succ μ ih2 =>
            intro x hμ hx8
            have hrw := cDb_row hLA hHB hh (show m < 12 by omega) hx8
            refine tt_ar rfl ?_
            refine tt_ar rfl ?_
            refine tt_icge (fun h2_2 => ?_) (fun h2_2 => ?_)
            · refine tt_iinc (y := ((m + 1 : Nat) : Int)) rfl (iinc_fit (by omega) (by omega) (by omega)) ?_
              refine tt_goto ?_
              refine tt_loc [(0, vR 76), (1, vI (((h : Nat) : Int))), (2, vI (sumN (m + 1) (fun m => sumN 8 (cDb1 A h m)))), (3, vI (((m + 1 : Nat) : Int)))] rfl rfl ⟨rfl, rfl, lv_to rfl (by rw [show x = 8 by omega]; rfl), rfl, trivial⟩ ?_
              exact ih1 (m + 1) (by omega) (by omega)
            · have hd1 := cDb1_bd hLA hHB hh (show m < 12 by omega) (show x < 8 by omega)
              have hlb9 := hLA.2.2.1 m (by omega)
              have hlh := hLA.2.2.2 (m * 8 + x) (by omega)
              have e2 : lnD A m (2 + x) = A.1 30 (m * 8 + x) := by unfold lnD; rw [if_neg (by omega), if_neg (by omega), show m * 8 + (2 + x) - 2 = m * 8 + x by omega]
              have e0 : lnD A m 0 = A.1 28 m := rfl
              refine tt_ar rfl ?_
              refine tt_ar rfl ?_
              refine tt_ar rfl ?_
              refine tt_ar rfl ?_
              refine tt_iadd (by omega) (by omega) ?_
              refine tt_cv3 3 rfl (wo_76 hW) (c210 A σ k nm ns D hA hW hR m ((2 + x)) (by omega) (by omega)) (kp ?_)
              refine tt_ar rfl ?_
              refine tt_ar rfl ?_
              refine tt_ar rfl ?_
              refine tt_ar rfl ?_
              refine tt_ar rfl ?_
              refine tt_ar rfl ?_
              refine tt_cv3 3 rfl (wo_76 hW) (c210 A σ k nm ns D hA hW hR m 0 (by omega) (by omega)) (kp ?_)
              refine tt_ar rfl ?_
              have hlo := lo_bd (w := lnD A m 0) (x := x) (h := h) hHB (by omega) (by omega)
              refine tt_cv4 4 rfl (wo_76 hW) (c216 A σ k nm ns D hA hW hR h x (lnD A m 0) (by omega) (by omega)) (kp ?_)
              refine tt_ar rfl ?_
              refine tt_isub (by omega) (by omega) ?_
              refine tt_ar rfl ?_
              refine tt_ar rfl ?_
              refine tt_ar rfl ?_
              refine tt_ar rfl ?_
              refine tt_getR (wo_76 hW) rfl (wr_76_14 hW) ?_
              refine tt_ar rfl ?_
              refine tt_ar rfl ?_
              have hhb := hHB.2.2.2.1 (h * 8 + x) (by omega)
              refine tt_cv4 4 rfl (wo_76 hW) (c215_85 A σ k nm ns D hA hW hR h x (by omega) (by omega)) (kp ?_)
              refine tt_isub (by omega) (by omega) ?_
              refine tt_ar rfl ?_
              refine tt_ar rfl ?_
              refine tt_ar rfl ?_
              refine tt_ar rfl ?_
              have hgd34 := dm_bd ((loF A (lnD A m 0) x ((h : Nat) : Int) - lnD A m ((2 + x))))
              refine tt_cs2 2 rfl (c226 _ (0) ((loF A (lnD A m 0) x ((h : Nat) : Int) - lnD A m ((2 + x))))) (kp ?_)
              refine tt_ar rfl ?_
              refine tt_ar rfl ?_
              have hgd37 := dm_bd ((lnD A m ((2 + x)) - A.1 26 (h * 8 + x)))
              refine tt_cs2 2 rfl (c226 _ (0) ((lnD A m ((2 + x)) - A.1 26 (h * 8 + x)))) (kp ?_)
              refine tt_iadd (by omega) (by omega) ?_
              refine tt_iadd (by omega) (by omega) ?_
              refine tt_ar rfl ?_
              refine tt_iinc (y := ((x + 1 : Nat) : Int)) rfl (iinc_fit (by omega) (by omega) (by omega)) ?_
              refine tt_goto ?_
              refine tt_loc [(0, vR 76), (1, vI (((h : Nat) : Int))), (2, vI ((sumN m (fun m => sumN 8 (cDb1 A h m)) + sumN (x + 1) (cDb1 A h m)))), (3, vI (((m : Nat) : Int))), (4, vI (((x + 1 : Nat) : Int)))] rfl rfl ⟨rfl, rfl, lv_to rfl (by rw [show sumN (x + 1) (cDb1 A h m) = sumN x (cDb1 A h m) + cDb1 A h m x from rfl, db1_eq, ← e2, ← e0, Int.add_assoc]; rfl), rfl, rfl, trivial⟩ ?_
              exact ih2 (x + 1) (by omega) (by omega)
        refine tt_loc [(0, vR 76), (1, vI (((h : Nat) : Int))), (2, vI ((sumN m (fun m => sumN 8 (cDb1 A h m)) + sumN 0 (cDb1 A h m)))), (3, vI (((m : Nat) : Int))), (4, vI (((0 : Nat) : Int)))] rfl rfl ⟨rfl, rfl, lv_to rfl (Int.add_zero _).symm, rfl, lv_to rfl (by omega), trivial⟩ ?_
        exact lp2_2 _ (0) (Nat.lt_succ_self _) (by omega)
  refine tt_loc [(0, vR 76), (1, vI (((h : Nat) : Int))), (2, vI (sumN 0 (fun m => sumN 8 (cDb1 A h m)))), (3, vI (((0 : Nat) : Int)))] rfl rfl ⟨rfl, rfl, lv_to rfl rfl, lv_to rfl (by omega), trivial⟩ ?_
  exact lp1_1 _ (0) (Nat.lt_succ_self _) (by omega)

theorem c262 (A σ : am_S) (k nm ns : Nat) (D : Nat → Nat → Int) (hA : CI k nm ns D A) (hW : Wd σ) (hR : RRb k nm ns D A σ) (u : Int) : CC 262 [vR 76, vI (u)] σ (fun r σ' => PMd A σ (x_doubts k nm A u) r σ') := by
  show TT am_b262 (am_b262.getD 0 []) [(0, vR 76), (1, vI (u))] [] σ _
  have hk5 := hR.aa.1
  have hl27 := hR.aa.2.1
  have hs47 := hR.aa.2.2
  have hk6 := hA.x.1.2.1
  have hm12 := hA.x.2.2.1.2.1
  have hs16 := hA.st.2
  have hDA := hA.x.1
  have hHT := hA.x.2.1
  have hLA := hA.x.2.2.1
  have hHB := HB_of hDA hHT
  have hnb := nkT_bd k
  refine tt_ar rfl ?_
  refine tt_ar rfl ?_
  have hpl_u := plR_c k u
  refine tt_cv2 2 rfl (wo_76 hW) (c214 A σ k nm ns D hA hW hR (u)) (kp ?_)
  refine tt_ar rfl ?_
  refine tt_ar rfl ?_
  refine tt_ifge (fun h0_5 => ?_) (fun h0_5 => ?_)
  · obtain ⟨hn, hhn⟩ : ∃ hn : Nat, ix k u = (hn : Int) := ⟨_, (Int.toNat_of_nonneg (by omega)).symm⟩
    have bhn : hn < nkT k := by have := ix_bd hk6 u; omega
    refine tt_loc [(0, vR 76), (2, vI (((hn : Nat) : Int)))] rfl rfl ⟨rfl, lv_to rfl (by omega), trivial⟩ ?_
    refine tt_ar rfl ?_
    refine tt_ar rfl ?_
    refine tt_cv2 2 rfl (wo_76 hW) (c263 A σ k nm ns D hA hW hR hn (by omega)) (kp ?_)
    refine tt_nop ?_
    refine tt_iret ?_
    exact pm_any (M := A) hR (show x_doubts k nm A u = (vI (cDb A nm hn), A) by unfold x_doubts; (try simp only [Int.toNat_natCast, hhn]); (repeat (first | rw [if_pos (by omega)] | rw [if_neg (by omega)])); (first | done | rfl)) QR.rf
  · refine tt_ar rfl ?_
    refine tt_goto ?_
    refine tt_iret ?_
    exact pm_any (M := A) hR (show x_doubts k nm A u = (vI (-1), A) by unfold x_doubts; (try simp only [Int.toNat_natCast, hk5]); (repeat (first | rw [if_pos (by omega)] | rw [if_neg (by omega)])); (first | done | rfl)) QR.rf

theorem c264 (A σ : am_S) (k nm ns : Nat) (D : Nat → Nat → Int) (hA : CI k nm ns D A) (hW : Wd σ) (hR : RRb k nm ns D A σ) : CC 264 [vR 76] σ (fun r σ' => PMd A σ (x_least k nm A ) r σ') := by
  show TT am_b264 (am_b264.getD 0 []) [(0, vR 76)] [] σ _
  have hk5 := hR.aa.1
  have hl27 := hR.aa.2.1
  have hs47 := hR.aa.2.2
  have hk6 := hA.x.1.2.1
  have hm12 := hA.x.2.2.1.2.1
  have hs16 := hA.st.2
  have hDA := hA.x.1
  have hHT := hA.x.2.1
  have hLA := hA.x.2.2.1
  have hHB := HB_of hDA hHT
  have hnb := nkT_bd k
  have hn20 : ∀ j, j < nkT k → A.1 20 j = ((dsN 6 (tb k j) : Nat) : Int) := fun j hj => (hHT.2.1 j hj).2.1
  refine tt_ar rfl ?_
  refine tt_ar rfl ?_
  refine tt_ar rfl ?_
  refine tt_ar rfl ?_
  refine tt_cv2 2 rfl (wo_76 hW) (c263 A σ k nm ns D hA hW hR 0 (by omega)) (kp ?_)
  refine tt_ar rfl ?_
  refine tt_ar rfl ?_
  refine tt_ar rfl ?_
  refine tt_nop ?_
  have lp1_1 : ∀ (μ : Nat) (y : Nat), nkT k - y < μ → (y + 1 ≤ nkT k) → TT am_b264 (am_b264.getD 1 []) [(0, vR 76), (1, vI (((((ldN (cDb A nm) (A.1 20) y).1) : Nat) : Int))), (2, vI ((ldN (cDb A nm) (A.1 20) y).2)), (3, vI (((y + 1 : Nat) : Int)))] [] σ (fun r σ' => PMd A σ (x_least k nm A ) r σ') := by
    intro μ
    induction μ with
    | zero => intro y hμ; exact absurd hμ (Nat.not_lt_zero _)
    | succ μ ih1 =>
      intro y hμ hy
      have hld := ldN_bd (db := cDb A nm) (all := A.1 20) y
      refine tt_ar rfl ?_
      refine tt_ar rfl ?_
      refine tt_getI (x := ((nkT k : Nat) : Int)) (wo_76 hW) rfl hR.hs.1 ?_
      refine tt_icge (fun h1_3 => ?_) (fun h1_3 => ?_)
      · refine tt_ar rfl ?_
        refine tt_ar rfl ?_
        refine tt_ar rfl ?_
        refine tt_getR (wo_76 hW) rfl (wr_76_28 hW) ?_
        refine tt_ar rfl ?_
        refine tt_iald ((ldN (cDb A nm) (A.1 20) y).1) (x := ((tb k ((ldN (cDb A nm) (A.1 20) y).1) : Nat) : Int)) (wa_92 hW) (by omega) (by omega) (hR.hs.2 ((ldN (cDb A nm) (A.1 20) y).1) (by omega)).1 ?_
        refine tt_cv3 3 rfl (wo_76 hW) (c183 σ _ _ hW) (ks ?_)
        refine tt_iret ?_
        have ey : y = nkT k - 1 := by omega
        exact pm_ak (M := A) hR (show x_least k nm A = (_, upA _ A) by unfold x_least; rw [← ey, ← hld.2]) QR.rf
      · refine tt_ar rfl ?_
        refine tt_ar rfl ?_
        refine tt_cv2 2 rfl (wo_76 hW) (c263 A σ k nm ns D hA hW hR (y + 1) (by omega)) (kp ?_)
        refine tt_ar rfl ?_
        refine tt_ar rfl ?_
        refine tt_ar rfl ?_
        refine tt_iclt (fun h1_10 => ?_) (fun h1_10 => ?_)
        · refine tt_ar rfl ?_
          refine tt_ar rfl ?_
          refine tt_ar rfl ?_
          refine tt_ar rfl ?_
          refine tt_nop ?_
          refine tt_iinc (y := ((y + 1 + 1 : Nat) : Int)) rfl (iinc_fit (by omega) (by omega) (by omega)) ?_
          refine tt_goto ?_
          refine tt_loc [(0, vR 76), (1, vI (((((ldN (cDb A nm) (A.1 20) (y + 1)).1) : Nat) : Int))), (2, vI ((ldN (cDb A nm) (A.1 20) (y + 1)).2)), (3, vI ((((y + 1) + 1 : Nat) : Int)))] rfl rfl ⟨rfl, lv_to rfl (by rw [ld_s]; first | (rw [if_pos (by first | exact Or.inl (by omega) | (refine Or.inr ⟨by omega, ?_⟩; rw [hn20 _ (by omega), hn20 _ (by omega)]; omega))]) | (rw [if_neg (fun q => by rcases q with q | ⟨q, q2⟩; omega; omega)]) | (rw [if_neg (fun q => by rcases q with q | ⟨q, q2⟩; omega; (rw [hn20 _ (by omega), hn20 _ (by omega)] at q2; omega))])), lv_to rfl (by rw [ld_s]; first | (rw [if_pos (by first | exact Or.inl (by omega) | (refine Or.inr ⟨by omega, ?_⟩; rw [hn20 _ (by omega), hn20 _ (by omega)]; omega))]) | (rw [if_neg (fun q => by rcases q with q | ⟨q, q2⟩; omega; omega)]) | (rw [if_neg (fun q => by rcases q with q | ⟨q, q2⟩; omega; (rw [hn20 _ (by omega), hn20 _ (by omega)] at q2; omega))])), lv_to rfl (by omega), trivial⟩ ?_
          exact ih1 (y + 1) (by omega) (by omega)
        · refine tt_ar rfl ?_
          refine tt_ar rfl ?_
          refine tt_icne (fun h1_13 => ?_) (fun h1_13 => ?_)
          · refine tt_iinc (y := ((y + 1 + 1 : Nat) : Int)) rfl (iinc_fit (by omega) (by omega) (by omega)) ?_
            refine tt_goto ?_
            refine tt_loc [(0, vR 76), (1, vI (((((ldN (cDb A nm) (A.1 20) (y + 1)).1) : Nat) : Int))), (2, vI ((ldN (cDb A nm) (A.1 20) (y + 1)).2)), (3, vI ((((y + 1) + 1 : Nat) : Int)))] rfl rfl ⟨rfl, lv_to rfl (by rw [ld_s]; first | (rw [if_pos (by first | exact Or.inl (by omega) | (refine Or.inr ⟨by omega, ?_⟩; rw [hn20 _ (by omega), hn20 _ (by omega)]; omega))]) | (rw [if_neg (fun q => by rcases q with q | ⟨q, q2⟩; omega; omega)]) | (rw [if_neg (fun q => by rcases q with q | ⟨q, q2⟩; omega; (rw [hn20 _ (by omega), hn20 _ (by omega)] at q2; omega))])), lv_to rfl (by rw [ld_s]; first | (rw [if_pos (by first | exact Or.inl (by omega) | (refine Or.inr ⟨by omega, ?_⟩; rw [hn20 _ (by omega), hn20 _ (by omega)]; omega))]) | (rw [if_neg (fun q => by rcases q with q | ⟨q, q2⟩; omega; omega)]) | (rw [if_neg (fun q => by rcases q with q | ⟨q, q2⟩; omega; (rw [hn20 _ (by omega), hn20 _ (by omega)] at q2; omega))])), lv_to rfl (by omega), trivial⟩ ?_
            exact ih1 (y + 1) (by omega) (by omega)
          · refine tt_ar rfl ?_
            refine tt_ar rfl ?_
            have hds := (en_at hk6 (show y + 1 < nkT k by omega)).2.1
            refine tt_cv2 2 rfl (wo_76 hW) (c224 A σ k nm ns D hA hW hR (y + 1) (by omega)) (kp ?_)
            refine tt_ar rfl ?_
            refine tt_ar rfl ?_
            have hds := (en_at hk6 (show (ldN (cDb A nm) (A.1 20) y).1 < nkT k by omega)).2.1
            refine tt_cv2 2 rfl (wo_76 hW) (c224 A σ k nm ns D hA hW hR ((ldN (cDb A nm) (A.1 20) y).1) (by omega)) (kp ?_)
            refine tt_icge (fun h1_20 => ?_) (fun h1_20 => ?_)
            · refine tt_iinc (y := ((y + 1 + 1 : Nat) : Int)) rfl (iinc_fit (by omega) (by omega) (by omega)) ?_
              refine tt_goto ?_
              refine tt_loc [(0, vR 76), (1, vI (((((ldN (cDb A nm) (A.1 20) (y + 1)).1) : Nat) : Int))), (2, vI ((ldN (cDb A nm) (A.1 20) (y + 1)).2)), (3, vI ((((y + 1) + 1 : Nat) : Int)))] rfl rfl ⟨rfl, lv_to rfl (by rw [ld_s]; first | (rw [if_pos (by first | exact Or.inl (by omega) | (refine Or.inr ⟨by omega, ?_⟩; rw [hn20 _ (by omega), hn20 _ (by omega)]; omega))]) | (rw [if_neg (fun q => by rcases q with q | ⟨q, q2⟩; omega; omega)]) | (rw [if_neg (fun q => by rcases q with q | ⟨q, q2⟩; omega; (rw [hn20 _ (by omega), hn20 _ (by omega)] at q2; omega))])), lv_to rfl (by rw [ld_s]; first | (rw [if_pos (by first | exact Or.inl (by omega) | (refine Or.inr ⟨by omega, ?_⟩; rw [hn20 _ (by omega), hn20 _ (by omega)]; omega))]) | (rw [if_neg (fun q => by rcases q with q | ⟨q, q2⟩; omega; omega)]) | (rw [if_neg (fun q => by rcases q with q | ⟨q, q2⟩; omega; (rw [hn20 _ (by omega), hn20 _ (by omega)] at q2; omega))])), lv_to rfl (by omega), trivial⟩ ?_
              exact ih1 (y + 1) (by omega) (by omega)
            · refine tt_nop ?_
              refine tt_ar rfl ?_
              refine tt_ar rfl ?_
              refine tt_ar rfl ?_
              refine tt_ar rfl ?_
              refine tt_nop ?_
              refine tt_iinc (y := ((y + 1 + 1 : Nat) : Int)) rfl (iinc_fit (by omega) (by omega) (by omega)) ?_
              refine tt_goto ?_
              refine tt_loc [(0, vR 76), (1, vI (((((ldN (cDb A nm) (A.1 20) (y + 1)).1) : Nat) : Int))), (2, vI ((ldN (cDb A nm) (A.1 20) (y + 1)).2)), (3, vI ((((y + 1) + 1 : Nat) : Int)))] rfl rfl ⟨rfl, lv_to rfl (by rw [ld_s]; first | (rw [if_pos (by first | exact Or.inl (by omega) | (refine Or.inr ⟨by omega, ?_⟩; rw [hn20 _ (by omega), hn20 _ (by omega)]; omega))]) | (rw [if_neg (fun q => by rcases q with q | ⟨q, q2⟩; omega; omega)]) | (rw [if_neg (fun q => by rcases q with q | ⟨q, q2⟩; omega; (rw [hn20 _ (by omega), hn20 _ (by omega)] at q2; omega))])), lv_to rfl (by rw [ld_s]; first | (rw [if_pos (by first | exact Or.inl (by omega) | (refine Or.inr ⟨by omega, ?_⟩; rw [hn20 _ (by omega), hn20 _ (by omega)]; omega))]) | (rw [if_neg (fun q => by rcases q with q | ⟨q, q2⟩; omega; omega)]) | (rw [if_neg (fun q => by rcases q with q | ⟨q, q2⟩; omega; (rw [hn20 _ (by omega), hn20 _ (by omega)] at q2; omega))])), lv_to rfl (by omega), trivial⟩ ?_
              exact ih1 (y + 1) (by omega) (by omega)
  refine tt_loc [(0, vR 76), (1, vI (((((ldN (cDb A nm) (A.1 20) 0).1) : Nat) : Int))), (2, vI ((ldN (cDb A nm) (A.1 20) 0).2)), (3, vI (((0 + 1 : Nat) : Int)))] rfl rfl ⟨rfl, lv_to rfl rfl, lv_to rfl rfl, lv_to rfl rfl, trivial⟩ ?_
  exact lp1_1 _ (0) (Nat.lt_succ_self _) (by omega)

