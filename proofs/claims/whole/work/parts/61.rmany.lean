/-! THE REFERENCE'S CALLS: FEWEST, BOUND, MANY -/
def beR (z : Int) : Int := if z < 0 then -9 else z
theorem beR_c (z : Int) : (z < 0 ∧ beR z = -9) ∨ (0 ≤ z ∧ beR z = z) := by
  unfold beR
  split <;> omega
theorem sm_t {all : Nat → Int} {p : Nat → Bool} {n : Nat} (h1 : smN all p n < 0 ∨ all n < all (smN all p n).toNat) (h2 : p n = true) : smN all p (n + 1) = (n : Int) := if_pos ⟨h1, h2⟩
theorem sm_f {all : Nat → Int} {p : Nat → Bool} {n : Nat} (h : ¬ ((smN all p n < 0 ∨ all n < all (smN all p n).toNat) ∧ p n = true)) : smN all p (n + 1) = smN all p n := if_neg h
theorem pb_s {hu mo : Nat → Int} {n : Nat} {b : Int} (h : pbN hu mo n = some b) : pbN hu mo (n + 1) = if 0 < hu n then (if mo n ≤ 0 then none else some (if b < w32 (Int.tdiv (hu n + mo n - 1) (mo n)) then w32 (Int.tdiv (hu n + mo n - 1) (mo n)) else b)) else some b := by
  conv => { lhs; unfold pbN }
  rw [h]
theorem c226 (σ : am_S) (a b : Int) : CC 226 [vI (a), vI (b)] σ (fun r σ' => r = some (vI (if a < b then b else a)) ∧ σ' = σ) := by
  show TT am_b226 (am_b226.getD 0 []) [(0, vI (a)), (1, vI (b))] [] σ _
  refine tt_ar rfl ?_
  refine tt_ar rfl ?_
  refine tt_icle (fun h0_2 => ?_) (fun h0_2 => ?_)
  · refine tt_ar rfl ?_
    refine tt_nop ?_
    refine tt_iret ?_
    exact ⟨rv (by split <;> omega), rfl⟩
  · refine tt_ar rfl ?_
    refine tt_goto ?_
    refine tt_iret ?_
    exact ⟨rv (by split <;> omega), rfl⟩

theorem c223 (A σ : am_S) (k nm ns : Nat) (D : Nat → Nat → Int) (hA : CI k nm ns D A) (hW : Wd σ) (hR : RRb k nm ns D A σ) (u : Int) : CC 223 [vR 76, vI (u)] σ (fun r σ' => PMd A σ (x_fewest k A u) r σ') := by
  show TT am_b223 (am_b223.getD 0 []) [(0, vR 76), (1, vI (u))] [] σ _
  have hk5 := hR.aa.1
  have hl27 := hR.aa.2.1
  have hs47 := hR.aa.2.2
  have hk6 := hA.x.1.2.1
  have hm12 := hA.x.2.2.1.2.1
  have hs16 := hA.st.2
  have hDA := hA.x.1
  have hHT := hA.x.2.1
  have hLA := hA.x.2.2.1
  have hHB := HB_of hDA hHT
  have hnb := nkT_bd k
  have hn20 : ∀ j, j < nkT k → A.1 20 j = ((dsN 6 (tb k j) : Nat) : Int) := fun j hj => (hHT.2.1 j hj).2.1
  refine tt_ar rfl ?_
  refine tt_ar rfl ?_
  refine tt_cv2 2 rfl (wo_76 hW) (c209 A σ k nm ns D hA hW hR _) (kb (fun h0_2 => ?_) (fun h0_2 => ?_))
  · refine tt_ifneT (by decide) ?_
    obtain ⟨un, rfl⟩ : ∃ un : Nat, u = (un : Int) := ⟨u.toNat, by omega⟩
    refine tt_ar rfl ?_
    refine tt_ar rfl ?_
    refine tt_ar rfl ?_
    refine tt_ar rfl ?_
    refine tt_nop ?_
    have lp2_1 : ∀ (μ : Nat) (h : Nat), nkT k - h < μ → (h ≤ nkT k) → TT am_b223 (am_b223.getD 2 []) [(0, vR 76), (1, vI (((un : Nat) : Int))), (2, vI (beR (cSm A un h))), (3, vI (((h : Nat) : Int)))] [] σ (fun r σ' => PMd A σ (x_fewest k A (un : Int)) r σ') := by
      intro μ
      induction μ with
      | zero => intro h hμ; exact absurd hμ (Nat.not_lt_zero _)
      | succ μ ih2 =>
        intro h hμ hh
        have hcs0 : cSm A un h < 0 → smN (A.1 20) (fun h => decide (cAg A un h 0 0 0)) h < 0 := fun z => z
        have hbe := beR_c (cSm A un h)
        have hsb : -1 ≤ cSm A un h ∧ cSm A un h < (h : Int) := smN_bd h
        refine tt_ar rfl ?_
        refine tt_ar rfl ?_
        refine tt_getI (x := ((nkT k : Nat) : Int)) (wo_76 hW) rfl hR.hs.1 ?_
        refine tt_icge (fun h2_3 => ?_) (fun h2_3 => ?_)
        · refine tt_ar rfl ?_
          refine tt_ifge (fun h5_1 => ?_) (fun h5_1 => ?_)
          · have eh : h = nkT k := by omega
            rw [eh] at hbe hsb
            obtain ⟨bn, hbn⟩ : ∃ bn : Nat, cSm A un (nkT k) = (bn : Int) := ⟨_, (Int.toNat_of_nonneg (by rw [eh] at h5_1; omega)).symm⟩
            have bbn : bn < nkT k := by omega
            have hbq : beR (cSm A un h) = ((bn : Nat) : Int) := by rw [eh]; omega
            have h20a := hn20 bn bbn
            refine tt_loc [(0, vR 76), (2, vI (((bn : Nat) : Int)))] rfl rfl ⟨rfl, lv_to rfl hbq, trivial⟩ ?_
            refine tt_ar rfl ?_
            refine tt_ar rfl ?_
            refine tt_getR (wo_76 hW) rfl (wr_76_28 hW) ?_
            refine tt_ar rfl ?_
            refine tt_iald (bn) (x := ((tb k bn : Nat) : Int)) (wa_92 hW) rfl (by omega) (hR.hs.2 bn (by omega)).1 ?_
            refine tt_ar rfl ?_
            refine tt_ar rfl ?_
            have hds := (en_at hk6 (show bn < nkT k by omega)).2.1
            refine tt_cv2 2 rfl (wo_76 hW) (c224 A σ k nm ns D hA hW hR bn (by omega)) (kp ?_)
            refine tt_cv3 3 rfl (wo_76 hW) (c183 σ _ _ hW) (ks ?_)
            refine tt_nop ?_
            refine tt_iret ?_
            exact pm_ak (M := A) hR (show x_fewest k A un = (vI ((dsN 6 (tb k bn) : Nat) : Int), upA ((tb k bn : Nat) : Int) A) by unfold x_fewest; simp only [Int.toNat_natCast, hl27, hbn]; rw [if_pos (by omega), if_neg (by omega), h20a, (hHT.2.1 bn bbn).1]) QR.rf
          · refine tt_ar rfl ?_
            refine tt_goto ?_
            refine tt_iret ?_
            have eh : h = nkT k := by omega
            rw [eh] at hbe hsb h5_1
            exact pm_same hR (show x_fewest k A un = (vI (-9), A) by unfold x_fewest; simp only [Int.toNat_natCast, hl27]; rw [if_pos (by omega), if_pos (by omega)]) QR.rf
        · refine tt_ar rfl ?_
          refine tt_iflt (fun h2_5 => ?_) (fun h2_5 => ?_)
          · refine tt_ar rfl ?_
            refine tt_ar rfl ?_
            refine tt_ar rfl ?_
            refine tt_ar rfl ?_
            refine tt_ar rfl ?_
            refine tt_cv5 5 rfl (wo_76 hW) (c220_0 A σ k nm ns D hA hW hR un h (by omega) (by omega)) (kb (fun h3_5 => ?_) (fun h3_5 => ?_))
            · have hag := h3_5
              refine tt_ifeqF (by decide) ?_
              refine tt_ar rfl ?_
              refine tt_ar rfl ?_
              refine tt_nop ?_
              refine tt_iinc (y := ((h + 1 : Nat) : Int)) rfl (iinc_fit (by omega) (by omega) (by omega)) ?_
              refine tt_goto ?_
              refine tt_loc [(0, vR 76), (1, vI (((un : Nat) : Int))), (2, vI (beR (cSm A un (h + 1)))), (3, vI (((h + 1 : Nat) : Int)))] rfl rfl ⟨rfl, rfl, lv_to rfl (by first | exact (show beR (cSm A un (h + 1)) = ((h : Nat) : Int) by rw [show cSm A un (h + 1) = ((h : Nat) : Int) from sm_t (by first | exact Or.inl (hcs0 (by omega)) | (rw [hbt, h20a, h20b]; exact Or.inr (by omega))) (decide_eq_true hag)]; unfold beR; rw [if_neg (by omega)]).symm | (rw [show cSm A un (h + 1) = cSm A un h from sm_f (fun q => hag (of_decide_eq_true q.2))]; first | done | (rw [hbn]; unfold beR; rw [if_neg (by omega)])) | (rw [show cSm A un (h + 1) = cSm A un h from sm_f (fun q => by have := q.1; rw [hbt, h20a, h20b] at this; have z : cSm A un h = smN (A.1 20) (fun h => decide (cAg A un h 0 0 0)) h := rfl; omega), hbn]; unfold beR; rw [if_neg (by omega)])), rfl, trivial⟩ ?_
              exact ih2 (h + 1) (by omega) (by omega)
            · have hag := h3_5
              refine tt_ifeqT (by decide) ?_
              refine tt_iinc (y := ((h + 1 : Nat) : Int)) rfl (iinc_fit (by omega) (by omega) (by omega)) ?_
              refine tt_goto ?_
              refine tt_loc [(0, vR 76), (1, vI (((un : Nat) : Int))), (2, vI (beR (cSm A un (h + 1)))), (3, vI (((h + 1 : Nat) : Int)))] rfl rfl ⟨rfl, rfl, lv_to rfl (by first | exact (show beR (cSm A un (h + 1)) = ((h : Nat) : Int) by rw [show cSm A un (h + 1) = ((h : Nat) : Int) from sm_t (by first | exact Or.inl (hcs0 (by omega)) | (rw [hbt, h20a, h20b]; exact Or.inr (by omega))) (decide_eq_true hag)]; unfold beR; rw [if_neg (by omega)]).symm | (rw [show cSm A un (h + 1) = cSm A un h from sm_f (fun q => hag (of_decide_eq_true q.2))]; first | done | (rw [hbn]; unfold beR; rw [if_neg (by omega)])) | (rw [show cSm A un (h + 1) = cSm A un h from sm_f (fun q => by have := q.1; rw [hbt, h20a, h20b] at this; have z : cSm A un h = smN (A.1 20) (fun h => decide (cAg A un h 0 0 0)) h := rfl; omega), hbn]; unfold beR; rw [if_neg (by omega)])), rfl, trivial⟩ ?_
              exact ih2 (h + 1) (by omega) (by omega)
          · obtain ⟨bn, hbn⟩ : ∃ bn : Nat, cSm A un h = (bn : Int) := ⟨_, (Int.toNat_of_nonneg (by omega)).symm⟩
            have bbn : bn < nkT k := by omega
            have hbt : (smN (A.1 20) (fun h => decide (cAg A un h 0 0 0)) h).toNat = bn := by have q : smN (A.1 20) (fun h => decide (cAg A un h 0 0 0)) h = (bn : Int) := hbn; rw [q]; rfl
            have h20a := hn20 bn bbn
            have h20b := hn20 h (by omega)
            refine tt_loc [(0, vR 76), (1, vI (((un : Nat) : Int))), (2, vI (((bn : Nat) : Int))), (3, vI (((h : Nat) : Int)))] rfl rfl ⟨rfl, rfl, lv_to rfl (by omega), rfl, trivial⟩ ?_
            refine tt_ar rfl ?_
            refine tt_ar rfl ?_
            have hds := (en_at hk6 (show h < nkT k by omega)).2.1
            refine tt_cv2 2 rfl (wo_76 hW) (c224 A σ k nm ns D hA hW hR h (by omega)) (kp ?_)
            refine tt_ar rfl ?_
            refine tt_ar rfl ?_
            have hds := (en_at hk6 (show bn < nkT k by omega)).2.1
            refine tt_cv2 2 rfl (wo_76 hW) (c224 A σ k nm ns D hA hW hR bn (by omega)) (kp ?_)
            refine tt_icge (fun h2_12 => ?_) (fun h2_12 => ?_)
            · refine tt_iinc (y := ((h + 1 : Nat) : Int)) rfl (iinc_fit (by omega) (by omega) (by omega)) ?_
              refine tt_goto ?_
              refine tt_loc [(0, vR 76), (1, vI (((un : Nat) : Int))), (2, vI (beR (cSm A un (h + 1)))), (3, vI (((h + 1 : Nat) : Int)))] rfl rfl ⟨rfl, rfl, lv_to rfl (by first | exact (show beR (cSm A un (h + 1)) = ((h : Nat) : Int) by rw [show cSm A un (h + 1) = ((h : Nat) : Int) from sm_t (by first | exact Or.inl (hcs0 (by omega)) | (rw [hbt, h20a, h20b]; exact Or.inr (by omega))) (decide_eq_true hag)]; unfold beR; rw [if_neg (by omega)]).symm | (rw [show cSm A un (h + 1) = cSm A un h from sm_f (fun q => hag (of_decide_eq_true q.2))]; first | done | (rw [hbn]; unfold beR; rw [if_neg (by omega)])) | (rw [show cSm A un (h + 1) = cSm A un h from sm_f (fun q => by have := q.1; rw [hbt, h20a, h20b] at this; have z : cSm A un h = smN (A.1 20) (fun h => decide (cAg A un h 0 0 0)) h := rfl; omega), hbn]; unfold beR; rw [if_neg (by omega)])), rfl, trivial⟩ ?_
              exact ih2 (h + 1) (by omega) (by omega)
            · refine tt_nop ?_
              refine tt_ar rfl ?_
              refine tt_ar rfl ?_
              refine tt_ar rfl ?_
              refine tt_ar rfl ?_
              refine tt_ar rfl ?_
              refine tt_cv5 5 rfl (wo_76 hW) (c220_0 A σ k nm ns D hA hW hR un h (by omega) (by omega)) (kb (fun h3_5 => ?_) (fun h3_5 => ?_))
              · have hag := h3_5
                refine tt_ifeqF (by decide) ?_
                refine tt_ar rfl ?_
                refine tt_ar rfl ?_
                refine tt_nop ?_
                refine tt_iinc (y := ((h + 1 : Nat) : Int)) rfl (iinc_fit (by omega) (by omega) (by omega)) ?_
                refine tt_goto ?_
                refine tt_loc [(0, vR 76), (1, vI (((un : Nat) : Int))), (2, vI (beR (cSm A un (h + 1)))), (3, vI (((h + 1 : Nat) : Int)))] rfl rfl ⟨rfl, rfl, lv_to rfl (by first | exact (show beR (cSm A un (h + 1)) = ((h : Nat) : Int) by rw [show cSm A un (h + 1) = ((h : Nat) : Int) from sm_t (by first | exact Or.inl (hcs0 (by omega)) | (rw [hbt, h20a, h20b]; exact Or.inr (by omega))) (decide_eq_true hag)]; unfold beR; rw [if_neg (by omega)]).symm | (rw [show cSm A un (h + 1) = cSm A un h from sm_f (fun q => hag (of_decide_eq_true q.2))]; first | done | (rw [hbn]; unfold beR; rw [if_neg (by omega)])) | (rw [show cSm A un (h + 1) = cSm A un h from sm_f (fun q => by have := q.1; rw [hbt, h20a, h20b] at this; have z : cSm A un h = smN (A.1 20) (fun h => decide (cAg A un h 0 0 0)) h := rfl; omega), hbn]; unfold beR; rw [if_neg (by omega)])), rfl, trivial⟩ ?_
                exact ih2 (h + 1) (by omega) (by omega)
              · have hag := h3_5
                refine tt_ifeqT (by decide) ?_
                refine tt_iinc (y := ((h + 1 : Nat) : Int)) rfl (iinc_fit (by omega) (by omega) (by omega)) ?_
                refine tt_goto ?_
                refine tt_loc [(0, vR 76), (1, vI (((un : Nat) : Int))), (2, vI (beR (cSm A un (h + 1)))), (3, vI (((h + 1 : Nat) : Int)))] rfl rfl ⟨rfl, rfl, lv_to rfl (by first | exact (show beR (cSm A un (h + 1)) = ((h : Nat) : Int) by rw [show cSm A un (h + 1) = ((h : Nat) : Int) from sm_t (by first | exact Or.inl (hcs0 (by omega)) | (rw [hbt, h20a, h20b]; exact Or.inr (by omega))) (decide_eq_true hag)]; unfold beR; rw [if_neg (by omega)]).symm | (rw [show cSm A un (h + 1) = cSm A un h from sm_f (fun q => hag (of_decide_eq_true q.2))]; first | done | (rw [hbn]; unfold beR; rw [if_neg (by omega)])) | (rw [show cSm A un (h + 1) = cSm A un h from sm_f (fun q => by have := q.1; rw [hbt, h20a, h20b] at this; have z : cSm A un h = smN (A.1 20) (fun h => decide (cAg A un h 0 0 0)) h := rfl; omega), hbn]; unfold beR; rw [if_neg (by omega)])), rfl, trivial⟩ ?_
                exact ih2 (h + 1) (by omega) (by omega)
    refine tt_loc [(0, vR 76), (1, vI (((un : Nat) : Int))), (2, vI (beR (cSm A un 0))), (3, vI (((0 : Nat) : Int)))] rfl rfl ⟨rfl, rfl, lv_to rfl rfl, lv_to rfl (by omega), trivial⟩ ?_
    exact lp2_1 _ (0) (Nat.lt_succ_self _) (by omega)
  · refine tt_ifneF (by decide) ?_
    refine tt_ar rfl ?_
    refine tt_iret ?_
    exact pm_any (M := A) hR (show x_fewest k A u = (vI (-1), A) by unfold x_fewest; (try simp only [Int.toNat_natCast, hl27]); (repeat (first | rw [if_pos (by omega)] | rw [if_neg (by omega)])); (first | done | rfl)) QR.rf

theorem c225 (A σ : am_S) (k nm ns : Nat) (D : Nat → Nat → Int) (hA : CI k nm ns D A) (hW : Wd σ) (hR : RRb k nm ns D A σ) (u : Int) : CC 225 [vR 76, vI (u)] σ (fun r σ' => PMd A σ (x_bound k A u) r σ') := by
  show TT am_b225 (am_b225.getD 0 []) [(0, vR 76), (1, vI (u))] [] σ _
  have hk5 := hR.aa.1
  have hl27 := hR.aa.2.1
  have hs47 := hR.aa.2.2
  have hk6 := hA.x.1.2.1
  have hm12 := hA.x.2.2.1.2.1
  have hs16 := hA.st.2
  have hDA := hA.x.1
  have hHT := hA.x.2.1
  have hLA := hA.x.2.2.1
  have hHB := HB_of hDA hHT
  have hnb := nkT_bd k
  refine tt_ar rfl ?_
  refine tt_ar rfl ?_
  refine tt_cv2 2 rfl (wo_76 hW) (c209 A σ k nm ns D hA hW hR _) (kb (fun h0_2 => ?_) (fun h0_2 => ?_))
  · refine tt_ifneT (by decide) ?_
    obtain ⟨un, rfl⟩ : ∃ un : Nat, u = (un : Int) := ⟨u.toNat, by omega⟩
    refine tt_ar rfl ?_
    refine tt_ar rfl ?_
    refine tt_ar rfl ?_
    refine tt_ar rfl ?_
    refine tt_nop ?_
    have lp2_1 : ∀ (μ : Nat) (x : Nat) (b : Int), 8 - x < μ → (x ≤ 8) → (cPb A k un x = some b) → TT am_b225 (am_b225.getD 2 []) [(0, vR 76), (1, vI (((un : Nat) : Int))), (2, vI (b)), (3, vI (((x : Nat) : Int)))] [] σ (fun r σ' => PMd A σ (x_bound k A (un : Int)) r σ') := by
      intro μ
      induction μ with
      | zero => intro x b hμ; exact absurd hμ (Nat.not_lt_zero _)
      | succ μ ih2 =>
        intro x b hμ hx8 hP
        refine tt_ar rfl ?_
        refine tt_ar rfl ?_
        refine tt_icge (fun h2_2 => ?_) (fun h2_2 => ?_)
        · refine tt_ar rfl ?_
          refine tt_iret ?_
          have e8 : x = 8 := by omega
          subst e8
          exact pm_same hR (show x_bound k A un = (vI b, A) by unfold x_bound; simp only [Int.toNat_natCast, hl27]; rw [if_pos (by omega), hP]; rfl) QR.rf
        · have hlb := hLA.2.2.1 un (by omega)
          have hlh := hLA.2.2.2 (un * 8 + x) (by omega)
          have e2 : lnD A un (2 + x) = A.1 30 (un * 8 + x) := by unfold lnD; rw [if_neg (by omega), if_neg (by omega), show un * 8 + (2 + x) - 2 = un * 8 + x by omega]
          have e1 : lnD A un 1 = A.1 29 un := rfl
          refine tt_ar rfl ?_
          refine tt_ar rfl ?_
          refine tt_ar rfl ?_
          refine tt_ar rfl ?_
          refine tt_iadd (by omega) (by omega) ?_
          refine tt_cv3 3 rfl (wo_76 hW) (c210 A σ k nm ns D hA hW hR un ((2 + x)) (by omega) (by omega)) (kp ?_)
          refine tt_ar rfl ?_
          refine tt_ar rfl ?_
          refine tt_ar rfl ?_
          refine tt_cv3 3 rfl (wo_76 hW) (c210 A σ k nm ns D hA hW hR un 1 (by omega) (by omega)) (kp ?_)
          refine tt_isub (by omega) (by omega) ?_
          refine tt_ar rfl ?_
          refine tt_ar rfl ?_
          refine tt_ar rfl ?_
          refine tt_ar rfl ?_
          refine tt_ar rfl ?_
          refine tt_nop ?_
          have lp3_2 : ∀ (μ : Nat) (s : Nat), k - s < μ → (s ≤ k) → TT am_b225 (am_b225.getD 3 []) [(0, vR 76), (1, vI (((un : Nat) : Int))), (2, vI (b)), (3, vI (((x : Nat) : Int))), (4, vI ((lnD A un (2 + x) - lnD A un 1))), (5, vI (maxN s (fun s => A.1 8 (s * 8 + x)))), (6, vI (((s : Nat) : Int)))] [] σ (fun r σ' => PMd A σ (x_bound k A (un : Int)) r σ') := by
            intro μ
            induction μ with
            | zero => intro s hμ; exact absurd hμ (Nat.not_lt_zero _)
            | succ μ ih3 =>
              intro s hμ hs
              have hmx := maxN_bd (f := fun s => A.1 8 (s * 8 + x)) (B := 9) (n := s) (by omega) (fun i hi => by have := hDA.2.2.1 (i * 8 + x) (by omega); omega)
              refine tt_ar rfl ?_
              refine tt_ar rfl ?_
              refine tt_getI (x := ((k : Nat) : Int)) (wo_76 hW) rfl hR.wl.1 ?_
              refine tt_icge (fun h3_3 => ?_) (fun h3_3 => ?_)
              · have es : s = k := by omega
                rw [es] at hmx
                refine tt_loc [(0, vR 76), (1, vI (((un : Nat) : Int))), (2, vI (b)), (3, vI (((x : Nat) : Int))), (4, vI ((lnD A un (2 + x) - lnD A un 1))), (5, vI (cMo A k x))] rfl rfl ⟨rfl, rfl, rfl, rfl, rfl, lv_to rfl (by rw [es]; rfl), trivial⟩ ?_
                have hmo : 0 ≤ cMo A k x ∧ cMo A k x ≤ 9 := hmx
                refine tt_ar rfl ?_
                refine tt_ifle (fun h4_1 => ?_) (fun h4_1 => ?_)
                · refine tt_ar rfl ?_
                  refine tt_ifle (fun h5_1 => ?_) (fun h5_1 => ?_)
                  · refine tt_ar rfl ?_
                    refine tt_nop ?_
                    refine tt_ar rfl ?_
                    refine tt_iinc (y := ((x + 1 : Nat) : Int)) rfl (iinc_fit (by omega) (by omega) (by omega)) ?_
                    refine tt_goto ?_
                    refine tt_loc [(0, vR 76), (1, vI (((un : Nat) : Int))), (2, vI (b)), (3, vI (((x + 1 : Nat) : Int)))] rfl rfl ⟨rfl, rfl, rfl, rfl, trivial⟩ ?_
                    exact ih2 (x + 1) (b) (by omega) (by omega) (by have hps := pb_s (hu := (fun x => A.1 30 (un * 8 + x) - A.1 29 un)) (mo := cMo A k) (n := x) (b := b) hP; have hps : cPb A k un (x + 1) = _ := hps; rw [← e2, ← e1] at hps; first | (rw [if_pos (by omega), if_neg (by omega)] at hps; exact hps) | (rw [if_neg (by omega)] at hps; exact hps))
                  · refine tt_ar rfl ?_
                    refine tt_ar rfl ?_
                    refine tt_ar rfl ?_
                    refine tt_iadd (by omega) (by omega) ?_
                    refine tt_ar rfl ?_
                    refine tt_isub (by omega) (by omega) ?_
                    refine tt_ar rfl ?_
                    refine tt_dI (g := (fun a b => w32 (Int.tdiv a b))) (z := w32 (Int.tdiv ((((lnD A un (2 + x) - lnD A un 1) + cMo A k x) - 1)) (cMo A k x))) rfl (by omega) rfl ?_
                    refine tt_cs2 2 rfl (c226 _ (b) (w32 (Int.tdiv ((((lnD A un (2 + x) - lnD A un 1) + cMo A k x) - 1)) (cMo A k x)))) (kp ?_)
                    refine tt_goto ?_
                    refine tt_ar rfl ?_
                    refine tt_iinc (y := ((x + 1 : Nat) : Int)) rfl (iinc_fit (by omega) (by omega) (by omega)) ?_
                    refine tt_goto ?_
                    refine tt_loc [(0, vR 76), (1, vI (((un : Nat) : Int))), (2, vI (((if b < w32 (Int.tdiv (lnD A un (2 + x) - lnD A un 1 + cMo A k x - 1) (cMo A k x)) then w32 (Int.tdiv (lnD A un (2 + x) - lnD A un 1 + cMo A k x - 1) (cMo A k x)) else b)))), (3, vI (((x + 1 : Nat) : Int)))] rfl rfl ⟨rfl, rfl, lv_to rfl (by omega), rfl, trivial⟩ ?_
                    exact ih2 (x + 1) ((if b < w32 (Int.tdiv (lnD A un (2 + x) - lnD A un 1 + cMo A k x - 1) (cMo A k x)) then w32 (Int.tdiv (lnD A un (2 + x) - lnD A un 1 + cMo A k x - 1) (cMo A k x)) else b)) (by omega) (by omega) (by have hps := pb_s (hu := (fun x => A.1 30 (un * 8 + x) - A.1 29 un)) (mo := cMo A k) (n := x) (b := b) hP; have hps : cPb A k un (x + 1) = _ := hps; rw [← e2, ← e1] at hps; first | (rw [if_pos (by omega), if_neg (by omega)] at hps; exact hps) | (rw [if_neg (by omega)] at hps; exact hps))
                · refine tt_ar rfl ?_
                  refine tt_ifne (fun h4_3 => ?_) (fun h4_3 => ?_)
                  · refine tt_ar rfl ?_
                    refine tt_ifle (fun h5_1 => ?_) (fun h5_1 => ?_)
                    · refine tt_ar rfl ?_
                      refine tt_nop ?_
                      refine tt_ar rfl ?_
                      refine tt_iinc (y := ((x + 1 : Nat) : Int)) rfl (iinc_fit (by omega) (by omega) (by omega)) ?_
                      refine tt_goto ?_
                      refine tt_loc [(0, vR 76), (1, vI (((un : Nat) : Int))), (2, vI (b)), (3, vI (((x + 1 : Nat) : Int)))] rfl rfl ⟨rfl, rfl, rfl, rfl, trivial⟩ ?_
                      exact ih2 (x + 1) (b) (by omega) (by omega) (by have hps := pb_s (hu := (fun x => A.1 30 (un * 8 + x) - A.1 29 un)) (mo := cMo A k) (n := x) (b := b) hP; have hps : cPb A k un (x + 1) = _ := hps; rw [← e2, ← e1] at hps; first | (rw [if_pos (by omega), if_neg (by omega)] at hps; exact hps) | (rw [if_neg (by omega)] at hps; exact hps))
                    · refine tt_ar rfl ?_
                      refine tt_ar rfl ?_
                      refine tt_ar rfl ?_
                      refine tt_iadd (by omega) (by omega) ?_
                      refine tt_ar rfl ?_
                      refine tt_isub (by omega) (by omega) ?_
                      refine tt_ar rfl ?_
                      refine tt_dI (g := (fun a b => w32 (Int.tdiv a b))) (z := w32 (Int.tdiv ((((lnD A un (2 + x) - lnD A un 1) + cMo A k x) - 1)) (cMo A k x))) rfl (by omega) rfl ?_
                      refine tt_cs2 2 rfl (c226 _ (b) (w32 (Int.tdiv ((((lnD A un (2 + x) - lnD A un 1) + cMo A k x) - 1)) (cMo A k x)))) (kp ?_)
                      refine tt_goto ?_
                      refine tt_ar rfl ?_
                      refine tt_iinc (y := ((x + 1 : Nat) : Int)) rfl (iinc_fit (by omega) (by omega) (by omega)) ?_
                      refine tt_goto ?_
                      refine tt_loc [(0, vR 76), (1, vI (((un : Nat) : Int))), (2, vI (((if b < w32 (Int.tdiv (lnD A un (2 + x) - lnD A un 1 + cMo A k x - 1) (cMo A k x)) then w32 (Int.tdiv (lnD A un (2 + x) - lnD A un 1 + cMo A k x - 1) (cMo A k x)) else b)))), (3, vI (((x + 1 : Nat) : Int)))] rfl rfl ⟨rfl, rfl, lv_to rfl (by omega), rfl, trivial⟩ ?_
                      exact ih2 (x + 1) ((if b < w32 (Int.tdiv (lnD A un (2 + x) - lnD A un 1 + cMo A k x - 1) (cMo A k x)) then w32 (Int.tdiv (lnD A un (2 + x) - lnD A un 1 + cMo A k x - 1) (cMo A k x)) else b)) (by omega) (by omega) (by have hps := pb_s (hu := (fun x => A.1 30 (un * 8 + x) - A.1 29 un)) (mo := cMo A k) (n := x) (b := b) hP; have hps : cPb A k un (x + 1) = _ := hps; rw [← e2, ← e1] at hps; first | (rw [if_pos (by omega), if_neg (by omega)] at hps; exact hps) | (rw [if_neg (by omega)] at hps; exact hps))
                  · refine tt_ar rfl ?_
                    refine tt_iret ?_
                    have hps := pb_s (hu := (fun x => A.1 30 (un * 8 + x) - A.1 29 un)) (mo := cMo A k) (n := x) (b := b) hP
                    have hps : cPb A k un (x + 1) = _ := hps
                    rw [← e2, ← e1, if_pos (by omega), if_pos (by omega)] at hps
                    have hp8 : cPb A k un 8 = none := by have := pbN_none hps (8 - (x + 1)); rw [show x + 1 + (8 - (x + 1)) = 8 by omega] at this; exact this
                    exact pm_same hR (show x_bound k A un = (vI (-9), A) by unfold x_bound; simp only [Int.toNat_natCast, hl27]; rw [if_pos (by omega), hp8]; rfl) QR.rf
              · refine tt_ar rfl ?_
                refine tt_ar rfl ?_
                refine tt_getR (wo_76 hW) rfl (wr_76_14 hW) ?_
                refine tt_ar rfl ?_
                refine tt_ar rfl ?_
                refine tt_imul (by omega) (by omega) ?_
                refine tt_ar rfl ?_
                refine tt_iadd (by omega) (by omega) ?_
                refine tt_iald (((8 * s) + x)) (x := A.1 8 (s * 8 + x)) (wa_85 hW) (by omega) (by omega) ((hR.wl.2.2.2.1 (8 * s + x) (by omega)).2.trans (by rw [Nat.mul_comm])) ?_
                refine tt_cs2 2 rfl (c226 _ (maxN s (fun s => A.1 8 (s * 8 + x))) (A.1 8 (s * 8 + x))) (kp ?_)
                refine tt_ar rfl ?_
                refine tt_iinc (y := ((s + 1 : Nat) : Int)) rfl (iinc_fit (by omega) (by omega) (by omega)) ?_
                refine tt_goto ?_
                refine tt_loc [(0, vR 76), (1, vI (((un : Nat) : Int))), (2, vI (b)), (3, vI (((x : Nat) : Int))), (4, vI ((lnD A un (2 + x) - lnD A un 1))), (5, vI (maxN (s + 1) (fun s => A.1 8 (s * 8 + x)))), (6, vI (((s + 1 : Nat) : Int)))] rfl rfl ⟨rfl, rfl, rfl, rfl, rfl, lv_to rfl rfl, rfl, trivial⟩ ?_
                exact ih3 (s + 1) (by omega) (by omega)
          refine tt_loc [(0, vR 76), (1, vI (((un : Nat) : Int))), (2, vI (b)), (3, vI (((x : Nat) : Int))), (4, vI ((lnD A un (2 + x) - lnD A un 1))), (5, vI (maxN 0 (fun s => A.1 8 (s * 8 + x)))), (6, vI (((0 : Nat) : Int)))] rfl rfl ⟨rfl, rfl, rfl, rfl, lv_to rfl (by omega), lv_to rfl rfl, lv_to rfl (by omega), trivial⟩ ?_
          exact lp3_2 _ (0) (Nat.lt_succ_self _) (by omega)
    refine tt_loc [(0, vR 76), (1, vI (((un : Nat) : Int))), (2, vI (0)), (3, vI (((0 : Nat) : Int)))] rfl rfl ⟨rfl, rfl, rfl, lv_to rfl (by omega), trivial⟩ ?_
    exact lp2_1 _ (0) (0) (Nat.lt_succ_self _) (by omega) rfl
  · refine tt_ifneF (by decide) ?_
    refine tt_ar rfl ?_
    refine tt_iret ?_
    exact pm_any (M := A) hR (show x_bound k A u = (vI (-1), A) by unfold x_bound; (try simp only [Int.toNat_natCast, hl27]); (repeat (first | rw [if_pos (by omega)] | rw [if_neg (by omega)])); (first | done | rfl)) QR.rf

theorem c227 (A σ : am_S) (k nm ns : Nat) (D : Nat → Nat → Int) (hA : CI k nm ns D A) (hW : Wd σ) (hR : RRb k nm ns D A σ) (u q : Int) : CC 227 [vR 76, vI (u), vI (q)] σ (fun r σ' => PMd A σ (x_many k A u q) r σ') := by
  show TT am_b227 (am_b227.getD 0 []) [(0, vR 76), (1, vI (u)), (2, vI (q))] [] σ _
  have hk5 := hR.aa.1
  have hl27 := hR.aa.2.1
  have hs47 := hR.aa.2.2
  have hk6 := hA.x.1.2.1
  have hm12 := hA.x.2.2.1.2.1
  have hs16 := hA.st.2
  have hDA := hA.x.1
  have hHT := hA.x.2.1
  have hLA := hA.x.2.2.1
  have hHB := HB_of hDA hHT
  have hnb := nkT_bd k
  refine tt_ar rfl ?_
  refine tt_ar rfl ?_
  refine tt_cv2 2 rfl (wo_76 hW) (c209 A σ k nm ns D hA hW hR _) (kb (fun h0_2 => ?_) (fun h0_2 => ?_))
  · refine tt_ifeqF (by decide) ?_
    refine tt_ar rfl ?_
    refine tt_ar rfl ?_
    refine tt_ar rfl ?_
    refine tt_cs3 3 rfl (c175 _ _ _ _) (kb (fun h0_7 => ?_) (fun h0_7 => ?_))
    · refine tt_ifneT (by decide) ?_
      obtain ⟨un, rfl⟩ : ∃ un : Nat, u = (un : Int) := ⟨u.toNat, by omega⟩
      refine tt_ar rfl ?_
      refine tt_ar rfl ?_
      refine tt_ar rfl ?_
      refine tt_ar rfl ?_
      refine tt_nop ?_
      have lp3_1 : ∀ (μ : Nat) (h : Nat) (σ1 : am_S), nkT k - h < μ → Fr [76] σ σ1 → (h ≤ nkT k) → (∀ j, j ≠ 30 → σ1.1 76 j = σ.1 76 j) → TT am_b227 (am_b227.getD 3 []) [(0, vR 76), (1, vI (((un : Nat) : Int))), (2, vI (q)), (3, vI (cCnt A k un q h)), (4, vI (((h : Nat) : Int)))] [] σ1 (fun r σ' => PMd A σ (x_many k A (un : Int) q) r σ') := by
        intro μ
        induction μ with
        | zero => intro h σ1 hμ; exact absurd hμ (Nat.not_lt_zero _)
        | succ μ ih3 =>
          intro h σ1 hμ hF_σ1 hh hK_σ1
          have hW_σ1 := Fr.wd hF_σ1 hW
          have hcb := cCnt_bd A k un q h
          refine tt_ar rfl ?_
          refine tt_ar rfl ?_
          refine tt_getI (x := ((nkT k : Nat) : Int)) (wo_76 hW_σ1) rfl ((hK_σ1 27 (by decide)).trans hR.hs.1) ?_
          refine tt_icge (fun h3_3 => ?_) (fun h3_3 => ?_)
          · refine tt_ar rfl ?_
            refine tt_iret ?_
            have eh : h = nkT k := by omega
            rw [eh]
            exact pm_same (hR.o30 hF_σ1 hK_σ1) (show x_many k A un q = (vI (cCnt A k un q (nkT k)), A) by unfold x_many; simp only [Int.toNat_natCast, hl27]; rw [if_pos (by omega)]) (QR.of hF_σ1 (by decide))
          · refine tt_ar rfl ?_
            refine tt_ar rfl ?_
            refine tt_ar rfl ?_
            refine tt_ar rfl ?_
            refine tt_cv3 3 rfl (wo_76 hW_σ1) (c219 A σ1 k nm ns D hA hW_σ1 (hR.o30 hF_σ1 hK_σ1) un h (by omega) (by omega)) ?_
            intro r0 σe hq0
            obtain ⟨rfl, hFe, hK_σe, hE_σe⟩ := hq0
            have hW2 := Fr.wd hFe hW_σ1
            refine tt_ar rfl ?_
            refine tt_icgt (fun h3_10 => ?_) (fun h3_10 => ?_)
            · refine tt_ar rfl ?_
              refine tt_nop ?_
              refine tt_iadd (by omega) (by omega) ?_
              refine tt_ar rfl ?_
              refine tt_iinc (y := ((h + 1 : Nat) : Int)) rfl (iinc_fit (by omega) (by omega) (by omega)) ?_
              refine tt_goto ?_
              refine tt_loc [(0, vR 76), (1, vI (((un : Nat) : Int))), (2, vI (q)), (3, vI (cCnt A k un q (h + 1))), (4, vI (((h + 1 : Nat) : Int)))] rfl rfl ⟨rfl, rfl, rfl, lv_to rfl (by have hcs : cCnt A k un q (h + 1) = cCnt A k un q h + (if ¬ cEx A k un h = -9 ∧ prOf (A.1 9) (cEx A k un h) ≤ q then 1 else 0) := rfl; have hep : (cEx A k un h = -9 ∧ epR A k un h = 100000) ∨ (¬ cEx A k un h = -9 ∧ epR A k un h = prOf (A.1 9) (cEx A k un h)) := by {unfold epR; split; exact Or.inl ⟨by assumption, rfl⟩; exact Or.inr ⟨by assumption, rfl⟩}; rw [hcs]; split <;> omega), rfl, trivial⟩ ?_
              exact ih3 (h + 1) σe (by omega) (Fr.tr (Fr.tr Fr.rf hF_σ1 (by decide)) hFe (by decide)) (by omega) (fun j hj => (hK_σe j hj).trans (hK_σ1 j hj))
            · refine tt_ar rfl ?_
              refine tt_goto ?_
              refine tt_iadd (by omega) (by omega) ?_
              refine tt_ar rfl ?_
              refine tt_iinc (y := ((h + 1 : Nat) : Int)) rfl (iinc_fit (by omega) (by omega) (by omega)) ?_
              refine tt_goto ?_
              refine tt_loc [(0, vR 76), (1, vI (((un : Nat) : Int))), (2, vI (q)), (3, vI (cCnt A k un q (h + 1))), (4, vI (((h + 1 : Nat) : Int)))] rfl rfl ⟨rfl, rfl, rfl, lv_to rfl (by have hcs : cCnt A k un q (h + 1) = cCnt A k un q h + (if ¬ cEx A k un h = -9 ∧ prOf (A.1 9) (cEx A k un h) ≤ q then 1 else 0) := rfl; have hep : (cEx A k un h = -9 ∧ epR A k un h = 100000) ∨ (¬ cEx A k un h = -9 ∧ epR A k un h = prOf (A.1 9) (cEx A k un h)) := by {unfold epR; split; exact Or.inl ⟨by assumption, rfl⟩; exact Or.inr ⟨by assumption, rfl⟩}; rw [hcs]; split <;> omega), rfl, trivial⟩ ?_
              exact ih3 (h + 1) σe (by omega) (Fr.tr (Fr.tr Fr.rf hF_σ1 (by decide)) hFe (by decide)) (by omega) (fun j hj => (hK_σe j hj).trans (hK_σ1 j hj))
      refine tt_loc [(0, vR 76), (1, vI (((un : Nat) : Int))), (2, vI (q)), (3, vI (cCnt A k un q 0)), (4, vI (((0 : Nat) : Int)))] rfl rfl ⟨rfl, rfl, rfl, lv_to rfl rfl, lv_to rfl (by omega), trivial⟩ ?_
      exact lp3_1 _ (0) σ (Nat.lt_succ_self _) Fr.rf (by omega) (fun _ _ => rfl)
    · refine tt_ifneF (by decide) ?_
      refine tt_nop ?_
      refine tt_ar rfl ?_
      refine tt_iret ?_
      exact pm_any (M := A) hR (show x_many k A u q = (vI (-1), A) by unfold x_many; (try simp only [Int.toNat_natCast, hl27]); (repeat (first | rw [if_pos (by omega)] | rw [if_neg (by omega)])); (first | done | rfl)) QR.rf
  · refine tt_ifeqT (by decide) ?_
    refine tt_ar rfl ?_
    refine tt_iret ?_
    exact pm_any (M := A) hR (show x_many k A u q = (vI (-1), A) by unfold x_many; (try simp only [Int.toNat_natCast, hl27]); (repeat (first | rw [if_pos (by omega)] | rw [if_neg (by omega)])); (first | done | rfl)) QR.rf

