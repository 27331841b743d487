/-! A MONDAY MORE -/
theorem cex_m {σ σ' : am_S} {k m h : Nat} (e5 : σ'.1 5 = σ.1 5) (e7 : σ'.1 7 = σ.1 7) (e8 : σ'.1 8 = σ.1 8) (e21 : σ'.1 21 = σ.1 21) (e25 : σ'.1 25 = σ.1 25) (e26 : σ'.1 26 = σ.1 26) (e28 : σ'.1 28 m = σ.1 28 m) (e29 : σ'.1 29 m = σ.1 29 m) (e30 : ∀ x, x < 8 → σ'.1 30 (m * 8 + x) = σ.1 30 (m * 8 + x)) : cEx σ' k m h = cEx σ k m h := by
  have key : ∀ lo hi s, cAg σ' m h lo hi s ↔ cAg σ m h lo hi s := fun lo hi s => by
    show (∀ x, x < 8 → σ'.1 30 (m * 8 + x) - σ'.1 29 m ≤ σ'.1 26 (h * 8 + x) + hi * σ'.1 8 (s * 8 + x) ∧ (σ'.1 30 (m * 8 + x) + σ'.1 29 m < σ'.1 25 (h * 8 + x) + lo * σ'.1 7 (s * 8 + x) → isIn (σ'.1 5 4) (σ'.1 28 m) (x : Int))) ↔ (∀ x, x < 8 → σ.1 30 (m * 8 + x) - σ.1 29 m ≤ σ.1 26 (h * 8 + x) + hi * σ.1 8 (s * 8 + x) ∧ (σ.1 30 (m * 8 + x) + σ.1 29 m < σ.1 25 (h * 8 + x) + lo * σ.1 7 (s * 8 + x) → isIn (σ.1 5 4) (σ.1 28 m) (x : Int)))
    rw [e5, e7, e8, e25, e26, e28, e29]
    exact ⟨fun q x hx => by rw [← e30 x hx]; exact q x hx, fun q x hx => by rw [e30 x hx]; exact q x hx⟩
  have a1 : (decide (cAg σ' m h 0 0 0)) = decide (cAg σ m h 0 0 0) := decide_eq_decide.mpr (key 0 0 0)
  have a2 : cIll σ' m h = cIll σ m h := funext fun s => by
    unfold cIll
    rw [e21]
    exact decide_eq_decide.mpr (and_congr Iff.rfl (key (-1) 0 s))
  have a3 : cGst σ' m h = cGst σ m h := funext fun s => decide_eq_decide.mpr (key 1 1 s)
  show exN k (decide (cAg σ' m h 0 0 0)) (cIll σ' m h) (cGst σ' m h) = exN k (decide (cAg σ m h 0 0 0)) (cIll σ m h) (cGst σ m h)
  rw [a1, a2, a3]
theorem exa_m {σ σ' : am_S} {k m h : Nat} (e5 : σ'.1 5 = σ.1 5) (e7 : σ'.1 7 = σ.1 7) (e8 : σ'.1 8 = σ.1 8) (e9 : σ'.1 9 = σ.1 9) (e21 : σ'.1 21 = σ.1 21) (e25 : σ'.1 25 = σ.1 25) (e26 : σ'.1 26 = σ.1 26) (e28 : σ'.1 28 m = σ.1 28 m) (e29 : σ'.1 29 m = σ.1 29 m) (e30 : ∀ x, x < 8 → σ'.1 30 (m * 8 + x) = σ.1 30 (m * 8 + x)) : exA k σ' m h = exA k σ m h := by
  unfold exA cPr
  rw [cex_m e5 e7 e8 e21 e25 e26 e28 e29 e30, e9]
/-- world and households as they were, the first n Mondays too: costs as they were -/
theorem exa_q {σ σ' : am_S} {k n : Nat} (hQ : QC σ σ') (e28 : ∀ m, m < n → σ'.1 28 m = σ.1 28 m) (e29 : ∀ m, m < n → σ'.1 29 m = σ.1 29 m) (e30 : ∀ i, i < n * 8 → σ'.1 30 i = σ.1 30 i) : ∀ m, m < n → ∀ h, exA k σ' m h = exA k σ m h := fun m hm h =>
  exa_m (funext (hQ.2.2 5 (by omega))) (funext (hQ.2.2 7 (by omega))) (funext (hQ.2.2 8 (by omega))) (funext (hQ.2.2 9 (by omega))) (funext (hQ.2.2 21 (by omega))) (funext (hQ.2.2 25 (by omega))) (funext (hQ.2.2 26 (by omega))) (e28 m hm) (e29 m hm) (fun x hx => e30 _ (by omega))
theorem upM_rd {w d : Int} {p n : Nat} {A : am_S} (h : A.1 27 0 = (n : Int)) : (upM w d p A).1 27 0 = (n : Int) + 1 ∧ (∀ m, m < n → (upM w d p A).1 28 m = A.1 28 m ∧ (upM w d p A).1 29 m = A.1 29 m) ∧ ∀ i, i < n * 8 → (upM w d p A).1 30 i = A.1 30 i := by
  have e : (A.1 27 0).toNat = n := by rw [h]; rfl
  unfold upM
  rw [e]
  refine ⟨by simp [h], fun m hm => ⟨?_, ?_⟩, fun i hi => ?_⟩
  · show (if (28 : Nat) = 27 ∧ m = 0 then A.1 27 0 + 1 else if (28 : Nat) = 28 ∧ m = n then w else if (28 : Nat) = 29 ∧ m = n then d else if (28 : Nat) = 30 ∧ n * 8 ≤ m ∧ m < n * 8 + 8 then A.1 p (m - n * 8) else A.1 28 m) = _
    rw [if_neg (by omega), if_neg (by omega), if_neg (by omega), if_neg (by omega)]
  · show (if (29 : Nat) = 27 ∧ m = 0 then A.1 27 0 + 1 else if (29 : Nat) = 28 ∧ m = n then w else if (29 : Nat) = 29 ∧ m = n then d else if (29 : Nat) = 30 ∧ n * 8 ≤ m ∧ m < n * 8 + 8 then A.1 p (m - n * 8) else A.1 29 m) = _
    rw [if_neg (by omega), if_neg (by omega), if_neg (by omega), if_neg (by omega)]
  · show (if (30 : Nat) = 27 ∧ i = 0 then A.1 27 0 + 1 else if (30 : Nat) = 28 ∧ i = n then w else if (30 : Nat) = 29 ∧ i = n then d else if (30 : Nat) = 30 ∧ n * 8 ≤ i ∧ i < n * 8 + 8 then A.1 p (i - n * 8) else A.1 30 i) = _
    rw [if_neg (by omega), if_neg (by omega), if_neg (by omega), if_neg (by omega)]
theorem lw_46 {k mm pH L : Nat} {xs : Nat → Int32} {D : Nat → Nat → Int} {A : am_S} (σ : am_S) (hA : LA k mm pH L xs D A) (hZ : LZ k mm D A σ) (pl : Int) (hpl : (BS k mm D A < 1000000 ∧ pl = BS k mm D A) ∨ (¬ BS k mm D A < 1000000 ∧ pl = -9)) : TT am_b0 (am_b0.getD 46 []) [(0, vR 1), (1, vR 2), (6, vI (((k : Nat) : Int))), (8, vI (((mm : Nat) : Int))), (11, vI (pl))] [] σ (fun r σ' => QL r σ') := by
  refine tt_ar rfl ?_
  refine tt_ar rfl ?_
  refine tt_ar rfl ?_
  refine tt_cv3 3 rfl (wo_2 hZ.1.w) (c21 σ k mm 0 D hZ.1 2 8) ?_
  intro r1 σ1 hq1
  rw [show x_row σ 2 8 = (vI 8, upS 60 40 (fun _ => 0) 8 σ) from rfl] at hq1
  have hZ1 : LZ k mm D A σ1 := ls_of hZ hq1 (fun a j b => by show (if a = 60 ∧ j = 1 then _ else if a = 60 + 1 ∧ j < 40 then _ else σ.1 a j) = σ.1 a j; rw [if_neg (by omega), if_neg (by omega)])
  obtain ⟨-, rfl, hE1, -⟩ := hq1
  have z60 : σ1.1 60 1 = 8 := (hE1 60 1 (by unfold bcP; omega)).trans (upS_1 (s := 60))
  · refine tt_ar rfl ?_
    refine tt_icne (fun h => absurd h (by omega)) (fun _ => ?_)
    refine tt_ar rfl ?_
    refine tt_goto ?_
    refine tt_ar rfl ?_
    refine tt_ar rfl ?_
    refine tt_ar rfl ?_
    refine tt_nop ?_
    have lp49_1 : ∀ (μ : Nat) (x : Nat) (σx : am_S), 8 - x < μ → (x ≤ 8) → (LZ k mm D A σx) → (σx.1 60 1 = 8) → (∀ i, i < x → 0 ≤ σx.1 61 i ∧ σx.1 61 i ≤ 7) → TT am_b0 (am_b0.getD 49 []) [(0, vR 1), (1, vR 2), (6, vI (((k : Nat) : Int))), (8, vI (((mm : Nat) : Int))), (11, vI (pl)), (16, vI (1)), (17, vI (((x : Nat) : Int)))] [] σx (fun r σ' => QL r σ') := by
      intro μ
      induction μ with
      | zero => intro x σx hμ; exact absurd hμ (Nat.not_lt_zero _)
      | succ μ ih49 =>
        intro x σx hμ hx hZx z60x z61
        refine tt_ar rfl ?_
        refine tt_ar rfl ?_
        refine tt_icge (fun h49_2 => ?_) (fun h49_2 => ?_)
        · refine tt_ar rfl ?_
          refine tt_ifeqF (by decide) ?_
          refine tt_ar rfl ?_
          refine tt_ar rfl ?_
          refine tt_ar rfl ?_
          refine tt_cs2 2 rfl (c173' σx L xs (lz_sc hA hZx) hA.2.1.2 (24) (by omega) _ (by omega)) (kxI (fun xc1 hxc1 => ?_))
          · refine tt_ar rfl ?_
            refine tt_cs2 2 rfl (c172 σx _ _ (by omega)) (kx (fun i2 hi2 => ?_))
            · refine tt_ar rfl ?_
              refine tt_ar rfl ?_
              refine tt_ar rfl ?_
              refine tt_cs2 2 rfl (c173' σx L xs (lz_sc hA hZx) hA.2.1.2 (24) (by omega) _ (by omega)) (kxI (fun xc3 hxc3 => ?_))
              · refine tt_ar rfl ?_
                refine tt_bI (g := a_shr) (z := a_shr (xc3) (2)) rfl rfl ?_
                refine tt_ar rfl ?_
                refine tt_cs2 2 rfl (c172 σx _ _ (by omega)) (kx (fun i4 hi4 => ?_))
                · have e8 : x = 8 := by omega
                  subst e8
                  have hmm := hA.1.2.2
                  have h27x := hZx.1.x.2.2.1.1
                  refine tt_cv4 4 rfl (wo_2 hZx.1.w) (c61 σx k mm 0 D hZx.1 (((i2 : Nat) : Int)) 2 (((i4 : Nat) : Int))) ?_
                  intro r7 σ7 hq7
                  rw [show x_monday σx (((i2 : Nat) : Int)) 2 (((i4 : Nat) : Int)) = (vI (mm : Int), upM (((i2 : Nat) : Int)) (((i4 : Nat) : Int)) 61 σx) from by unfold x_monday; rw [if_pos (by omega), if_neg (show ¬ σx.1 (56 + 2 * Int.toNat 2) 1 < 0 from by show ¬ σx.1 60 1 < 0; omega), if_pos (show σx.1 (56 + 2 * Int.toNat 2) 1 = 8 from z60x), if_pos (show ∀ j, j < 8 → 0 ≤ σx.1 (57 + 2 * Int.toNat 2) j ∧ σx.1 (57 + 2 * Int.toNat 2) j ≤ 40 from fun j hj => by have := z61 j hj; exact ⟨this.1, by show σx.1 61 j ≤ 40; omega⟩), if_pos (by omega), h27x]; rfl] at hq7
                  obtain ⟨nm7, hC7, rfl, hE7, hQ7⟩ := hq7
                  obtain ⟨u1, u2, u3⟩ := upM_rd (w := ((i2 : Nat) : Int)) (d := ((i4 : Nat) : Int)) (p := 61) h27x
                  have z27 : σ7.1 27 0 = (mm : Int) + 1 := (hE7 27 0 (by unfold bcP; omega)).trans u1
                  obtain rfl : nm7 = mm + 1 := by have := hC7.x.2.2.1.1; omega
                  have x7 : ∀ m, m < mm → ∀ h, exA k σ7 m h = exA k σx m h := exa_q hQ7 (fun m hm => (hE7 28 m (by unfold bcP; omega)).trans (u2 m hm).1) (fun m hm => (hE7 29 m (by unfold bcP; omega)).trans (u2 m hm).2) (fun i hi => (hE7 30 i (by unfold bcP; omega)).trans (u3 i hi))
                  have ex7 : ∀ m, m < mm → ∀ h, exA k σ7 m h = exA k A m h := fun m hm h => by rw [x7 m hm h, hZx.exq]
                  have hB7 : BS k mm D A = bsN 1000000 (nkT k) mm D (exA k σ7) := (bs_c ex7).symm
                  have hBB : BS k mm D A ≤ bsN 1000000 (nkT k) (mm + 1) D (exA k σ7) := by rw [hB7]; exact bs_more (by omega) (fun a b ha hb => (la_D hA ha hb).1) (fun m h _ => (cPr_bd hC7.x.1).1) (by omega)
                  have hB0 := la_Bnn hA
                  · refine tt_ar rfl ?_
                    refine tt_iceq (fun h54_18 => ?_) (fun h54_18 => ?_)
                    · refine tt_ar rfl ?_
                      refine tt_cv1 1 rfl (wo_2 hC7.w) (c101 σ7 k (mm + 1) 0 D hC7) ?_
                      intro r8 σ8 hq8
                      obtain ⟨th, hth, hthe⟩ : ∃ th : Int, ((bsN 1000000 (nkT k) (mm + 1) D (exA k σ7) < 1000000 ∧ th = bsN 1000000 (nkT k) (mm + 1) D (exA k σ7)) ∨ (¬ bsN 1000000 (nkT k) (mm + 1) D (exA k σ7) < 1000000 ∧ th = -9)) ∧ x_plain k (mm + 1) D σ7 = (vI th, σ7) := by
                        unfold x_plain
                        by_cases c : bsN 1000000 (nkT k) (mm + 1) D (exA k σ7) < 1000000
                        · rw [if_pos c]; exact ⟨_, Or.inl ⟨c, rfl⟩, rfl⟩
                        · rw [if_neg c]; exact ⟨_, Or.inr ⟨c, rfl⟩, rfl⟩
                      rw [hthe] at hq8
                      obtain ⟨hC8, rfl, hE8, hQ8⟩ := hq8
                      · refine tt_ar rfl ?_
                        refine tt_ar rfl ?_
                        refine tt_iflt (fun h56_4 => ?_) (fun h56_4 => ?_)
                        · refine tt_ar rfl ?_
                          refine tt_ifge (fun h57_1 => ?_) (fun h57_1 => ?_)
                          · refine tt_ar rfl ?_
                            refine tt_ar rfl ?_
                            have z278 : σ8.1 27 0 = (mm : Int) + 1 := (hE8 27 0 (by unfold bcP; omega)).trans z27
                            refine tt_cv2 2 rfl (wo_2 hC8.w) (c69 σ8 k (mm + 1) 0 D hC8 (mm : Int)) ?_
                            intro r9 σ9 hq9
                            rw [show x_back σ8 (mm : Int) = (vI 1, am_set σ8 27 0 (mm : Int)) from by unfold x_back; rw [if_pos ⟨by omega, by omega⟩, show σ8.1 27 0 - (mm : Int) = 1 by omega]] at hq9
                            obtain ⟨nm9, hC9, rfl, hE9, hQ9⟩ := hq9
                            have z279 : σ9.1 27 0 = (mm : Int) := (hE9 27 0 (by unfold bcP; omega)).trans am_set_rd
                            obtain rfl : nm9 = mm := by have := hC9.x.2.2.1.1; omega
                            have ex9 : ∀ m, m < nm9 → ∀ h, exA k σ9 m h = exA k A m h := fun m hm h => (exa_q (n := nm9) (hQ8.tr hQ9) (fun m hm => (hE9 28 m (by unfold bcP; omega)).trans ((am_set_nb (by decide)).trans (hE8 28 m (by unfold bcP; omega)))) (fun m hm => (hE9 29 m (by unfold bcP; omega)).trans ((am_set_nb (by decide)).trans (hE8 29 m (by unfold bcP; omega)))) (fun i hi => (hE9 30 i (by unfold bcP; omega)).trans ((am_set_nb (by decide)).trans (hE8 30 i (by unfold bcP; omega)))) m hm h).trans (ex7 m hm h)
                            have hB9 : bsN 1000000 (nkT k) nm9 D (exA k σ9) = BS k nm9 D A := bs_c ex9
                            · refine tt_ar rfl ?_
                              refine tt_icne (fun h => absurd h (by omega)) (fun _ => ?_)
                              refine tt_ar rfl ?_
                              refine tt_cv1 1 rfl (wo_2 hC9.w) (c101 σ9 k nm9 0 D hC9) ?_
                              intro r10 σ10 hq10
                              rw [show x_plain k nm9 D σ9 = (vI pl, σ9) from by unfold x_plain; rw [hB9]; rcases hpl with ⟨p1, p2⟩ | ⟨p1, p2⟩; rw [if_pos p1, p2]; rw [if_neg p1, p2]] at hq10
                              obtain ⟨hC10, rfl, hE10, hQ10⟩ := hq10
                              have hQ := (hQ7.tr (hQ8.tr hQ9)).tr hQ10
                              have hSx := lz_sc hA hZx
                              have hS10 : Sc L xs σ10 := ⟨fun j => (hQ.2.2 1 (by omega) j).trans (hSx.1 j), hQ.2.1.1 _ _ hSx.2⟩
                              have hN10 : nIN σ10.2.2.1 ≤ 1000 ∧ sIN σ10.2.2.1 ≤ 1000000 := by have q1 := hQ.2.1.2; have q2 := hZx.2.1.2.1.2; have q3 := hA.2.2.2.2; omega
                              · refine tt_ar rfl ?_
                                refine tt_iceq (fun h58_8 => ?_) (fun h58_8 => ?_)
                                · refine tt_loc [(0, vR 1), (1, vR 2), (6, vI (((k : Nat) : Int)))] rfl rfl ⟨rfl, rfl, rfl, trivial⟩ ?_
                                  exact lw_60 σ10 L xs hC10 hA.1.2.1 hS10 hA.2.1.2 hN10
                                · refine tt_nop ?_
                                  exfalso; omega
                          · refine tt_ar rfl ?_
                            refine tt_ifge (fun h57_3 => ?_) (fun h57_3 => ?_)
                            · exfalso; omega
                            · refine tt_nop ?_
                              refine tt_ar rfl ?_
                              refine tt_ar rfl ?_
                              have z278 : σ8.1 27 0 = (mm : Int) + 1 := (hE8 27 0 (by unfold bcP; omega)).trans z27
                              refine tt_cv2 2 rfl (wo_2 hC8.w) (c69 σ8 k (mm + 1) 0 D hC8 (mm : Int)) ?_
                              intro r9 σ9 hq9
                              rw [show x_back σ8 (mm : Int) = (vI 1, am_set σ8 27 0 (mm : Int)) from by unfold x_back; rw [if_pos ⟨by omega, by omega⟩, show σ8.1 27 0 - (mm : Int) = 1 by omega]] at hq9
                              obtain ⟨nm9, hC9, rfl, hE9, hQ9⟩ := hq9
                              have z279 : σ9.1 27 0 = (mm : Int) := (hE9 27 0 (by unfold bcP; omega)).trans am_set_rd
                              obtain rfl : nm9 = mm := by have := hC9.x.2.2.1.1; omega
                              have ex9 : ∀ m, m < nm9 → ∀ h, exA k σ9 m h = exA k A m h := fun m hm h => (exa_q (n := nm9) (hQ8.tr hQ9) (fun m hm => (hE9 28 m (by unfold bcP; omega)).trans ((am_set_nb (by decide)).trans (hE8 28 m (by unfold bcP; omega)))) (fun m hm => (hE9 29 m (by unfold bcP; omega)).trans ((am_set_nb (by decide)).trans (hE8 29 m (by unfold bcP; omega)))) (fun i hi => (hE9 30 i (by unfold bcP; omega)).trans ((am_set_nb (by decide)).trans (hE8 30 i (by unfold bcP; omega)))) m hm h).trans (ex7 m hm h)
                              have hB9 : bsN 1000000 (nkT k) nm9 D (exA k σ9) = BS k nm9 D A := bs_c ex9
                              · refine tt_ar rfl ?_
                                refine tt_icne (fun h => absurd h (by omega)) (fun _ => ?_)
                                refine tt_ar rfl ?_
                                refine tt_cv1 1 rfl (wo_2 hC9.w) (c101 σ9 k nm9 0 D hC9) ?_
                                intro r10 σ10 hq10
                                rw [show x_plain k nm9 D σ9 = (vI pl, σ9) from by unfold x_plain; rw [hB9]; rcases hpl with ⟨p1, p2⟩ | ⟨p1, p2⟩; rw [if_pos p1, p2]; rw [if_neg p1, p2]] at hq10
                                obtain ⟨hC10, rfl, hE10, hQ10⟩ := hq10
                                have hQ := (hQ7.tr (hQ8.tr hQ9)).tr hQ10
                                have hSx := lz_sc hA hZx
                                have hS10 : Sc L xs σ10 := ⟨fun j => (hQ.2.2 1 (by omega) j).trans (hSx.1 j), hQ.2.1.1 _ _ hSx.2⟩
                                have hN10 : nIN σ10.2.2.1 ≤ 1000 ∧ sIN σ10.2.2.1 ≤ 1000000 := by have q1 := hQ.2.1.2; have q2 := hZx.2.1.2.1.2; have q3 := hA.2.2.2.2; omega
                                · refine tt_ar rfl ?_
                                  refine tt_iceq (fun h58_8 => ?_) (fun h58_8 => ?_)
                                  · refine tt_loc [(0, vR 1), (1, vR 2), (6, vI (((k : Nat) : Int)))] rfl rfl ⟨rfl, rfl, rfl, trivial⟩ ?_
                                    exact lw_60 σ10 L xs hC10 hA.1.2.1 hS10 hA.2.1.2 hN10
                                  · refine tt_nop ?_
                                    exfalso; omega
                        · refine tt_ar rfl ?_
                          refine tt_iflt (fun h56_6 => ?_) (fun h56_6 => ?_)
                          · exfalso; omega
                          · refine tt_ar rfl ?_
                            refine tt_ar rfl ?_
                            refine tt_iclt (fun h56_9 => ?_) (fun h56_9 => ?_)
                            · exfalso; omega
                            · refine tt_nop ?_
                              refine tt_ar rfl ?_
                              refine tt_ifge (fun h57_1 => ?_) (fun h57_1 => ?_)
                              · refine tt_ar rfl ?_
                                refine tt_ar rfl ?_
                                have z278 : σ8.1 27 0 = (mm : Int) + 1 := (hE8 27 0 (by unfold bcP; omega)).trans z27
                                refine tt_cv2 2 rfl (wo_2 hC8.w) (c69 σ8 k (mm + 1) 0 D hC8 (mm : Int)) ?_
                                intro r9 σ9 hq9
                                rw [show x_back σ8 (mm : Int) = (vI 1, am_set σ8 27 0 (mm : Int)) from by unfold x_back; rw [if_pos ⟨by omega, by omega⟩, show σ8.1 27 0 - (mm : Int) = 1 by omega]] at hq9
                                obtain ⟨nm9, hC9, rfl, hE9, hQ9⟩ := hq9
                                have z279 : σ9.1 27 0 = (mm : Int) := (hE9 27 0 (by unfold bcP; omega)).trans am_set_rd
                                obtain rfl : nm9 = mm := by have := hC9.x.2.2.1.1; omega
                                have ex9 : ∀ m, m < nm9 → ∀ h, exA k σ9 m h = exA k A m h := fun m hm h => (exa_q (n := nm9) (hQ8.tr hQ9) (fun m hm => (hE9 28 m (by unfold bcP; omega)).trans ((am_set_nb (by decide)).trans (hE8 28 m (by unfold bcP; omega)))) (fun m hm => (hE9 29 m (by unfold bcP; omega)).trans ((am_set_nb (by decide)).trans (hE8 29 m (by unfold bcP; omega)))) (fun i hi => (hE9 30 i (by unfold bcP; omega)).trans ((am_set_nb (by decide)).trans (hE8 30 i (by unfold bcP; omega)))) m hm h).trans (ex7 m hm h)
                                have hB9 : bsN 1000000 (nkT k) nm9 D (exA k σ9) = BS k nm9 D A := bs_c ex9
                                · refine tt_ar rfl ?_
                                  refine tt_icne (fun h => absurd h (by omega)) (fun _ => ?_)
                                  refine tt_ar rfl ?_
                                  refine tt_cv1 1 rfl (wo_2 hC9.w) (c101 σ9 k nm9 0 D hC9) ?_
                                  intro r10 σ10 hq10
                                  rw [show x_plain k nm9 D σ9 = (vI pl, σ9) from by unfold x_plain; rw [hB9]; rcases hpl with ⟨p1, p2⟩ | ⟨p1, p2⟩; rw [if_pos p1, p2]; rw [if_neg p1, p2]] at hq10
                                  obtain ⟨hC10, rfl, hE10, hQ10⟩ := hq10
                                  have hQ := (hQ7.tr (hQ8.tr hQ9)).tr hQ10
                                  have hSx := lz_sc hA hZx
                                  have hS10 : Sc L xs σ10 := ⟨fun j => (hQ.2.2 1 (by omega) j).trans (hSx.1 j), hQ.2.1.1 _ _ hSx.2⟩
                                  have hN10 : nIN σ10.2.2.1 ≤ 1000 ∧ sIN σ10.2.2.1 ≤ 1000000 := by have q1 := hQ.2.1.2; have q2 := hZx.2.1.2.1.2; have q3 := hA.2.2.2.2; omega
                                  · refine tt_ar rfl ?_
                                    refine tt_iceq (fun h58_8 => ?_) (fun h58_8 => ?_)
                                    · refine tt_loc [(0, vR 1), (1, vR 2), (6, vI (((k : Nat) : Int)))] rfl rfl ⟨rfl, rfl, rfl, trivial⟩ ?_
                                      exact lw_60 σ10 L xs hC10 hA.1.2.1 hS10 hA.2.1.2 hN10
                                    · refine tt_nop ?_
                                      exfalso; omega
                              · refine tt_ar rfl ?_
                                refine tt_ifge (fun h57_3 => ?_) (fun h57_3 => ?_)
                                · exfalso; omega
                                · refine tt_nop ?_
                                  refine tt_ar rfl ?_
                                  refine tt_ar rfl ?_
                                  have z278 : σ8.1 27 0 = (mm : Int) + 1 := (hE8 27 0 (by unfold bcP; omega)).trans z27
                                  refine tt_cv2 2 rfl (wo_2 hC8.w) (c69 σ8 k (mm + 1) 0 D hC8 (mm : Int)) ?_
                                  intro r9 σ9 hq9
                                  rw [show x_back σ8 (mm : Int) = (vI 1, am_set σ8 27 0 (mm : Int)) from by unfold x_back; rw [if_pos ⟨by omega, by omega⟩, show σ8.1 27 0 - (mm : Int) = 1 by omega]] at hq9
                                  obtain ⟨nm9, hC9, rfl, hE9, hQ9⟩ := hq9
                                  have z279 : σ9.1 27 0 = (mm : Int) := (hE9 27 0 (by unfold bcP; omega)).trans am_set_rd
                                  obtain rfl : nm9 = mm := by have := hC9.x.2.2.1.1; omega
                                  have ex9 : ∀ m, m < nm9 → ∀ h, exA k σ9 m h = exA k A m h := fun m hm h => (exa_q (n := nm9) (hQ8.tr hQ9) (fun m hm => (hE9 28 m (by unfold bcP; omega)).trans ((am_set_nb (by decide)).trans (hE8 28 m (by unfold bcP; omega)))) (fun m hm => (hE9 29 m (by unfold bcP; omega)).trans ((am_set_nb (by decide)).trans (hE8 29 m (by unfold bcP; omega)))) (fun i hi => (hE9 30 i (by unfold bcP; omega)).trans ((am_set_nb (by decide)).trans (hE8 30 i (by unfold bcP; omega)))) m hm h).trans (ex7 m hm h)
                                  have hB9 : bsN 1000000 (nkT k) nm9 D (exA k σ9) = BS k nm9 D A := bs_c ex9
                                  · refine tt_ar rfl ?_
                                    refine tt_icne (fun h => absurd h (by omega)) (fun _ => ?_)
                                    refine tt_ar rfl ?_
                                    refine tt_cv1 1 rfl (wo_2 hC9.w) (c101 σ9 k nm9 0 D hC9) ?_
                                    intro r10 σ10 hq10
                                    rw [show x_plain k nm9 D σ9 = (vI pl, σ9) from by unfold x_plain; rw [hB9]; rcases hpl with ⟨p1, p2⟩ | ⟨p1, p2⟩; rw [if_pos p1, p2]; rw [if_neg p1, p2]] at hq10
                                    obtain ⟨hC10, rfl, hE10, hQ10⟩ := hq10
                                    have hQ := (hQ7.tr (hQ8.tr hQ9)).tr hQ10
                                    have hSx := lz_sc hA hZx
                                    have hS10 : Sc L xs σ10 := ⟨fun j => (hQ.2.2 1 (by omega) j).trans (hSx.1 j), hQ.2.1.1 _ _ hSx.2⟩
                                    have hN10 : nIN σ10.2.2.1 ≤ 1000 ∧ sIN σ10.2.2.1 ≤ 1000000 := by have q1 := hQ.2.1.2; have q2 := hZx.2.1.2.1.2; have q3 := hA.2.2.2.2; omega
                                    · refine tt_ar rfl ?_
                                      refine tt_iceq (fun h58_8 => ?_) (fun h58_8 => ?_)
                                      · refine tt_loc [(0, vR 1), (1, vR 2), (6, vI (((k : Nat) : Int)))] rfl rfl ⟨rfl, rfl, rfl, trivial⟩ ?_
                                        exact lw_60 σ10 L xs hC10 hA.1.2.1 hS10 hA.2.1.2 hN10
                                      · refine tt_nop ?_
                                        exfalso; omega
                    · refine tt_nop ?_
                      exfalso; omega
        · refine tt_ar rfl ?_
          refine tt_ifeqF (by decide) ?_
          refine tt_ar rfl ?_
          refine tt_ar rfl ?_
          refine tt_ar rfl ?_
          refine tt_ar rfl ?_
          refine tt_ar rfl ?_
          refine tt_cs2 2 rfl (c173' σx L xs (lz_sc hA hZx) hA.2.1.2 (23) (by omega) _ (by omega)) (kxI (fun xc5 hxc5 => ?_))
          · refine tt_ar rfl ?_
            refine tt_bI (g := a_shr) (z := a_shr (xc5) (((x : Nat) : Int))) rfl rfl ?_
            refine tt_ar rfl ?_
            refine tt_ar rfl ?_
            refine tt_icge (fun h49_15 => ?_) (fun h49_15 => ?_)
            · refine tt_ar rfl ?_
              refine tt_nop ?_
              refine tt_cs2 2 rfl (c172 σx _ _ (by omega)) (kx (fun i6 hi6 => ?_))
              · refine tt_cv4 4 rfl (wo_2 hZx.1.w) (c26 σx k mm 0 D hZx.1 2 (x : Int) (((i6 : Nat) : Int))) ?_
                intro r2 σ2 hq2
                rw [show x_lay σx 2 (x : Int) (((i6 : Nat) : Int)) = (vI 1, upA (σx.1 61 x) (am_set σx 61 x (((i6 : Nat) : Int)))) from by unfold x_lay; rw [if_pos (by omega), if_neg (show ¬ σx.1 (56 + 2 * Int.toNat 2) 1 < 0 from by show ¬ σx.1 60 1 < 0; omega), if_pos (show 0 ≤ (x : Int) ∧ (x : Int) < σx.1 (56 + 2 * Int.toNat 2) 1 from by show 0 ≤ (x : Int) ∧ (x : Int) < σx.1 60 1; omega)]; rfl] at hq2
                have hZ2 : LZ k mm D A σ2 := ls_of hZx hq2 (fun a j b => (upA_nb (by omega)).trans (am_set_nb (by omega)))
                obtain ⟨-, rfl, hE2, -⟩ := hq2
                have z602 : σ2.1 60 1 = 8 := (hE2 60 1 (by unfold bcP; omega)).trans ((upA_nb (by decide)).trans ((am_set_nb (by decide)).trans z60x))
                have z612 : ∀ i, i < x + 1 → 0 ≤ σ2.1 61 i ∧ σ2.1 61 i ≤ 7 := fun i hi => by
                  rw [(hE2 61 i (by unfold bcP; omega)).trans ((upA_nb (by decide)).trans am_set_at)]
                  by_cases e : i = x
                  · rw [if_pos e]; omega
                  · rw [if_neg e]; exact z61 i (by omega)
                · refine tt_ar rfl ?_
                  refine tt_icne (fun h => absurd h (by omega)) (fun _ => ?_)
                  refine tt_ar rfl ?_
                  refine tt_goto ?_
                  refine tt_ar rfl ?_
                  refine tt_iinc (y := ((x + 1 : Nat) : Int)) rfl (iinc_fit (by omega) (by omega) (by omega)) ?_
                  refine tt_goto ?_
                  refine tt_loc [(0, vR 1), (1, vR 2), (6, vI (((k : Nat) : Int))), (8, vI (((mm : Nat) : Int))), (11, vI (pl)), (16, vI (1)), (17, vI (((x + 1 : Nat) : Int)))] rfl rfl ⟨rfl, rfl, rfl, rfl, rfl, rfl, rfl, trivial⟩ ?_
                  exact ih49 (x + 1) σ2 (by omega) (by omega) hZ2 z602 z612
            · refine tt_ar rfl ?_
              refine tt_goto ?_
              refine tt_cs2 2 rfl (c172 σx _ _ (by omega)) (kx (fun i7 hi7 => ?_))
              · refine tt_cv4 4 rfl (wo_2 hZx.1.w) (c26 σx k mm 0 D hZx.1 2 (x : Int) (((i7 : Nat) : Int))) ?_
                intro r2 σ2 hq2
                rw [show x_lay σx 2 (x : Int) (((i7 : Nat) : Int)) = (vI 1, upA (σx.1 61 x) (am_set σx 61 x (((i7 : Nat) : Int)))) from by unfold x_lay; rw [if_pos (by omega), if_neg (show ¬ σx.1 (56 + 2 * Int.toNat 2) 1 < 0 from by show ¬ σx.1 60 1 < 0; omega), if_pos (show 0 ≤ (x : Int) ∧ (x : Int) < σx.1 (56 + 2 * Int.toNat 2) 1 from by show 0 ≤ (x : Int) ∧ (x : Int) < σx.1 60 1; omega)]; rfl] at hq2
                have hZ2 : LZ k mm D A σ2 := ls_of hZx hq2 (fun a j b => (upA_nb (by omega)).trans (am_set_nb (by omega)))
                obtain ⟨-, rfl, hE2, -⟩ := hq2
                have z602 : σ2.1 60 1 = 8 := (hE2 60 1 (by unfold bcP; omega)).trans ((upA_nb (by decide)).trans ((am_set_nb (by decide)).trans z60x))
                have z612 : ∀ i, i < x + 1 → 0 ≤ σ2.1 61 i ∧ σ2.1 61 i ≤ 7 := fun i hi => by
                  rw [(hE2 61 i (by unfold bcP; omega)).trans ((upA_nb (by decide)).trans am_set_at)]
                  by_cases e : i = x
                  · rw [if_pos e]; omega
                  · rw [if_neg e]; exact z61 i (by omega)
                · refine tt_ar rfl ?_
                  refine tt_icne (fun h => absurd h (by omega)) (fun _ => ?_)
                  refine tt_ar rfl ?_
                  refine tt_goto ?_
                  refine tt_ar rfl ?_
                  refine tt_iinc (y := ((x + 1 : Nat) : Int)) rfl (iinc_fit (by omega) (by omega) (by omega)) ?_
                  refine tt_goto ?_
                  refine tt_loc [(0, vR 1), (1, vR 2), (6, vI (((k : Nat) : Int))), (8, vI (((mm : Nat) : Int))), (11, vI (pl)), (16, vI (1)), (17, vI (((x + 1 : Nat) : Int)))] rfl rfl ⟨rfl, rfl, rfl, rfl, rfl, rfl, rfl, trivial⟩ ?_
                  exact ih49 (x + 1) σ2 (by omega) (by omega) hZ2 z602 z612
    refine tt_loc [(0, vR 1), (1, vR 2), (6, vI (((k : Nat) : Int))), (8, vI (((mm : Nat) : Int))), (11, vI (pl)), (16, vI (1)), (17, vI (((0 : Nat) : Int)))] rfl rfl ⟨rfl, rfl, rfl, rfl, rfl, rfl, lv_to rfl (by omega), trivial⟩ ?_
    exact lp49_1 _ (0) σ1 (Nat.lt_succ_self _) (by omega) hZ1 z60 (fun i hi => absurd hi (Nat.not_lt_zero i))

