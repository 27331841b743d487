/-! THE REFERENCE'S CALLS: SEE -/
theorem sumN_s' {n : Nat} {g : Nat → Int} : sumN (n + 1) g = sumN n g + g n := rfl
theorem sumN_z {g : Nat → Int} : ∀ {n : Nat}, (∀ i, i < n → g i = 0) → sumN n g = 0
  | 0, _ => rfl
  | n + 1, h => by
    rw [sumN_s', sumN_z (fun i hi => h i (by omega)), h n (by omega)]
    rfl
/-- pairs once each -/
theorem pairs_once {u : Nat → Nat → Int} (hd : ∀ a, u a a = 0) : ∀ n, sumN n (fun a => sumN n (fun b => u a b)) = sumN n (fun a => sumN n (fun b => if a < b then u a b + u b a else 0))
  | 0 => rfl
  | n + 1 => by
    have ih := pairs_once hd n
    have e1 : sumN (n + 1) (fun a => sumN (n + 1) (fun b => u a b)) = sumN n (fun a => sumN n (fun b => u a b)) + sumN n (fun a => u a n) + (sumN n (fun b => u n b) + u n n) := by
      rw [sumN_s']
      show sumN n (fun a => sumN n (fun b => u a b) + u a n) + (sumN n (fun b => u n b) + u n n) = _
      rw [sumN_add]
    have e2 : sumN (n + 1) (fun a => sumN (n + 1) (fun b => if a < b then u a b + u b a else 0)) = sumN n (fun a => sumN n (fun b => if a < b then u a b + u b a else 0)) + sumN n (fun a => u a n + u n a) := by
      rw [sumN_s']
      have z : sumN (n + 1) (fun b => if n < b then u n b + u b n else 0) = 0 := sumN_z (fun i hi => if_neg (by omega))
      rw [z, Int.add_zero]
      show sumN n (fun a => sumN n (fun b => if a < b then u a b + u b a else 0) + (if a < n then u a n + u n a else 0)) = _
      rw [sumN_add]
      congr 1
      exact sumN_congr (fun i hi => if_pos hi)
    rw [e1, e2, ih, hd n, sumN_add]
    have e3 : sumN n (fun b => u n b) = sumN n (u n) := rfl
    omega
def uP (p : Nat → Bool) (lo hi : Nat → Int) (a b : Nat) : Int := if p a then (if p b then (if hi a + 1 ≤ lo b then 1 else 0) else 0) else 0
theorem ptM_once {N : Nat} {p : Nat → Bool} {lo hi : Nat → Int} (hl : ∀ a, a < N → lo a ≤ hi a) : ptM N p lo hi = sumN N (fun a => sumN N (fun b => if a < b then uP p lo hi a b + uP p lo hi b a else 0)) := by
  have e0 : ptM N p lo hi = sumN N (fun a => sumN N (fun b => if a = b then 0 else uP p lo hi a b)) := by
    unfold ptM
    refine sumN_congr (fun a ha => ?_)
    by_cases q : p a = true
    · rw [if_pos q]
      refine sumN_congr (fun b hb => ?_)
      by_cases e : a = b
      · subst e
        rw [if_pos q]
        have := hl a ha
        by_cases z : hi a + 1 ≤ lo a
        · omega
        · rw [if_neg z]
          simp
      · unfold uP
        rw [if_neg e, if_pos q]
    · rw [if_neg q]
      exact (sumN_z (fun b _ => by unfold uP; rw [if_neg q]; split <;> rfl)).symm
  rw [e0, pairs_once (u := fun a b => if a = b then 0 else uP p lo hi a b) (fun a => if_pos rfl)]
  refine sumN_congr (fun a ha => sumN_congr (fun b hb => ?_))
  show (if a < b then (if a = b then 0 else uP p lo hi a b) + (if b = a then 0 else uP p lo hi b a) else 0) = if a < b then uP p lo hi a b + uP p lo hi b a else 0
  by_cases h : a < b
  · rw [if_pos h, if_pos h, if_neg (by omega), if_neg (by omega)]
  · rw [if_neg h, if_neg h]
theorem uP_bd {p : Nat → Bool} {lo hi : Nat → Int} {a b : Nat} : 0 ≤ uP p lo hi a b ∧ uP p lo hi a b ≤ 1 := by
  unfold uP
  split
  · split
    · split <;> omega
    · omega
  · omega
theorem lo_hi {A : am_S} {k nm ns : Nat} {D : Nat → Nat → Int} {w : Int} {h x : Nat} (hA : CI k nm ns D A) (hh : h < nkT k) (hx : x < 8) : loF A w x (h : Int) ≤ A.1 26 (h * 8 + x) := by
  have := (HB_of hA.x.1 hA.x.2.1).2.2.2.1 (h * 8 + x) (by omega)
  unfold loF
  rw [Int.toNat_natCast]
  split <;> omega
theorem c266 (A σ : am_S) (k nm ns : Nat) (D : Nat → Nat → Int) (hA : CI k nm ns D A) (hW : Wd σ) (hR : RRb k nm ns D A σ) (ex : Nat → Nat → Int) (hex : exA k A = ex) (hs : σ.1 76 31 = 1) (hT : TLs k nm D ex σ) (ht : bsN 1000000 (nkT k) nm D ex < 1000000) (w : Int) (x : Nat) (hx : x < 8) (hn : 0 < nm) : CC 266 [vR 76, vI (w), vI (((x : Nat) : Int))] σ (fun r σ' => r = some (vI (ptA k nm D A w x)) ∧ σ' = σ) := by
  show TT am_b266 (am_b266.getD 0 []) [(0, vR 76), (1, vI (w)), (2, vI (((x : Nat) : Int)))] [] σ _
  have hk5 := hR.aa.1
  have hl27 := hR.aa.2.1
  have hs47 := hR.aa.2.2
  have hk6 := hA.x.1.2.1
  have hm12 := hA.x.2.2.1.2.1
  have hs16 := hA.st.2
  have hDA := hA.x.1
  have hHT := hA.x.2.1
  have hLA := hA.x.2.2.1
  have hHB := HB_of hDA hHT
  have hnb := nkT_bd k
  have hpr := hDA.2.2.2.1
  have hDx : ∀ a b, a < nkT k → b < nkT k → 0 ≤ D a b ∧ D a b ≤ 90 := fun a b ha hb => DI.bd hk6 hpr hA.x.2.2.2 ha hb
  have hD0 : ∀ a b, a < nkT k → b < nkT k → 0 ≤ D a b := fun a b ha hb => (hDx a b ha hb).1
  have hx9 : ∀ m h, ex m h ≤ 9 ∨ ex m h = 1000000 := fun m h => by rw [← hex]; exact (ep_mi hDA).2.1
  have hx0 : ∀ m h, 0 ≤ ex m h := fun m h => by rw [← hex]; exact (ep_mi hDA).2.2
  have hep : ∀ m h, epR A k m h = miN 100000 (ex m h) := fun m h => by rw [← hex]; exact (ep_mi hDA).1
  have hRH := RH_of hA hex
  refine tt_ar rfl ?_
  refine tt_ar rfl ?_
  refine tt_ar rfl ?_
  refine tt_ar rfl ?_
  refine tt_nop ?_
  have lp1_1 : ∀ (μ : Nat) (h : Nat), nkT k - h < μ → (h ≤ nkT k) → TT am_b266 (am_b266.getD 1 []) [(0, vR 76), (1, vI (w)), (2, vI (((x : Nat) : Int))), (3, vI (sumN h (fun a => sumN (nkT k) (fun b => if a < b then uP (plM 1000000 (nkT k) nm D ex (nm - 1)) (fun b => loF A w x (b : Int)) (fun a => hiF A x (a : Int)) a b + uP (plM 1000000 (nkT k) nm D ex (nm - 1)) (fun b => loF A w x (b : Int)) (fun a => hiF A x (a : Int)) b a else 0)))), (4, vI (((h : Nat) : Int)))] [] σ (fun r σ' => r = some (vI (ptA k nm D A w x)) ∧ σ' = σ) := by
    intro μ
    induction μ with
    | zero => intro h hμ; exact absurd hμ (Nat.not_lt_zero _)
    | succ μ ih1 =>
      intro h hμ hh
      have hab := sumN_bd (n := h) (f := fun a => sumN (nkT k) (fun b => if a < b then uP (plM 1000000 (nkT k) nm D ex (nm - 1)) (fun b => loF A w x (b : Int)) (fun a => hiF A x (a : Int)) a b + uP (plM 1000000 (nkT k) nm D ex (nm - 1)) (fun b => loF A w x (b : Int)) (fun a => hiF A x (a : Int)) b a else 0)) (a := 0) (b := 924) (fun i _ => by have := sumN_bd (n := nkT k) (f := fun b => if i < b then uP (plM 1000000 (nkT k) nm D ex (nm - 1)) (fun b => loF A w x (b : Int)) (fun a => hiF A x (a : Int)) i b + uP (plM 1000000 (nkT k) nm D ex (nm - 1)) (fun b => loF A w x (b : Int)) (fun a => hiF A x (a : Int)) b i else 0) (a := 0) (b := 2) (fun j _ => by have h1 := uP_bd (p := (plM 1000000 (nkT k) nm D ex (nm - 1))) (lo := (fun b => loF A w x (b : Int))) (hi := (fun a => hiF A x (a : Int))) (a := i) (b := j); have h2 := uP_bd (p := (plM 1000000 (nkT k) nm D ex (nm - 1))) (lo := (fun b => loF A w x (b : Int))) (hi := (fun a => hiF A x (a : Int))) (a := j) (b := i); split <;> omega); omega)
      refine tt_ar rfl ?_
      refine tt_ar rfl ?_
      refine tt_getI (x := ((nkT k : Nat) : Int)) (wo_76 hW) rfl hR.hs.1 ?_
      refine tt_icge (fun h1_3 => ?_) (fun h1_3 => ?_)
      · refine tt_ar rfl ?_
        refine tt_iret ?_
        have eh : h = nkT k := by omega
        have hpo := ptM_once (N := nkT k) (p := (plM 1000000 (nkT k) nm D ex (nm - 1))) (lo := (fun b => loF A w x (b : Int))) (hi := (fun a => hiF A x (a : Int))) (fun a ha => lo_hi hA ha hx)
        exact ⟨rv (by rw [eh, ← hpo]; unfold ptA; rw [hex]), rfl⟩
      · refine tt_ar rfl ?_
        refine tt_ar rfl ?_
        refine tt_iadd (by omega) (by omega) ?_
        refine tt_ar rfl ?_
        refine tt_nop ?_
        have lp2_2 : ∀ (μ : Nat) (g : Nat), nkT k - g < μ → (g ≤ nkT k) → (h < g) → TT am_b266 (am_b266.getD 2 []) [(0, vR 76), (1, vI (w)), (2, vI (((x : Nat) : Int))), (3, vI ((sumN h (fun a => sumN (nkT k) (fun b => if a < b then uP (plM 1000000 (nkT k) nm D ex (nm - 1)) (fun b => loF A w x (b : Int)) (fun a => hiF A x (a : Int)) a b + uP (plM 1000000 (nkT k) nm D ex (nm - 1)) (fun b => loF A w x (b : Int)) (fun a => hiF A x (a : Int)) b a else 0)) + sumN g (fun b => if h < b then uP (plM 1000000 (nkT k) nm D ex (nm - 1)) (fun b => loF A w x (b : Int)) (fun a => hiF A x (a : Int)) h b + uP (plM 1000000 (nkT k) nm D ex (nm - 1)) (fun b => loF A w x (b : Int)) (fun a => hiF A x (a : Int)) b h else 0)))), (4, vI (((h : Nat) : Int))), (5, vI (((g : Nat) : Int)))] [] σ (fun r σ' => r = some (vI (ptA k nm D A w x)) ∧ σ' = σ) := by
          intro μ
          induction μ with
          | zero => intro g hμ; exact absurd hμ (Nat.not_lt_zero _)
          | succ μ ih2 =>
            intro g hμ hg hg2
            have hrb := sumN_bd (n := g) (f := fun b => if h < b then uP (plM 1000000 (nkT k) nm D ex (nm - 1)) (fun b => loF A w x (b : Int)) (fun a => hiF A x (a : Int)) h b + uP (plM 1000000 (nkT k) nm D ex (nm - 1)) (fun b => loF A w x (b : Int)) (fun a => hiF A x (a : Int)) b h else 0) (a := 0) (b := 2) (fun j _ => by have h1 := uP_bd (p := (plM 1000000 (nkT k) nm D ex (nm - 1))) (lo := (fun b => loF A w x (b : Int))) (hi := (fun a => hiF A x (a : Int))) (a := h) (b := j); have h2 := uP_bd (p := (plM 1000000 (nkT k) nm D ex (nm - 1))) (lo := (fun b => loF A w x (b : Int))) (hi := (fun a => hiF A x (a : Int))) (a := j) (b := h); split <;> omega)
            refine tt_ar rfl ?_
            refine tt_ar rfl ?_
            refine tt_getI (x := ((nkT k : Nat) : Int)) (wo_76 hW) rfl hR.hs.1 ?_
            refine tt_icge (fun h2_3 => ?_) (fun h2_3 => ?_)
            · have hfin : sumN h (fun a => sumN (nkT k) (fun b => if a < b then uP (plM 1000000 (nkT k) nm D ex (nm - 1)) (fun b => loF A w x (b : Int)) (fun a => hiF A x (a : Int)) a b + uP (plM 1000000 (nkT k) nm D ex (nm - 1)) (fun b => loF A w x (b : Int)) (fun a => hiF A x (a : Int)) b a else 0)) + sumN g (fun b => if h < b then uP (plM 1000000 (nkT k) nm D ex (nm - 1)) (fun b => loF A w x (b : Int)) (fun a => hiF A x (a : Int)) h b + uP (plM 1000000 (nkT k) nm D ex (nm - 1)) (fun b => loF A w x (b : Int)) (fun a => hiF A x (a : Int)) b h else 0) = sumN (h + 1) (fun a => sumN (nkT k) (fun b => if a < b then uP (plM 1000000 (nkT k) nm D ex (nm - 1)) (fun b => loF A w x (b : Int)) (fun a => hiF A x (a : Int)) a b + uP (plM 1000000 (nkT k) nm D ex (nm - 1)) (fun b => loF A w x (b : Int)) (fun a => hiF A x (a : Int)) b a else 0)) := by
                rw [show sumN (h + 1) (fun a => sumN (nkT k) (fun b => if a < b then uP (plM 1000000 (nkT k) nm D ex (nm - 1)) (fun b => loF A w x (b : Int)) (fun a => hiF A x (a : Int)) a b + uP (plM 1000000 (nkT k) nm D ex (nm - 1)) (fun b => loF A w x (b : Int)) (fun a => hiF A x (a : Int)) b a else 0)) = sumN h (fun a => sumN (nkT k) (fun b => if a < b then uP (plM 1000000 (nkT k) nm D ex (nm - 1)) (fun b => loF A w x (b : Int)) (fun a => hiF A x (a : Int)) a b + uP (plM 1000000 (nkT k) nm D ex (nm - 1)) (fun b => loF A w x (b : Int)) (fun a => hiF A x (a : Int)) b a else 0)) + sumN (nkT k) (fun b => if h < b then uP (plM 1000000 (nkT k) nm D ex (nm - 1)) (fun b => loF A w x (b : Int)) (fun a => hiF A x (a : Int)) h b + uP (plM 1000000 (nkT k) nm D ex (nm - 1)) (fun b => loF A w x (b : Int)) (fun a => hiF A x (a : Int)) b h else 0) from rfl]
                congr 1
                by_cases e : g = nkT k
                · rw [e]
                · have hnp : ¬ (plM 1000000 (nkT k) nm D ex (nm - 1)) h = true := by first | exact hph | (exfalso; omega)
                  have z1 : ∀ b, uP (plM 1000000 (nkT k) nm D ex (nm - 1)) (fun b => loF A w x (b : Int)) (fun a => hiF A x (a : Int)) h b = 0 := fun b => by unfold uP; rw [if_neg hnp]
                  have z2 : ∀ b, uP (plM 1000000 (nkT k) nm D ex (nm - 1)) (fun b => loF A w x (b : Int)) (fun a => hiF A x (a : Int)) b h = 0 := fun b => by unfold uP; rw [if_neg hnp]; split <;> rfl
                  rw [sumN_z (fun i hi => by rw [z1, z2]; split <;> rfl), sumN_z (fun i hi => by rw [z1, z2]; split <;> rfl)]
              refine tt_iinc (y := ((h + 1 : Nat) : Int)) rfl (iinc_fit (by omega) (by omega) (by omega)) ?_
              refine tt_goto ?_
              refine tt_loc [(0, vR 76), (1, vI (w)), (2, vI (((x : Nat) : Int))), (3, vI (sumN (h + 1) (fun a => sumN (nkT k) (fun b => if a < b then uP (plM 1000000 (nkT k) nm D ex (nm - 1)) (fun b => loF A w x (b : Int)) (fun a => hiF A x (a : Int)) a b + uP (plM 1000000 (nkT k) nm D ex (nm - 1)) (fun b => loF A w x (b : Int)) (fun a => hiF A x (a : Int)) b a else 0)))), (4, vI (((h + 1 : Nat) : Int)))] rfl rfl ⟨rfl, rfl, rfl, lv_to rfl hfin, rfl, trivial⟩ ?_
              exact ih1 (h + 1) (by omega) (by omega)
            · refine tt_ar rfl ?_
              refine tt_ar rfl ?_
              refine tt_getI (x := ((nm : Nat) : Int)) (wo_76 hW) rfl hR.ln.1 ?_
              refine tt_ar rfl ?_
              refine tt_isub (by omega) (by omega) ?_
              refine tt_ar rfl ?_
              have hc239 := c239 A σ k nm ns D hA hW hR ex hex hs hT (nm - 1) h (by omega) (by omega) ht
              rw [show ((nm - 1 : Nat) : Int) = ((nm : Nat) : Int) - 1 by omega] at hc239
              refine tt_cv3 3 rfl (wo_76 hW) hc239 (kb (fun h2_10 => ?_) (fun h2_10 => ?_))
              · have hph := h2_10
                refine tt_ifeqF (by decide) ?_
                refine tt_ar rfl ?_
                refine tt_ar rfl ?_
                refine tt_getR (wo_76 hW) rfl (wr_76_14 hW) ?_
                refine tt_ar rfl ?_
                refine tt_ar rfl ?_
                have hhb := hHB.2.2.2.1 (h * 8 + x) (by omega)
                refine tt_cv4 4 rfl (wo_76 hW) (c215_85 A σ k nm ns D hA hW hR h x (by omega) (by omega)) (kp ?_)
                refine tt_ar rfl ?_
                refine tt_ar rfl ?_
                refine tt_ar rfl ?_
                refine tt_ar rfl ?_
                have hlo := lo_bd (w := w) (x := x) (h := g) hHB (by omega) (by omega)
                refine tt_cv4 4 rfl (wo_76 hW) (c216 A σ k nm ns D hA hW hR g x (w) (by omega) (by omega)) (kp ?_)
                refine tt_iclt (fun h2_23 => ?_) (fun h2_23 => ?_)
                · refine tt_ar rfl ?_
                  refine tt_goto ?_
                  refine tt_ar rfl ?_
                  refine tt_ar rfl ?_
                  refine tt_ar rfl ?_
                  refine tt_ifeqF (by decide) ?_
                  refine tt_ar rfl ?_
                  refine tt_ar rfl ?_
                  refine tt_getI (x := ((nm : Nat) : Int)) (wo_76 hW) rfl hR.ln.1 ?_
                  refine tt_ar rfl ?_
                  refine tt_isub (by omega) (by omega) ?_
                  refine tt_ar rfl ?_
                  have hc239 := c239 A σ k nm ns D hA hW hR ex hex hs hT (nm - 1) g (by omega) (by omega) ht
                  rw [show ((nm - 1 : Nat) : Int) = ((nm : Nat) : Int) - 1 by omega] at hc239
                  refine tt_cv3 3 rfl (wo_76 hW) hc239 (kb (fun h5_10 => ?_) (fun h5_10 => ?_))
                  · have hpg := h5_10
                    refine tt_ifeqF (by decide) ?_
                    refine tt_ar rfl ?_
                    refine tt_goto ?_
                    have huu : uP (plM 1000000 (nkT k) nm D ex (nm - 1)) (fun b => loF A w x (b : Int)) (fun a => hiF A x (a : Int)) h g + uP (plM 1000000 (nkT k) nm D ex (nm - 1)) (fun b => loF A w x (b : Int)) (fun a => hiF A x (a : Int)) g h = 1 := by
                      have zh : (fun a => hiF A x (a : Int)) h = A.1 26 (h * 8 + x) := rfl
                      have zg : (fun a => hiF A x (a : Int)) g = A.1 26 (g * 8 + x) := rfl
                      have yh : (fun b => loF A w x (b : Int)) h = loF A w x (h : Int) := rfl
                      have yg : (fun b => loF A w x (b : Int)) g = loF A w x (g : Int) := rfl
                      have q1 := lo_hi hA (w := w) (x := x) (h := h) (by omega) (by omega)
                      have q2 := lo_hi hA (w := w) (x := x) (h := g) (by omega) (by omega)
                      unfold uP
                      rw [zh, zg, yh, yg, if_pos hph, if_pos hph]
                      by_cases eg : (plM 1000000 (nkT k) nm D ex (nm - 1)) g = true
                      · rw [if_pos eg, if_pos eg]
                        first | (exact absurd eg hpg) | (split <;> split <;> omega)
                      · rw [if_neg eg, if_neg eg]
                        first | rfl | exact absurd hpg eg
                    refine tt_iadd (by omega) (by omega) ?_
                    refine tt_ar rfl ?_
                    refine tt_iinc (y := ((g + 1 : Nat) : Int)) rfl (iinc_fit (by omega) (by omega) (by omega)) ?_
                    refine tt_goto ?_
                    refine tt_loc [(0, vR 76), (1, vI (w)), (2, vI (((x : Nat) : Int))), (3, vI ((sumN h (fun a => sumN (nkT k) (fun b => if a < b then uP (plM 1000000 (nkT k) nm D ex (nm - 1)) (fun b => loF A w x (b : Int)) (fun a => hiF A x (a : Int)) a b + uP (plM 1000000 (nkT k) nm D ex (nm - 1)) (fun b => loF A w x (b : Int)) (fun a => hiF A x (a : Int)) b a else 0)) + sumN (g + 1) (fun b => if h < b then uP (plM 1000000 (nkT k) nm D ex (nm - 1)) (fun b => loF A w x (b : Int)) (fun a => hiF A x (a : Int)) h b + uP (plM 1000000 (nkT k) nm D ex (nm - 1)) (fun b => loF A w x (b : Int)) (fun a => hiF A x (a : Int)) b h else 0)))), (4, vI (((h : Nat) : Int))), (5, vI (((g + 1 : Nat) : Int)))] rfl rfl ⟨rfl, rfl, rfl, lv_to rfl (by rw [show sumN (g + 1) (fun b => if h < b then uP (plM 1000000 (nkT k) nm D ex (nm - 1)) (fun b => loF A w x (b : Int)) (fun a => hiF A x (a : Int)) h b + uP (plM 1000000 (nkT k) nm D ex (nm - 1)) (fun b => loF A w x (b : Int)) (fun a => hiF A x (a : Int)) b h else 0) = sumN g (fun b => if h < b then uP (plM 1000000 (nkT k) nm D ex (nm - 1)) (fun b => loF A w x (b : Int)) (fun a => hiF A x (a : Int)) h b + uP (plM 1000000 (nkT k) nm D ex (nm - 1)) (fun b => loF A w x (b : Int)) (fun a => hiF A x (a : Int)) b h else 0) + (if h < g then uP (plM 1000000 (nkT k) nm D ex (nm - 1)) (fun b => loF A w x (b : Int)) (fun a => hiF A x (a : Int)) h g + uP (plM 1000000 (nkT k) nm D ex (nm - 1)) (fun b => loF A w x (b : Int)) (fun a => hiF A x (a : Int)) g h else 0) from rfl, if_pos hg2, huu]; omega), rfl, rfl, trivial⟩ ?_
                    exact ih2 (g + 1) (by omega) (by omega) (by omega)
                  · have hpg := h5_10
                    refine tt_ifeqT (by decide) ?_
                    refine tt_ar rfl ?_
                    refine tt_nop ?_
                    have huu : uP (plM 1000000 (nkT k) nm D ex (nm - 1)) (fun b => loF A w x (b : Int)) (fun a => hiF A x (a : Int)) h g + uP (plM 1000000 (nkT k) nm D ex (nm - 1)) (fun b => loF A w x (b : Int)) (fun a => hiF A x (a : Int)) g h = 0 := by
                      have zh : (fun a => hiF A x (a : Int)) h = A.1 26 (h * 8 + x) := rfl
                      have zg : (fun a => hiF A x (a : Int)) g = A.1 26 (g * 8 + x) := rfl
                      have yh : (fun b => loF A w x (b : Int)) h = loF A w x (h : Int) := rfl
                      have yg : (fun b => loF A w x (b : Int)) g = loF A w x (g : Int) := rfl
                      have q1 := lo_hi hA (w := w) (x := x) (h := h) (by omega) (by omega)
                      have q2 := lo_hi hA (w := w) (x := x) (h := g) (by omega) (by omega)
                      unfold uP
                      rw [zh, zg, yh, yg, if_pos hph, if_pos hph]
                      by_cases eg : (plM 1000000 (nkT k) nm D ex (nm - 1)) g = true
                      · rw [if_pos eg, if_pos eg]
                        first | (exact absurd eg hpg) | (split <;> split <;> omega)
                      · rw [if_neg eg, if_neg eg]
                        first | rfl | exact absurd hpg eg
                    refine tt_iadd (by omega) (by omega) ?_
                    refine tt_ar rfl ?_
                    refine tt_iinc (y := ((g + 1 : Nat) : Int)) rfl (iinc_fit (by omega) (by omega) (by omega)) ?_
                    refine tt_goto ?_
                    refine tt_loc [(0, vR 76), (1, vI (w)), (2, vI (((x : Nat) : Int))), (3, vI ((sumN h (fun a => sumN (nkT k) (fun b => if a < b then uP (plM 1000000 (nkT k) nm D ex (nm - 1)) (fun b => loF A w x (b : Int)) (fun a => hiF A x (a : Int)) a b + uP (plM 1000000 (nkT k) nm D ex (nm - 1)) (fun b => loF A w x (b : Int)) (fun a => hiF A x (a : Int)) b a else 0)) + sumN (g + 1) (fun b => if h < b then uP (plM 1000000 (nkT k) nm D ex (nm - 1)) (fun b => loF A w x (b : Int)) (fun a => hiF A x (a : Int)) h b + uP (plM 1000000 (nkT k) nm D ex (nm - 1)) (fun b => loF A w x (b : Int)) (fun a => hiF A x (a : Int)) b h else 0)))), (4, vI (((h : Nat) : Int))), (5, vI (((g + 1 : Nat) : Int)))] rfl rfl ⟨rfl, rfl, rfl, lv_to rfl (by rw [show sumN (g + 1) (fun b => if h < b then uP (plM 1000000 (nkT k) nm D ex (nm - 1)) (fun b => loF A w x (b : Int)) (fun a => hiF A x (a : Int)) h b + uP (plM 1000000 (nkT k) nm D ex (nm - 1)) (fun b => loF A w x (b : Int)) (fun a => hiF A x (a : Int)) b h else 0) = sumN g (fun b => if h < b then uP (plM 1000000 (nkT k) nm D ex (nm - 1)) (fun b => loF A w x (b : Int)) (fun a => hiF A x (a : Int)) h b + uP (plM 1000000 (nkT k) nm D ex (nm - 1)) (fun b => loF A w x (b : Int)) (fun a => hiF A x (a : Int)) b h else 0) + (if h < g then uP (plM 1000000 (nkT k) nm D ex (nm - 1)) (fun b => loF A w x (b : Int)) (fun a => hiF A x (a : Int)) h g + uP (plM 1000000 (nkT k) nm D ex (nm - 1)) (fun b => loF A w x (b : Int)) (fun a => hiF A x (a : Int)) g h else 0) from rfl, if_pos hg2, huu]; omega), rfl, rfl, trivial⟩ ?_
                    exact ih2 (g + 1) (by omega) (by omega) (by omega)
                · refine tt_ar rfl ?_
                  refine tt_ar rfl ?_
                  refine tt_getR (wo_76 hW) rfl (wr_76_14 hW) ?_
                  refine tt_ar rfl ?_
                  refine tt_ar rfl ?_
                  have hhb := hHB.2.2.2.1 (g * 8 + x) (by omega)
                  refine tt_cv4 4 rfl (wo_76 hW) (c215_85 A σ k nm ns D hA hW hR g x (by omega) (by omega)) (kp ?_)
                  refine tt_ar rfl ?_
                  refine tt_ar rfl ?_
                  refine tt_ar rfl ?_
                  refine tt_ar rfl ?_
                  have hlo := lo_bd (w := w) (x := x) (h := h) hHB (by omega) (by omega)
                  refine tt_cv4 4 rfl (wo_76 hW) (c216 A σ k nm ns D hA hW hR h x (w) (by omega) (by omega)) (kp ?_)
                  refine tt_icge (fun h2_35 => ?_) (fun h2_35 => ?_)
                  · refine tt_ar rfl ?_
                    refine tt_nop ?_
                    refine tt_ar rfl ?_
                    refine tt_ar rfl ?_
                    refine tt_ar rfl ?_
                    refine tt_ifeqT (by decide) ?_
                    refine tt_ar rfl ?_
                    refine tt_nop ?_
                    have huu : uP (plM 1000000 (nkT k) nm D ex (nm - 1)) (fun b => loF A w x (b : Int)) (fun a => hiF A x (a : Int)) h g + uP (plM 1000000 (nkT k) nm D ex (nm - 1)) (fun b => loF A w x (b : Int)) (fun a => hiF A x (a : Int)) g h = 0 := by
                      have zh : (fun a => hiF A x (a : Int)) h = A.1 26 (h * 8 + x) := rfl
                      have zg : (fun a => hiF A x (a : Int)) g = A.1 26 (g * 8 + x) := rfl
                      have yh : (fun b => loF A w x (b : Int)) h = loF A w x (h : Int) := rfl
                      have yg : (fun b => loF A w x (b : Int)) g = loF A w x (g : Int) := rfl
                      have q1 := lo_hi hA (w := w) (x := x) (h := h) (by omega) (by omega)
                      have q2 := lo_hi hA (w := w) (x := x) (h := g) (by omega) (by omega)
                      unfold uP
                      rw [zh, zg, yh, yg, if_pos hph, if_pos hph]
                      by_cases eg : (plM 1000000 (nkT k) nm D ex (nm - 1)) g = true
                      · rw [if_pos eg, if_pos eg]
                        first | (exact absurd eg hpg) | (split <;> split <;> omega)
                      · rw [if_neg eg, if_neg eg]
                        first | rfl | exact absurd hpg eg
                    refine tt_iadd (by omega) (by omega) ?_
                    refine tt_ar rfl ?_
                    refine tt_iinc (y := ((g + 1 : Nat) : Int)) rfl (iinc_fit (by omega) (by omega) (by omega)) ?_
                    refine tt_goto ?_
                    refine tt_loc [(0, vR 76), (1, vI (w)), (2, vI (((x : Nat) : Int))), (3, vI ((sumN h (fun a => sumN (nkT k) (fun b => if a < b then uP (plM 1000000 (nkT k) nm D ex (nm - 1)) (fun b => loF A w x (b : Int)) (fun a => hiF A x (a : Int)) a b + uP (plM 1000000 (nkT k) nm D ex (nm - 1)) (fun b => loF A w x (b : Int)) (fun a => hiF A x (a : Int)) b a else 0)) + sumN (g + 1) (fun b => if h < b then uP (plM 1000000 (nkT k) nm D ex (nm - 1)) (fun b => loF A w x (b : Int)) (fun a => hiF A x (a : Int)) h b + uP (plM 1000000 (nkT k) nm D ex (nm - 1)) (fun b => loF A w x (b : Int)) (fun a => hiF A x (a : Int)) b h else 0)))), (4, vI (((h : Nat) : Int))), (5, vI (((g + 1 : Nat) : Int)))] rfl rfl ⟨rfl, rfl, rfl, lv_to rfl (by rw [show sumN (g + 1) (fun b => if h < b then uP (plM 1000000 (nkT k) nm D ex (nm - 1)) (fun b => loF A w x (b : Int)) (fun a => hiF A x (a : Int)) h b + uP (plM 1000000 (nkT k) nm D ex (nm - 1)) (fun b => loF A w x (b : Int)) (fun a => hiF A x (a : Int)) b h else 0) = sumN g (fun b => if h < b then uP (plM 1000000 (nkT k) nm D ex (nm - 1)) (fun b => loF A w x (b : Int)) (fun a => hiF A x (a : Int)) h b + uP (plM 1000000 (nkT k) nm D ex (nm - 1)) (fun b => loF A w x (b : Int)) (fun a => hiF A x (a : Int)) b h else 0) + (if h < g then uP (plM 1000000 (nkT k) nm D ex (nm - 1)) (fun b => loF A w x (b : Int)) (fun a => hiF A x (a : Int)) h g + uP (plM 1000000 (nkT k) nm D ex (nm - 1)) (fun b => loF A w x (b : Int)) (fun a => hiF A x (a : Int)) g h else 0) from rfl, if_pos hg2, huu]; omega), rfl, rfl, trivial⟩ ?_
                    exact ih2 (g + 1) (by omega) (by omega) (by omega)
                  · refine tt_nop ?_
                    refine tt_ar rfl ?_
                    refine tt_goto ?_
                    refine tt_ar rfl ?_
                    refine tt_ar rfl ?_
                    refine tt_ar rfl ?_
                    refine tt_ifeqF (by decide) ?_
                    refine tt_ar rfl ?_
                    refine tt_ar rfl ?_
                    refine tt_getI (x := ((nm : Nat) : Int)) (wo_76 hW) rfl hR.ln.1 ?_
                    refine tt_ar rfl ?_
                    refine tt_isub (by omega) (by omega) ?_
                    refine tt_ar rfl ?_
                    have hc239 := c239 A σ k nm ns D hA hW hR ex hex hs hT (nm - 1) g (by omega) (by omega) ht
                    rw [show ((nm - 1 : Nat) : Int) = ((nm : Nat) : Int) - 1 by omega] at hc239
                    refine tt_cv3 3 rfl (wo_76 hW) hc239 (kb (fun h5_10 => ?_) (fun h5_10 => ?_))
                    · have hpg := h5_10
                      refine tt_ifeqF (by decide) ?_
                      refine tt_ar rfl ?_
                      refine tt_goto ?_
                      have huu : uP (plM 1000000 (nkT k) nm D ex (nm - 1)) (fun b => loF A w x (b : Int)) (fun a => hiF A x (a : Int)) h g + uP (plM 1000000 (nkT k) nm D ex (nm - 1)) (fun b => loF A w x (b : Int)) (fun a => hiF A x (a : Int)) g h = 1 := by
                        have zh : (fun a => hiF A x (a : Int)) h = A.1 26 (h * 8 + x) := rfl
                        have zg : (fun a => hiF A x (a : Int)) g = A.1 26 (g * 8 + x) := rfl
                        have yh : (fun b => loF A w x (b : Int)) h = loF A w x (h : Int) := rfl
                        have yg : (fun b => loF A w x (b : Int)) g = loF A w x (g : Int) := rfl
                        have q1 := lo_hi hA (w := w) (x := x) (h := h) (by omega) (by omega)
                        have q2 := lo_hi hA (w := w) (x := x) (h := g) (by omega) (by omega)
                        unfold uP
                        rw [zh, zg, yh, yg, if_pos hph, if_pos hph]
                        by_cases eg : (plM 1000000 (nkT k) nm D ex (nm - 1)) g = true
                        · rw [if_pos eg, if_pos eg]
                          first | (exact absurd eg hpg) | (split <;> split <;> omega)
                        · rw [if_neg eg, if_neg eg]
                          first | rfl | exact absurd hpg eg
                      refine tt_iadd (by omega) (by omega) ?_
                      refine tt_ar rfl ?_
                      refine tt_iinc (y := ((g + 1 : Nat) : Int)) rfl (iinc_fit (by omega) (by omega) (by omega)) ?_
                      refine tt_goto ?_
                      refine tt_loc [(0, vR 76), (1, vI (w)), (2, vI (((x : Nat) : Int))), (3, vI ((sumN h (fun a => sumN (nkT k) (fun b => if a < b then uP (plM 1000000 (nkT k) nm D ex (nm - 1)) (fun b => loF A w x (b : Int)) (fun a => hiF A x (a : Int)) a b + uP (plM 1000000 (nkT k) nm D ex (nm - 1)) (fun b => loF A w x (b : Int)) (fun a => hiF A x (a : Int)) b a else 0)) + sumN (g + 1) (fun b => if h < b then uP (plM 1000000 (nkT k) nm D ex (nm - 1)) (fun b => loF A w x (b : Int)) (fun a => hiF A x (a : Int)) h b + uP (plM 1000000 (nkT k) nm D ex (nm - 1)) (fun b => loF A w x (b : Int)) (fun a => hiF A x (a : Int)) b h else 0)))), (4, vI (((h : Nat) : Int))), (5, vI (((g + 1 : Nat) : Int)))] rfl rfl ⟨rfl, rfl, rfl, lv_to rfl (by rw [show sumN (g + 1) (fun b => if h < b then uP (plM 1000000 (nkT k) nm D ex (nm - 1)) (fun b => loF A w x (b : Int)) (fun a => hiF A x (a : Int)) h b + uP (plM 1000000 (nkT k) nm D ex (nm - 1)) (fun b => loF A w x (b : Int)) (fun a => hiF A x (a : Int)) b h else 0) = sumN g (fun b => if h < b then uP (plM 1000000 (nkT k) nm D ex (nm - 1)) (fun b => loF A w x (b : Int)) (fun a => hiF A x (a : Int)) h b + uP (plM 1000000 (nkT k) nm D ex (nm - 1)) (fun b => loF A w x (b : Int)) (fun a => hiF A x (a : Int)) b h else 0) + (if h < g then uP (plM 1000000 (nkT k) nm D ex (nm - 1)) (fun b => loF A w x (b : Int)) (fun a => hiF A x (a : Int)) h g + uP (plM 1000000 (nkT k) nm D ex (nm - 1)) (fun b => loF A w x (b : Int)) (fun a => hiF A x (a : Int)) g h else 0) from rfl, if_pos hg2, huu]; omega), rfl, rfl, trivial⟩ ?_
                      exact ih2 (g + 1) (by omega) (by omega) (by omega)
                    · have hpg := h5_10
                      refine tt_ifeqT (by decide) ?_
                      refine tt_ar rfl ?_
                      refine tt_nop ?_
                      have huu : uP (plM 1000000 (nkT k) nm D ex (nm - 1)) (fun b => loF A w x (b : Int)) (fun a => hiF A x (a : Int)) h g + uP (plM 1000000 (nkT k) nm D ex (nm - 1)) (fun b => loF A w x (b : Int)) (fun a => hiF A x (a : Int)) g h = 0 := by
                        have zh : (fun a => hiF A x (a : Int)) h = A.1 26 (h * 8 + x) := rfl
                        have zg : (fun a => hiF A x (a : Int)) g = A.1 26 (g * 8 + x) := rfl
                        have yh : (fun b => loF A w x (b : Int)) h = loF A w x (h : Int) := rfl
                        have yg : (fun b => loF A w x (b : Int)) g = loF A w x (g : Int) := rfl
                        have q1 := lo_hi hA (w := w) (x := x) (h := h) (by omega) (by omega)
                        have q2 := lo_hi hA (w := w) (x := x) (h := g) (by omega) (by omega)
                        unfold uP
                        rw [zh, zg, yh, yg, if_pos hph, if_pos hph]
                        by_cases eg : (plM 1000000 (nkT k) nm D ex (nm - 1)) g = true
                        · rw [if_pos eg, if_pos eg]
                          first | (exact absurd eg hpg) | (split <;> split <;> omega)
                        · rw [if_neg eg, if_neg eg]
                          first | rfl | exact absurd hpg eg
                      refine tt_iadd (by omega) (by omega) ?_
                      refine tt_ar rfl ?_
                      refine tt_iinc (y := ((g + 1 : Nat) : Int)) rfl (iinc_fit (by omega) (by omega) (by omega)) ?_
                      refine tt_goto ?_
                      refine tt_loc [(0, vR 76), (1, vI (w)), (2, vI (((x : Nat) : Int))), (3, vI ((sumN h (fun a => sumN (nkT k) (fun b => if a < b then uP (plM 1000000 (nkT k) nm D ex (nm - 1)) (fun b => loF A w x (b : Int)) (fun a => hiF A x (a : Int)) a b + uP (plM 1000000 (nkT k) nm D ex (nm - 1)) (fun b => loF A w x (b : Int)) (fun a => hiF A x (a : Int)) b a else 0)) + sumN (g + 1) (fun b => if h < b then uP (plM 1000000 (nkT k) nm D ex (nm - 1)) (fun b => loF A w x (b : Int)) (fun a => hiF A x (a : Int)) h b + uP (plM 1000000 (nkT k) nm D ex (nm - 1)) (fun b => loF A w x (b : Int)) (fun a => hiF A x (a : Int)) b h else 0)))), (4, vI (((h : Nat) : Int))), (5, vI (((g + 1 : Nat) : Int)))] rfl rfl ⟨rfl, rfl, rfl, lv_to rfl (by rw [show sumN (g + 1) (fun b => if h < b then uP (plM 1000000 (nkT k) nm D ex (nm - 1)) (fun b => loF A w x (b : Int)) (fun a => hiF A x (a : Int)) h b + uP (plM 1000000 (nkT k) nm D ex (nm - 1)) (fun b => loF A w x (b : Int)) (fun a => hiF A x (a : Int)) b h else 0) = sumN g (fun b => if h < b then uP (plM 1000000 (nkT k) nm D ex (nm - 1)) (fun b => loF A w x (b : Int)) (fun a => hiF A x (a : Int)) h b + uP (plM 1000000 (nkT k) nm D ex (nm - 1)) (fun b => loF A w x (b : Int)) (fun a => hiF A x (a : Int)) b h else 0) + (if h < g then uP (plM 1000000 (nkT k) nm D ex (nm - 1)) (fun b => loF A w x (b : Int)) (fun a => hiF A x (a : Int)) h g + uP (plM 1000000 (nkT k) nm D ex (nm - 1)) (fun b => loF A w x (b : Int)) (fun a => hiF A x (a : Int)) g h else 0) from rfl, if_pos hg2, huu]; omega), rfl, rfl, trivial⟩ ?_
                      exact ih2 (g + 1) (by omega) (by omega) (by omega)
              · have hph := h2_10
                refine tt_ifeqT (by decide) ?_
                have hfin : sumN h (fun a => sumN (nkT k) (fun b => if a < b then uP (plM 1000000 (nkT k) nm D ex (nm - 1)) (fun b => loF A w x (b : Int)) (fun a => hiF A x (a : Int)) a b + uP (plM 1000000 (nkT k) nm D ex (nm - 1)) (fun b => loF A w x (b : Int)) (fun a => hiF A x (a : Int)) b a else 0)) + sumN g (fun b => if h < b then uP (plM 1000000 (nkT k) nm D ex (nm - 1)) (fun b => loF A w x (b : Int)) (fun a => hiF A x (a : Int)) h b + uP (plM 1000000 (nkT k) nm D ex (nm - 1)) (fun b => loF A w x (b : Int)) (fun a => hiF A x (a : Int)) b h else 0) = sumN (h + 1) (fun a => sumN (nkT k) (fun b => if a < b then uP (plM 1000000 (nkT k) nm D ex (nm - 1)) (fun b => loF A w x (b : Int)) (fun a => hiF A x (a : Int)) a b + uP (plM 1000000 (nkT k) nm D ex (nm - 1)) (fun b => loF A w x (b : Int)) (fun a => hiF A x (a : Int)) b a else 0)) := by
                  rw [show sumN (h + 1) (fun a => sumN (nkT k) (fun b => if a < b then uP (plM 1000000 (nkT k) nm D ex (nm - 1)) (fun b => loF A w x (b : Int)) (fun a => hiF A x (a : Int)) a b + uP (plM 1000000 (nkT k) nm D ex (nm - 1)) (fun b => loF A w x (b : Int)) (fun a => hiF A x (a : Int)) b a else 0)) = sumN h (fun a => sumN (nkT k) (fun b => if a < b then uP (plM 1000000 (nkT k) nm D ex (nm - 1)) (fun b => loF A w x (b : Int)) (fun a => hiF A x (a : Int)) a b + uP (plM 1000000 (nkT k) nm D ex (nm - 1)) (fun b => loF A w x (b : Int)) (fun a => hiF A x (a : Int)) b a else 0)) + sumN (nkT k) (fun b => if h < b then uP (plM 1000000 (nkT k) nm D ex (nm - 1)) (fun b => loF A w x (b : Int)) (fun a => hiF A x (a : Int)) h b + uP (plM 1000000 (nkT k) nm D ex (nm - 1)) (fun b => loF A w x (b : Int)) (fun a => hiF A x (a : Int)) b h else 0) from rfl]
                  congr 1
                  by_cases e : g = nkT k
                  · rw [e]
                  · have hnp : ¬ (plM 1000000 (nkT k) nm D ex (nm - 1)) h = true := by first | exact hph | (exfalso; omega)
                    have z1 : ∀ b, uP (plM 1000000 (nkT k) nm D ex (nm - 1)) (fun b => loF A w x (b : Int)) (fun a => hiF A x (a : Int)) h b = 0 := fun b => by unfold uP; rw [if_neg hnp]
                    have z2 : ∀ b, uP (plM 1000000 (nkT k) nm D ex (nm - 1)) (fun b => loF A w x (b : Int)) (fun a => hiF A x (a : Int)) b h = 0 := fun b => by unfold uP; rw [if_neg hnp]; split <;> rfl
                    rw [sumN_z (fun i hi => by rw [z1, z2]; split <;> rfl), sumN_z (fun i hi => by rw [z1, z2]; split <;> rfl)]
                refine tt_iinc (y := ((h + 1 : Nat) : Int)) rfl (iinc_fit (by omega) (by omega) (by omega)) ?_
                refine tt_goto ?_
                refine tt_loc [(0, vR 76), (1, vI (w)), (2, vI (((x : Nat) : Int))), (3, vI (sumN (h + 1) (fun a => sumN (nkT k) (fun b => if a < b then uP (plM 1000000 (nkT k) nm D ex (nm - 1)) (fun b => loF A w x (b : Int)) (fun a => hiF A x (a : Int)) a b + uP (plM 1000000 (nkT k) nm D ex (nm - 1)) (fun b => loF A w x (b : Int)) (fun a => hiF A x (a : Int)) b a else 0)))), (4, vI (((h + 1 : Nat) : Int)))] rfl rfl ⟨rfl, rfl, rfl, lv_to rfl hfin, rfl, trivial⟩ ?_
                exact ih1 (h + 1) (by omega) (by omega)
        refine tt_loc [(0, vR 76), (1, vI (w)), (2, vI (((x : Nat) : Int))), (3, vI ((sumN h (fun a => sumN (nkT k) (fun b => if a < b then uP (plM 1000000 (nkT k) nm D ex (nm - 1)) (fun b => loF A w x (b : Int)) (fun a => hiF A x (a : Int)) a b + uP (plM 1000000 (nkT k) nm D ex (nm - 1)) (fun b => loF A w x (b : Int)) (fun a => hiF A x (a : Int)) b a else 0)) + sumN (h + 1) (fun b => if h < b then uP (plM 1000000 (nkT k) nm D ex (nm - 1)) (fun b => loF A w x (b : Int)) (fun a => hiF A x (a : Int)) h b + uP (plM 1000000 (nkT k) nm D ex (nm - 1)) (fun b => loF A w x (b : Int)) (fun a => hiF A x (a : Int)) b h else 0)))), (4, vI (((h : Nat) : Int))), (5, vI (((h + 1 : Nat) : Int)))] rfl rfl ⟨rfl, rfl, rfl, lv_to rfl (by rw [show sumN (h + 1) (fun b => if h < b then uP (plM 1000000 (nkT k) nm D ex (nm - 1)) (fun b => loF A w x (b : Int)) (fun a => hiF A x (a : Int)) h b + uP (plM 1000000 (nkT k) nm D ex (nm - 1)) (fun b => loF A w x (b : Int)) (fun a => hiF A x (a : Int)) b h else 0) = 0 from sumN_z (fun i hi => if_neg (by omega)), Int.add_zero]), rfl, lv_to rfl (by omega), trivial⟩ ?_
        exact lp2_2 _ (h + 1) (Nat.lt_succ_self _) (by omega) (by omega)
  refine tt_loc [(0, vR 76), (1, vI (w)), (2, vI (((x : Nat) : Int))), (3, vI (sumN 0 (fun a => sumN (nkT k) (fun b => if a < b then uP (plM 1000000 (nkT k) nm D ex (nm - 1)) (fun b => loF A w x (b : Int)) (fun a => hiF A x (a : Int)) a b + uP (plM 1000000 (nkT k) nm D ex (nm - 1)) (fun b => loF A w x (b : Int)) (fun a => hiF A x (a : Int)) b a else 0)))), (4, vI (((0 : Nat) : Int)))] rfl rfl ⟨rfl, rfl, rfl, lv_to rfl rfl, lv_to rfl (by omega), trivial⟩ ?_
  exact lp1_1 _ (0) (Nat.lt_succ_self _) (by omega)

theorem c265 (A σ : am_S) (k nm ns : Nat) (D : Nat → Nat → Int) (hA : CI k nm ns D A) (hW : Wd σ) (hR : RRb k nm ns D A σ) (w : Int) : CC 265 [vR 76, vI (w)] σ (fun r σ' => PMd A σ (x_see k nm D A w) r σ') := by
  show TT am_b265 (am_b265.getD 0 []) [(0, vR 76), (1, vI (w))] [] σ _
  have hk5 := hR.aa.1
  have hl27 := hR.aa.2.1
  have hs47 := hR.aa.2.2
  have hk6 := hA.x.1.2.1
  have hm12 := hA.x.2.2.1.2.1
  have hs16 := hA.st.2
  have hDA := hA.x.1
  have hHT := hA.x.2.1
  have hLA := hA.x.2.2.1
  have hHB := HB_of hDA hHT
  have hnb := nkT_bd k
  obtain ⟨ex, hxA⟩ : ∃ ex : Nat → Nat → Int, exA k A = ex := ⟨_, rfl⟩
  have hRH := RH_of hA hxA
  refine tt_ar rfl ?_
  refine tt_ar rfl ?_
  refine tt_ar rfl ?_
  refine tt_cs3 3 rfl (c175 _ _ _ _) (kb (fun h0_3 => ?_) (fun h0_3 => ?_))
  · refine tt_ifneT (by decide) ?_
    refine tt_ar rfl ?_
    refine tt_cv1 1 rfl (wo_76 hW) (c235 A σ k nm ns D hA hW hR ex hxA) ?_
    intro r0 σt hq0
    obtain ⟨rfl, hRt, hst, hFt, hT⟩ := hq0
    have hW1 := Fr.wd hFt hW
    have hbsd := bs_dc (n := nm) hRH
    have hbm := mi_c (bsN 1000000 (nkT k) nm D ex)
    refine tt_ar rfl ?_
    refine tt_getI (x := ((nm : Nat) : Int)) (wo_76 hW1) rfl hRt.ln.1 ?_
    refine tt_ifeq (fun h1_4 => ?_) (fun h1_4 => ?_)
    · refine tt_ar rfl ?_
      refine tt_ar rfl ?_
      refine tt_cv2 2 rfl (wo_76 hW1) (c179 σt 4 hW1 (by omega)) (ks ?_)
      refine tt_iret ?_
      exact pm_mt (f := 4) hRt (by decide) (show x_see k nm D A w = (vI (-3), upF 4 A) by unfold x_see; rw [if_pos (by omega), hxA, if_neg (by omega)]) (QR.of hFt (by decide))
    · refine tt_ar rfl ?_
      refine tt_getI (x := miN 100000 (bsN 1000000 (nkT k) nm D ex)) (wo_76 hW1) rfl hT.2 ?_
      refine tt_ar rfl ?_
      refine tt_icne (fun h1_8 => ?_) (fun h1_8 => ?_)
      · refine tt_ar rfl ?_
        refine tt_ar rfl ?_
        refine tt_ar rfl ?_
        refine tt_ar rfl ?_
        refine tt_ar rfl ?_
        refine tt_cv3 3 rfl (wo_76 hW1) (c266 A σt k nm ns D hA hW1 hRt ex hxA hst hT (by omega) w (0) (by omega) (by omega)) (kp ?_)
        refine tt_ar rfl ?_
        refine tt_ar rfl ?_
        refine tt_ar rfl ?_
        refine tt_nop ?_
        have lp4_2 : ∀ (μ : Nat) (y : Nat), 7 - y < μ → (y ≤ 7) → TT am_b265 (am_b265.getD 4 []) [(0, vR 76), (1, vI (w)), (2, vI ((((seN (ptA k nm D A w) y).1 : Nat) : Int))), (3, vI ((seN (ptA k nm D A w) y).2)), (4, vI (((y + 1 : Nat) : Int)))] [] σt (fun r σ' => PMd A σ (x_see k nm D A w) r σ') := by
          intro μ
          induction μ with
          | zero => intro y hμ; exact absurd hμ (Nat.not_lt_zero _)
          | succ μ ih4 =>
            intro y hμ hy
            refine tt_ar rfl ?_
            refine tt_ar rfl ?_
            refine tt_icge (fun h4_2 => ?_) (fun h4_2 => ?_)
            · refine tt_ar rfl ?_
              refine tt_ar rfl ?_
              refine tt_ar rfl ?_
              refine tt_cv3 3 rfl (wo_76 hW1) (c183 σt _ _ hW1) (ks ?_)
              refine tt_iret ?_
              have e7 : y = 7 := by omega
              subst e7
              exact pm_ak (M := A) hRt (show x_see k nm D A w = (_, upA _ A) by unfold x_see; rw [if_pos (by omega), hxA, if_pos (by omega)]) (QR.of hFt (by decide))
            · refine tt_ar rfl ?_
              refine tt_ar rfl ?_
              refine tt_ar rfl ?_
              refine tt_cv3 3 rfl (wo_76 hW1) (c266 A σt k nm ns D hA hW1 hRt ex hxA hst hT (by omega) w (y + 1) (by omega) (by omega)) (kp ?_)
              refine tt_ar rfl ?_
              refine tt_ar rfl ?_
              refine tt_ar rfl ?_
              refine tt_icle (fun h4_10 => ?_) (fun h4_10 => ?_)
              · refine tt_ar rfl ?_
                refine tt_nop ?_
                refine tt_ar rfl ?_
                refine tt_ar rfl ?_
                refine tt_ar rfl ?_
                refine tt_cs2 2 rfl (c226 _ ((seN (ptA k nm D A w) y).2) (ptA k nm D A w (y + 1))) (kp ?_)
                refine tt_ar rfl ?_
                refine tt_iinc (y := ((y + 1 + 1 : Nat) : Int)) rfl (iinc_fit (by omega) (by omega) (by omega)) ?_
                refine tt_goto ?_
                refine tt_loc [(0, vR 76), (1, vI (w)), (2, vI ((((seN (ptA k nm D A w) (y + 1)).1 : Nat) : Int))), (3, vI ((seN (ptA k nm D A w) (y + 1)).2)), (4, vI ((((y + 1) + 1 : Nat) : Int)))] rfl rfl ⟨rfl, rfl, lv_to rfl (by rw [seN_s]; split <;> (first | rfl | omega)), lv_to rfl (by rw [seN_s]; split <;> rfl), lv_to rfl (by omega), trivial⟩ ?_
                exact ih4 (y + 1) (by omega) (by omega)
              · refine tt_ar rfl ?_
                refine tt_goto ?_
                refine tt_ar rfl ?_
                refine tt_ar rfl ?_
                refine tt_ar rfl ?_
                refine tt_cs2 2 rfl (c226 _ ((seN (ptA k nm D A w) y).2) (ptA k nm D A w (y + 1))) (kp ?_)
                refine tt_ar rfl ?_
                refine tt_iinc (y := ((y + 1 + 1 : Nat) : Int)) rfl (iinc_fit (by omega) (by omega) (by omega)) ?_
                refine tt_goto ?_
                refine tt_loc [(0, vR 76), (1, vI (w)), (2, vI ((((seN (ptA k nm D A w) (y + 1)).1 : Nat) : Int))), (3, vI ((seN (ptA k nm D A w) (y + 1)).2)), (4, vI ((((y + 1) + 1 : Nat) : Int)))] rfl rfl ⟨rfl, rfl, lv_to rfl (by rw [seN_s]; split <;> (first | rfl | omega)), lv_to rfl (by rw [seN_s]; split <;> rfl), lv_to rfl (by omega), trivial⟩ ?_
                exact ih4 (y + 1) (by omega) (by omega)
        refine tt_loc [(0, vR 76), (1, vI (w)), (2, vI ((((seN (ptA k nm D A w) 0).1 : Nat) : Int))), (3, vI ((seN (ptA k nm D A w) 0).2)), (4, vI (((0 + 1 : Nat) : Int)))] rfl rfl ⟨rfl, rfl, lv_to rfl rfl, lv_to rfl rfl, lv_to rfl rfl, trivial⟩ ?_
        exact lp4_2 _ (0) (Nat.lt_succ_self _) (by omega)
      · refine tt_nop ?_
        refine tt_ar rfl ?_
        refine tt_ar rfl ?_
        refine tt_cv2 2 rfl (wo_76 hW1) (c179 σt 4 hW1 (by omega)) (ks ?_)
        refine tt_iret ?_
        exact pm_mt (f := 4) hRt (by decide) (show x_see k nm D A w = (vI (-3), upF 4 A) by unfold x_see; rw [if_pos (by omega), hxA, if_neg (by omega)]) (QR.of hFt (by decide))
  · refine tt_ifneF (by decide) ?_
    refine tt_ar rfl ?_
    refine tt_iret ?_
    exact pm_any (M := A) hR (show x_see k nm D A w = (vI (-1), A) by unfold x_see; (try simp only [Int.toNat_natCast]); (repeat (first | rw [if_pos (by omega)] | rw [if_neg (by omega)])); (first | done | rfl)) QR.rf

