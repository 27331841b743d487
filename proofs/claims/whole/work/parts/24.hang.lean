/-! WHAT THE TOLD HOUSEHOLD HANGS -/
def gsN (σ : am_S) (m n s : Nat) : Int := amN (σ.1 48) (σ.1 49) (σ.1 50) m 5 s n
def ilN (σ : am_S) (p : Nat → Int) (m n s : Nat) : Int := if p s < amN (σ.1 48) (σ.1 49) (σ.1 50) m 4 s n then p s else amN (σ.1 48) (σ.1 49) (σ.1 50) m 4 s n
def fLN (σ : am_S) (p : Nat → Int) (m n x s : Nat) : Int := (p s + gsN σ m n s - ilN σ p m n s) * σ.1 7 (s * 8 + x)
def fMN (σ : am_S) (p : Nat → Int) (m n x s : Nat) : Int := (p s + gsN σ m n s) * σ.1 8 (s * 8 + x)
def hgL0 (σ : am_S) (k : Nat) (p : Nat → Int) (m n x : Nat) : Int := sumN k (fLN σ p m n x)
def hgM0 (σ : am_S) (k : Nat) (p : Nat → Int) (m n x : Nat) : Int := sumN k (fMN σ p m n x)
def hgL (σ : am_S) (k : Nat) (p : Nat → Int) (m n x : Nat) : Int := if isIn (σ.1 5 4) (σ.1 28 m) (x : Int) then 0 else hdM (σ.1 48) (σ.1 49) (σ.1 50) (σ.1 51) n (m + 1) (hgL0 σ k p m n) x
def hgM (σ : am_S) (k : Nat) (p : Nat → Int) (m n x : Nat) : Int := hdM (σ.1 48) (σ.1 49) (σ.1 50) (σ.1 51) n (m + 1) (hgM0 σ k p m n) x
theorem ilN_bd {σ : am_S} {p : Nat → Int} {m n s : Nat} (hp : pOK p) (hs : s < 6) : 0 ≤ ilN σ p m n s ∧ ilN σ p m n s ≤ p s := by
  have h1 := hp.1 s hs
  have h2 := amN_bd (σ.1 48) (σ.1 49) (σ.1 50) m 4 s n
  unfold ilN
  split <;> omega
theorem fLN_bd {σ : am_S} {k : Nat} {p : Nat → Int} {m n x s : Nat} (hD : LD k σ) (hn : n ≤ 16) (hp : pOK p) (hs : s < 6) (hx : x < 8) : 0 ≤ fLN σ p m n x s ∧ fLN σ p m n x s ≤ 189 := by
  have h1 := hp.1 s hs
  have h2 := ilN_bd (σ := σ) (m := m) (n := n) hp hs
  have h3 := amN_bd (σ.1 48) (σ.1 49) (σ.1 50) m 5 s n
  have h4 := hD.2.2.1 (s * 8 + x) (by omega)
  exact mul_bd (A := 21) (B := 9) (by unfold gsN; omega) (by unfold gsN; omega) h4.1 (by omega)
theorem fMN_bd {σ : am_S} {k : Nat} {p : Nat → Int} {m n x s : Nat} (hD : LD k σ) (hn : n ≤ 16) (hp : pOK p) (hs : s < 6) (hx : x < 8) : 0 ≤ fMN σ p m n x s ∧ fMN σ p m n x s ≤ 189 := by
  have h1 := hp.1 s hs
  have h3 := amN_bd (σ.1 48) (σ.1 49) (σ.1 50) m 5 s n
  have h4 := hD.2.2.1 (s * 8 + x) (by omega)
  exact mul_bd (A := 21) (B := 9) (by unfold gsN; omega) (by unfold gsN; omega) (by omega) (by omega)
theorem sL_bd {σ : am_S} {k : Nat} {p : Nat → Int} {m n x : Nat} (hD : LD k σ) (hn : n ≤ 16) (hp : pOK p) (hx : x < 8) {t : Nat} (ht : t ≤ 6) : 0 ≤ sumN t (fLN σ p m n x) ∧ sumN t (fLN σ p m n x) ≤ 1134 := by
  have := sumN_bd (f := fLN σ p m n x) (a := 0) (b := 189) (n := t) (fun i hi => fLN_bd hD hn hp (by omega) hx)
  omega
theorem sM_bd {σ : am_S} {k : Nat} {p : Nat → Int} {m n x : Nat} (hD : LD k σ) (hn : n ≤ 16) (hp : pOK p) (hx : x < 8) {t : Nat} (ht : t ≤ 6) : 0 ≤ sumN t (fMN σ p m n x) ∧ sumN t (fMN σ p m n x) ≤ 1134 := by
  have := sumN_bd (f := fMN σ p m n x) (a := 0) (b := 189) (n := t) (fun i hi => fMN_bd hD hn hp (by omega) hx)
  omega
theorem acc_step {σ1 : am_S} {a s x : Nat} {F : Nat → Nat → Int} {v : Int} (h : ∀ y, y < 8 → σ1.1 a y = sumN (if y < x then s + 1 else s) (F y)) (hx : x < 8) (hv : v = σ1.1 a x + F x s) : ∀ y, y < 8 → (am_set σ1 a x v).1 a y = sumN (if y < x + 1 then s + 1 else s) (F y) := by
  intro y hy
  rw [am_set_at]
  by_cases e : y = x
  · subst e
    rw [if_pos rfl, if_pos (by omega), hv, h y hy, if_neg (by omega)]
    rfl
  · rw [if_neg e, h y hy]
    congr 1
    by_cases e2 : y < x
    · rw [if_pos e2, if_pos (by omega)]
    · rw [if_neg e2, if_neg (by omega)]
theorem rain_a {σ σ5 : am_S} {k m n x : Nat} {p : Nat → Int} (h : ∀ y, y < 8 → σ5.1 53 y = if y < x then hgL σ k p m n y else hdM (σ.1 48) (σ.1 49) (σ.1 50) (σ.1 51) n (m + 1) (hgL0 σ k p m n) y) (hx : x < 8) (hr : isIn (σ.1 5 4) (σ.1 28 m) (x : Int)) : ∀ y, y < 8 → (am_set σ5 53 x 0).1 53 y = if y < x + 1 then hgL σ k p m n y else hdM (σ.1 48) (σ.1 49) (σ.1 50) (σ.1 51) n (m + 1) (hgL0 σ k p m n) y := by
  intro y hy
  rw [am_set_at]
  by_cases e : y = x
  · subst e
    rw [if_pos rfl, if_pos (by omega)]
    unfold hgL
    rw [if_pos hr]
  · rw [if_neg e, h y hy]
    by_cases e2 : y < x
    · rw [if_pos e2, if_pos (by omega)]
    · rw [if_neg e2, if_neg (by omega)]
theorem rain_b {σ σ5 : am_S} {k m n x : Nat} {p : Nat → Int} (h : ∀ y, y < 8 → σ5.1 53 y = if y < x then hgL σ k p m n y else hdM (σ.1 48) (σ.1 49) (σ.1 50) (σ.1 51) n (m + 1) (hgL0 σ k p m n) y) (hx : x < 8) (hr : ¬ isIn (σ.1 5 4) (σ.1 28 m) (x : Int)) : ∀ y, y < 8 → σ5.1 53 y = if y < x + 1 then hgL σ k p m n y else hdM (σ.1 48) (σ.1 49) (σ.1 50) (σ.1 51) n (m + 1) (hgL0 σ k p m n) y := by
  intro y hy
  rw [h y hy]
  by_cases e : y = x
  · subst e
    rw [if_neg (by omega), if_pos (by omega)]
    unfold hgL
    rw [if_neg hr]
  · by_cases e2 : y < x
    · rw [if_pos e2, if_pos (by omega)]
    · rw [if_neg e2, if_neg (by omega)]
theorem c148 (σ : am_S) (k n : Nat) (hW : Wd σ) (hD : LD k σ) (hT : ST n σ) (hS : SH k n (σ.1 48) (σ.1 49) (σ.1 50) (σ.1 51)) (nm m : Nat) (hL : LN nm σ) (hm : m < 12) (p : Nat → Int) (hp : ∀ j, j < 6 → σ.1 52 j = p j) (hk1 : pOK p) : CC 148 [vR 47, vI (((m : Nat) : Int))] σ (fun r σ' => r = none ∧ Fr [53, 54] σ σ' ∧ (∀ x, x < 8 → σ'.1 53 x = hgL σ k p m n x) ∧ (∀ x, x < 8 → σ'.1 54 x = hgM σ k p m n x)) := by
  show TT am_b148 (am_b148.getD 0 []) [(0, vR 47), (1, vI (((m : Nat) : Int)))] [] σ _
  have hk6 := hD.2.1
  have hn16 := hT.2
  refine tt_ar rfl ?_
  refine tt_getR (wo_47 hW) rfl (wr_47_8 hW) ?_
  refine tt_ar rfl ?_
  refine tt_cs2 2 rfl (c4 σ 53 8 0 (wa_53 hW) (by decide) (by rfl)) ?_
  intro r0 σf53 hq0
  obtain ⟨rfl, hFf53, hC53⟩ := hq0
  have hW1 := Fr.wd hFf53 hW
  refine tt_ar rfl ?_
  refine tt_getR (wo_47 hW1) rfl (wr_47_9 hW1) ?_
  refine tt_ar rfl ?_
  refine tt_cs2 2 rfl (c4 σf53 54 8 0 (wa_54 hW1) (by decide) (by rfl)) ?_
  intro r0 σf54 hq0
  obtain ⟨rfl, hFf54, hC54⟩ := hq0
  have hW2 := Fr.wd hFf54 hW1
  refine tt_ar rfl ?_
  refine tt_ar rfl ?_
  refine tt_nop ?_
  have lp1_3 : ∀ (μ : Nat) (s : Nat) (σ1 : am_S), k - s < μ → Fr [53, 54] σ σ1 → (s ≤ k) → (∀ x, x < 8 → σ1.1 53 x = sumN s (fLN σ p m n x)) → (∀ x, x < 8 → σ1.1 54 x = sumN s (fMN σ p m n x)) → TT am_b148 (am_b148.getD 1 []) [(0, vR 47), (1, vI (((m : Nat) : Int))), (2, vI (((s : Nat) : Int)))] [] σ1 (fun r σ' => r = none ∧ Fr [53, 54] σ σ' ∧ (∀ x, x < 8 → σ'.1 53 x = hgL σ k p m n x) ∧ (∀ x, x < 8 → σ'.1 54 x = hgM σ k p m n x)) := by
    intro μ
    induction μ with
    | zero => intro s σ1 hμ; exact absurd hμ (Nat.not_lt_zero _)
    | succ μ ih1 =>
      intro s σ1 hμ hF_σ1 hs hA hB
      have hW_σ1 := Fr.wd hF_σ1 hW
      have e48 : σ1.1 48 = σ.1 48 := funext (hF_σ1.2 48 (by decide))
      have e49 : σ1.1 49 = σ.1 49 := funext (hF_σ1.2 49 (by decide))
      have e50 : σ1.1 50 = σ.1 50 := funext (hF_σ1.2 50 (by decide))
      have e51 : σ1.1 51 = σ.1 51 := funext (hF_σ1.2 51 (by decide))
      refine tt_ar rfl ?_
      refine tt_ar rfl ?_
      refine tt_getR (wo_47 hW_σ1) rfl (wr_47_0 hW_σ1) ?_
      refine tt_getI (x := ((k : Nat) : Int)) (wo_5 hW_σ1) rfl ((hF_σ1.2 5 (by decide) (0)).trans hD.1) ?_
      refine tt_icge (fun h1_4 => ?_) (fun h1_4 => ?_)
      · refine tt_ar rfl ?_
        refine tt_ar rfl ?_
        refine tt_cv2 2 rfl (wo_47 hW_σ1) (c150 σ1 k n hW_σ1 (LD.fr (L := [53, 54]) (Fr.tr Fr.rf hF_σ1 (by decide)) (by decide) hD) (ST.fr (L := [53, 54]) (Fr.tr Fr.rf hF_σ1 (by decide)) (by decide) hT) (by rw [e48, e49, e50, e51]; exact hS) m (by omega) (hgL0 σ k p m n) (hgM0 σ k p m n) 1134 (by intro x hx; rw [hA x hx, show s = k by omega]; rfl) (by intro x hx; rw [hB x hx, show s = k by omega]; rfl) (fun x hx => sL_bd hD hn16 hk1 hx hk6) (fun x hx => sM_bd hD hn16 hk1 hx hk6) (by omega) (by omega)) ?_
        intro r0 σ9 hq0
        obtain ⟨rfl, hF9, hL9, hM9, -, -⟩ := hq0
        have hW4 := Fr.wd hF9 hW_σ1
        rw [e48, e49, e50, e51] at hL9 hM9
        refine tt_ar rfl ?_
        refine tt_ar rfl ?_
        refine tt_nop ?_
        have lp5_5 : ∀ (μ : Nat) (x : Nat) (σ5 : am_S), 8 - x < μ → Fr [53, 54] σ σ5 → (x ≤ 8) → (∀ y, y < 8 → σ5.1 53 y = if y < x then hgL σ k p m n y else hdM (σ.1 48) (σ.1 49) (σ.1 50) (σ.1 51) n (m + 1) (hgL0 σ k p m n) y) → (∀ y, y < 8 → σ5.1 54 y = hgM σ k p m n y) → TT am_b148 (am_b148.getD 5 []) [(0, vR 47), (1, vI (((m : Nat) : Int))), (2, vI (((x : Nat) : Int)))] [] σ5 (fun r σ' => r = none ∧ Fr [53, 54] σ σ' ∧ (∀ x, x < 8 → σ'.1 53 x = hgL σ k p m n x) ∧ (∀ x, x < 8 → σ'.1 54 x = hgM σ k p m n x)) := by
          intro μ
          induction μ with
          | zero => intro x σ5 hμ; exact absurd hμ (Nat.not_lt_zero _)
          | succ μ ih5 =>
            intro x σ5 hμ hF_σ5 hx hA5 hB5
            have hW_σ5 := Fr.wd hF_σ5 hW
            refine tt_ar rfl ?_
            refine tt_ar rfl ?_
            refine tt_icge (fun h5_2 => ?_) (fun h5_2 => ?_)
            · refine tt_vret ?_
              have e1 : 8 = x := by omega
              subst e1
              exact ⟨rfl, hF_σ5, fun y hy => by rw [hA5 y hy, if_pos hy], hB5⟩
            · refine tt_ar rfl ?_
              refine tt_getR (wo_47 hW_σ5) rfl (wr_47_0 hW_σ5) ?_
              refine tt_ar rfl ?_
              refine tt_getR (wo_47 hW_σ5) rfl (wr_47_1 hW_σ5) ?_
              refine tt_getR (wo_27 hW_σ5) rfl (wr_27_1 hW_σ5) ?_
              refine tt_ar rfl ?_
              refine tt_iald (m) (x := σ.1 28 (m)) (wa_28 hW_σ5) rfl (by omega) (hF_σ5.2 28 (by decide) (m)) ?_
              refine tt_ar rfl ?_
              refine tt_cv3 3 rfl (wo_5 hW_σ5) (c72 σ5 _ _ hW_σ5) (kb (fun h5_11 => ?_) (fun h5_11 => ?_))
              · simp only [(show ∀ j, σ5.1 5 j = σ.1 5 (j) from fun j => (hF_σ5.2 5 (by decide) (j)))] at h5_11
                refine tt_ifeqF (by decide) ?_
                refine tt_ar rfl ?_
                refine tt_getR (wo_47 hW_σ5) rfl (wr_47_8 hW_σ5) ?_
                refine tt_ar rfl ?_
                refine tt_ar rfl ?_
                refine tt_iast (x) (wa_53 hW_σ5) (by omega) rfl (by omega) ?_
                refine tt_nop ?_
                refine tt_iinc (y := ((x + 1 : Nat) : Int)) rfl (iinc_fit (by omega) (by omega) (by omega)) ?_
                refine tt_goto ?_
                refine tt_loc [(0, vR 47), (1, vI (((m : Nat) : Int))), (2, vI (((x + 1 : Nat) : Int)))] rfl rfl ⟨rfl, rfl, rfl, trivial⟩ ?_
                exact ih5 (x + 1) _ (by omega) (Fr.put (Fr.tr Fr.rf hF_σ5 (by decide)) (by decide)) (by omega) (by first | exact rain_a hA5 (by omega) (by assumption) | exact rain_b hA5 (by omega) (by assumption)) hB5
              · simp only [(show ∀ j, σ5.1 5 j = σ.1 5 (j) from fun j => (hF_σ5.2 5 (by decide) (j)))] at h5_11
                refine tt_ifeqT (by decide) ?_
                refine tt_iinc (y := ((x + 1 : Nat) : Int)) rfl (iinc_fit (by omega) (by omega) (by omega)) ?_
                refine tt_goto ?_
                refine tt_loc [(0, vR 47), (1, vI (((m : Nat) : Int))), (2, vI (((x + 1 : Nat) : Int)))] rfl rfl ⟨rfl, rfl, rfl, trivial⟩ ?_
                exact ih5 (x + 1) σ5 (by omega) (Fr.tr Fr.rf hF_σ5 (by decide)) (by omega) (by first | exact rain_a hA5 (by omega) (by assumption) | exact rain_b hA5 (by omega) (by assumption)) hB5
        refine tt_loc [(0, vR 47), (1, vI (((m : Nat) : Int))), (2, vI (((0 : Nat) : Int)))] rfl rfl ⟨rfl, rfl, lv_to rfl (by omega), trivial⟩ ?_
        exact lp5_5 _ (0) σ9 (Nat.lt_succ_self _) (Fr.tr (Fr.tr Fr.rf hF_σ1 (by decide)) hF9 (by decide)) (by omega) (fun y hy => by rw [hL9 y hy, if_neg (Nat.not_lt_zero y)]) (fun y hy => hM9 y hy)
      · refine tt_ar rfl ?_
        refine tt_ar rfl ?_
        refine tt_ar rfl ?_
        refine tt_ar rfl ?_
        have hc5 : CC 149 [vR 47, vI (((m : Nat) : Int)), vI 5, vI (((s : Nat) : Int))] σ1 (fun r σ' => r = some (vI (gsN σ m n s)) ∧ σ' = σ1) := by
          have hq := c149 σ1 k n hW_σ1 (LD.fr (L := [53, 54]) (Fr.tr Fr.rf hF_σ1 (by decide)) (by decide) hD) (ST.fr (L := [53, 54]) (Fr.tr Fr.rf hF_σ1 (by decide)) (by decide) hT) (by rw [e48, e49, e50, e51]; exact hS) m 5 s
          rw [e48, e49, e50] at hq
          exact hq
        refine tt_cv4 4 rfl (wo_47 hW_σ1) hc5 (kp ?_)
        refine tt_ar rfl ?_
        refine tt_ar rfl ?_
        refine tt_ar rfl ?_
        refine tt_ar rfl ?_
        refine tt_ar rfl ?_
        have hc4 : CC 149 [vR 47, vI (((m : Nat) : Int)), vI 4, vI (((s : Nat) : Int))] σ1 (fun r σ' => r = some (vI (amN (σ.1 48) (σ.1 49) (σ.1 50) m 4 s n)) ∧ σ' = σ1) := by
          have hq := c149 σ1 k n hW_σ1 (LD.fr (L := [53, 54]) (Fr.tr Fr.rf hF_σ1 (by decide)) (by decide) hD) (ST.fr (L := [53, 54]) (Fr.tr Fr.rf hF_σ1 (by decide)) (by decide) hT) (by rw [e48, e49, e50, e51]; exact hS) m 4 s
          rw [e48, e49, e50] at hq
          exact hq
        refine tt_cv4 4 rfl (wo_47 hW_σ1) hc4 (kp ?_)
        refine tt_ar rfl ?_
        refine tt_getR (wo_47 hW_σ1) rfl (wr_47_7 hW_σ1) ?_
        refine tt_ar rfl ?_
        refine tt_iald (s) (x := p s) (wa_52 hW_σ1) rfl (by omega) ((hF_σ1.2 52 (by decide) (s)).trans (hp s (by omega))) ?_
        have hb52 := hk1.1 s (by omega)
        refine tt_min (z := (if p s < amN (σ.1 48) (σ.1 49) (σ.1 50) m 4 s n then p s else amN (σ.1 48) (σ.1 49) (σ.1 50) m 4 s n)) rfl rfl ?_
        refine tt_ar rfl ?_
        refine tt_ar rfl ?_
        refine tt_ar rfl ?_
        refine tt_nop ?_
        have lp2_6 : ∀ (μ : Nat) (x : Nat) (σ1 : am_S), 8 - x < μ → Fr [53, 54] σ σ1 → (x ≤ 8) → (∀ y, y < 8 → σ1.1 53 y = sumN (if y < x then s + 1 else s) (fLN σ p m n y)) → (∀ y, y < 8 → σ1.1 54 y = sumN (if y < x then s + 1 else s) (fMN σ p m n y)) → TT am_b148 (am_b148.getD 2 []) [(0, vR 47), (1, vI (((m : Nat) : Int))), (2, vI (((s : Nat) : Int))), (3, vI (gsN σ m n s)), (4, vI (ilN σ p m n s)), (5, vI (((x : Nat) : Int)))] [] σ1 (fun r σ' => r = none ∧ Fr [53, 54] σ σ' ∧ (∀ x, x < 8 → σ'.1 53 x = hgL σ k p m n x) ∧ (∀ x, x < 8 → σ'.1 54 x = hgM σ k p m n x)) := by
          intro μ
          induction μ with
          | zero => intro x σ1 hμ; exact absurd hμ (Nat.not_lt_zero _)
          | succ μ ih2 =>
            intro x σ1 hμ hF_σ1 hx hA hB
            have hW_σ1 := Fr.wd hF_σ1 hW
            have hbg := amN_bd (σ.1 48) (σ.1 49) (σ.1 50) m 5 s n
            have hbg : 0 ≤ gsN σ m n s ∧ gsN σ m n s ≤ (n : Int) := hbg
            have hbi := ilN_bd (σ := σ) (m := m) (n := n) (s := s) hk1 (by omega)
            refine tt_ar rfl ?_
            refine tt_ar rfl ?_
            refine tt_icge (fun h2_2 => ?_) (fun h2_2 => ?_)
            · refine tt_iinc (y := ((s + 1 : Nat) : Int)) rfl (iinc_fit (by omega) (by omega) (by omega)) ?_
              refine tt_goto ?_
              refine tt_loc [(0, vR 47), (1, vI (((m : Nat) : Int))), (2, vI (((s + 1 : Nat) : Int)))] rfl rfl ⟨rfl, rfl, rfl, trivial⟩ ?_
              exact ih1 (s + 1) σ1 (by omega) (Fr.tr Fr.rf hF_σ1 (by decide)) (by omega) (fun y hy => by rw [hA y hy, if_pos (by omega)]) (fun y hy => by rw [hB y hy, if_pos (by omega)])
            · have q1 := hA x (by omega)
              have q2 := hB x (by omega)
              have q3 := sL_bd (m := m) hD hn16 hk1 (show x < 8 by omega) (show (if x < x then s + 1 else s) ≤ 6 by split <;> omega)
              have q4 := sM_bd (m := m) hD hn16 hk1 (show x < 8 by omega) (show (if x < x then s + 1 else s) ≤ 6 by split <;> omega)
              rw [← q1] at q3
              rw [← q2] at q4
              refine tt_ar rfl ?_
              refine tt_getR (wo_47 hW_σ1) rfl (wr_47_8 hW_σ1) ?_
              refine tt_ar rfl ?_
              refine tt_ar rfl ?_
              refine tt_iald (x) (x := σ1.1 53 (x)) (wa_53 hW_σ1) rfl (by omega) rfl ?_
              refine tt_ar rfl ?_
              refine tt_getR (wo_47 hW_σ1) rfl (wr_47_7 hW_σ1) ?_
              refine tt_ar rfl ?_
              refine tt_iald (s) (x := p s) (wa_52 hW_σ1) rfl (by omega) ((hF_σ1.2 52 (by decide) (s)).trans (hp s (by omega))) ?_
              have hb52 := hk1.1 s (by omega)
              refine tt_ar rfl ?_
              refine tt_iadd (by omega) (by omega) ?_
              refine tt_ar rfl ?_
              refine tt_isub (by omega) (by omega) ?_
              refine tt_ar rfl ?_
              refine tt_getR (wo_47 hW_σ1) rfl (wr_47_0 hW_σ1) ?_
              refine tt_getR (wo_5 hW_σ1) rfl (wr_5_2 hW_σ1) ?_
              refine tt_ar rfl ?_
              refine tt_ar rfl ?_
              refine tt_imul (by omega) (by omega) ?_
              refine tt_ar rfl ?_
              refine tt_iadd (by omega) (by omega) ?_
              refine tt_iald (((s * 8) + x)) (x := σ.1 7 (((s * 8) + x))) (wa_7 hW_σ1) (by omega) (by omega) (hF_σ1.2 7 (by decide) (((s * 8) + x))) ?_
              have hf7 := fLN_bd (m := m) (x := x) hD hn16 hk1 (show s < 6 by omega) (by omega)
              have hb7 := hD.2.2.1 (s * 8 + x) (by omega)
              unfold fLN at hf7
              refine tt_imul (by omega) (by omega) ?_
              refine tt_iadd (by omega) (by omega) ?_
              refine tt_iast (x) (wa_53 hW_σ1) (by omega) rfl (by omega) ?_
              refine tt_ar rfl ?_
              refine tt_getR (wo_47 hW_σ1) rfl (wr_47_9 hW_σ1) ?_
              refine tt_ar rfl ?_
              refine tt_ar rfl ?_
              refine tt_iald (x) (x := σ1.1 54 (x)) (wa_54 hW_σ1) rfl (by omega) rfl ?_
              refine tt_ar rfl ?_
              refine tt_getR (wo_47 hW_σ1) rfl (wr_47_7 hW_σ1) ?_
              refine tt_ar rfl ?_
              refine tt_iald (s) (x := p s) (wa_52 hW_σ1) rfl (by omega) ((hF_σ1.2 52 (by decide) (s)).trans (hp s (by omega))) ?_
              have hb52 := hk1.1 s (by omega)
              refine tt_ar rfl ?_
              refine tt_iadd (by omega) (by omega) ?_
              refine tt_ar rfl ?_
              refine tt_getR (wo_47 hW_σ1) rfl (wr_47_0 hW_σ1) ?_
              refine tt_getR (wo_5 hW_σ1) rfl (wr_5_3 hW_σ1) ?_
              refine tt_ar rfl ?_
              refine tt_ar rfl ?_
              refine tt_imul (by omega) (by omega) ?_
              refine tt_ar rfl ?_
              refine tt_iadd (by omega) (by omega) ?_
              refine tt_iald (((s * 8) + x)) (x := σ.1 8 (((s * 8) + x))) (wa_8 hW_σ1) (by omega) (by omega) (hF_σ1.2 8 (by decide) (((s * 8) + x))) ?_
              have hf8 := fMN_bd (m := m) (x := x) hD hn16 hk1 (show s < 6 by omega) (by omega)
              unfold fMN at hf8
              refine tt_imul (by omega) (by omega) ?_
              refine tt_iadd (by omega) (by omega) ?_
              refine tt_iast (x) (wa_54 hW_σ1) (by omega) rfl (by omega) ?_
              refine tt_iinc (y := ((x + 1 : Nat) : Int)) rfl (iinc_fit (by omega) (by omega) (by omega)) ?_
              refine tt_goto ?_
              refine tt_loc [(0, vR 47), (1, vI (((m : Nat) : Int))), (2, vI (((s : Nat) : Int))), (3, vI (gsN σ m n s)), (4, vI (ilN σ p m n s)), (5, vI (((x + 1 : Nat) : Int)))] rfl rfl ⟨rfl, rfl, rfl, rfl, rfl, rfl, trivial⟩ ?_
              exact ih2 (x + 1) _ (by omega) (Fr.put (Fr.put (Fr.tr Fr.rf hF_σ1 (by decide)) (by decide)) (by decide)) (by omega) (acc_step hA (by omega) rfl) (acc_step hB (by omega) rfl)
        refine tt_loc [(0, vR 47), (1, vI (((m : Nat) : Int))), (2, vI (((s : Nat) : Int))), (3, vI (gsN σ m n s)), (4, vI (ilN σ p m n s)), (5, vI (((0 : Nat) : Int)))] rfl rfl ⟨rfl, rfl, rfl, rfl, lv_to rfl rfl, lv_to rfl (by omega), trivial⟩ ?_
        exact lp2_6 _ (0) σ1 (Nat.lt_succ_self _) (Fr.tr Fr.rf hF_σ1 (by decide)) (by omega) (fun y hy => by rw [hA y hy, if_neg (Nat.not_lt_zero y)]) (fun y hy => by rw [hB y hy, if_neg (Nat.not_lt_zero y)])
  refine tt_loc [(0, vR 47), (1, vI (((m : Nat) : Int))), (2, vI (((0 : Nat) : Int)))] rfl rfl ⟨rfl, rfl, lv_to rfl (by omega), trivial⟩ ?_
  exact lp1_3 _ (0) σf54 (Nat.lt_succ_self _) (Fr.tr (Fr.tr Fr.rf hFf53 (by decide)) hFf54 (by decide)) (by omega) (fun x hx => (hFf54.2 53 (by decide) x).trans ((hC53 x).trans (if_pos hx))) (fun x hx => (hC54 x).trans (if_pos hx))

def badN (σ : am_S) (k : Nat) (p : Nat → Int) (m n x : Nat) : Bool := decide (σ.1 30 (m * 8 + x) - σ.1 29 m > hgM σ k p m n x ∨ σ.1 30 (m * 8 + x) + σ.1 29 m < hgL σ k p m n x)
def jdN (σ : am_S) (k n m : Nat) : Option Int := match toS (σ.1 6) (σ.1 48) (σ.1 49) (σ.1 50) n (m + 1) with
  | none => some (-9)
  | some p => if fstN (badN σ k p m n) 8 < 8 then some (fstN (badN σ k p m n) 8 : Int) else none
theorem c147 (σ : am_S) (k n : Nat) (hW : Wd σ) (hD : LD k σ) (hT : ST n σ) (hS : SH k n (σ.1 48) (σ.1 49) (σ.1 50) (σ.1 51)) (nm m : Nat) (hL : LN nm σ) (hm : m < 12) : CC 147 [vR 47, vI (((m : Nat) : Int))] σ (fun r σ' => (∃ t, jdN σ k n m = some t ∧ r = some (vI 0) ∧ Fr [47, 52, 53, 54] σ σ' ∧ σ'.1 47 2 = σ.1 47 2 ∧ σ'.1 47 10 = t) ∨ (jdN σ k n m = none ∧ r = some (vI 1) ∧ Fr [47, 52, 53, 54] σ σ' ∧ σ'.1 47 2 = σ.1 47 2)) := by
  show TT am_b147 (am_b147.getD 0 []) [(0, vR 47), (1, vI (((m : Nat) : Int)))] [] σ _
  have hk6 := hD.2.1
  have hn16 := hT.2
  refine tt_ar rfl ?_
  refine tt_ar rfl ?_
  refine tt_putI (wo_47 hW) rfl ?_
  refine tt_ar rfl ?_
  refine tt_ar rfl ?_
  refine tt_cv2 2 rfl (wo_47 hW) (c138 (am_set σ 47 (10) ((-9))) k n hW (LD.fr (Fr.put Fr.rf (by decide) : Fr [47] σ (am_set σ 47 10 (-9))) (by decide) hD) (show ST n (am_set σ 47 10 (-9)) from ⟨hT.1, hT.2⟩) hS m (by omega)) ?_
  intro r0 σ2 hq0
  rcases hq0 with ⟨p, hq, rfl, hF2, hp⟩ | ⟨hq, rfl, hF2⟩
  · have hW1 := Fr.wd hF2 hW
    have hq : toS (σ.1 6) (σ.1 48) (σ.1 49) (σ.1 50) n (m + 1) = some p := hq
    have hk1 := toS_ok hk6 hD.2.2.2.2 hS hq
    have hF12 : Fr [47, 52] σ σ2 := Fr.tr (Fr.put Fr.rf (by decide)) hF2 (by decide)
    refine tt_ifneT (by decide) ?_
    refine tt_ar rfl ?_
    refine tt_ar rfl ?_
    have e5 : σ2.1 5 = σ.1 5 := funext (hF12.2 5 (by decide))
    have e6 : σ2.1 6 = σ.1 6 := funext (hF12.2 6 (by decide))
    have e7 : σ2.1 7 = σ.1 7 := funext (hF12.2 7 (by decide))
    have e8 : σ2.1 8 = σ.1 8 := funext (hF12.2 8 (by decide))
    have e28 : σ2.1 28 = σ.1 28 := funext (hF12.2 28 (by decide))
    have e48 : σ2.1 48 = σ.1 48 := funext (hF12.2 48 (by decide))
    have e49 : σ2.1 49 = σ.1 49 := funext (hF12.2 49 (by decide))
    have e50 : σ2.1 50 = σ.1 50 := funext (hF12.2 50 (by decide))
    have e51 : σ2.1 51 = σ.1 51 := funext (hF12.2 51 (by decide))
    have hgl : ∀ x, hgL σ2 k p m n x = hgL σ k p m n x := fun x => by unfold hgL hgL0 fLN ilN gsN; rw [e5, e7, e28, e48, e49, e50, e51]
    have hgm : ∀ x, hgM σ2 k p m n x = hgM σ k p m n x := fun x => by unfold hgM hgM0 fMN gsN; rw [e8, e48, e49, e50, e51]
    have hgl0 : ∀ x, hgL0 σ2 k p m n x = hgL0 σ k p m n x := fun x => by unfold hgL0 fLN ilN gsN; rw [e7, e48, e49, e50]
    refine tt_cv2 2 rfl (wo_47 hW1) (c148 σ2 k n hW1 (LD.fr hF12 (by decide) hD) ⟨(hF2.2 47 (by decide) 2).trans hT.1, hT.2⟩ (by rw [e48, e49, e50, e51]; exact hS) nm m (LN.fr hF12 (by decide) hL) (by omega) p hp hk1) ?_
    intro r0 σ3 hq0
    obtain ⟨rfl, hF3, hLx, hMx⟩ := hq0
    have hW2 := Fr.wd hF3 hW1
    refine tt_ar rfl ?_
    refine tt_ar rfl ?_
    refine tt_nop ?_
    have lp2_3 : ∀ (μ : Nat) (x : Nat), 8 - x < μ → (x ≤ 8) → (∀ y, y < x → badN σ k p m n y = false) → TT am_b147 (am_b147.getD 2 []) [(0, vR 47), (1, vI (((m : Nat) : Int))), (2, vI (((x : Nat) : Int)))] [] σ3 (fun r σ' => (∃ t, jdN σ k n m = some t ∧ r = some (vI 0) ∧ Fr [47, 52, 53, 54] σ σ' ∧ σ'.1 47 2 = σ.1 47 2 ∧ σ'.1 47 10 = t) ∨ (jdN σ k n m = none ∧ r = some (vI 1) ∧ Fr [47, 52, 53, 54] σ σ' ∧ σ'.1 47 2 = σ.1 47 2)) := by
      intro μ
      induction μ with
      | zero => intro x hμ; exact absurd hμ (Nat.not_lt_zero _)
      | succ μ ih2 =>
        intro x hμ hx hC
        refine tt_ar rfl ?_
        refine tt_ar rfl ?_
        refine tt_icge (fun h2_2 => ?_) (fun h2_2 => ?_)
        · refine tt_ar rfl ?_
          refine tt_zret (by omega) ?_
          have e1 : 8 = x := by omega
          subst e1
          refine Or.inr ⟨?_, rfl, (Fr.tr (Fr.tr (Fr.put Fr.rf (by decide)) hF2 (by decide)) hF3 (by decide)), ((hF3.2 47 (by decide) (2)).trans (hF2.2 47 (by decide) (2)))⟩
          unfold jdN
          rw [hq]
          dsimp only
          rw [if_neg (by rw [fstN_none hC]; omega)]
        · refine tt_ar rfl ?_
          refine tt_getR (wo_47 hW2) rfl (wr_47_1 hW2) ?_
          refine tt_ar rfl ?_
          refine tt_ar rfl ?_
          refine tt_ar rfl ?_
          refine tt_getR (wo_47 hW2) rfl (wr_47_9 hW2) ?_
          refine tt_ar rfl ?_
          refine tt_iald (x) (x := hgM σ k p m n x) (wa_54 hW2) rfl (by omega) ((hMx x (by omega)).trans (hgm x)) ?_
          refine tt_cv4 4 rfl (wo_27 hW2) (c77 σ3 _ m x _ hW2 (LN.fr (L := [47, 52, 53, 54]) (Fr.tr (Fr.tr (Fr.put Fr.rf (by decide)) hF2 (by decide)) hF3 (by decide)) (by decide) hL) (by omega) (by omega)) (kb (fun h2_11 => ?_) (fun h2_11 => ?_))
          · simp only [(show ∀ j, σ3.1 30 j = σ.1 30 (j) from fun j => ((hF3.2 30 (by decide) (j)).trans (hF2.2 30 (by decide) (j)))), (show ∀ j, σ3.1 29 j = σ.1 29 (j) from fun j => ((hF3.2 29 (by decide) (j)).trans (hF2.2 29 (by decide) (j))))] at h2_11
            refine tt_ifneT (by decide) ?_
            refine tt_ar rfl ?_
            refine tt_ar rfl ?_
            refine tt_putI (wo_47 hW2) rfl ?_
            refine tt_ar rfl ?_
            refine tt_zret (by omega) ?_
            have hf : fstN (badN σ k p m n) 8 = x := fstN_eq (decide_eq_true (by first | exact Or.inl (by assumption) | exact Or.inr (by assumption))) hC (by omega)
            refine Or.inl ⟨(x : Int), ?_, rfl, (Fr.put (Fr.tr (Fr.tr (Fr.put Fr.rf (by decide)) hF2 (by decide)) hF3 (by decide)) (by decide)), ((hF3.2 47 (by decide) (2)).trans (hF2.2 47 (by decide) (2))), (@am_set_rd σ3 47 (10) (((x : Nat) : Int)))⟩
            unfold jdN
            rw [hq]
            dsimp only
            rw [hf, if_pos (by omega)]
          · simp only [(show ∀ j, σ3.1 30 j = σ.1 30 (j) from fun j => ((hF3.2 30 (by decide) (j)).trans (hF2.2 30 (by decide) (j)))), (show ∀ j, σ3.1 29 j = σ.1 29 (j) from fun j => ((hF3.2 29 (by decide) (j)).trans (hF2.2 29 (by decide) (j))))] at h2_11
            refine tt_ifneF (by decide) ?_
            refine tt_ar rfl ?_
            refine tt_getR (wo_47 hW2) rfl (wr_47_1 hW2) ?_
            refine tt_ar rfl ?_
            refine tt_ar rfl ?_
            refine tt_ar rfl ?_
            refine tt_getR (wo_47 hW2) rfl (wr_47_8 hW2) ?_
            refine tt_ar rfl ?_
            refine tt_iald (x) (x := hgL σ k p m n x) (wa_53 hW2) rfl (by omega) ((hLx x (by omega)).trans (hgl x)) ?_
            refine tt_cv4 4 rfl (wo_27 hW2) (c78 σ3 _ m x _ hW2 (LN.fr (L := [47, 52, 53, 54]) (Fr.tr (Fr.tr (Fr.put Fr.rf (by decide)) hF2 (by decide)) hF3 (by decide)) (by decide) hL) (by omega) (by omega)) (kb (fun h2_21 => ?_) (fun h2_21 => ?_))
            · simp only [(show ∀ j, σ3.1 30 j = σ.1 30 (j) from fun j => ((hF3.2 30 (by decide) (j)).trans (hF2.2 30 (by decide) (j)))), (show ∀ j, σ3.1 29 j = σ.1 29 (j) from fun j => ((hF3.2 29 (by decide) (j)).trans (hF2.2 29 (by decide) (j))))] at h2_21
              refine tt_ifeqF (by decide) ?_
              refine tt_nop ?_
              refine tt_ar rfl ?_
              refine tt_ar rfl ?_
              refine tt_putI (wo_47 hW2) rfl ?_
              refine tt_ar rfl ?_
              refine tt_zret (by omega) ?_
              have hf : fstN (badN σ k p m n) 8 = x := fstN_eq (decide_eq_true (by first | exact Or.inl (by assumption) | exact Or.inr (by assumption))) hC (by omega)
              refine Or.inl ⟨(x : Int), ?_, rfl, (Fr.put (Fr.tr (Fr.tr (Fr.put Fr.rf (by decide)) hF2 (by decide)) hF3 (by decide)) (by decide)), ((hF3.2 47 (by decide) (2)).trans (hF2.2 47 (by decide) (2))), (@am_set_rd σ3 47 (10) (((x : Nat) : Int)))⟩
              unfold jdN
              rw [hq]
              dsimp only
              rw [hf, if_pos (by omega)]
            · simp only [(show ∀ j, σ3.1 30 j = σ.1 30 (j) from fun j => ((hF3.2 30 (by decide) (j)).trans (hF2.2 30 (by decide) (j)))), (show ∀ j, σ3.1 29 j = σ.1 29 (j) from fun j => ((hF3.2 29 (by decide) (j)).trans (hF2.2 29 (by decide) (j))))] at h2_21
              refine tt_ifeqT (by decide) ?_
              refine tt_iinc (y := ((x + 1 : Nat) : Int)) rfl (iinc_fit (by omega) (by omega) (by omega)) ?_
              refine tt_goto ?_
              refine tt_loc [(0, vR 47), (1, vI (((m : Nat) : Int))), (2, vI (((x + 1 : Nat) : Int)))] rfl rfl ⟨rfl, rfl, rfl, trivial⟩ ?_
              exact ih2 (x + 1) (by omega) (by omega) (fun y hy => by by_cases e : y = x; (subst e; exact decide_eq_false (fun hA => hA.elim (by assumption) (by assumption))); exact hC y (by omega))
    refine tt_loc [(0, vR 47), (1, vI (((m : Nat) : Int))), (2, vI (((0 : Nat) : Int)))] rfl rfl ⟨rfl, rfl, lv_to rfl (by omega), trivial⟩ ?_
    exact lp2_3 _ (0) (Nat.lt_succ_self _) (by omega) (fun y hy => absurd hy (Nat.not_lt_zero y))
  · have hW4 := Fr.wd hF2 hW
    have hq : toS (σ.1 6) (σ.1 48) (σ.1 49) (σ.1 50) n (m + 1) = none := hq
    refine tt_ifneF (by decide) ?_
    refine tt_ar rfl ?_
    refine tt_zret (by omega) ?_
    exact Or.inl ⟨-9, (by unfold jdN; rw [hq]), rfl, (Fr.tr (Fr.put Fr.rf (by decide)) hF2 (by decide)), (hF2.2 47 (by decide) (2)), ((hF2.2 47 (by decide) (10)).trans (@am_set_rd σ 47 (10) ((-9))))⟩

theorem c146 (σ : am_S) (k n : Nat) (hW : Wd σ) (hD : LD k σ) (hT : ST n σ) (hS : SH k n (σ.1 48) (σ.1 49) (σ.1 50) (σ.1 51)) (nm : Nat) (hL : LN nm σ) : CC 146 [vR 47] σ (fun r σ' => Fr [47, 52, 53, 54] σ σ' ∧ σ'.1 47 2 = σ.1 47 2 ∧ ((∃ m t, m < nm ∧ jdN σ k n m = some t ∧ (∀ j, j < m → jdN σ k n j = none) ∧ σ'.1 47 10 = t ∧ r = some (vI (m : Int))) ∨ ((∀ j, j < nm → jdN σ k n j = none) ∧ r = some (vI (-9))))) := by
  show TT am_b146 (am_b146.getD 0 []) [(0, vR 47)] [] σ _
  have hk6 := hD.2.1
  have hn16 := hT.2
  have hnm := hL.2.1
  refine tt_ar rfl ?_
  refine tt_ar rfl ?_
  refine tt_nop ?_
  have lp1_1 : ∀ (μ : Nat) (m : Nat) (σ1 : am_S), nm - m < μ → Fr [47, 52, 53, 54] σ σ1 → (m ≤ nm) → (σ1.1 47 2 = σ.1 47 2) → (∀ j, j < m → jdN σ k n j = none) → TT am_b146 (am_b146.getD 1 []) [(0, vR 47), (1, vI (((m : Nat) : Int)))] [] σ1 (fun r σ' => Fr [47, 52, 53, 54] σ σ' ∧ σ'.1 47 2 = σ.1 47 2 ∧ ((∃ m t, m < nm ∧ jdN σ k n m = some t ∧ (∀ j, j < m → jdN σ k n j = none) ∧ σ'.1 47 10 = t ∧ r = some (vI (m : Int))) ∨ ((∀ j, j < nm → jdN σ k n j = none) ∧ r = some (vI (-9))))) := by
    intro μ
    induction μ with
    | zero => intro m σ1 hμ; exact absurd hμ (Nat.not_lt_zero _)
    | succ μ ih1 =>
      intro m σ1 hμ hF_σ1 hm h472 hC
      have hW_σ1 := Fr.wd hF_σ1 hW
      have e5 : σ1.1 5 = σ.1 5 := funext (hF_σ1.2 5 (by decide))
      have e6 : σ1.1 6 = σ.1 6 := funext (hF_σ1.2 6 (by decide))
      have e7 : σ1.1 7 = σ.1 7 := funext (hF_σ1.2 7 (by decide))
      have e8 : σ1.1 8 = σ.1 8 := funext (hF_σ1.2 8 (by decide))
      have e28 : σ1.1 28 = σ.1 28 := funext (hF_σ1.2 28 (by decide))
      have e29 : σ1.1 29 = σ.1 29 := funext (hF_σ1.2 29 (by decide))
      have e30 : σ1.1 30 = σ.1 30 := funext (hF_σ1.2 30 (by decide))
      have e48 : σ1.1 48 = σ.1 48 := funext (hF_σ1.2 48 (by decide))
      have e49 : σ1.1 49 = σ.1 49 := funext (hF_σ1.2 49 (by decide))
      have e50 : σ1.1 50 = σ.1 50 := funext (hF_σ1.2 50 (by decide))
      have e51 : σ1.1 51 = σ.1 51 := funext (hF_σ1.2 51 (by decide))
      have hjd : jdN σ1 k n m = jdN σ k n m := by
        unfold jdN badN hgM hgL hgM0 hgL0 fMN fLN ilN gsN
        rw [e5, e6, e7, e8, e28, e29, e30, e48, e49, e50, e51]
      refine tt_ar rfl ?_
      refine tt_ar rfl ?_
      refine tt_getR (wo_47 hW_σ1) rfl (wr_47_1 hW_σ1) ?_
      refine tt_getI (x := ((nm : Nat) : Int)) (wo_27 hW_σ1) rfl ((hF_σ1.2 27 (by decide) (0)).trans hL.1) ?_
      refine tt_icge (fun h1_4 => ?_) (fun h1_4 => ?_)
      · refine tt_ar rfl ?_
        refine tt_iret ?_
        have e1 : nm = m := by omega
        subst e1
        exact ⟨hF_σ1, h472, Or.inr ⟨hC, rfl⟩⟩
      · refine tt_ar rfl ?_
        refine tt_ar rfl ?_
        refine tt_cv2 2 rfl (wo_47 hW_σ1) (c147 σ1 k n hW_σ1 (LD.fr (L := [47, 52, 53, 54]) (Fr.tr Fr.rf hF_σ1 (by decide)) (by decide) hD) ⟨h472.trans hT.1, hT.2⟩ (by rw [e48, e49, e50, e51]; exact hS) nm m (LN.fr (L := [47, 52, 53, 54]) (Fr.tr Fr.rf hF_σ1 (by decide)) (by decide) hL) (by omega)) ?_
        intro r0 σ2 hq0
        rcases hq0 with ⟨t, hj, rfl, hF2, h2, h10⟩ | ⟨hj, rfl, hF2, h2⟩
        · have hW2 := Fr.wd hF2 hW_σ1
          rw [hjd] at hj
          have h2 := h2.trans h472
          refine tt_ifneF (by decide) ?_
          refine tt_ar rfl ?_
          refine tt_iret ?_
          exact ⟨(Fr.tr (Fr.tr Fr.rf hF_σ1 (by decide)) hF2 (by decide)), h2, Or.inl ⟨m, t, by omega, hj, hC, h10, rfl⟩⟩
        · have hW3 := Fr.wd hF2 hW_σ1
          rw [hjd] at hj
          have h2 := h2.trans h472
          refine tt_ifneT (by decide) ?_
          refine tt_iinc (y := ((m + 1 : Nat) : Int)) rfl (iinc_fit (by omega) (by omega) (by omega)) ?_
          refine tt_goto ?_
          refine tt_loc [(0, vR 47), (1, vI (((m + 1 : Nat) : Int)))] rfl rfl ⟨rfl, rfl, trivial⟩ ?_
          exact ih1 (m + 1) σ2 (by omega) (Fr.tr (Fr.tr Fr.rf hF_σ1 (by decide)) hF2 (by decide)) (by omega) h2 (fun j hj2 => by by_cases e : j = m; (subst e; exact hj); exact hC j (by omega))
  refine tt_loc [(0, vR 47), (1, vI (((0 : Nat) : Int)))] rfl rfl ⟨rfl, lv_to rfl (by omega), trivial⟩ ?_
  exact lp1_1 _ (0) σ (Nat.lt_succ_self _) Fr.rf (by omega) rfl (fun y hy => absurd hy (Nat.not_lt_zero y))

def tlN (σ : am_S) (n e : Nat) (kind : Int) : Int := if kind = 6 then 10 * σ.1 50 e + σ.1 51 e else if kind = 5 then (match toS (σ.1 6) (σ.1 48) (σ.1 49) (σ.1 50) n ((σ.1 49 e).toNat + 1) with
  | none => -9
  | some p => evN p) else σ.1 50 e
theorem c137 (σ : am_S) (k n : Nat) (hW : Wd σ) (hD : LD k σ) (hT : ST n σ) (hS : SH k n (σ.1 48) (σ.1 49) (σ.1 50) (σ.1 51)) (e : Nat) (kind : Int) (he : e < n) (hk : kind = 6 → σ.1 48 e = 6) : CC 137 [vR 47, vI (((e : Nat) : Int)), vI (kind)] σ (fun r σ' => r = some (vI (tlN σ n e kind)) ∧ Fr [52] σ σ') := by
  show TT am_b137 (am_b137.getD 0 []) [(0, vR 47), (1, vI (((e : Nat) : Int))), (2, vI (kind))] [] σ _
  have hk6 := hD.2.1
  have hn16 := hT.2
  have hx6 : kind = 6 → (0 ≤ σ.1 50 e ∧ σ.1 50 e ≤ 7) ∧ (0 ≤ σ.1 51 e ∧ σ.1 51 e ≤ 7) := fun h => (hS.2 e he).2.2.2 (hk h)
  refine tt_ar rfl ?_
  refine tt_ar rfl ?_
  refine tt_icne (fun h0_2 => ?_) (fun h0_2 => ?_)
  · refine tt_ar rfl ?_
    refine tt_ar rfl ?_
    refine tt_icne (fun h1_2 => ?_) (fun h1_2 => ?_)
    · refine tt_ar rfl ?_
      refine tt_getR (wo_47 hW) rfl (wr_47_5 hW) ?_
      refine tt_ar rfl ?_
      refine tt_iald (e) (x := σ.1 50 (e)) (wa_50 hW) rfl (by omega) rfl ?_
      have hx := hS.2 e he
      refine tt_iret ?_
      exact ⟨rv (by unfold tlN; rw [if_neg (by omega), if_neg (by omega)]), Fr.rf⟩
    · refine tt_ar rfl ?_
      refine tt_ar rfl ?_
      refine tt_getR (wo_47 hW) rfl (wr_47_4 hW) ?_
      refine tt_ar rfl ?_
      refine tt_iald (e) (x := (((σ.1 49 e).toNat : Nat) : Int)) (wa_49 hW) rfl (by omega) (by have hx := hS.2 e he; omega) ?_
      have hx := hS.2 e he
      refine tt_cv2 2 rfl (wo_47 hW) ((show CC 138 [vR 47, vI (((σ.1 49 e).toNat : Nat) : Int)] σ _ from c138 σ k n hW hD hT hS (σ.1 49 e).toNat (by omega))) ?_
      intro r0 σ2 hq0
      rcases hq0 with ⟨p, hq, rfl, hF2, hp⟩ | ⟨hq, rfl, hF2⟩
      · have hW1 := Fr.wd hF2 hW
        have hk1 := toS_ok hk6 hD.2.2.2.2 hS hq
        refine tt_ifeqF (by decide) ?_
        refine tt_ar rfl ?_
        refine tt_cv1 1 rfl (wo_47 hW1) (c141 σ2 hW1 p hp hk1) (kp ?_)
        refine tt_goto ?_
        refine tt_iret ?_
        exact ⟨rv (by unfold tlN; rw [if_neg (by omega), if_pos (by omega), hq]), (Fr.tr Fr.rf hF2 (by decide))⟩
      · have hW2 := Fr.wd hF2 hW
        refine tt_ifeqT (by decide) ?_
        refine tt_ar rfl ?_
        refine tt_nop ?_
        refine tt_iret ?_
        exact ⟨rv (by unfold tlN; rw [if_neg (by omega), if_pos (by omega), hq]), (Fr.tr Fr.rf hF2 (by decide))⟩
  · refine tt_ar rfl ?_
    refine tt_ar rfl ?_
    refine tt_getR (wo_47 hW) rfl (wr_47_5 hW) ?_
    refine tt_ar rfl ?_
    refine tt_iald (e) (x := σ.1 50 (e)) (wa_50 hW) rfl (by omega) rfl ?_
    have hx := hS.2 e he
    refine tt_imul (by omega) (by omega) ?_
    refine tt_ar rfl ?_
    refine tt_getR (wo_47 hW) rfl (wr_47_6 hW) ?_
    refine tt_ar rfl ?_
    refine tt_iald (e) (x := σ.1 51 (e)) (wa_51 hW) rfl (by omega) rfl ?_
    refine tt_iadd (by omega) (by omega) ?_
    refine tt_iret ?_
    exact ⟨rv (by unfold tlN; rw [if_pos (by omega)]), Fr.rf⟩

