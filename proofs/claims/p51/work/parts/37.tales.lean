/-! TALES, AS THEY ARE MEANT -/
def mnN (F : Int) : Nat → (Nat → Int) → Int
  | 0, _ => F
  | n + 1, f => if f n < mnN F n f then f n else mnN F n f
theorem mnN_le {F : Int} {f : Nat → Int} : ∀ n, mnN F n f ≤ F
  | 0 => Int.le_refl _
  | n + 1 => by
    have := mnN_le (F := F) (f := f) n
    unfold mnN
    split <;> omega
theorem mnN_lt {F : Int} {f : Nat → Int} : ∀ {n i : Nat}, i < n → mnN F n f ≤ f i
  | 0, i, h => absurd h (Nat.not_lt_zero _)
  | n + 1, i, h => by
    unfold mnN
    by_cases e : i = n
    · subst e
      split <;> omega
    · have := mnN_lt (F := F) (f := f) (show i < n by omega)
      split <;> omega
theorem mnN_or {F : Int} {f : Nat → Int} : ∀ n, mnN F n f = F ∨ ∃ i, i < n ∧ mnN F n f = f i
  | 0 => Or.inl rfl
  | n + 1 => by
    unfold mnN
    split
    · exact Or.inr ⟨n, Nat.lt_succ_self n, rfl⟩
    · rcases mnN_or (F := F) (f := f) n with h | ⟨i, h1, h2⟩
      · exact Or.inl h
      · exact Or.inr ⟨i, by omega, h2⟩
theorem mnN_congr {F : Int} {f g : Nat → Int} : ∀ {n : Nat}, (∀ i, i < n → f i = g i) → mnN F n f = mnN F n g
  | 0, _ => rfl
  | n + 1, h => by
    unfold mnN
    rw [mnN_congr (fun i hi => h i (by omega)), h n (by omega)]
theorem mnN_bd {F : Int} {f : Nat → Int} {n : Nat} (hF : 0 ≤ F) (h : ∀ i, i < n → 0 ≤ f i) : 0 ≤ mnN F n f ∧ mnN F n f ≤ F := by
  refine ⟨?_, mnN_le n⟩
  rcases mnN_or (F := F) (f := f) n with e | ⟨i, h1, h2⟩
  · omega
  · have := h i h1
    omega
def miN (F x : Int) : Int := if x < F then x else F
theorem miN_bd {F x : Int} (hF : 0 ≤ F) (hx : 0 ≤ x) : 0 ≤ miN F x ∧ miN F x ≤ F := by
  unfold miN
  split <;> omega
/-- the least cost up to a household of a Monday -/
def ahN (F : Int) (N : Nat) (D ex : Nat → Nat → Int) : Nat → Nat → Int
  | 0, h => miN F (D 0 h + ex 0 h)
  | m + 1, h => miN F (mnN F N (fun g => ahN F N D ex m g + D g h) + ex (m + 1) h)
/-- the least cost behind it, j Mondays ahead of the last one -/
def bkN (F : Int) (N n : Nat) (D ex : Nat → Nat → Int) : Nat → Nat → Int
  | 0, _ => 0
  | j + 1, h => mnN F N (fun g => miN F (bkN F N n D ex j g + ex (n - 1 - j) g) + D h g)
def bsN (F : Int) (N n : Nat) (D ex : Nat → Nat → Int) : Int := if n = 0 then 0 else mnN F N (ahN F N D ex (n - 1))
theorem ahN_bd {F : Int} {N : Nat} {D ex : Nat → Nat → Int} (hF : 0 ≤ F) (hN : 0 < N) (hD : ∀ a b, a < N → b < N → 0 ≤ D a b) (he : ∀ m h, h < N → 0 ≤ ex m h) : ∀ (m : Nat) {h : Nat}, h < N → 0 ≤ ahN F N D ex m h ∧ ahN F N D ex m h ≤ F
  | 0, h, hh => miN_bd hF (by have := hD 0 h hN hh; have := he 0 h hh; omega)
  | m + 1, h, hh => miN_bd hF (by
      have h1 := (mnN_bd (F := F) (n := N) (f := fun g => ahN F N D ex m g + D g h) hF (fun g hg => by have := ahN_bd hF hN hD he m hg; have := hD g h hg hh; omega)).1
      have h2 := he (m + 1) h hh
      omega)
theorem bkN_bd {F : Int} {N n : Nat} {D ex : Nat → Nat → Int} (hF : 0 ≤ F) (hD : ∀ a b, a < N → b < N → 0 ≤ D a b) (he : ∀ m h, h < N → 0 ≤ ex m h) : ∀ (j : Nat) {h : Nat}, h < N → 0 ≤ bkN F N n D ex j h ∧ bkN F N n D ex j h ≤ F
  | 0, h, hh => ⟨Int.le_refl _, hF⟩
  | j + 1, h, hh => mnN_bd hF (fun g hg => by
      have h1 := (miN_bd (F := F) (x := bkN F N n D ex j g + ex (n - 1 - j) g) hF (by have := bkN_bd (n := n) hF hD he j hg; have := he (n - 1 - j) g hg; omega)).1
      have h2 := hD h g hh hg
      omega)
theorem spread_min {k : Nat} {into pr w c : Nat → Int} {D : Nat → Nat → Int} (hDI : DI k into pr D) (hw : bnN (nkT k) w) (hS : SP k (GP into) (pr 1) (pr 2) (pr 0) w c) {h : Nat} (hh : h < nkT k) : c h = mnN 1000000 (nkT k) (fun g => w g + D g h) := by
  obtain ⟨e0, e1, e2, e3, f⟩ := hS
  have hF : c h ≤ 1000000 := Int.le_trans (e0 h hh) (hw h hh).2
  have hg : ∀ g, g < nkT k → c h ≤ w g + D g h := by
    intro g hg
    obtain ⟨g', a, b, n1, n2, n3, q0, q1, q2, q3, q4⟩ := (hDI g hg).2.2.2.2 h hh
    have ha := wkR.lt (fun _ _ => dn_lt) q1 q0
    have hb := wkR.lt (fun _ _ => gr_lt) q2 ha
    have i0 := e0 g' q0
    have i1 := e1.wk (fun _ _ => dn_lt) q1 q0
    have i2 := e2.wk (fun _ _ => gr_lt) q2 ha
    have i3 := e3.wk (fun _ _ => up_lt) q3 hb
    by_cases e : g' = g
    · subst e
      have : dlN g' g' = 0 := if_pos rfl
      omega
    · have : dlN g g' = 1000000 := if_neg e
      have h1 := (hw g hg).1
      have h2 := (hw g' q0).2
      omega
  obtain ⟨g, a, b, n1, n2, n3, q0, q1, q2, q3, q4⟩ := f h hh
  obtain ⟨d0, d1, d2, d3, -⟩ := hDI g q0
  have ha := wkR.lt (fun _ _ => dn_lt) q1 q0
  have hb := wkR.lt (fun _ _ => gr_lt) q2 ha
  have i0 := d0 g q0
  have i1 := d1.wk (fun _ _ => dn_lt) q1 q0
  have i2 := d2.wk (fun _ _ => gr_lt) q2 ha
  have i3 := d3.wk (fun _ _ => up_lt) q3 hb
  have i4 : dlN g g = 0 := if_pos rfl
  have l1 := mnN_lt (F := 1000000) (f := fun g => w g + D g h) q0
  have l1 : mnN 1000000 (nkT k) (fun g => w g + D g h) ≤ w g + D g h := l1
  rcases mnN_or (F := 1000000) (f := fun g => w g + D g h) (nkT k) with e | ⟨i, r1, r2⟩
  · omega
  · have := hg i r1
    have r2 : mnN 1000000 (nkT k) (fun g => w g + D g h) = w i + D i h := r2
    omega
theorem up_dn {k : Nat} (a b : Nat) (h : upR k a b) : dnR k b a := h
theorem dn_up {k : Nat} (a b : Nat) (h : dnR k a b) : upR k b a := h
theorem gather_min {k : Nat} {into pr w c : Nat → Int} {D : Nat → Nat → Int} (hDI : DI k into pr D) (hw : bnN (nkT k) w) (hp : ∀ i, i < 5 → 0 ≤ pr i ∧ pr i ≤ 9) (hS : SP k (rvP (GP into)) (pr 0) (pr 2) (pr 1) w c) {h : Nat} (hh : h < nkT k) : c h = mnN 1000000 (nkT k) (fun g => w g + D h g) := by
  obtain ⟨e0, e1, e2, e3, f⟩ := hS
  have hF : c h ≤ 1000000 := Int.le_trans (e0 h hh) (hw h hh).2
  have hg : ∀ g, g < nkT k → c h ≤ w g + D h g := by
    intro g hg
    obtain ⟨g', a, b, n1, n2, n3, q0, q1, q2, q3, q4⟩ := (hDI h hh).2.2.2.2 g hg
    have ha := wkR.lt (fun _ _ => dn_lt) q1 q0
    have hb := wkR.lt (fun _ _ => gr_lt) q2 ha
    have i0 := e0 g hg
    have i1 := e1.wk (fun _ _ => dn_lt) (wkR.rev up_dn q3) hg
    have i2 := e2.wk (fun _ _ => gr_lt) (wkR.rev gr_rev q2) hb
    have i3 := e3.wk (fun _ _ => up_lt) (wkR.rev dn_up q1) ha
    by_cases e : g' = h
    · subst e
      have : dlN g' g' = 0 := if_pos rfl
      omega
    · have : dlN h g' = 1000000 := if_neg e
      have h1 := (hw g hg).1
      have h2 := (hw g' q0).2
      have h3 : 0 ≤ (n1 : Int) * pr 1 := Int.mul_nonneg (by omega) (hp 1 (by omega)).1
      have h4 : 0 ≤ (n2 : Int) * pr 2 := Int.mul_nonneg (by omega) (hp 2 (by omega)).1
      have h5 : 0 ≤ (n3 : Int) * pr 0 := Int.mul_nonneg (by omega) (hp 0 (by omega)).1
      omega
  obtain ⟨g, a, b, n1, n2, n3, q0, q1, q2, q3, q4⟩ := f h hh
  obtain ⟨d0, d1, d2, d3, -⟩ := hDI h hh
  have ha := wkR.lt (fun _ _ => dn_lt) q1 q0
  have hb := wkR.lt (fun _ _ => gr_lt) q2 ha
  have i0 := d0 h hh
  have i1 := d1.wk (fun _ _ => dn_lt) (wkR.rev up_dn q3) hh
  have i2 := d2.wk (fun _ _ => gr_lt) (wkR.rev gr_rev' q2) hb
  have i3 := d3.wk (fun _ _ => up_lt) (wkR.rev dn_up q1) ha
  have i4 : dlN h h = 0 := if_pos rfl
  have l1 : mnN 1000000 (nkT k) (fun g => w g + D h g) ≤ w g + D h g := mnN_lt (F := 1000000) (f := fun g => w g + D h g) q0
  rcases mnN_or (F := 1000000) (f := fun g => w g + D h g) (nkT k) with e | ⟨i, r1, r2⟩
  · omega
  · have := hg i r1
    have r2 : mnN 1000000 (nkT k) (fun g => w g + D h g) = w i + D h i := r2
    omega
theorem lw_step (num s : Nat) (hs : s < 6) : lwN s num ≤ dsN s num * 100000 := by
  match s, hs with
  | 0, _ => exact Nat.zero_le _
  | 1, _ => unfold lwN lwN dsN dsN; simp; omega
  | 2, _ => unfold lwN lwN lwN dsN dsN dsN; simp; omega
  | 3, _ => unfold lwN lwN lwN lwN dsN dsN dsN dsN; simp; omega
  | 4, _ => unfold lwN lwN lwN lwN lwN dsN dsN dsN dsN dsN; simp; omega
  | 5, _ => unfold lwN lwN lwN lwN lwN lwN dsN dsN dsN dsN dsN dsN; simp; omega
theorem lw_le5 {num : Nat} (h : dsN 6 num ≤ 5) : lwN 6 num ≤ 500000 := by
  have h1 := lw_step num 5 (by decide)
  have h2 : lwN 6 num = lwN 5 num + dg num 5 * 10 ^ 5 := rfl
  have h3 : dsN 6 num = dsN 5 num + dg num 5 := rfl
  have h4 : (10 : Nat) ^ 5 = 100000 := rfl
  rw [h4] at h2
  omega
theorem HB_of {k : Nat} {σ : am_S} (hD : LD k σ) (hH : HT k σ) : HB (nkT k) σ := by
  obtain ⟨h1, h2, h3, h4, h5⟩ := hH
  have hk := hD.2.1
  have hn := nkT_bd k
  refine ⟨h1, hn.1, hn.2, fun i hi => ?_, fun i hi => ?_, fun h hh => ?_, fun h hh => ?_⟩
  · have hq : i / 8 < nkT k := by omega
    have he := en_at hk hq
    have := h5 (i / 8) hq (i % 8) (by omega)
    rw [show i / 8 * 8 + i % 8 = i by omega] at this
    rw [this.1, this.2]
    have b1 := hgS_bd (k := k) (num := tb k (i / 8)) (w := σ.1 7) (x := i % 8) (s := k) (fun i hi => by have := hD.2.2.1 i hi; omega) (by omega) hk he.2.1
    have b2 := hgS_bd (k := k) (num := tb k (i / 8)) (w := σ.1 8) (x := i % 8) (s := k) (fun i hi => by have := hD.2.2.1 i hi; omega) (by omega) hk he.2.1
    have b3 := hgS_le (k := k) (num := tb k (i / 8)) (v := σ.1 7) (w := σ.1 8) (x := i % 8) (fun i hi => (hD.2.2.1 i hi).2.1) (by omega) (s := k) hk
    omega
  · have hq : i / 6 < nkT k := by omega
    have he := en_at hk hq
    have := (h2 (i / 6) hq).2.2 (i % 6) (by omega)
    rw [show i / 6 * 6 + i % 6 = i by omega] at this
    rw [this]
    have d1 := dsN_le (num := tb k (i / 6)) (s := i % 6 + 1) (by omega)
    have d2 : dsN (i % 6 + 1) (tb k (i / 6)) = dsN (i % 6) (tb k (i / 6)) + dg (tb k (i / 6)) (i % 6) := rfl
    omega
  · have he := en_at hk hh
    rw [(h2 h hh).2.1]
    omega
  · have he := en_at hk hh
    rw [(h2 h hh).1]
    have d := tb_small hk hh
    have e := lw_le5 (num := tb k h) he.2.1
    rw [he.2.2.1] at e
    omega

theorem c100 (σ : am_S) (k a b kn i : Nat) (D : Nat → Nat → Int) (hW : Wd σ) (hk : k ≤ 6) (hz : σ.1 18 1 = (nkT k : Int)) (hK : KNW k D σ kn i) (ha : a < nkT k) (hb : b < nkT k) (h1 : σ.1 35 a = 1) : CC 100 [vR 32, vI (((a : Nat) : Int)), vI (((b : Nat) : Int))] σ (fun r σ' => r = some (vI (D a b)) ∧ σ' = σ) := by
  show TT am_b100 (am_b100.getD 0 []) [(0, vR 32), (1, vI (((a : Nat) : Int))), (2, vI (((b : Nat) : Int)))] [] σ _
  have hnb := nkT_bd k
  obtain ⟨hki, hKd⟩ := hK.2.2 a ha h1
  have hNs : nkT k * nkT k ≤ szT i := szT_mono (k + 1) (by omega) i (by have := hK.1.2.2.2.1; omega) hki
  have hsq := nkT_sq k (by omega)
  have hfn : (a + 1) * nkT k ≤ nkT k * nkT k := Nat.mul_le_mul_right _ (by omega)
  have hfn2 : (a + 1) * nkT k = a * nkT k + nkT k := Nat.succ_mul _ _
  refine tt_ar rfl ?_
  refine tt_getR (wo_32 hW) rfl hK.1.1 ?_
  refine tt_ar rfl ?_
  refine tt_ar rfl ?_
  refine tt_getR (wo_32 hW) rfl (wr_32_1 hW) ?_
  refine tt_getI (x := ((nkT k : Nat) : Int)) (wo_18 hW) rfl hz ?_
  refine tt_bI (g := fun a b => w32 (a * b)) (z := ((a * (nkT k) : Nat) : Int)) rfl (by rw [← Int.natCast_mul]; exact w32_i (by omega) (by omega)) ?_
  refine tt_ar rfl ?_
  refine tt_iadd (by omega) (by omega) ?_
  refine tt_baldB (((a * (nkT k)) + b)) (x := D a b) hK.1.2.1 (by omega) (by omega) (hKd b hb) ?_
  refine tt_iret ?_
  exact ⟨rfl, rfl⟩

theorem c106 (σ : am_S) (hW : Wd σ) : CC 106 [vR 36] σ (fun r σ' => σ' = σ ∧ (σ.1 36 6 < 1000000 ∧ r = some (vI 1) ∨ ¬ σ.1 36 6 < 1000000 ∧ r = some (vI 0))) := by
  show TT am_b106 (am_b106.getD 0 []) [(0, vR 36)] [] σ _
  refine tt_ar rfl ?_
  refine tt_getI (x := σ.1 36 (6)) (wo_36 hW) rfl rfl ?_
  refine tt_ar rfl ?_
  refine tt_icge (fun h0_3 => ?_) (fun h0_3 => ?_)
  · refine tt_ar rfl ?_
    refine tt_nop ?_
    refine tt_zret (by omega) ?_
    exact ⟨rfl, Or.inr ⟨by omega, rfl⟩⟩
  · refine tt_ar rfl ?_
    refine tt_goto ?_
    refine tt_zret (by omega) ?_
    exact ⟨rfl, Or.inl ⟨by omega, rfl⟩⟩

theorem c105 (σ : am_S) (k nm : Nat) (hW : Wd σ) (hD : LD k σ) (hH : HT k σ) (hL : LN nm σ) (m : Nat) (hm : m < 12) (hw : bnN (nkT k) (σ.1 38)) (he : ∀ h, h < nkT k → 0 ≤ σ.1 39 (m * 462 + h) ∧ σ.1 39 (m * 462 + h) ≤ 1000000) : CC 105 [vR 36, vI (((m : Nat) : Int))] σ (fun r σ' => r = none ∧ Fr [38] σ σ' ∧ ∀ h, h < nkT k → σ'.1 38 h = miN 1000000 (σ.1 38 h + σ.1 39 (m * 462 + h))) := by
  show TT am_b105 (am_b105.getD 0 []) [(0, vR 36), (1, vI (((m : Nat) : Int)))] [] σ _
  have hk6 := hD.2.1
  have hnb := nkT_bd k
  have hnm := hL.2.1
  refine tt_ar rfl ?_
  refine tt_ar rfl ?_
  refine tt_nop ?_
  have lp1_1 : ∀ (μ : Nat) (h : Nat) (σ1 : am_S), nkT k - h < μ → Fr [38] σ σ1 → (h ≤ nkT k) → (∀ g, g < h → σ1.1 38 g = miN 1000000 (σ.1 38 g + σ.1 39 (m * 462 + g))) → (∀ g, h ≤ g → σ1.1 38 g = σ.1 38 g) → TT am_b105 (am_b105.getD 1 []) [(0, vR 36), (1, vI (((m : Nat) : Int))), (2, vI (((h : Nat) : Int)))] [] σ1 (fun r σ' => r = none ∧ Fr [38] σ σ' ∧ ∀ h, h < nkT k → σ'.1 38 h = miN 1000000 (σ.1 38 h + σ.1 39 (m * 462 + h))) := by
    intro μ
    induction μ with
    | zero => intro h σ1 hμ; exact absurd hμ (Nat.not_lt_zero _)
    | succ μ ih1 =>
      intro h σ1 hμ hF_σ1 hh hA hB
      have hW_σ1 := Fr.wd hF_σ1 hW
      refine tt_ar rfl ?_
      refine tt_ar rfl ?_
      refine tt_getR (wo_36 hW_σ1) rfl (wr_36_0 hW_σ1) ?_
      refine tt_getI (x := ((nkT k : Nat) : Int)) (wo_18 hW_σ1) rfl ((hF_σ1.2 18 (by decide) (1)).trans hH.1) ?_
      refine tt_icge (fun h1_4 => ?_) (fun h1_4 => ?_)
      · refine tt_vret ?_
        have e : nkT k = h := by omega
        exact ⟨rfl, hF_σ1, fun g hg => hA g (by omega)⟩
      · have q1 := hw h (by omega)
        have q2 := he h (by omega)
        refine tt_ar rfl ?_
        refine tt_getR (wo_36 hW_σ1) rfl (wr_36_9 hW_σ1) ?_
        refine tt_ar rfl ?_
        refine tt_ar rfl ?_
        refine tt_ar rfl ?_
        refine tt_getR (wo_36 hW_σ1) rfl (wr_36_9 hW_σ1) ?_
        refine tt_ar rfl ?_
        refine tt_iald (h) (x := σ.1 38 h) (wa_38 hW_σ1) rfl (by omega) (hB h (Nat.le_refl _)) ?_
        refine tt_ar rfl ?_
        refine tt_getR (wo_36 hW_σ1) rfl (wr_36_10 hW_σ1) ?_
        refine tt_ar rfl ?_
        refine tt_ar rfl ?_
        refine tt_imul (by omega) (by omega) ?_
        refine tt_ar rfl ?_
        refine tt_iadd (by omega) (by omega) ?_
        refine tt_iald (((m * 462) + h)) (x := σ.1 39 (((m * 462) + h))) (wa_39 hW_σ1) (by omega) (by omega) (hF_σ1.2 39 (by decide) (((m * 462) + h))) ?_
        refine tt_iadd (by omega) (by omega) ?_
        refine tt_min (z := (if (σ.1 38 h + σ.1 39 (((m * 462) + h))) < 1000000 then (σ.1 38 h + σ.1 39 (((m * 462) + h))) else 1000000)) rfl rfl ?_
        refine tt_iast (h) (wa_38 hW_σ1) (by omega) rfl (by omega) ?_
        refine tt_iinc (y := ((h + 1 : Nat) : Int)) rfl (iinc_fit (by omega) (by omega) (by omega)) ?_
        refine tt_goto ?_
        refine tt_loc [(0, vR 36), (1, vI (((m : Nat) : Int))), (2, vI (((h + 1 : Nat) : Int)))] rfl rfl ⟨rfl, rfl, rfl, trivial⟩ ?_
        exact ih1 (h + 1) _ (by omega) (Fr.put (Fr.tr Fr.rf hF_σ1 (by decide)) (by decide)) (by omega) (fun g hg => by rw [am_set_at]; by_cases e : g = h; (subst e; rw [if_pos rfl]; rfl); (rw [if_neg e]; exact hA g (by omega))) (fun g hg => by rw [am_set_at, if_neg (by omega)]; exact hB g (by omega))
  refine tt_loc [(0, vR 36), (1, vI (((m : Nat) : Int))), (2, vI (((0 : Nat) : Int)))] rfl rfl ⟨rfl, rfl, lv_to rfl (by omega), trivial⟩ ?_
  exact lp1_1 _ (0) σ (Nat.lt_succ_self _) Fr.rf (by omega) (fun g hg => absurd hg (Nat.not_lt_zero g)) (fun g _ => rfl)

