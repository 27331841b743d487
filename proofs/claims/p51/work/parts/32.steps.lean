/-! STEPS -/
theorem am_set_up {σ : am_S} {a i : Nat} {v : Int} : (am_set σ a i v).1 a = upI (σ.1 a) i v := funext (fun j => am_set_at)
theorem HT.fr {L : List Nat} {k : Nat} {σ σ' : am_S} (h : Fr L σ σ') (hw : ∀ a ∈ L, a < 6 ∨ (8 < a ∧ a < 18) ∨ 26 < a) (R : HT k σ) : HT k σ' := by
  have q : ∀ a, (6 ≤ a ∧ a ≤ 8) ∨ (18 ≤ a ∧ a ≤ 26) → ∀ j, σ'.1 a j = σ.1 a j := fun a h1 j => h.2 a (fun e => by have := hw a e; omega) j
  obtain ⟨h1, h2, h3, h4, h5⟩ := R
  have e6 : σ'.1 6 = σ.1 6 := funext (q 6 (by omega))
  have e7 : σ'.1 7 = σ.1 7 := funext (q 7 (by omega))
  have e8 : σ'.1 8 = σ.1 8 := funext (q 8 (by omega))
  refine ⟨by rw [q 18 (by omega)]; exact h1, fun h hh => ?_, fun h hh s hs => ?_, fun h hh s hs => ?_, fun h hh x hx => ?_⟩
  · obtain ⟨r1, r2, r3⟩ := h2 h hh
    exact ⟨by rw [q 19 (by omega)]; exact r1, by rw [q 20 (by omega)]; exact r2, fun s hs => by rw [q 21 (by omega)]; exact r3 s hs⟩
  · rw [q 22 (by omega), q 23 (by omega)]
    exact h3 h hh s hs
  · rw [q 24 (by omega), e6]
    exact h4 h hh s hs
  · rw [q 25 (by omega), q 26 (by omega), e7, e8]
    exact h5 h hh x hx
def bnN (N : Nat) (c : Nat → Int) : Prop := ∀ h, h < N → 0 ≤ c h ∧ c h ≤ 1000000
theorem bnN.up {N i : Nat} {c : Nat → Int} {v : Int} (h : bnN N c) (hv : 0 ≤ v ∧ v ≤ 1000000) : bnN N (upI c i v) := by
  intro x hx
  unfold upI
  split
  · exact hv
  · exact h x hx
theorem okR_split {N : Nat} {R : Nat → Nat → Prop} {p : Int} {c0 c : Nat → Int} (h : ∀ i, i < N → okR N R p c0 c i) : leR N c0 c ∧ clR N R p c ∧ frR N R p c0 c :=
  ⟨fun i hi => (h i hi).1, fun g i hg hi hR => (h i hi).2.1 g hg hR, fun i hi => (h i hi).2.2⟩
theorem c96_33_22 (σ : am_S) (k : Nat) (hW : Wd σ) (hD : LD k σ) (hH : HT k σ) (h : Nat) (p : Int) (bs : Nat → Int) (hh : h < nkT k) (hp : 0 ≤ p ∧ p ≤ 9) (hc : bnN (nkT k) (σ.1 33)) (hbv : ∀ s, s < 6 → σ.1 22 (h * 6 + s) = bs s) (hbb : ∀ s, s < 6 → -1 ≤ bs s ∧ bs s < (nkT k : Int)) : CC 96 [vR 32, vR 33, vR 22, vI (((h : Nat) : Int)), vI (p)] σ (fun r σ' => r = some (vI (lsF (σ.1 33) bs p k (σ.1 33 h))) ∧ σ' = σ) := by
  show TT am_b96 (am_b96.getD 0 []) [(0, vR 32), (1, vR 33), (2, vR 22), (3, vI (((h : Nat) : Int))), (4, vI (p))] [] σ _
  have hk6 := hD.2.1
  have hnb := nkT_bd k
  refine tt_ar rfl ?_
  refine tt_ar rfl ?_
  refine tt_iald (h) (x := σ.1 33 (h)) (wa_33 hW) rfl (by omega) rfl ?_
  have hca := hc (h) (by omega)
  refine tt_ar rfl ?_
  refine tt_ar rfl ?_
  refine tt_ar rfl ?_
  refine tt_imul (by omega) (by omega) ?_
  refine tt_ar rfl ?_
  refine tt_nop ?_
  have lp1_1 : ∀ (μ : Nat) (s : Nat), k - s < μ → (s ≤ k) → TT am_b96 (am_b96.getD 1 []) [(0, vR 32), (1, vR 33), (2, vR 22), (3, vI (((h : Nat) : Int))), (4, vI (p)), (5, vI (lsF (σ.1 33) bs p s (σ.1 33 h))), (6, vI (((h * 6 + s : Nat) : Int)))] [] σ (fun r σ' => r = some (vI (lsF (σ.1 33) bs p k (σ.1 33 h))) ∧ σ' = σ) := by
    intro μ
    induction μ with
    | zero => intro s hμ; exact absurd hμ (Nat.not_lt_zero _)
    | succ μ ih1 =>
      intro s hμ hs
      refine tt_ar rfl ?_
      refine tt_ar rfl ?_
      refine tt_ar rfl ?_
      refine tt_imul (by omega) (by omega) ?_
      refine tt_ar rfl ?_
      refine tt_getR (wo_32 hW) rfl (wr_32_0 hW) ?_
      refine tt_getI (x := ((k : Nat) : Int)) (wo_5 hW) rfl hD.1 ?_
      refine tt_iadd (by omega) (by omega) ?_
      refine tt_icge (fun h1_8 => ?_) (fun h1_8 => ?_)
      · refine tt_ar rfl ?_
        refine tt_iret ?_
        have e1 : k = s := by omega
        subst e1
        exact ⟨rfl, rfl⟩
      · refine tt_ar rfl ?_
        refine tt_ar rfl ?_
        refine tt_iald ((h * 6 + s)) (x := bs s) (wa_22 hW) (by omega) (by omega) (hbv s (by omega)) ?_
        have hbs := hbb s (by omega)
        refine tt_iflt (fun h1_12 => ?_) (fun h1_12 => ?_)
        · refine tt_iinc (y := (((h * 6 + s) + 1 : Nat) : Int)) rfl (iinc_fit (by omega) (by omega) (by omega)) ?_
          refine tt_goto ?_
          refine tt_loc [(0, vR 32), (1, vR 33), (2, vR 22), (3, vI (((h : Nat) : Int))), (4, vI (p)), (5, vI (lsF (σ.1 33) bs p (s + 1) (σ.1 33 h))), (6, vI (((h * 6 + (s + 1) : Nat) : Int)))] rfl rfl ⟨rfl, rfl, rfl, rfl, rfl, lv_to rfl (by conv => { rhs; unfold lsF }; first | (rw [if_pos ⟨by omega, by omega⟩]) | (rw [if_neg (by omega)])), lv_to rfl (by omega), trivial⟩ ?_
          exact ih1 (s + 1) (by omega) (by omega)
        · refine tt_ar rfl ?_
          refine tt_ar rfl ?_
          refine tt_ar rfl ?_
          refine tt_iald ((h * 6 + s)) (x := bs s) (wa_22 hW) (by omega) (by omega) (hbv s (by omega)) ?_
          have hbs := hbb s (by omega)
          refine tt_iald ((bs s).toNat) (x := σ.1 33 ((bs s).toNat)) (wa_33 hW) (by omega) (by omega) rfl ?_
          have hca := hc ((bs s).toNat) (by omega)
          refine tt_ar rfl ?_
          refine tt_iadd (by omega) (by omega) ?_
          refine tt_ar rfl ?_
          refine tt_icge (fun h1_21 => ?_) (fun h1_21 => ?_)
          · refine tt_iinc (y := (((h * 6 + s) + 1 : Nat) : Int)) rfl (iinc_fit (by omega) (by omega) (by omega)) ?_
            refine tt_goto ?_
            refine tt_loc [(0, vR 32), (1, vR 33), (2, vR 22), (3, vI (((h : Nat) : Int))), (4, vI (p)), (5, vI (lsF (σ.1 33) bs p (s + 1) (σ.1 33 h))), (6, vI (((h * 6 + (s + 1) : Nat) : Int)))] rfl rfl ⟨rfl, rfl, rfl, rfl, rfl, lv_to rfl (by conv => { rhs; unfold lsF }; first | (rw [if_pos ⟨by omega, by omega⟩]) | (rw [if_neg (by omega)])), lv_to rfl (by omega), trivial⟩ ?_
            exact ih1 (s + 1) (by omega) (by omega)
          · refine tt_ar rfl ?_
            refine tt_ar rfl ?_
            refine tt_ar rfl ?_
            refine tt_iald ((h * 6 + s)) (x := bs s) (wa_22 hW) (by omega) (by omega) (hbv s (by omega)) ?_
            have hbs := hbb s (by omega)
            refine tt_iald ((bs s).toNat) (x := σ.1 33 ((bs s).toNat)) (wa_33 hW) (by omega) (by omega) rfl ?_
            have hca := hc ((bs s).toNat) (by omega)
            refine tt_ar rfl ?_
            refine tt_iadd (by omega) (by omega) ?_
            refine tt_ar rfl ?_
            refine tt_nop ?_
            refine tt_iinc (y := (((h * 6 + s) + 1 : Nat) : Int)) rfl (iinc_fit (by omega) (by omega) (by omega)) ?_
            refine tt_goto ?_
            refine tt_loc [(0, vR 32), (1, vR 33), (2, vR 22), (3, vI (((h : Nat) : Int))), (4, vI (p)), (5, vI (lsF (σ.1 33) bs p (s + 1) (σ.1 33 h))), (6, vI (((h * 6 + (s + 1) : Nat) : Int)))] rfl rfl ⟨rfl, rfl, rfl, rfl, rfl, lv_to rfl (by conv => { rhs; unfold lsF }; first | (rw [if_pos ⟨by omega, by omega⟩]) | (rw [if_neg (by omega)])), lv_to rfl (by omega), trivial⟩ ?_
            exact ih1 (s + 1) (by omega) (by omega)
  refine tt_loc [(0, vR 32), (1, vR 33), (2, vR 22), (3, vI (((h : Nat) : Int))), (4, vI (p)), (5, vI (lsF (σ.1 33) bs p 0 (σ.1 33 h))), (6, vI (((h * 6 + 0 : Nat) : Int)))] rfl rfl ⟨rfl, rfl, rfl, rfl, rfl, lv_to rfl rfl, lv_to rfl (by omega), trivial⟩ ?_
  exact lp1_1 _ (0) (Nat.lt_succ_self _) (by omega)

theorem c96_33_23 (σ : am_S) (k : Nat) (hW : Wd σ) (hD : LD k σ) (hH : HT k σ) (h : Nat) (p : Int) (bs : Nat → Int) (hh : h < nkT k) (hp : 0 ≤ p ∧ p ≤ 9) (hc : bnN (nkT k) (σ.1 33)) (hbv : ∀ s, s < 6 → σ.1 23 (h * 6 + s) = bs s) (hbb : ∀ s, s < 6 → -1 ≤ bs s ∧ bs s < (nkT k : Int)) : CC 96 [vR 32, vR 33, vR 23, vI (((h : Nat) : Int)), vI (p)] σ (fun r σ' => r = some (vI (lsF (σ.1 33) bs p k (σ.1 33 h))) ∧ σ' = σ) := by
  show TT am_b96 (am_b96.getD 0 []) [(0, vR 32), (1, vR 33), (2, vR 23), (3, vI (((h : Nat) : Int))), (4, vI (p))] [] σ _
  have hk6 := hD.2.1
  have hnb := nkT_bd k
  refine tt_ar rfl ?_
  refine tt_ar rfl ?_
  refine tt_iald (h) (x := σ.1 33 (h)) (wa_33 hW) rfl (by omega) rfl ?_
  have hca := hc (h) (by omega)
  refine tt_ar rfl ?_
  refine tt_ar rfl ?_
  refine tt_ar rfl ?_
  refine tt_imul (by omega) (by omega) ?_
  refine tt_ar rfl ?_
  refine tt_nop ?_
  have lp1_1 : ∀ (μ : Nat) (s : Nat), k - s < μ → (s ≤ k) → TT am_b96 (am_b96.getD 1 []) [(0, vR 32), (1, vR 33), (2, vR 23), (3, vI (((h : Nat) : Int))), (4, vI (p)), (5, vI (lsF (σ.1 33) bs p s (σ.1 33 h))), (6, vI (((h * 6 + s : Nat) : Int)))] [] σ (fun r σ' => r = some (vI (lsF (σ.1 33) bs p k (σ.1 33 h))) ∧ σ' = σ) := by
    intro μ
    induction μ with
    | zero => intro s hμ; exact absurd hμ (Nat.not_lt_zero _)
    | succ μ ih1 =>
      intro s hμ hs
      refine tt_ar rfl ?_
      refine tt_ar rfl ?_
      refine tt_ar rfl ?_
      refine tt_imul (by omega) (by omega) ?_
      refine tt_ar rfl ?_
      refine tt_getR (wo_32 hW) rfl (wr_32_0 hW) ?_
      refine tt_getI (x := ((k : Nat) : Int)) (wo_5 hW) rfl hD.1 ?_
      refine tt_iadd (by omega) (by omega) ?_
      refine tt_icge (fun h1_8 => ?_) (fun h1_8 => ?_)
      · refine tt_ar rfl ?_
        refine tt_iret ?_
        have e1 : k = s := by omega
        subst e1
        exact ⟨rfl, rfl⟩
      · refine tt_ar rfl ?_
        refine tt_ar rfl ?_
        refine tt_iald ((h * 6 + s)) (x := bs s) (wa_23 hW) (by omega) (by omega) (hbv s (by omega)) ?_
        have hbs := hbb s (by omega)
        refine tt_iflt (fun h1_12 => ?_) (fun h1_12 => ?_)
        · refine tt_iinc (y := (((h * 6 + s) + 1 : Nat) : Int)) rfl (iinc_fit (by omega) (by omega) (by omega)) ?_
          refine tt_goto ?_
          refine tt_loc [(0, vR 32), (1, vR 33), (2, vR 23), (3, vI (((h : Nat) : Int))), (4, vI (p)), (5, vI (lsF (σ.1 33) bs p (s + 1) (σ.1 33 h))), (6, vI (((h * 6 + (s + 1) : Nat) : Int)))] rfl rfl ⟨rfl, rfl, rfl, rfl, rfl, lv_to rfl (by conv => { rhs; unfold lsF }; first | (rw [if_pos ⟨by omega, by omega⟩]) | (rw [if_neg (by omega)])), lv_to rfl (by omega), trivial⟩ ?_
          exact ih1 (s + 1) (by omega) (by omega)
        · refine tt_ar rfl ?_
          refine tt_ar rfl ?_
          refine tt_ar rfl ?_
          refine tt_iald ((h * 6 + s)) (x := bs s) (wa_23 hW) (by omega) (by omega) (hbv s (by omega)) ?_
          have hbs := hbb s (by omega)
          refine tt_iald ((bs s).toNat) (x := σ.1 33 ((bs s).toNat)) (wa_33 hW) (by omega) (by omega) rfl ?_
          have hca := hc ((bs s).toNat) (by omega)
          refine tt_ar rfl ?_
          refine tt_iadd (by omega) (by omega) ?_
          refine tt_ar rfl ?_
          refine tt_icge (fun h1_21 => ?_) (fun h1_21 => ?_)
          · refine tt_iinc (y := (((h * 6 + s) + 1 : Nat) : Int)) rfl (iinc_fit (by omega) (by omega) (by omega)) ?_
            refine tt_goto ?_
            refine tt_loc [(0, vR 32), (1, vR 33), (2, vR 23), (3, vI (((h : Nat) : Int))), (4, vI (p)), (5, vI (lsF (σ.1 33) bs p (s + 1) (σ.1 33 h))), (6, vI (((h * 6 + (s + 1) : Nat) : Int)))] rfl rfl ⟨rfl, rfl, rfl, rfl, rfl, lv_to rfl (by conv => { rhs; unfold lsF }; first | (rw [if_pos ⟨by omega, by omega⟩]) | (rw [if_neg (by omega)])), lv_to rfl (by omega), trivial⟩ ?_
            exact ih1 (s + 1) (by omega) (by omega)
          · refine tt_ar rfl ?_
            refine tt_ar rfl ?_
            refine tt_ar rfl ?_
            refine tt_iald ((h * 6 + s)) (x := bs s) (wa_23 hW) (by omega) (by omega) (hbv s (by omega)) ?_
            have hbs := hbb s (by omega)
            refine tt_iald ((bs s).toNat) (x := σ.1 33 ((bs s).toNat)) (wa_33 hW) (by omega) (by omega) rfl ?_
            have hca := hc ((bs s).toNat) (by omega)
            refine tt_ar rfl ?_
            refine tt_iadd (by omega) (by omega) ?_
            refine tt_ar rfl ?_
            refine tt_nop ?_
            refine tt_iinc (y := (((h * 6 + s) + 1 : Nat) : Int)) rfl (iinc_fit (by omega) (by omega) (by omega)) ?_
            refine tt_goto ?_
            refine tt_loc [(0, vR 32), (1, vR 33), (2, vR 23), (3, vI (((h : Nat) : Int))), (4, vI (p)), (5, vI (lsF (σ.1 33) bs p (s + 1) (σ.1 33 h))), (6, vI (((h * 6 + (s + 1) : Nat) : Int)))] rfl rfl ⟨rfl, rfl, rfl, rfl, rfl, lv_to rfl (by conv => { rhs; unfold lsF }; first | (rw [if_pos ⟨by omega, by omega⟩]) | (rw [if_neg (by omega)])), lv_to rfl (by omega), trivial⟩ ?_
            exact ih1 (s + 1) (by omega) (by omega)
  refine tt_loc [(0, vR 32), (1, vR 33), (2, vR 23), (3, vI (((h : Nat) : Int))), (4, vI (p)), (5, vI (lsF (σ.1 33) bs p 0 (σ.1 33 h))), (6, vI (((h * 6 + 0 : Nat) : Int)))] rfl rfl ⟨rfl, rfl, rfl, rfl, rfl, lv_to rfl rfl, lv_to rfl (by omega), trivial⟩ ?_
  exact lp1_1 _ (0) (Nat.lt_succ_self _) (by omega)

theorem c96_33_24 (σ : am_S) (k : Nat) (hW : Wd σ) (hD : LD k σ) (hH : HT k σ) (h : Nat) (p : Int) (bs : Nat → Int) (hh : h < nkT k) (hp : 0 ≤ p ∧ p ≤ 9) (hc : bnN (nkT k) (σ.1 33)) (hbv : ∀ s, s < 6 → σ.1 24 (h * 6 + s) = bs s) (hbb : ∀ s, s < 6 → -1 ≤ bs s ∧ bs s < (nkT k : Int)) : CC 96 [vR 32, vR 33, vR 24, vI (((h : Nat) : Int)), vI (p)] σ (fun r σ' => r = some (vI (lsF (σ.1 33) bs p k (σ.1 33 h))) ∧ σ' = σ) := by
  show TT am_b96 (am_b96.getD 0 []) [(0, vR 32), (1, vR 33), (2, vR 24), (3, vI (((h : Nat) : Int))), (4, vI (p))] [] σ _
  have hk6 := hD.2.1
  have hnb := nkT_bd k
  refine tt_ar rfl ?_
  refine tt_ar rfl ?_
  refine tt_iald (h) (x := σ.1 33 (h)) (wa_33 hW) rfl (by omega) rfl ?_
  have hca := hc (h) (by omega)
  refine tt_ar rfl ?_
  refine tt_ar rfl ?_
  refine tt_ar rfl ?_
  refine tt_imul (by omega) (by omega) ?_
  refine tt_ar rfl ?_
  refine tt_nop ?_
  have lp1_1 : ∀ (μ : Nat) (s : Nat), k - s < μ → (s ≤ k) → TT am_b96 (am_b96.getD 1 []) [(0, vR 32), (1, vR 33), (2, vR 24), (3, vI (((h : Nat) : Int))), (4, vI (p)), (5, vI (lsF (σ.1 33) bs p s (σ.1 33 h))), (6, vI (((h * 6 + s : Nat) : Int)))] [] σ (fun r σ' => r = some (vI (lsF (σ.1 33) bs p k (σ.1 33 h))) ∧ σ' = σ) := by
    intro μ
    induction μ with
    | zero => intro s hμ; exact absurd hμ (Nat.not_lt_zero _)
    | succ μ ih1 =>
      intro s hμ hs
      refine tt_ar rfl ?_
      refine tt_ar rfl ?_
      refine tt_ar rfl ?_
      refine tt_imul (by omega) (by omega) ?_
      refine tt_ar rfl ?_
      refine tt_getR (wo_32 hW) rfl (wr_32_0 hW) ?_
      refine tt_getI (x := ((k : Nat) : Int)) (wo_5 hW) rfl hD.1 ?_
      refine tt_iadd (by omega) (by omega) ?_
      refine tt_icge (fun h1_8 => ?_) (fun h1_8 => ?_)
      · refine tt_ar rfl ?_
        refine tt_iret ?_
        have e1 : k = s := by omega
        subst e1
        exact ⟨rfl, rfl⟩
      · refine tt_ar rfl ?_
        refine tt_ar rfl ?_
        refine tt_iald ((h * 6 + s)) (x := bs s) (wa_24 hW) (by omega) (by omega) (hbv s (by omega)) ?_
        have hbs := hbb s (by omega)
        refine tt_iflt (fun h1_12 => ?_) (fun h1_12 => ?_)
        · refine tt_iinc (y := (((h * 6 + s) + 1 : Nat) : Int)) rfl (iinc_fit (by omega) (by omega) (by omega)) ?_
          refine tt_goto ?_
          refine tt_loc [(0, vR 32), (1, vR 33), (2, vR 24), (3, vI (((h : Nat) : Int))), (4, vI (p)), (5, vI (lsF (σ.1 33) bs p (s + 1) (σ.1 33 h))), (6, vI (((h * 6 + (s + 1) : Nat) : Int)))] rfl rfl ⟨rfl, rfl, rfl, rfl, rfl, lv_to rfl (by conv => { rhs; unfold lsF }; first | (rw [if_pos ⟨by omega, by omega⟩]) | (rw [if_neg (by omega)])), lv_to rfl (by omega), trivial⟩ ?_
          exact ih1 (s + 1) (by omega) (by omega)
        · refine tt_ar rfl ?_
          refine tt_ar rfl ?_
          refine tt_ar rfl ?_
          refine tt_iald ((h * 6 + s)) (x := bs s) (wa_24 hW) (by omega) (by omega) (hbv s (by omega)) ?_
          have hbs := hbb s (by omega)
          refine tt_iald ((bs s).toNat) (x := σ.1 33 ((bs s).toNat)) (wa_33 hW) (by omega) (by omega) rfl ?_
          have hca := hc ((bs s).toNat) (by omega)
          refine tt_ar rfl ?_
          refine tt_iadd (by omega) (by omega) ?_
          refine tt_ar rfl ?_
          refine tt_icge (fun h1_21 => ?_) (fun h1_21 => ?_)
          · refine tt_iinc (y := (((h * 6 + s) + 1 : Nat) : Int)) rfl (iinc_fit (by omega) (by omega) (by omega)) ?_
            refine tt_goto ?_
            refine tt_loc [(0, vR 32), (1, vR 33), (2, vR 24), (3, vI (((h : Nat) : Int))), (4, vI (p)), (5, vI (lsF (σ.1 33) bs p (s + 1) (σ.1 33 h))), (6, vI (((h * 6 + (s + 1) : Nat) : Int)))] rfl rfl ⟨rfl, rfl, rfl, rfl, rfl, lv_to rfl (by conv => { rhs; unfold lsF }; first | (rw [if_pos ⟨by omega, by omega⟩]) | (rw [if_neg (by omega)])), lv_to rfl (by omega), trivial⟩ ?_
            exact ih1 (s + 1) (by omega) (by omega)
          · refine tt_ar rfl ?_
            refine tt_ar rfl ?_
            refine tt_ar rfl ?_
            refine tt_iald ((h * 6 + s)) (x := bs s) (wa_24 hW) (by omega) (by omega) (hbv s (by omega)) ?_
            have hbs := hbb s (by omega)
            refine tt_iald ((bs s).toNat) (x := σ.1 33 ((bs s).toNat)) (wa_33 hW) (by omega) (by omega) rfl ?_
            have hca := hc ((bs s).toNat) (by omega)
            refine tt_ar rfl ?_
            refine tt_iadd (by omega) (by omega) ?_
            refine tt_ar rfl ?_
            refine tt_nop ?_
            refine tt_iinc (y := (((h * 6 + s) + 1 : Nat) : Int)) rfl (iinc_fit (by omega) (by omega) (by omega)) ?_
            refine tt_goto ?_
            refine tt_loc [(0, vR 32), (1, vR 33), (2, vR 24), (3, vI (((h : Nat) : Int))), (4, vI (p)), (5, vI (lsF (σ.1 33) bs p (s + 1) (σ.1 33 h))), (6, vI (((h * 6 + (s + 1) : Nat) : Int)))] rfl rfl ⟨rfl, rfl, rfl, rfl, rfl, lv_to rfl (by conv => { rhs; unfold lsF }; first | (rw [if_pos ⟨by omega, by omega⟩]) | (rw [if_neg (by omega)])), lv_to rfl (by omega), trivial⟩ ?_
            exact ih1 (s + 1) (by omega) (by omega)
  refine tt_loc [(0, vR 32), (1, vR 33), (2, vR 24), (3, vI (((h : Nat) : Int))), (4, vI (p)), (5, vI (lsF (σ.1 33) bs p 0 (σ.1 33 h))), (6, vI (((h * 6 + 0 : Nat) : Int)))] rfl rfl ⟨rfl, rfl, rfl, rfl, rfl, lv_to rfl rfl, lv_to rfl (by omega), trivial⟩ ?_
  exact lp1_1 _ (0) (Nat.lt_succ_self _) (by omega)

theorem c95_33 (σ : am_S) (k : Nat) (hW : Wd σ) (hD : LD k σ) (hH : HT k σ) (p : Int) (hp : 0 ≤ p ∧ p ≤ 9) (hc : bnN (nkT k) (σ.1 33)) : CC 95 [vR 32, vR 33, vI (p)] σ (fun r σ' => r = none ∧ Fr [33] σ σ' ∧ bnN (nkT k) (σ'.1 33) ∧ ∀ i, i < nkT k → okR (nkT k) (dnR k) p (σ.1 33) (σ'.1 33) i) := by
  show TT am_b95 (am_b95.getD 0 []) [(0, vR 32), (1, vR 33), (2, vI (p))] [] σ _
  have hk6 := hD.2.1
  have hnb := nkT_bd k
  refine tt_ar rfl ?_
  refine tt_getR (wo_32 hW) rfl (wr_32_1 hW) ?_
  refine tt_getI (x := ((nkT k : Nat) : Int)) (wo_18 hW) rfl hH.1 ?_
  refine tt_ar rfl ?_
  refine tt_isub (by omega) (by omega) ?_
  refine tt_ar rfl ?_
  refine tt_nop ?_
  have lp1_1 : ∀ (μ : Nat) (j : Nat) (σ1 : am_S), j < μ → Fr [33] σ σ1 → (j ≤ nkT k) → (∀ i, i < j → σ1.1 33 i = σ.1 33 i) → (bnN (nkT k) (σ1.1 33)) → (∀ i, j ≤ i → i < nkT k → okR (nkT k) (dnR k) p (σ.1 33) (σ1.1 33) i) → TT am_b95 (am_b95.getD 1 []) [(0, vR 32), (1, vR 33), (2, vI (p)), (3, vI ((((j : Nat) : Int) - 1)))] [] σ1 (fun r σ' => r = none ∧ Fr [33] σ σ' ∧ bnN (nkT k) (σ'.1 33) ∧ ∀ i, i < nkT k → okR (nkT k) (dnR k) p (σ.1 33) (σ'.1 33) i) := by
    intro μ
    induction μ with
    | zero => intro j σ1 hμ; exact absurd hμ (Nat.not_lt_zero _)
    | succ μ ih1 =>
      intro j σ1 hμ hF_σ1 hj hlow hbn hC
      have hW_σ1 := Fr.wd hF_σ1 hW
      refine tt_ar rfl ?_
      refine tt_iflt (fun h1_1 => ?_) (fun h1_1 => ?_)
      · refine tt_vret ?_
        have e1 : j = 0 := by omega
        subst e1
        exact ⟨rfl, hF_σ1, hbn, fun i hi => hC i (Nat.zero_le _) hi⟩
      · refine tt_loc [(0, vR 32), (1, vR 33), (2, vI (p)), (3, vI (((j - 1 : Nat) : Int)))] rfl rfl ⟨rfl, rfl, rfl, lv_to rfl (by omega), trivial⟩ ?_
        refine tt_ar rfl ?_
        refine tt_ar rfl ?_
        refine tt_ar rfl ?_
        refine tt_ar rfl ?_
        refine tt_ar rfl ?_
        refine tt_getR (wo_32 hW_σ1) rfl (wr_32_1 hW_σ1) ?_
        refine tt_getR (wo_18 hW_σ1) rfl (wr_18_5 hW_σ1) ?_
        refine tt_ar rfl ?_
        refine tt_ar rfl ?_
        refine tt_cv5 5 rfl (wo_32 hW_σ1) (c96_33_22 σ1 k hW_σ1 (LD.fr (L := [33]) (Fr.tr Fr.rf hF_σ1 (by decide)) (by decide) hD) (HT.fr (L := [33]) (Fr.tr Fr.rf hF_σ1 (by decide)) (by decide) hH) (j - 1) p (fun s => moV k (tb k (j - 1)) s) (by omega) hp hbn (fun s hs => (hF_σ1.2 22 (by decide) _).trans ((hH.2.2.1 (j - 1) (by omega) s hs).1)) (fun s hs => moV_bd hk6)) (kp ?_)
        have hv := lsF_bd (c := σ1.1 33) (b := fun s => moV k (tb k (j - 1)) s) (p := p) (x := σ1.1 33 (j - 1)) (N := nkT k) (n := k) hp.1 (hbn (j - 1) (by omega)).1 (fun s hs => (moV_bd hk6).2) (fun h hh => (hbn h hh).1)
        have hv2 := hbn (j - 1) (by omega)
        refine tt_iast (j - 1) (wa_33 hW_σ1) (by omega) rfl (by omega) ?_
        refine tt_iinc (y := (((j - 1 : Nat) : Int) - 1)) rfl (iinc_fit (by omega) (by omega) (by omega)) ?_
        refine tt_goto ?_
        refine tt_loc [(0, vR 32), (1, vR 33), (2, vI (p)), (3, vI ((((j - 1 : Nat) : Int) - 1)))] rfl rfl ⟨rfl, rfl, rfl, rfl, trivial⟩ ?_
        exact ih1 (j - 1) _ (by omega) (Fr.put (Fr.tr Fr.rf hF_σ1 (by decide)) (by decide)) (by omega) (fun i hi => by rw [am_set_up, upI_ne (by omega)]; exact hlow i (by omega)) (by rw [am_set_up]; exact hbn.up (by omega)) (by rw [am_set_up]; exact fun i h1 h2 => more_step hk6 (by omega) rfl (fun i hi => hlow i (by omega)) (fun i h1 h2 => hC i (by omega) h2) i h1 h2)
  refine tt_loc [(0, vR 32), (1, vR 33), (2, vI (p)), (3, vI ((((nkT k : Nat) : Int) - 1)))] rfl rfl ⟨rfl, rfl, rfl, rfl, trivial⟩ ?_
  exact lp1_1 _ (nkT k) σ (Nat.lt_succ_self _) Fr.rf (by omega) (fun i _ => rfl) hc (fun i h1 h2 => absurd h1 (by omega))

theorem c99_33 (σ : am_S) (k : Nat) (hW : Wd σ) (hD : LD k σ) (hH : HT k σ) (p : Int) (hp : 0 ≤ p ∧ p ≤ 9) (hc : bnN (nkT k) (σ.1 33)) : CC 99 [vR 32, vR 33, vI (p)] σ (fun r σ' => r = none ∧ Fr [33] σ σ' ∧ bnN (nkT k) (σ'.1 33) ∧ ∀ i, i < nkT k → okR (nkT k) (upR k) p (σ.1 33) (σ'.1 33) i) := by
  show TT am_b99 (am_b99.getD 0 []) [(0, vR 32), (1, vR 33), (2, vI (p))] [] σ _
  have hk6 := hD.2.1
  have hnb := nkT_bd k
  refine tt_ar rfl ?_
  refine tt_ar rfl ?_
  refine tt_nop ?_
  have lp1_1 : ∀ (μ : Nat) (j : Nat) (σ1 : am_S), nkT k - j < μ → Fr [33] σ σ1 → (j ≤ nkT k) → (∀ i, j ≤ i → σ1.1 33 i = σ.1 33 i) → (bnN (nkT k) (σ1.1 33)) → (∀ i, i < j → okR (nkT k) (upR k) p (σ.1 33) (σ1.1 33) i) → TT am_b99 (am_b99.getD 1 []) [(0, vR 32), (1, vR 33), (2, vI (p)), (3, vI (((j : Nat) : Int)))] [] σ1 (fun r σ' => r = none ∧ Fr [33] σ σ' ∧ bnN (nkT k) (σ'.1 33) ∧ ∀ i, i < nkT k → okR (nkT k) (upR k) p (σ.1 33) (σ'.1 33) i) := by
    intro μ
    induction μ with
    | zero => intro j σ1 hμ; exact absurd hμ (Nat.not_lt_zero _)
    | succ μ ih1 =>
      intro j σ1 hμ hF_σ1 hj hhi hbn hC
      have hW_σ1 := Fr.wd hF_σ1 hW
      refine tt_ar rfl ?_
      refine tt_ar rfl ?_
      refine tt_getR (wo_32 hW_σ1) rfl (wr_32_1 hW_σ1) ?_
      refine tt_getI (x := ((nkT k : Nat) : Int)) (wo_18 hW_σ1) rfl ((hF_σ1.2 18 (by decide) (1)).trans hH.1) ?_
      refine tt_icge (fun h1_4 => ?_) (fun h1_4 => ?_)
      · refine tt_vret ?_
        exact ⟨rfl, hF_σ1, hbn, fun i hi => hC i (by omega)⟩
      · refine tt_ar rfl ?_
        refine tt_ar rfl ?_
        refine tt_ar rfl ?_
        refine tt_ar rfl ?_
        refine tt_ar rfl ?_
        refine tt_getR (wo_32 hW_σ1) rfl (wr_32_1 hW_σ1) ?_
        refine tt_getR (wo_18 hW_σ1) rfl (wr_18_6 hW_σ1) ?_
        refine tt_ar rfl ?_
        refine tt_ar rfl ?_
        refine tt_cv5 5 rfl (wo_32 hW_σ1) (c96_33_23 σ1 k hW_σ1 (LD.fr (L := [33]) (Fr.tr Fr.rf hF_σ1 (by decide)) (by decide) hD) (HT.fr (L := [33]) (Fr.tr Fr.rf hF_σ1 (by decide)) (by decide) hH) j p (fun s => leV k (tb k j) s) (by omega) hp hbn (fun s hs => (hF_σ1.2 23 (by decide) _).trans ((hH.2.2.1 j (by omega) s hs).2)) (fun s hs => leV_bd hk6)) (kp ?_)
        have hv := lsF_bd (c := σ1.1 33) (b := fun s => leV k (tb k j) s) (p := p) (x := σ1.1 33 j) (N := nkT k) (n := k) hp.1 (hbn j (by omega)).1 (fun s hs => (leV_bd hk6).2) (fun h hh => (hbn h hh).1)
        have hv2 := hbn j (by omega)
        refine tt_iast (j) (wa_33 hW_σ1) (by omega) rfl (by omega) ?_
        refine tt_iinc (y := ((j + 1 : Nat) : Int)) rfl (iinc_fit (by omega) (by omega) (by omega)) ?_
        refine tt_goto ?_
        refine tt_loc [(0, vR 32), (1, vR 33), (2, vI (p)), (3, vI (((j + 1 : Nat) : Int)))] rfl rfl ⟨rfl, rfl, rfl, rfl, trivial⟩ ?_
        exact ih1 (j + 1) _ (by omega) (Fr.put (Fr.tr Fr.rf hF_σ1 (by decide)) (by decide)) (by omega) (fun i hi => by rw [am_set_up, upI_ne (by omega)]; exact hhi i (by omega)) (by rw [am_set_up]; exact hbn.up (by omega)) (by rw [am_set_up]; exact fun i h1 => less_step hk6 (by omega) rfl hhi hC i (by omega))
  refine tt_loc [(0, vR 32), (1, vR 33), (2, vI (p)), (3, vI (((0 : Nat) : Int)))] rfl rfl ⟨rfl, rfl, rfl, lv_to rfl (by omega), trivial⟩ ?_
  exact lp1_1 _ (0) σ (Nat.lt_succ_self _) Fr.rf (by omega) (fun i _ => rfl) hc (fun i h1 => absurd h1 (Nat.not_lt_zero i))

theorem c96_38_22 (σ : am_S) (k : Nat) (hW : Wd σ) (hD : LD k σ) (hH : HT k σ) (h : Nat) (p : Int) (bs : Nat → Int) (hh : h < nkT k) (hp : 0 ≤ p ∧ p ≤ 9) (hc : bnN (nkT k) (σ.1 38)) (hbv : ∀ s, s < 6 → σ.1 22 (h * 6 + s) = bs s) (hbb : ∀ s, s < 6 → -1 ≤ bs s ∧ bs s < (nkT k : Int)) : CC 96 [vR 32, vR 38, vR 22, vI (((h : Nat) : Int)), vI (p)] σ (fun r σ' => r = some (vI (lsF (σ.1 38) bs p k (σ.1 38 h))) ∧ σ' = σ) := by
  show TT am_b96 (am_b96.getD 0 []) [(0, vR 32), (1, vR 38), (2, vR 22), (3, vI (((h : Nat) : Int))), (4, vI (p))] [] σ _
  have hk6 := hD.2.1
  have hnb := nkT_bd k
  refine tt_ar rfl ?_
  refine tt_ar rfl ?_
  refine tt_iald (h) (x := σ.1 38 (h)) (wa_38 hW) rfl (by omega) rfl ?_
  have hca := hc (h) (by omega)
  refine tt_ar rfl ?_
  refine tt_ar rfl ?_
  refine tt_ar rfl ?_
  refine tt_imul (by omega) (by omega) ?_
  refine tt_ar rfl ?_
  refine tt_nop ?_
  have lp1_1 : ∀ (μ : Nat) (s : Nat), k - s < μ → (s ≤ k) → TT am_b96 (am_b96.getD 1 []) [(0, vR 32), (1, vR 38), (2, vR 22), (3, vI (((h : Nat) : Int))), (4, vI (p)), (5, vI (lsF (σ.1 38) bs p s (σ.1 38 h))), (6, vI (((h * 6 + s : Nat) : Int)))] [] σ (fun r σ' => r = some (vI (lsF (σ.1 38) bs p k (σ.1 38 h))) ∧ σ' = σ) := by
    intro μ
    induction μ with
    | zero => intro s hμ; exact absurd hμ (Nat.not_lt_zero _)
    | succ μ ih1 =>
      intro s hμ hs
      refine tt_ar rfl ?_
      refine tt_ar rfl ?_
      refine tt_ar rfl ?_
      refine tt_imul (by omega) (by omega) ?_
      refine tt_ar rfl ?_
      refine tt_getR (wo_32 hW) rfl (wr_32_0 hW) ?_
      refine tt_getI (x := ((k : Nat) : Int)) (wo_5 hW) rfl hD.1 ?_
      refine tt_iadd (by omega) (by omega) ?_
      refine tt_icge (fun h1_8 => ?_) (fun h1_8 => ?_)
      · refine tt_ar rfl ?_
        refine tt_iret ?_
        have e1 : k = s := by omega
        subst e1
        exact ⟨rfl, rfl⟩
      · refine tt_ar rfl ?_
        refine tt_ar rfl ?_
        refine tt_iald ((h * 6 + s)) (x := bs s) (wa_22 hW) (by omega) (by omega) (hbv s (by omega)) ?_
        have hbs := hbb s (by omega)
        refine tt_iflt (fun h1_12 => ?_) (fun h1_12 => ?_)
        · refine tt_iinc (y := (((h * 6 + s) + 1 : Nat) : Int)) rfl (iinc_fit (by omega) (by omega) (by omega)) ?_
          refine tt_goto ?_
          refine tt_loc [(0, vR 32), (1, vR 38), (2, vR 22), (3, vI (((h : Nat) : Int))), (4, vI (p)), (5, vI (lsF (σ.1 38) bs p (s + 1) (σ.1 38 h))), (6, vI (((h * 6 + (s + 1) : Nat) : Int)))] rfl rfl ⟨rfl, rfl, rfl, rfl, rfl, lv_to rfl (by conv => { rhs; unfold lsF }; first | (rw [if_pos ⟨by omega, by omega⟩]) | (rw [if_neg (by omega)])), lv_to rfl (by omega), trivial⟩ ?_
          exact ih1 (s + 1) (by omega) (by omega)
        · refine tt_ar rfl ?_
          refine tt_ar rfl ?_
          refine tt_ar rfl ?_
          refine tt_iald ((h * 6 + s)) (x := bs s) (wa_22 hW) (by omega) (by omega) (hbv s (by omega)) ?_
          have hbs := hbb s (by omega)
          refine tt_iald ((bs s).toNat) (x := σ.1 38 ((bs s).toNat)) (wa_38 hW) (by omega) (by omega) rfl ?_
          have hca := hc ((bs s).toNat) (by omega)
          refine tt_ar rfl ?_
          refine tt_iadd (by omega) (by omega) ?_
          refine tt_ar rfl ?_
          refine tt_icge (fun h1_21 => ?_) (fun h1_21 => ?_)
          · refine tt_iinc (y := (((h * 6 + s) + 1 : Nat) : Int)) rfl (iinc_fit (by omega) (by omega) (by omega)) ?_
            refine tt_goto ?_
            refine tt_loc [(0, vR 32), (1, vR 38), (2, vR 22), (3, vI (((h : Nat) : Int))), (4, vI (p)), (5, vI (lsF (σ.1 38) bs p (s + 1) (σ.1 38 h))), (6, vI (((h * 6 + (s + 1) : Nat) : Int)))] rfl rfl ⟨rfl, rfl, rfl, rfl, rfl, lv_to rfl (by conv => { rhs; unfold lsF }; first | (rw [if_pos ⟨by omega, by omega⟩]) | (rw [if_neg (by omega)])), lv_to rfl (by omega), trivial⟩ ?_
            exact ih1 (s + 1) (by omega) (by omega)
          · refine tt_ar rfl ?_
            refine tt_ar rfl ?_
            refine tt_ar rfl ?_
            refine tt_iald ((h * 6 + s)) (x := bs s) (wa_22 hW) (by omega) (by omega) (hbv s (by omega)) ?_
            have hbs := hbb s (by omega)
            refine tt_iald ((bs s).toNat) (x := σ.1 38 ((bs s).toNat)) (wa_38 hW) (by omega) (by omega) rfl ?_
            have hca := hc ((bs s).toNat) (by omega)
            refine tt_ar rfl ?_
            refine tt_iadd (by omega) (by omega) ?_
            refine tt_ar rfl ?_
            refine tt_nop ?_
            refine tt_iinc (y := (((h * 6 + s) + 1 : Nat) : Int)) rfl (iinc_fit (by omega) (by omega) (by omega)) ?_
            refine tt_goto ?_
            refine tt_loc [(0, vR 32), (1, vR 38), (2, vR 22), (3, vI (((h : Nat) : Int))), (4, vI (p)), (5, vI (lsF (σ.1 38) bs p (s + 1) (σ.1 38 h))), (6, vI (((h * 6 + (s + 1) : Nat) : Int)))] rfl rfl ⟨rfl, rfl, rfl, rfl, rfl, lv_to rfl (by conv => { rhs; unfold lsF }; first | (rw [if_pos ⟨by omega, by omega⟩]) | (rw [if_neg (by omega)])), lv_to rfl (by omega), trivial⟩ ?_
            exact ih1 (s + 1) (by omega) (by omega)
  refine tt_loc [(0, vR 32), (1, vR 38), (2, vR 22), (3, vI (((h : Nat) : Int))), (4, vI (p)), (5, vI (lsF (σ.1 38) bs p 0 (σ.1 38 h))), (6, vI (((h * 6 + 0 : Nat) : Int)))] rfl rfl ⟨rfl, rfl, rfl, rfl, rfl, lv_to rfl rfl, lv_to rfl (by omega), trivial⟩ ?_
  exact lp1_1 _ (0) (Nat.lt_succ_self _) (by omega)

theorem c96_38_23 (σ : am_S) (k : Nat) (hW : Wd σ) (hD : LD k σ) (hH : HT k σ) (h : Nat) (p : Int) (bs : Nat → Int) (hh : h < nkT k) (hp : 0 ≤ p ∧ p ≤ 9) (hc : bnN (nkT k) (σ.1 38)) (hbv : ∀ s, s < 6 → σ.1 23 (h * 6 + s) = bs s) (hbb : ∀ s, s < 6 → -1 ≤ bs s ∧ bs s < (nkT k : Int)) : CC 96 [vR 32, vR 38, vR 23, vI (((h : Nat) : Int)), vI (p)] σ (fun r σ' => r = some (vI (lsF (σ.1 38) bs p k (σ.1 38 h))) ∧ σ' = σ) := by
  show TT am_b96 (am_b96.getD 0 []) [(0, vR 32), (1, vR 38), (2, vR 23), (3, vI (((h : Nat) : Int))), (4, vI (p))] [] σ _
  have hk6 := hD.2.1
  have hnb := nkT_bd k
  refine tt_ar rfl ?_
  refine tt_ar rfl ?_
  refine tt_iald (h) (x := σ.1 38 (h)) (wa_38 hW) rfl (by omega) rfl ?_
  have hca := hc (h) (by omega)
  refine tt_ar rfl ?_
  refine tt_ar rfl ?_
  refine tt_ar rfl ?_
  refine tt_imul (by omega) (by omega) ?_
  refine tt_ar rfl ?_
  refine tt_nop ?_
  have lp1_1 : ∀ (μ : Nat) (s : Nat), k - s < μ → (s ≤ k) → TT am_b96 (am_b96.getD 1 []) [(0, vR 32), (1, vR 38), (2, vR 23), (3, vI (((h : Nat) : Int))), (4, vI (p)), (5, vI (lsF (σ.1 38) bs p s (σ.1 38 h))), (6, vI (((h * 6 + s : Nat) : Int)))] [] σ (fun r σ' => r = some (vI (lsF (σ.1 38) bs p k (σ.1 38 h))) ∧ σ' = σ) := by
    intro μ
    induction μ with
    | zero => intro s hμ; exact absurd hμ (Nat.not_lt_zero _)
    | succ μ ih1 =>
      intro s hμ hs
      refine tt_ar rfl ?_
      refine tt_ar rfl ?_
      refine tt_ar rfl ?_
      refine tt_imul (by omega) (by omega) ?_
      refine tt_ar rfl ?_
      refine tt_getR (wo_32 hW) rfl (wr_32_0 hW) ?_
      refine tt_getI (x := ((k : Nat) : Int)) (wo_5 hW) rfl hD.1 ?_
      refine tt_iadd (by omega) (by omega) ?_
      refine tt_icge (fun h1_8 => ?_) (fun h1_8 => ?_)
      · refine tt_ar rfl ?_
        refine tt_iret ?_
        have e1 : k = s := by omega
        subst e1
        exact ⟨rfl, rfl⟩
      · refine tt_ar rfl ?_
        refine tt_ar rfl ?_
        refine tt_iald ((h * 6 + s)) (x := bs s) (wa_23 hW) (by omega) (by omega) (hbv s (by omega)) ?_
        have hbs := hbb s (by omega)
        refine tt_iflt (fun h1_12 => ?_) (fun h1_12 => ?_)
        · refine tt_iinc (y := (((h * 6 + s) + 1 : Nat) : Int)) rfl (iinc_fit (by omega) (by omega) (by omega)) ?_
          refine tt_goto ?_
          refine tt_loc [(0, vR 32), (1, vR 38), (2, vR 23), (3, vI (((h : Nat) : Int))), (4, vI (p)), (5, vI (lsF (σ.1 38) bs p (s + 1) (σ.1 38 h))), (6, vI (((h * 6 + (s + 1) : Nat) : Int)))] rfl rfl ⟨rfl, rfl, rfl, rfl, rfl, lv_to rfl (by conv => { rhs; unfold lsF }; first | (rw [if_pos ⟨by omega, by omega⟩]) | (rw [if_neg (by omega)])), lv_to rfl (by omega), trivial⟩ ?_
          exact ih1 (s + 1) (by omega) (by omega)
        · refine tt_ar rfl ?_
          refine tt_ar rfl ?_
          refine tt_ar rfl ?_
          refine tt_iald ((h * 6 + s)) (x := bs s) (wa_23 hW) (by omega) (by omega) (hbv s (by omega)) ?_
          have hbs := hbb s (by omega)
          refine tt_iald ((bs s).toNat) (x := σ.1 38 ((bs s).toNat)) (wa_38 hW) (by omega) (by omega) rfl ?_
          have hca := hc ((bs s).toNat) (by omega)
          refine tt_ar rfl ?_
          refine tt_iadd (by omega) (by omega) ?_
          refine tt_ar rfl ?_
          refine tt_icge (fun h1_21 => ?_) (fun h1_21 => ?_)
          · refine tt_iinc (y := (((h * 6 + s) + 1 : Nat) : Int)) rfl (iinc_fit (by omega) (by omega) (by omega)) ?_
            refine tt_goto ?_
            refine tt_loc [(0, vR 32), (1, vR 38), (2, vR 23), (3, vI (((h : Nat) : Int))), (4, vI (p)), (5, vI (lsF (σ.1 38) bs p (s + 1) (σ.1 38 h))), (6, vI (((h * 6 + (s + 1) : Nat) : Int)))] rfl rfl ⟨rfl, rfl, rfl, rfl, rfl, lv_to rfl (by conv => { rhs; unfold lsF }; first | (rw [if_pos ⟨by omega, by omega⟩]) | (rw [if_neg (by omega)])), lv_to rfl (by omega), trivial⟩ ?_
            exact ih1 (s + 1) (by omega) (by omega)
          · refine tt_ar rfl ?_
            refine tt_ar rfl ?_
            refine tt_ar rfl ?_
            refine tt_iald ((h * 6 + s)) (x := bs s) (wa_23 hW) (by omega) (by omega) (hbv s (by omega)) ?_
            have hbs := hbb s (by omega)
            refine tt_iald ((bs s).toNat) (x := σ.1 38 ((bs s).toNat)) (wa_38 hW) (by omega) (by omega) rfl ?_
            have hca := hc ((bs s).toNat) (by omega)
            refine tt_ar rfl ?_
            refine tt_iadd (by omega) (by omega) ?_
            refine tt_ar rfl ?_
            refine tt_nop ?_
            refine tt_iinc (y := (((h * 6 + s) + 1 : Nat) : Int)) rfl (iinc_fit (by omega) (by omega) (by omega)) ?_
            refine tt_goto ?_
            refine tt_loc [(0, vR 32), (1, vR 38), (2, vR 23), (3, vI (((h : Nat) : Int))), (4, vI (p)), (5, vI (lsF (σ.1 38) bs p (s + 1) (σ.1 38 h))), (6, vI (((h * 6 + (s + 1) : Nat) : Int)))] rfl rfl ⟨rfl, rfl, rfl, rfl, rfl, lv_to rfl (by conv => { rhs; unfold lsF }; first | (rw [if_pos ⟨by omega, by omega⟩]) | (rw [if_neg (by omega)])), lv_to rfl (by omega), trivial⟩ ?_
            exact ih1 (s + 1) (by omega) (by omega)
  refine tt_loc [(0, vR 32), (1, vR 38), (2, vR 23), (3, vI (((h : Nat) : Int))), (4, vI (p)), (5, vI (lsF (σ.1 38) bs p 0 (σ.1 38 h))), (6, vI (((h * 6 + 0 : Nat) : Int)))] rfl rfl ⟨rfl, rfl, rfl, rfl, rfl, lv_to rfl rfl, lv_to rfl (by omega), trivial⟩ ?_
  exact lp1_1 _ (0) (Nat.lt_succ_self _) (by omega)

theorem c96_38_24 (σ : am_S) (k : Nat) (hW : Wd σ) (hD : LD k σ) (hH : HT k σ) (h : Nat) (p : Int) (bs : Nat → Int) (hh : h < nkT k) (hp : 0 ≤ p ∧ p ≤ 9) (hc : bnN (nkT k) (σ.1 38)) (hbv : ∀ s, s < 6 → σ.1 24 (h * 6 + s) = bs s) (hbb : ∀ s, s < 6 → -1 ≤ bs s ∧ bs s < (nkT k : Int)) : CC 96 [vR 32, vR 38, vR 24, vI (((h : Nat) : Int)), vI (p)] σ (fun r σ' => r = some (vI (lsF (σ.1 38) bs p k (σ.1 38 h))) ∧ σ' = σ) := by
  show TT am_b96 (am_b96.getD 0 []) [(0, vR 32), (1, vR 38), (2, vR 24), (3, vI (((h : Nat) : Int))), (4, vI (p))] [] σ _
  have hk6 := hD.2.1
  have hnb := nkT_bd k
  refine tt_ar rfl ?_
  refine tt_ar rfl ?_
  refine tt_iald (h) (x := σ.1 38 (h)) (wa_38 hW) rfl (by omega) rfl ?_
  have hca := hc (h) (by omega)
  refine tt_ar rfl ?_
  refine tt_ar rfl ?_
  refine tt_ar rfl ?_
  refine tt_imul (by omega) (by omega) ?_
  refine tt_ar rfl ?_
  refine tt_nop ?_
  have lp1_1 : ∀ (μ : Nat) (s : Nat), k - s < μ → (s ≤ k) → TT am_b96 (am_b96.getD 1 []) [(0, vR 32), (1, vR 38), (2, vR 24), (3, vI (((h : Nat) : Int))), (4, vI (p)), (5, vI (lsF (σ.1 38) bs p s (σ.1 38 h))), (6, vI (((h * 6 + s : Nat) : Int)))] [] σ (fun r σ' => r = some (vI (lsF (σ.1 38) bs p k (σ.1 38 h))) ∧ σ' = σ) := by
    intro μ
    induction μ with
    | zero => intro s hμ; exact absurd hμ (Nat.not_lt_zero _)
    | succ μ ih1 =>
      intro s hμ hs
      refine tt_ar rfl ?_
      refine tt_ar rfl ?_
      refine tt_ar rfl ?_
      refine tt_imul (by omega) (by omega) ?_
      refine tt_ar rfl ?_
      refine tt_getR (wo_32 hW) rfl (wr_32_0 hW) ?_
      refine tt_getI (x := ((k : Nat) : Int)) (wo_5 hW) rfl hD.1 ?_
      refine tt_iadd (by omega) (by omega) ?_
      refine tt_icge (fun h1_8 => ?_) (fun h1_8 => ?_)
      · refine tt_ar rfl ?_
        refine tt_iret ?_
        have e1 : k = s := by omega
        subst e1
        exact ⟨rfl, rfl⟩
      · refine tt_ar rfl ?_
        refine tt_ar rfl ?_
        refine tt_iald ((h * 6 + s)) (x := bs s) (wa_24 hW) (by omega) (by omega) (hbv s (by omega)) ?_
        have hbs := hbb s (by omega)
        refine tt_iflt (fun h1_12 => ?_) (fun h1_12 => ?_)
        · refine tt_iinc (y := (((h * 6 + s) + 1 : Nat) : Int)) rfl (iinc_fit (by omega) (by omega) (by omega)) ?_
          refine tt_goto ?_
          refine tt_loc [(0, vR 32), (1, vR 38), (2, vR 24), (3, vI (((h : Nat) : Int))), (4, vI (p)), (5, vI (lsF (σ.1 38) bs p (s + 1) (σ.1 38 h))), (6, vI (((h * 6 + (s + 1) : Nat) : Int)))] rfl rfl ⟨rfl, rfl, rfl, rfl, rfl, lv_to rfl (by conv => { rhs; unfold lsF }; first | (rw [if_pos ⟨by omega, by omega⟩]) | (rw [if_neg (by omega)])), lv_to rfl (by omega), trivial⟩ ?_
          exact ih1 (s + 1) (by omega) (by omega)
        · refine tt_ar rfl ?_
          refine tt_ar rfl ?_
          refine tt_ar rfl ?_
          refine tt_iald ((h * 6 + s)) (x := bs s) (wa_24 hW) (by omega) (by omega) (hbv s (by omega)) ?_
          have hbs := hbb s (by omega)
          refine tt_iald ((bs s).toNat) (x := σ.1 38 ((bs s).toNat)) (wa_38 hW) (by omega) (by omega) rfl ?_
          have hca := hc ((bs s).toNat) (by omega)
          refine tt_ar rfl ?_
          refine tt_iadd (by omega) (by omega) ?_
          refine tt_ar rfl ?_
          refine tt_icge (fun h1_21 => ?_) (fun h1_21 => ?_)
          · refine tt_iinc (y := (((h * 6 + s) + 1 : Nat) : Int)) rfl (iinc_fit (by omega) (by omega) (by omega)) ?_
            refine tt_goto ?_
            refine tt_loc [(0, vR 32), (1, vR 38), (2, vR 24), (3, vI (((h : Nat) : Int))), (4, vI (p)), (5, vI (lsF (σ.1 38) bs p (s + 1) (σ.1 38 h))), (6, vI (((h * 6 + (s + 1) : Nat) : Int)))] rfl rfl ⟨rfl, rfl, rfl, rfl, rfl, lv_to rfl (by conv => { rhs; unfold lsF }; first | (rw [if_pos ⟨by omega, by omega⟩]) | (rw [if_neg (by omega)])), lv_to rfl (by omega), trivial⟩ ?_
            exact ih1 (s + 1) (by omega) (by omega)
          · refine tt_ar rfl ?_
            refine tt_ar rfl ?_
            refine tt_ar rfl ?_
            refine tt_iald ((h * 6 + s)) (x := bs s) (wa_24 hW) (by omega) (by omega) (hbv s (by omega)) ?_
            have hbs := hbb s (by omega)
            refine tt_iald ((bs s).toNat) (x := σ.1 38 ((bs s).toNat)) (wa_38 hW) (by omega) (by omega) rfl ?_
            have hca := hc ((bs s).toNat) (by omega)
            refine tt_ar rfl ?_
            refine tt_iadd (by omega) (by omega) ?_
            refine tt_ar rfl ?_
            refine tt_nop ?_
            refine tt_iinc (y := (((h * 6 + s) + 1 : Nat) : Int)) rfl (iinc_fit (by omega) (by omega) (by omega)) ?_
            refine tt_goto ?_
            refine tt_loc [(0, vR 32), (1, vR 38), (2, vR 24), (3, vI (((h : Nat) : Int))), (4, vI (p)), (5, vI (lsF (σ.1 38) bs p (s + 1) (σ.1 38 h))), (6, vI (((h * 6 + (s + 1) : Nat) : Int)))] rfl rfl ⟨rfl, rfl, rfl, rfl, rfl, lv_to rfl (by conv => { rhs; unfold lsF }; first | (rw [if_pos ⟨by omega, by omega⟩]) | (rw [if_neg (by omega)])), lv_to rfl (by omega), trivial⟩ ?_
            exact ih1 (s + 1) (by omega) (by omega)
  refine tt_loc [(0, vR 32), (1, vR 38), (2, vR 24), (3, vI (((h : Nat) : Int))), (4, vI (p)), (5, vI (lsF (σ.1 38) bs p 0 (σ.1 38 h))), (6, vI (((h * 6 + 0 : Nat) : Int)))] rfl rfl ⟨rfl, rfl, rfl, rfl, rfl, lv_to rfl rfl, lv_to rfl (by omega), trivial⟩ ?_
  exact lp1_1 _ (0) (Nat.lt_succ_self _) (by omega)

theorem c95_38 (σ : am_S) (k : Nat) (hW : Wd σ) (hD : LD k σ) (hH : HT k σ) (p : Int) (hp : 0 ≤ p ∧ p ≤ 9) (hc : bnN (nkT k) (σ.1 38)) : CC 95 [vR 32, vR 38, vI (p)] σ (fun r σ' => r = none ∧ Fr [38] σ σ' ∧ bnN (nkT k) (σ'.1 38) ∧ ∀ i, i < nkT k → okR (nkT k) (dnR k) p (σ.1 38) (σ'.1 38) i) := by
  show TT am_b95 (am_b95.getD 0 []) [(0, vR 32), (1, vR 38), (2, vI (p))] [] σ _
  have hk6 := hD.2.1
  have hnb := nkT_bd k
  refine tt_ar rfl ?_
  refine tt_getR (wo_32 hW) rfl (wr_32_1 hW) ?_
  refine tt_getI (x := ((nkT k : Nat) : Int)) (wo_18 hW) rfl hH.1 ?_
  refine tt_ar rfl ?_
  refine tt_isub (by omega) (by omega) ?_
  refine tt_ar rfl ?_
  refine tt_nop ?_
  have lp1_1 : ∀ (μ : Nat) (j : Nat) (σ1 : am_S), j < μ → Fr [38] σ σ1 → (j ≤ nkT k) → (∀ i, i < j → σ1.1 38 i = σ.1 38 i) → (bnN (nkT k) (σ1.1 38)) → (∀ i, j ≤ i → i < nkT k → okR (nkT k) (dnR k) p (σ.1 38) (σ1.1 38) i) → TT am_b95 (am_b95.getD 1 []) [(0, vR 32), (1, vR 38), (2, vI (p)), (3, vI ((((j : Nat) : Int) - 1)))] [] σ1 (fun r σ' => r = none ∧ Fr [38] σ σ' ∧ bnN (nkT k) (σ'.1 38) ∧ ∀ i, i < nkT k → okR (nkT k) (dnR k) p (σ.1 38) (σ'.1 38) i) := by
    intro μ
    induction μ with
    | zero => intro j σ1 hμ; exact absurd hμ (Nat.not_lt_zero _)
    | succ μ ih1 =>
      intro j σ1 hμ hF_σ1 hj hlow hbn hC
      have hW_σ1 := Fr.wd hF_σ1 hW
      refine tt_ar rfl ?_
      refine tt_iflt (fun h1_1 => ?_) (fun h1_1 => ?_)
      · refine tt_vret ?_
        have e1 : j = 0 := by omega
        subst e1
        exact ⟨rfl, hF_σ1, hbn, fun i hi => hC i (Nat.zero_le _) hi⟩
      · refine tt_loc [(0, vR 32), (1, vR 38), (2, vI (p)), (3, vI (((j - 1 : Nat) : Int)))] rfl rfl ⟨rfl, rfl, rfl, lv_to rfl (by omega), trivial⟩ ?_
        refine tt_ar rfl ?_
        refine tt_ar rfl ?_
        refine tt_ar rfl ?_
        refine tt_ar rfl ?_
        refine tt_ar rfl ?_
        refine tt_getR (wo_32 hW_σ1) rfl (wr_32_1 hW_σ1) ?_
        refine tt_getR (wo_18 hW_σ1) rfl (wr_18_5 hW_σ1) ?_
        refine tt_ar rfl ?_
        refine tt_ar rfl ?_
        refine tt_cv5 5 rfl (wo_32 hW_σ1) (c96_38_22 σ1 k hW_σ1 (LD.fr (L := [38]) (Fr.tr Fr.rf hF_σ1 (by decide)) (by decide) hD) (HT.fr (L := [38]) (Fr.tr Fr.rf hF_σ1 (by decide)) (by decide) hH) (j - 1) p (fun s => moV k (tb k (j - 1)) s) (by omega) hp hbn (fun s hs => (hF_σ1.2 22 (by decide) _).trans ((hH.2.2.1 (j - 1) (by omega) s hs).1)) (fun s hs => moV_bd hk6)) (kp ?_)
        have hv := lsF_bd (c := σ1.1 38) (b := fun s => moV k (tb k (j - 1)) s) (p := p) (x := σ1.1 38 (j - 1)) (N := nkT k) (n := k) hp.1 (hbn (j - 1) (by omega)).1 (fun s hs => (moV_bd hk6).2) (fun h hh => (hbn h hh).1)
        have hv2 := hbn (j - 1) (by omega)
        refine tt_iast (j - 1) (wa_38 hW_σ1) (by omega) rfl (by omega) ?_
        refine tt_iinc (y := (((j - 1 : Nat) : Int) - 1)) rfl (iinc_fit (by omega) (by omega) (by omega)) ?_
        refine tt_goto ?_
        refine tt_loc [(0, vR 32), (1, vR 38), (2, vI (p)), (3, vI ((((j - 1 : Nat) : Int) - 1)))] rfl rfl ⟨rfl, rfl, rfl, rfl, trivial⟩ ?_
        exact ih1 (j - 1) _ (by omega) (Fr.put (Fr.tr Fr.rf hF_σ1 (by decide)) (by decide)) (by omega) (fun i hi => by rw [am_set_up, upI_ne (by omega)]; exact hlow i (by omega)) (by rw [am_set_up]; exact hbn.up (by omega)) (by rw [am_set_up]; exact fun i h1 h2 => more_step hk6 (by omega) rfl (fun i hi => hlow i (by omega)) (fun i h1 h2 => hC i (by omega) h2) i h1 h2)
  refine tt_loc [(0, vR 32), (1, vR 38), (2, vI (p)), (3, vI ((((nkT k : Nat) : Int) - 1)))] rfl rfl ⟨rfl, rfl, rfl, rfl, trivial⟩ ?_
  exact lp1_1 _ (nkT k) σ (Nat.lt_succ_self _) Fr.rf (by omega) (fun i _ => rfl) hc (fun i h1 h2 => absurd h1 (by omega))

theorem c99_38 (σ : am_S) (k : Nat) (hW : Wd σ) (hD : LD k σ) (hH : HT k σ) (p : Int) (hp : 0 ≤ p ∧ p ≤ 9) (hc : bnN (nkT k) (σ.1 38)) : CC 99 [vR 32, vR 38, vI (p)] σ (fun r σ' => r = none ∧ Fr [38] σ σ' ∧ bnN (nkT k) (σ'.1 38) ∧ ∀ i, i < nkT k → okR (nkT k) (upR k) p (σ.1 38) (σ'.1 38) i) := by
  show TT am_b99 (am_b99.getD 0 []) [(0, vR 32), (1, vR 38), (2, vI (p))] [] σ _
  have hk6 := hD.2.1
  have hnb := nkT_bd k
  refine tt_ar rfl ?_
  refine tt_ar rfl ?_
  refine tt_nop ?_
  have lp1_1 : ∀ (μ : Nat) (j : Nat) (σ1 : am_S), nkT k - j < μ → Fr [38] σ σ1 → (j ≤ nkT k) → (∀ i, j ≤ i → σ1.1 38 i = σ.1 38 i) → (bnN (nkT k) (σ1.1 38)) → (∀ i, i < j → okR (nkT k) (upR k) p (σ.1 38) (σ1.1 38) i) → TT am_b99 (am_b99.getD 1 []) [(0, vR 32), (1, vR 38), (2, vI (p)), (3, vI (((j : Nat) : Int)))] [] σ1 (fun r σ' => r = none ∧ Fr [38] σ σ' ∧ bnN (nkT k) (σ'.1 38) ∧ ∀ i, i < nkT k → okR (nkT k) (upR k) p (σ.1 38) (σ'.1 38) i) := by
    intro μ
    induction μ with
    | zero => intro j σ1 hμ; exact absurd hμ (Nat.not_lt_zero _)
    | succ μ ih1 =>
      intro j σ1 hμ hF_σ1 hj hhi hbn hC
      have hW_σ1 := Fr.wd hF_σ1 hW
      refine tt_ar rfl ?_
      refine tt_ar rfl ?_
      refine tt_getR (wo_32 hW_σ1) rfl (wr_32_1 hW_σ1) ?_
      refine tt_getI (x := ((nkT k : Nat) : Int)) (wo_18 hW_σ1) rfl ((hF_σ1.2 18 (by decide) (1)).trans hH.1) ?_
      refine tt_icge (fun h1_4 => ?_) (fun h1_4 => ?_)
      · refine tt_vret ?_
        exact ⟨rfl, hF_σ1, hbn, fun i hi => hC i (by omega)⟩
      · refine tt_ar rfl ?_
        refine tt_ar rfl ?_
        refine tt_ar rfl ?_
        refine tt_ar rfl ?_
        refine tt_ar rfl ?_
        refine tt_getR (wo_32 hW_σ1) rfl (wr_32_1 hW_σ1) ?_
        refine tt_getR (wo_18 hW_σ1) rfl (wr_18_6 hW_σ1) ?_
        refine tt_ar rfl ?_
        refine tt_ar rfl ?_
        refine tt_cv5 5 rfl (wo_32 hW_σ1) (c96_38_23 σ1 k hW_σ1 (LD.fr (L := [38]) (Fr.tr Fr.rf hF_σ1 (by decide)) (by decide) hD) (HT.fr (L := [38]) (Fr.tr Fr.rf hF_σ1 (by decide)) (by decide) hH) j p (fun s => leV k (tb k j) s) (by omega) hp hbn (fun s hs => (hF_σ1.2 23 (by decide) _).trans ((hH.2.2.1 j (by omega) s hs).2)) (fun s hs => leV_bd hk6)) (kp ?_)
        have hv := lsF_bd (c := σ1.1 38) (b := fun s => leV k (tb k j) s) (p := p) (x := σ1.1 38 j) (N := nkT k) (n := k) hp.1 (hbn j (by omega)).1 (fun s hs => (leV_bd hk6).2) (fun h hh => (hbn h hh).1)
        have hv2 := hbn j (by omega)
        refine tt_iast (j) (wa_38 hW_σ1) (by omega) rfl (by omega) ?_
        refine tt_iinc (y := ((j + 1 : Nat) : Int)) rfl (iinc_fit (by omega) (by omega) (by omega)) ?_
        refine tt_goto ?_
        refine tt_loc [(0, vR 32), (1, vR 38), (2, vI (p)), (3, vI (((j + 1 : Nat) : Int)))] rfl rfl ⟨rfl, rfl, rfl, rfl, trivial⟩ ?_
        exact ih1 (j + 1) _ (by omega) (Fr.put (Fr.tr Fr.rf hF_σ1 (by decide)) (by decide)) (by omega) (fun i hi => by rw [am_set_up, upI_ne (by omega)]; exact hhi i (by omega)) (by rw [am_set_up]; exact hbn.up (by omega)) (by rw [am_set_up]; exact fun i h1 => less_step hk6 (by omega) rfl hhi hC i (by omega))
  refine tt_loc [(0, vR 32), (1, vR 38), (2, vI (p)), (3, vI (((0 : Nat) : Int)))] rfl rfl ⟨rfl, rfl, rfl, lv_to rfl (by omega), trivial⟩ ?_
  exact lp1_1 _ (0) σ (Nat.lt_succ_self _) Fr.rf (by omega) (fun i _ => rfl) hc (fun i h1 => absurd h1 (Nat.not_lt_zero i))

