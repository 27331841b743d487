/-! THE LAW'S SUMS AND HOUSEHOLDS -/
theorem tm10 {v : Nat} : Int.tmod (v : Int) 10 = ((v % 10 : Nat) : Int) := rfl
theorem td10 {v : Nat} (h : v < 1000) : w32 (Int.tdiv (v : Int) 10) = ((v / 10 : Nat) : Int) := by
  rw [show Int.tdiv (v : Int) 10 = ((v / 10 : Nat) : Int) from rfl]
  exact w32_i (by omega) (by omega)
theorem td100 {v : Nat} (h : v < 1000) : w32 (Int.tdiv (v : Int) 100) = ((v / 100 : Nat) : Int) := by
  rw [show Int.tdiv (v : Int) 100 = ((v / 100 : Nat) : Int) from rfl]
  exact w32_i (by omega) (by omega)
theorem mul_w {a b : Int} (h0 : 0 ≤ a) (h1 : a ≤ 4) (h2 : 0 ≤ b) (h3 : b ≤ 9) : w32 (a * b) = a * b := by
  have := mul_bd h0 h1 h2 h3
  exact w32_i (by omega) (by omega)
/-- what so many of each sort hang -/
def smV (L : Nat → Int) (v x : Nat) : Int := L x * ((v % 10 : Nat) : Int) + L (8 + x) * ((v / 10 % 10 : Nat) : Int) + L (16 + x) * ((v / 100 : Nat) : Int)
theorem smV_bd {L : Nat → Int} {v x : Nat} (hL : ∀ i, i < 24 → 0 ≤ L i ∧ L i ≤ 4) (hv : v < 1000) (hx : x < 8) : 0 ≤ smV L v x ∧ smV L v x ≤ 108 := by
  have h1 := hL x (by omega)
  have h2 := hL (8 + x) (by omega)
  have h3 := hL (16 + x) (by omega)
  have m1 := mul_bd h1.1 h1.2 (b := ((v % 10 : Nat) : Int)) (B := 9) (by omega) (by omega)
  have m2 := mul_bd h2.1 h2.2 (b := ((v / 10 % 10 : Nat) : Int)) (B := 9) (by omega) (by omega)
  have m3 := mul_bd h3.1 h3.2 (b := ((v / 100 : Nat) : Int)) (B := 9) (by omega) (by omega)
  unfold smV
  omega
theorem smV_le {L M : Nat → Int} {v x : Nat} (h : ∀ i, i < 24 → L i ≤ M i) (hx : x < 8) : smV L v x ≤ smV M v x := by
  have h1 := Int.mul_le_mul_of_nonneg_right (h x (by omega)) (show (0 : Int) ≤ ((v % 10 : Nat) : Int) by omega)
  have h2 := Int.mul_le_mul_of_nonneg_right (h (8 + x) (by omega)) (show (0 : Int) ≤ ((v / 10 % 10 : Nat) : Int) by omega)
  have h3 := Int.mul_le_mul_of_nonneg_right (h (16 + x) (by omega)) (show (0 : Int) ≤ ((v / 100 : Nat) : Int) by omega)
  unfold smV
  omega
theorem c178 (σ : am_S) (p v x : Nat) (hA : σ.2.2.1[p]? = some (.inl .int, 24)) (hb : ∀ i, i < 24 → 0 ≤ σ.1 p i ∧ σ.1 p i ≤ 4) (hv : v < 1000) (hx : x < 8) : CC 178 [vR p, vI (((v : Nat) : Int)), vI (((x : Nat) : Int))] σ (fun r σ' => σ' = σ ∧ r = some (vI (smV (σ.1 p) v x))) := by
  show TT am_b178 (am_b178.getD 0 []) [(0, vR p), (1, vI (((v : Nat) : Int))), (2, vI (((x : Nat) : Int)))] [] σ _
  refine tt_ar rfl ?_
  refine tt_ar rfl ?_
  refine tt_iald (x) (x := σ.1 p (x)) hA rfl (by omega) rfl ?_
  refine tt_ar rfl ?_
  refine tt_ar rfl ?_
  refine tt_dI (g := (fun a b => Int.tmod a b)) (z := (((v) % 10 : Nat) : Int)) rfl (by omega) tm10 ?_
  have hb0 := hb (x) (by omega)
  have m0 := mul_bd hb0.1 hb0.2 (b := (((v % 10 : Nat)) : Int)) (B := 9) (by omega) (by omega)
  refine tt_bI (g := fun a b => w32 (a * b)) (z := (σ.1 p (x) * (((v) % 10 : Nat) : Int))) rfl (mul_w hb0.1 hb0.2 (by omega) (by omega)) ?_
  refine tt_ar rfl ?_
  refine tt_ar rfl ?_
  refine tt_ar rfl ?_
  refine tt_iadd (by omega) (by omega) ?_
  refine tt_iald ((8 + x)) (x := σ.1 p ((8 + x))) hA (by omega) (by omega) rfl ?_
  refine tt_ar rfl ?_
  refine tt_ar rfl ?_
  refine tt_dI (g := (fun a b => w32 (Int.tdiv a b))) (z := (((v) / 10 : Nat) : Int)) rfl (by omega) (td10 (by omega)) ?_
  refine tt_ar rfl ?_
  refine tt_dI (g := (fun a b => Int.tmod a b)) (z := ((((v) / 10) % 10 : Nat) : Int)) rfl (by omega) tm10 ?_
  have hb1 := hb (8 + x) (by omega)
  have m1 := mul_bd hb1.1 hb1.2 (b := (((v / 10 % 10 : Nat)) : Int)) (B := 9) (by omega) (by omega)
  refine tt_bI (g := fun a b => w32 (a * b)) (z := (σ.1 p ((8 + x)) * ((((v) / 10) % 10 : Nat) : Int))) rfl (mul_w hb1.1 hb1.2 (by omega) (by omega)) ?_
  refine tt_iadd (by omega) (by omega) ?_
  refine tt_ar rfl ?_
  refine tt_ar rfl ?_
  refine tt_ar rfl ?_
  refine tt_iadd (by omega) (by omega) ?_
  refine tt_iald ((16 + x)) (x := σ.1 p ((16 + x))) hA (by omega) (by omega) rfl ?_
  refine tt_ar rfl ?_
  refine tt_ar rfl ?_
  refine tt_dI (g := (fun a b => w32 (Int.tdiv a b))) (z := (((v) / 100 : Nat) : Int)) rfl (by omega) (td100 (by omega)) ?_
  have hb2 := hb (16 + x) (by omega)
  have m2 := mul_bd hb2.1 hb2.2 (b := (((v / 100 : Nat)) : Int)) (B := 9) (by omega) (by omega)
  refine tt_bI (g := fun a b => w32 (a * b)) (z := (σ.1 p ((16 + x)) * (((v) / 100 : Nat) : Int))) rfl (mul_w hb2.1 hb2.2 (by omega) (by omega)) ?_
  refine tt_iadd (by omega) (by omega) ?_
  refine tt_iret ?_
  exact ⟨rfl, rfl⟩

theorem ho_k {E k : Nat} (h : (E = 10 ∧ k = 1) ∨ (E = 100 ∧ k = 2) ∨ (E = 1000 ∧ k = 3)) : ctN hoP E = nkT k := by
  obtain ⟨h1, h2, h3⟩ := ho_ct
  rcases h with ⟨rfl, rfl⟩ | ⟨rfl, rfl⟩ | ⟨rfl, rfl⟩
  · exact h1
  · exact h2
  · exact h3
theorem am_set_ne {σ : am_S} {a i j : Nat} {v : Int} (h : j ≠ i) : (am_set σ a i v).1 a j = σ.1 a j := (am_set_at).trans (if_neg h)
theorem c176 (σ : am_S) (k p : Nat) (hk : 1 ≤ k ∧ k ≤ 3) (hW : Wd σ) (hp : p = σ.2.2.1.length) : CC 176 [vI (((k : Nat) : Int))] σ (fun r σ' => r = some (vR p) ∧ σ'.2 = (am_new σ (.inl .int, 64)).2 ∧ (∀ a, a ≠ p → ∀ j, σ'.1 a j = σ.1 a j) ∧ σ'.1 p 63 = (nkT k : Int) ∧ ∀ i, i < nkT k → ∃ h, h < nkT k ∧ σ'.1 p i = (tb k h : Int)) := by
  show TT am_b176 (am_b176.getD 0 []) [(0, vI (((k : Nat) : Int)))] [] σ _
  refine tt_ar rfl ?_
  refine tt_newa (by omega) (by omega) ?_
  obtain ⟨σn, hσn⟩ : ∃ x, x = am_new σ (.inl .int, 64) := ⟨_, rfl⟩
  rw [← hp]
  refine tt_st hσn.symm ?_
  have hA0 : σn.2.2.1[p]? = some (.inl .int, 64) := by rw [hσn, hp]; show (σ.2.2.1 ++ [_])[σ.2.2.1.length]? = _; rw [List.getElem?_append_right (Nat.le_refl _), Nat.sub_self]; rfl
  have hz0 : ∀ j, σn.1 p j = 0 := fun j => by rw [hσn]; exact if_pos hp
  have ho0 : ∀ a, a ≠ p → ∀ j, σn.1 a j = σ.1 a j := fun a ha j => by rw [hσn]; exact if_neg (fun e => ha (e.trans hp.symm))
  have hlen := hW.len
  have hp2 : 2 ≤ p := by omega
  have hWn : Wd σn := by rw [hσn]; exact Wd.new hW
  refine tt_ar rfl ?_
  refine tt_ar rfl ?_
  refine tt_ar rfl ?_
  refine tt_icne (fun h0_5 => ?_) (fun h0_5 => ?_)
  · refine tt_ar rfl ?_
    refine tt_ar rfl ?_
    refine tt_icne (fun h1_2 => ?_) (fun h1_2 => ?_)
    · refine tt_ar rfl ?_
      refine tt_nop ?_
      refine tt_ar rfl ?_
      refine tt_ar rfl ?_
      refine tt_ar rfl ?_
      refine tt_nop ?_
      have lp4_1 : ∀ (μ : Nat) (E : Nat) (v : Nat) (σ3 : am_S), E - v < μ → Fr [p] σn σ3 → ((E = 10 ∧ k = 1) ∨ (E = 100 ∧ k = 2) ∨ (E = 1000 ∧ k = 3)) → (v ≤ E) → (ctN hoP E = nkT k) → (σ3.1 p 63 = ((ctN hoP v : Nat) : Int)) → (∀ h, h < v → hoP h = true → σ3.1 p (ctN hoP h) = (h : Int)) → TT am_b176 (am_b176.getD 4 []) [(1, vR p), (2, vI (((E : Nat) : Int))), (3, vI (((v : Nat) : Int)))] [] σ3 (fun r σ' => r = some (vR p) ∧ σ'.2 = (am_new σ (.inl .int, 64)).2 ∧ (∀ a, a ≠ p → ∀ j, σ'.1 a j = σ.1 a j) ∧ σ'.1 p 63 = (nkT k : Int) ∧ ∀ i, i < nkT k → ∃ h, h < nkT k ∧ σ'.1 p i = (tb k h : Int)) := by
        intro μ
        induction μ with
        | zero => intro E v σ3 hμ; exact absurd hμ (Nat.not_lt_zero _)
        | succ μ ih4 =>
          intro E v σ3 hμ hF_σ3 hE hv hct h63 hLI
          have hW_σ3 := Fr.wd hF_σ3 hWn
          refine tt_ar rfl ?_
          refine tt_ar rfl ?_
          refine tt_icge (fun h4_2 => ?_) (fun h4_2 => ?_)
          · refine tt_ar rfl ?_
            refine tt_aret ?_
            have eE : v = E := by omega
            subst eE
            rw [hct] at h63
            refine ⟨rfl, by rw [hF_σ3.1, hσn], fun a ha j => (hF_σ3.2 a (by simpa using ha) j).trans (ho0 a ha j), h63, fun i hi => ?_⟩
            obtain ⟨u, h1, h2, h3⟩ := ctN_sur (p := hoP) (n := v) (i := i) (by omega)
            have h4 := hLI u h1 h2
            have h5 := of_decide_eq_true h2
            have h6 := ds_3 (v := u) (by omega)
            obtain ⟨g, g1, g2⟩ := tb_has (k := k) (num := u) (by omega) (by rcases hE with ⟨e1, rfl⟩ | ⟨e1, rfl⟩ | ⟨e1, rfl⟩ <;> omega) (by omega)
            exact ⟨g, g1, by rw [← h3, h4, g2]⟩
          · refine tt_ar rfl ?_
            refine tt_ar rfl ?_
            refine tt_dI (g := (fun a b => Int.tmod a b)) (z := (((v) % 10 : Nat) : Int)) rfl (by omega) tm10 ?_
            refine tt_ar rfl ?_
            refine tt_ar rfl ?_
            refine tt_dI (g := (fun a b => w32 (Int.tdiv a b))) (z := (((v) / 10 : Nat) : Int)) rfl (by omega) (td10 (by omega)) ?_
            refine tt_ar rfl ?_
            refine tt_dI (g := (fun a b => Int.tmod a b)) (z := ((((v) / 10) % 10 : Nat) : Int)) rfl (by omega) tm10 ?_
            refine tt_iadd (by omega) (by omega) ?_
            refine tt_ar rfl ?_
            refine tt_ar rfl ?_
            refine tt_dI (g := (fun a b => w32 (Int.tdiv a b))) (z := (((v) / 100 : Nat) : Int)) rfl (by omega) (td100 (by omega)) ?_
            refine tt_iadd (by omega) (by omega) ?_
            refine tt_ar rfl ?_
            refine tt_icgt (fun h4_17 => ?_) (fun h4_17 => ?_)
            · have hP : ¬ hoP v = true := fun e => by have := of_decide_eq_true e; omega
              have B63 : σ3.1 p 63 = ((ctN hoP (v + 1) : Nat) : Int) := by rw [ctN_s, if_neg hP]; exact h63
              have BLI : ∀ h, h < v + 1 → hoP h = true → σ3.1 p (ctN hoP h) = (h : Int) := fun h hh hp => hLI h (by by_cases e : h = v; (subst e; exact absurd hp hP); omega) hp
              refine tt_iinc (y := ((v + 1 : Nat) : Int)) rfl (iinc_fit (by omega) (by omega) (by omega)) ?_
              refine tt_goto ?_
              refine tt_loc [(1, vR p), (2, vI (((E : Nat) : Int))), (3, vI (((v + 1 : Nat) : Int)))] rfl rfl ⟨rfl, rfl, rfl, trivial⟩ ?_
              exact ih4 (E) (v + 1) σ3 (by omega) (Fr.tr Fr.rf hF_σ3 (by simp)) (by omega) (by omega) (by omega) (by first | exact A63 | exact B63) (by first | exact ALI | exact BLI)
            · have hP : hoP v = true := decide_eq_true (by omega)
              have hlt := ctN_lt hP (show v < E by omega)
              have hk56 : nkT k ≤ 56 := (by decide : ∀ k, k < 4 → nkT k ≤ 56) k (by omega)
              refine tt_ar rfl ?_
              refine tt_ar rfl ?_
              refine tt_ar rfl ?_
              refine tt_iald (63) (x := ((ctN hoP v : Nat) : Int)) ((congrArg (fun z => z.2.1[p]?) hF_σ3.1).trans hA0) (by omega) (by omega) h63 ?_
              refine tt_ar rfl ?_
              refine tt_iast (ctN hoP v) ((congrArg (fun z => z.2.1[p]?) hF_σ3.1).trans hA0) (by omega) rfl (by omega) ?_
              refine tt_ar rfl ?_
              refine tt_ar rfl ?_
              refine tt_ar rfl ?_
              refine tt_iald (63) (x := ((ctN hoP v : Nat) : Int)) ((congrArg (fun z => z.2.1[p]?) hF_σ3.1).trans hA0) (by omega) (by omega) ((am_set_ne (by omega)).trans h63) ?_
              refine tt_ar rfl ?_
              refine tt_iadd (by omega) (by omega) ?_
              refine tt_iast (63) ((congrArg (fun z => z.2.1[p]?) hF_σ3.1).trans hA0) (by omega) rfl (by omega) ?_
              refine tt_nop ?_
              have A63 : (am_set (am_set σ3 p (ctN hoP v) (((v : Nat) : Int))) p (63) ((((ctN hoP v : Nat) : Int) + 1))).1 p 63 = ((ctN hoP (v + 1) : Nat) : Int) := by rw [am_set_rd, ctN_s, if_pos hP]; omega
              have ALI : ∀ h, h < v + 1 → hoP h = true → (am_set (am_set σ3 p (ctN hoP v) (((v : Nat) : Int))) p (63) ((((ctN hoP v : Nat) : Int) + 1))).1 p (ctN hoP h) = (h : Int) := fun h hh hp => by
                by_cases e : h = v
                · subst e; rw [am_set_ne (by omega), am_set_rd]
                · have e1 := ctN_lt hp (show h < v by omega); rw [am_set_ne (by omega), am_set_ne (by omega)]; exact hLI h (by omega) hp
              refine tt_iinc (y := ((v + 1 : Nat) : Int)) rfl (iinc_fit (by omega) (by omega) (by omega)) ?_
              refine tt_goto ?_
              refine tt_loc [(1, vR p), (2, vI (((E : Nat) : Int))), (3, vI (((v + 1 : Nat) : Int)))] rfl rfl ⟨rfl, rfl, rfl, trivial⟩ ?_
              exact ih4 (E) (v + 1) _ (by omega) (Fr.put (Fr.put (Fr.tr Fr.rf hF_σ3 (by simp)) (by simp)) (by simp)) (by omega) (by omega) (by omega) (by first | exact A63 | exact B63) (by first | exact ALI | exact BLI)
      refine tt_loc [(1, vR p), (2, vI (((1000 : Nat) : Int))), (3, vI (((0 : Nat) : Int)))] rfl rfl ⟨rfl, lv_to rfl (by omega), lv_to rfl (by omega), trivial⟩ ?_
      exact lp4_1 _ (1000) (0) σn (Nat.lt_succ_self _) Fr.rf (by omega) (by omega) (ho_k (by omega)) (hz0 63) (fun h hh => absurd hh (Nat.not_lt_zero h))
    · refine tt_ar rfl ?_
      refine tt_goto ?_
      refine tt_ar rfl ?_
      refine tt_ar rfl ?_
      refine tt_ar rfl ?_
      refine tt_nop ?_
      have lp4_2 : ∀ (μ : Nat) (E : Nat) (v : Nat) (σ3 : am_S), E - v < μ → Fr [p] σn σ3 → ((E = 10 ∧ k = 1) ∨ (E = 100 ∧ k = 2) ∨ (E = 1000 ∧ k = 3)) → (v ≤ E) → (ctN hoP E = nkT k) → (σ3.1 p 63 = ((ctN hoP v : Nat) : Int)) → (∀ h, h < v → hoP h = true → σ3.1 p (ctN hoP h) = (h : Int)) → TT am_b176 (am_b176.getD 4 []) [(1, vR p), (2, vI (((E : Nat) : Int))), (3, vI (((v : Nat) : Int)))] [] σ3 (fun r σ' => r = some (vR p) ∧ σ'.2 = (am_new σ (.inl .int, 64)).2 ∧ (∀ a, a ≠ p → ∀ j, σ'.1 a j = σ.1 a j) ∧ σ'.1 p 63 = (nkT k : Int) ∧ ∀ i, i < nkT k → ∃ h, h < nkT k ∧ σ'.1 p i = (tb k h : Int)) := by
        intro μ
        induction μ with
        | zero => intro E v σ3 hμ; exact absurd hμ (Nat.not_lt_zero _)
        | succ μ ih4 =>
          intro E v σ3 hμ hF_σ3 hE hv hct h63 hLI
          have hW_σ3 := Fr.wd hF_σ3 hWn
          refine tt_ar rfl ?_
          refine tt_ar rfl ?_
          refine tt_icge (fun h4_2 => ?_) (fun h4_2 => ?_)
          · refine tt_ar rfl ?_
            refine tt_aret ?_
            have eE : v = E := by omega
            subst eE
            rw [hct] at h63
            refine ⟨rfl, by rw [hF_σ3.1, hσn], fun a ha j => (hF_σ3.2 a (by simpa using ha) j).trans (ho0 a ha j), h63, fun i hi => ?_⟩
            obtain ⟨u, h1, h2, h3⟩ := ctN_sur (p := hoP) (n := v) (i := i) (by omega)
            have h4 := hLI u h1 h2
            have h5 := of_decide_eq_true h2
            have h6 := ds_3 (v := u) (by omega)
            obtain ⟨g, g1, g2⟩ := tb_has (k := k) (num := u) (by omega) (by rcases hE with ⟨e1, rfl⟩ | ⟨e1, rfl⟩ | ⟨e1, rfl⟩ <;> omega) (by omega)
            exact ⟨g, g1, by rw [← h3, h4, g2]⟩
          · refine tt_ar rfl ?_
            refine tt_ar rfl ?_
            refine tt_dI (g := (fun a b => Int.tmod a b)) (z := (((v) % 10 : Nat) : Int)) rfl (by omega) tm10 ?_
            refine tt_ar rfl ?_
            refine tt_ar rfl ?_
            refine tt_dI (g := (fun a b => w32 (Int.tdiv a b))) (z := (((v) / 10 : Nat) : Int)) rfl (by omega) (td10 (by omega)) ?_
            refine tt_ar rfl ?_
            refine tt_dI (g := (fun a b => Int.tmod a b)) (z := ((((v) / 10) % 10 : Nat) : Int)) rfl (by omega) tm10 ?_
            refine tt_iadd (by omega) (by omega) ?_
            refine tt_ar rfl ?_
            refine tt_ar rfl ?_
            refine tt_dI (g := (fun a b => w32 (Int.tdiv a b))) (z := (((v) / 100 : Nat) : Int)) rfl (by omega) (td100 (by omega)) ?_
            refine tt_iadd (by omega) (by omega) ?_
            refine tt_ar rfl ?_
            refine tt_icgt (fun h4_17 => ?_) (fun h4_17 => ?_)
            · have hP : ¬ hoP v = true := fun e => by have := of_decide_eq_true e; omega
              have B63 : σ3.1 p 63 = ((ctN hoP (v + 1) : Nat) : Int) := by rw [ctN_s, if_neg hP]; exact h63
              have BLI : ∀ h, h < v + 1 → hoP h = true → σ3.1 p (ctN hoP h) = (h : Int) := fun h hh hp => hLI h (by by_cases e : h = v; (subst e; exact absurd hp hP); omega) hp
              refine tt_iinc (y := ((v + 1 : Nat) : Int)) rfl (iinc_fit (by omega) (by omega) (by omega)) ?_
              refine tt_goto ?_
              refine tt_loc [(1, vR p), (2, vI (((E : Nat) : Int))), (3, vI (((v + 1 : Nat) : Int)))] rfl rfl ⟨rfl, rfl, rfl, trivial⟩ ?_
              exact ih4 (E) (v + 1) σ3 (by omega) (Fr.tr Fr.rf hF_σ3 (by simp)) (by omega) (by omega) (by omega) (by first | exact A63 | exact B63) (by first | exact ALI | exact BLI)
            · have hP : hoP v = true := decide_eq_true (by omega)
              have hlt := ctN_lt hP (show v < E by omega)
              have hk56 : nkT k ≤ 56 := (by decide : ∀ k, k < 4 → nkT k ≤ 56) k (by omega)
              refine tt_ar rfl ?_
              refine tt_ar rfl ?_
              refine tt_ar rfl ?_
              refine tt_iald (63) (x := ((ctN hoP v : Nat) : Int)) ((congrArg (fun z => z.2.1[p]?) hF_σ3.1).trans hA0) (by omega) (by omega) h63 ?_
              refine tt_ar rfl ?_
              refine tt_iast (ctN hoP v) ((congrArg (fun z => z.2.1[p]?) hF_σ3.1).trans hA0) (by omega) rfl (by omega) ?_
              refine tt_ar rfl ?_
              refine tt_ar rfl ?_
              refine tt_ar rfl ?_
              refine tt_iald (63) (x := ((ctN hoP v : Nat) : Int)) ((congrArg (fun z => z.2.1[p]?) hF_σ3.1).trans hA0) (by omega) (by omega) ((am_set_ne (by omega)).trans h63) ?_
              refine tt_ar rfl ?_
              refine tt_iadd (by omega) (by omega) ?_
              refine tt_iast (63) ((congrArg (fun z => z.2.1[p]?) hF_σ3.1).trans hA0) (by omega) rfl (by omega) ?_
              refine tt_nop ?_
              have A63 : (am_set (am_set σ3 p (ctN hoP v) (((v : Nat) : Int))) p (63) ((((ctN hoP v : Nat) : Int) + 1))).1 p 63 = ((ctN hoP (v + 1) : Nat) : Int) := by rw [am_set_rd, ctN_s, if_pos hP]; omega
              have ALI : ∀ h, h < v + 1 → hoP h = true → (am_set (am_set σ3 p (ctN hoP v) (((v : Nat) : Int))) p (63) ((((ctN hoP v : Nat) : Int) + 1))).1 p (ctN hoP h) = (h : Int) := fun h hh hp => by
                by_cases e : h = v
                · subst e; rw [am_set_ne (by omega), am_set_rd]
                · have e1 := ctN_lt hp (show h < v by omega); rw [am_set_ne (by omega), am_set_ne (by omega)]; exact hLI h (by omega) hp
              refine tt_iinc (y := ((v + 1 : Nat) : Int)) rfl (iinc_fit (by omega) (by omega) (by omega)) ?_
              refine tt_goto ?_
              refine tt_loc [(1, vR p), (2, vI (((E : Nat) : Int))), (3, vI (((v + 1 : Nat) : Int)))] rfl rfl ⟨rfl, rfl, rfl, trivial⟩ ?_
              exact ih4 (E) (v + 1) _ (by omega) (Fr.put (Fr.put (Fr.tr Fr.rf hF_σ3 (by simp)) (by simp)) (by simp)) (by omega) (by omega) (by omega) (by first | exact A63 | exact B63) (by first | exact ALI | exact BLI)
      refine tt_loc [(1, vR p), (2, vI (((100 : Nat) : Int))), (3, vI (((0 : Nat) : Int)))] rfl rfl ⟨rfl, lv_to rfl (by omega), lv_to rfl (by omega), trivial⟩ ?_
      exact lp4_2 _ (100) (0) σn (Nat.lt_succ_self _) Fr.rf (by omega) (by omega) (ho_k (by omega)) (hz0 63) (fun h hh => absurd hh (Nat.not_lt_zero h))
  · refine tt_ar rfl ?_
    refine tt_goto ?_
    refine tt_ar rfl ?_
    refine tt_ar rfl ?_
    refine tt_ar rfl ?_
    refine tt_nop ?_
    have lp4_3 : ∀ (μ : Nat) (E : Nat) (v : Nat) (σ3 : am_S), E - v < μ → Fr [p] σn σ3 → ((E = 10 ∧ k = 1) ∨ (E = 100 ∧ k = 2) ∨ (E = 1000 ∧ k = 3)) → (v ≤ E) → (ctN hoP E = nkT k) → (σ3.1 p 63 = ((ctN hoP v : Nat) : Int)) → (∀ h, h < v → hoP h = true → σ3.1 p (ctN hoP h) = (h : Int)) → TT am_b176 (am_b176.getD 4 []) [(1, vR p), (2, vI (((E : Nat) : Int))), (3, vI (((v : Nat) : Int)))] [] σ3 (fun r σ' => r = some (vR p) ∧ σ'.2 = (am_new σ (.inl .int, 64)).2 ∧ (∀ a, a ≠ p → ∀ j, σ'.1 a j = σ.1 a j) ∧ σ'.1 p 63 = (nkT k : Int) ∧ ∀ i, i < nkT k → ∃ h, h < nkT k ∧ σ'.1 p i = (tb k h : Int)) := by
      intro μ
      induction μ with
      | zero => intro E v σ3 hμ; exact absurd hμ (Nat.not_lt_zero _)
      | succ μ ih4 =>
        intro E v σ3 hμ hF_σ3 hE hv hct h63 hLI
        have hW_σ3 := Fr.wd hF_σ3 hWn
        refine tt_ar rfl ?_
        refine tt_ar rfl ?_
        refine tt_icge (fun h4_2 => ?_) (fun h4_2 => ?_)
        · refine tt_ar rfl ?_
          refine tt_aret ?_
          have eE : v = E := by omega
          subst eE
          rw [hct] at h63
          refine ⟨rfl, by rw [hF_σ3.1, hσn], fun a ha j => (hF_σ3.2 a (by simpa using ha) j).trans (ho0 a ha j), h63, fun i hi => ?_⟩
          obtain ⟨u, h1, h2, h3⟩ := ctN_sur (p := hoP) (n := v) (i := i) (by omega)
          have h4 := hLI u h1 h2
          have h5 := of_decide_eq_true h2
          have h6 := ds_3 (v := u) (by omega)
          obtain ⟨g, g1, g2⟩ := tb_has (k := k) (num := u) (by omega) (by rcases hE with ⟨e1, rfl⟩ | ⟨e1, rfl⟩ | ⟨e1, rfl⟩ <;> omega) (by omega)
          exact ⟨g, g1, by rw [← h3, h4, g2]⟩
        · refine tt_ar rfl ?_
          refine tt_ar rfl ?_
          refine tt_dI (g := (fun a b => Int.tmod a b)) (z := (((v) % 10 : Nat) : Int)) rfl (by omega) tm10 ?_
          refine tt_ar rfl ?_
          refine tt_ar rfl ?_
          refine tt_dI (g := (fun a b => w32 (Int.tdiv a b))) (z := (((v) / 10 : Nat) : Int)) rfl (by omega) (td10 (by omega)) ?_
          refine tt_ar rfl ?_
          refine tt_dI (g := (fun a b => Int.tmod a b)) (z := ((((v) / 10) % 10 : Nat) : Int)) rfl (by omega) tm10 ?_
          refine tt_iadd (by omega) (by omega) ?_
          refine tt_ar rfl ?_
          refine tt_ar rfl ?_
          refine tt_dI (g := (fun a b => w32 (Int.tdiv a b))) (z := (((v) / 100 : Nat) : Int)) rfl (by omega) (td100 (by omega)) ?_
          refine tt_iadd (by omega) (by omega) ?_
          refine tt_ar rfl ?_
          refine tt_icgt (fun h4_17 => ?_) (fun h4_17 => ?_)
          · have hP : ¬ hoP v = true := fun e => by have := of_decide_eq_true e; omega
            have B63 : σ3.1 p 63 = ((ctN hoP (v + 1) : Nat) : Int) := by rw [ctN_s, if_neg hP]; exact h63
            have BLI : ∀ h, h < v + 1 → hoP h = true → σ3.1 p (ctN hoP h) = (h : Int) := fun h hh hp => hLI h (by by_cases e : h = v; (subst e; exact absurd hp hP); omega) hp
            refine tt_iinc (y := ((v + 1 : Nat) : Int)) rfl (iinc_fit (by omega) (by omega) (by omega)) ?_
            refine tt_goto ?_
            refine tt_loc [(1, vR p), (2, vI (((E : Nat) : Int))), (3, vI (((v + 1 : Nat) : Int)))] rfl rfl ⟨rfl, rfl, rfl, trivial⟩ ?_
            exact ih4 (E) (v + 1) σ3 (by omega) (Fr.tr Fr.rf hF_σ3 (by simp)) (by omega) (by omega) (by omega) (by first | exact A63 | exact B63) (by first | exact ALI | exact BLI)
          · have hP : hoP v = true := decide_eq_true (by omega)
            have hlt := ctN_lt hP (show v < E by omega)
            have hk56 : nkT k ≤ 56 := (by decide : ∀ k, k < 4 → nkT k ≤ 56) k (by omega)
            refine tt_ar rfl ?_
            refine tt_ar rfl ?_
            refine tt_ar rfl ?_
            refine tt_iald (63) (x := ((ctN hoP v : Nat) : Int)) ((congrArg (fun z => z.2.1[p]?) hF_σ3.1).trans hA0) (by omega) (by omega) h63 ?_
            refine tt_ar rfl ?_
            refine tt_iast (ctN hoP v) ((congrArg (fun z => z.2.1[p]?) hF_σ3.1).trans hA0) (by omega) rfl (by omega) ?_
            refine tt_ar rfl ?_
            refine tt_ar rfl ?_
            refine tt_ar rfl ?_
            refine tt_iald (63) (x := ((ctN hoP v : Nat) : Int)) ((congrArg (fun z => z.2.1[p]?) hF_σ3.1).trans hA0) (by omega) (by omega) ((am_set_ne (by omega)).trans h63) ?_
            refine tt_ar rfl ?_
            refine tt_iadd (by omega) (by omega) ?_
            refine tt_iast (63) ((congrArg (fun z => z.2.1[p]?) hF_σ3.1).trans hA0) (by omega) rfl (by omega) ?_
            refine tt_nop ?_
            have A63 : (am_set (am_set σ3 p (ctN hoP v) (((v : Nat) : Int))) p (63) ((((ctN hoP v : Nat) : Int) + 1))).1 p 63 = ((ctN hoP (v + 1) : Nat) : Int) := by rw [am_set_rd, ctN_s, if_pos hP]; omega
            have ALI : ∀ h, h < v + 1 → hoP h = true → (am_set (am_set σ3 p (ctN hoP v) (((v : Nat) : Int))) p (63) ((((ctN hoP v : Nat) : Int) + 1))).1 p (ctN hoP h) = (h : Int) := fun h hh hp => by
              by_cases e : h = v
              · subst e; rw [am_set_ne (by omega), am_set_rd]
              · have e1 := ctN_lt hp (show h < v by omega); rw [am_set_ne (by omega), am_set_ne (by omega)]; exact hLI h (by omega) hp
            refine tt_iinc (y := ((v + 1 : Nat) : Int)) rfl (iinc_fit (by omega) (by omega) (by omega)) ?_
            refine tt_goto ?_
            refine tt_loc [(1, vR p), (2, vI (((E : Nat) : Int))), (3, vI (((v + 1 : Nat) : Int)))] rfl rfl ⟨rfl, rfl, rfl, trivial⟩ ?_
            exact ih4 (E) (v + 1) _ (by omega) (Fr.put (Fr.put (Fr.tr Fr.rf hF_σ3 (by simp)) (by simp)) (by simp)) (by omega) (by omega) (by omega) (by first | exact A63 | exact B63) (by first | exact ALI | exact BLI)
    refine tt_loc [(1, vR p), (2, vI (((10 : Nat) : Int))), (3, vI (((0 : Nat) : Int)))] rfl rfl ⟨rfl, lv_to rfl (by omega), lv_to rfl (by omega), trivial⟩ ?_
    exact lp4_3 _ (10) (0) σn (Nat.lt_succ_self _) Fr.rf (by omega) (by omega) (ho_k (by omega)) (hz0 63) (fun h hh => absurd hh (Nat.not_lt_zero h))

