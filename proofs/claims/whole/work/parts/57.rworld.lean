/-! THE REFERENCE: fault, the households set, world -/
theorem RRb.rq {k nm ns : Nat} {D : Nat → Nat → Int} {A σ σ' : am_S} (h : RRb k nm ns D A σ) (hF : Fr [76, 87, 88, 89, 90] σ σ') (hK : ∀ j, j ≠ 17 → j ≠ 21 → j ≠ 23 → j ≠ 24 → σ'.1 76 j = σ.1 76 j) : RRb k nm ns D A σ' :=
  h.kp (fun a ha => hF.2 a (by simp only [List.mem_cons, List.not_mem_nil, or_false, not_or]; unfold rrC at ha; omega)) (fun j hj => hK j (by unfold rrJ at hj; omega) (by unfold rrJ at hj; omega) (by unfold rrJ at hj; omega) (by unfold rrJ at hj; omega))
theorem RRb.tq {k nm ns t n : Nat} {D : Nat → Nat → Int} {A σ : am_S} (h : RRb k nm ns D A σ) (hA : CI k nm ns D A) (ht : t < 4) (hn : A.1 (68 + 2 * t) 1 = (n : Int)) : TQ (A.1 (69 + 2 * t)) t n σ := by
  have h1 := (hA.txt t ht).1
  have h2 := szR_c (A.1 (68 + 2 * t) 1)
  have h3 := (h.tx t ht).1
  exact ⟨ht, by omega, by omega, fun j hj => ⟨(h.tx t ht).2 j (by omega), (hA.txt t ht).2 j (by omega)⟩⟩
theorem run_end {f : Nat → Int} {n c q : Nat} {W : Nat → Nat → Int} (h : ¬ q < n) : p_run f n (120 - c) q W = (q, some W) := by
  rcases Nat.lt_or_ge c 120 with h1 | h1
  · rw [show 120 - c = (119 - c) + 1 by omega]
    unfold p_run
    rw [if_neg h]
  · rw [show 120 - c = 0 by omega]
    rfl
theorem run_sp {f : Nat → Int} {n c q : Nat} {W : Nat → Nat → Int} (hc : c < 120) (h : q < n) (h32 : f q = 32) : p_run f n (120 - (c + 1)) (q + 1) W = p_run f n (120 - c) q W := by
  rw [show 120 - c = (120 - (c + 1)) + 1 by omega]
  conv => { rhs; unfold p_run }
  rw [if_pos h, if_pos h32]
theorem run_it {f : Nat → Int} {n c q q2 : Nat} {W W2 : Nat → Nat → Int} (hc : c < 120) (h : q < n) (h32 : ¬ f q = 32) (hi : p_item f n q W = (q2, some W2)) : p_run f n (120 - (c + 1)) q2 W2 = p_run f n (120 - c) q W := by
  rw [show 120 - c = (120 - (c + 1)) + 1 by omega]
  conv => { rhs; unfold p_run }
  rw [if_pos h, if_neg h32, hi]
theorem run_no {f : Nat → Int} {n c q q2 : Nat} {W : Nat → Nat → Int} (hc : c < 120) (h : q < n) (h32 : ¬ f q = 32) (hi : p_item f n q W = (q2, none)) : p_run f n (120 - c) q W = (q2, none) := by
  rw [show 120 - c = (119 - c) + 1 by omega]
  unfold p_run
  rw [if_pos h, if_neg h32, hi]
theorem item_no {f : Nat → Int} {n q k : Nat} {W : Nat → Nat → Int} (hk : W 6 0 = (k : Int)) (h : ¬ (f q = 107 ∧ k < 6) ∧ ¬ f q = 119 ∧ ¬ f q = 105 ∧ ¬ f q = 99) : p_item f n q W = (q, none) := by
  unfold p_item
  by_cases e : f q = 107
  · rw [if_pos e]
    unfold p_sort
    rw [if_pos (by omega)]
  · rw [if_neg e, if_neg h.2.1, if_neg h.2.2.1, if_neg h.2.2.2]
theorem tmod10 {r : Nat} : Int.tmod (r : Int) 10 = ((r % 10 : Nat) : Int) := rfl
theorem tdiv10 {r : Nat} (h : r ≤ 2000000) : w32 (Int.tdiv (r : Int) 10) = ((r / 10 : Nat) : Int) := by
  have z := iinc_fit (x := Int.tdiv (r : Int) 10) (n := 0) (y := ((r / 10 : Nat) : Int)) (by rw [Int.add_zero]; rfl) (by omega) (by omega)
  rwa [Int.add_zero] at z
theorem dv_s {x s : Nat} : x / 10 ^ (s + 1) = x / 10 ^ s / 10 := by rw [Nat.pow_succ, Nat.div_div_eq_div_mul]
theorem ds_s {x s : Nat} : dsN (s + 1) x = dsN s x + dg x s := rfl
theorem ds_9 {x : Nat} : ∀ s, dsN s x ≤ 9 * s
  | 0 => Nat.le_refl 0
  | s + 1 => by
    have h1 := ds_9 (x := x) s
    have h2 := dg_lt x s
    rw [ds_s]
    omega
theorem dv_z {x s : Nat} (h : x / 10 ^ s = 0) : ∀ d, x / 10 ^ (s + d) = 0
  | 0 => h
  | d + 1 => by
    rw [← Nat.add_assoc, dv_s, dv_z h d]
theorem ds_z {x s : Nat} (h : x / 10 ^ s = 0) : ∀ d, dsN (s + d) x = dsN s x
  | 0 => rfl
  | d + 1 => by
    rw [← Nat.add_assoc, ds_s, ds_z h d]
    unfold dg
    rw [dv_z h d]
    rfl
/-- the households below a number are those before place h -/
def HBL (k x h : Nat) : Prop := h ≤ nkT k ∧ (∀ j, j < h → tb k j < x) ∧ (h < nkT k → x ≤ tb k h)
theorem HBL.hit {k x h : Nat} (hk : k ≤ 6) (hx : x < 10 ^ k) (hs : dsN 6 x ≤ 5) (H : HBL k x h) : h < nkT k ∧ tb k h = x ∧ HBL k (x + 1) (h + 1) := by
  obtain ⟨h1, h2, h3⟩ := H
  obtain ⟨j, hj, e⟩ := tb_has hk hx hs
  have a1 : h ≤ j := by
    rcases Nat.lt_or_ge j h with q | q
    · have := h2 j q
      omega
    · exact q
  have a2 := h3 (by omega)
  have a3 : j = h := by
    rcases Nat.lt_or_ge h j with q | q
    · have := tb_lt hk hj q
      omega
    · omega
  subst a3
  refine ⟨hj, e, by omega, fun i hi => ?_, fun hn => ?_⟩
  · rcases Nat.lt_or_ge i j with q | q
    · have := h2 i q
      omega
    · rw [show i = j by omega]
      omega
  · have := tb_lt hk hn (Nat.lt_succ_self j)
    omega
theorem HBL.mis {k x h : Nat} (hk : k ≤ 6) (hs : ¬ dsN 6 x ≤ 5) (H : HBL k x h) : HBL k (x + 1) h := by
  obtain ⟨h1, h2, h3⟩ := H
  refine ⟨h1, fun j hj => by have := h2 j hj; omega, fun hn => ?_⟩
  have a1 := h3 hn
  have a2 := (en_at hk hn).2.1
  have a3 : tb k h ≠ x := fun e => hs (by rw [← e]; exact a2)
  omega
theorem HBL.fin {k h : Nat} (hk : k ≤ 6) (H : HBL k (10 ^ k) h) : h = nkT k := by
  obtain ⟨h1, h2, h3⟩ := H
  rcases Nat.lt_or_ge h (nkT k) with q | q
  · have := h3 q
    have := (en_at hk q).1
    omega
  · omega
theorem p10_le : ∀ k, k ≤ 6 → 10 ^ k ≤ 1000000 := fun k hk => (by decide : ∀ k, k < 7 → 10 ^ k ≤ 1000000) k (by omega)
theorem c193 (f : Nat → Int) (t n : Nat) (σ : am_S) (hW : Wd σ) (hT : TQ f t n σ) : CC 193 [vR 76, vI (((t : Nat) : Int))] σ (fun r σ' => (∃ q W', p_run f n 120 0 p_W0 = (q, some W') ∧ r = some (vI (-9)) ∧ Fr [76, 87, 88, 89, 90] σ σ' ∧ (∀ j, j ≠ 17 → j ≠ 21 → j ≠ 23 → j ≠ 24 → σ'.1 76 j = σ.1 76 j) ∧ WQ W' σ' ∧ WOK W') ∨ (∃ q : Nat, p_run f n 120 0 p_W0 = (q, none) ∧ r = some (vI (q : Int)) ∧ Fr [76, 87, 88, 89, 90] σ σ' ∧ (∀ j, j ≠ 17 → j ≠ 21 → j ≠ 23 → j ≠ 24 → σ'.1 76 j = σ.1 76 j))) := by
  show TT am_b193 (am_b193.getD 0 []) [(0, vR 76), (1, vI (((t : Nat) : Int)))] [] σ _
  obtain ⟨ht4, hn120, hn, hf⟩ := id hT
  refine tt_ar rfl ?_
  refine tt_cv1 1 rfl (wo_76 hW) (c173 σ hW) ?_
  intro r0 σ0 hq0
  obtain ⟨rfl, hF0, hK0, hP0⟩ := hq0
  have hW1 := Fr.wd hF0 hW
  refine tt_ar rfl ?_
  refine tt_ar rfl ?_
  refine tt_putI (wo_76 hW1) rfl ?_
  refine tt_nop ?_
  have lp1_2 : ∀ (μ : Nat) (c : Nat) (q : Nat) (W1 : Nat → Nat → Int) (σ1 : am_S), 120 - c < μ → Fr [76, 87, 88, 89, 90] σ σ1 → (c ≤ q) → (q ≤ n) → (σ1.1 76 23 = ((q : Nat) : Int)) → (WQ W1 σ1) → (WOK W1) → ((∀ j, j ≠ 17 → j ≠ 21 → j ≠ 23 → j ≠ 24 → σ1.1 76 j = σ.1 76 j)) → (p_run f n (120 - c) q W1 = p_run f n 120 0 p_W0) → TT am_b193 (am_b193.getD 1 []) [(0, vR 76), (1, vI (((t : Nat) : Int)))] [] σ1 (fun r σ' => (∃ q W', p_run f n 120 0 p_W0 = (q, some W') ∧ r = some (vI (-9)) ∧ Fr [76, 87, 88, 89, 90] σ σ' ∧ (∀ j, j ≠ 17 → j ≠ 21 → j ≠ 23 → j ≠ 24 → σ'.1 76 j = σ.1 76 j) ∧ WQ W' σ' ∧ WOK W') ∨ (∃ q : Nat, p_run f n 120 0 p_W0 = (q, none) ∧ r = some (vI (q : Int)) ∧ Fr [76, 87, 88, 89, 90] σ σ' ∧ (∀ j, j ≠ 17 → j ≠ 21 → j ≠ 23 → j ≠ 24 → σ'.1 76 j = σ.1 76 j))) := by
    intro μ
    induction μ with
    | zero => intro c q W1 σ1 hμ; exact absurd hμ (Nat.not_lt_zero _)
    | succ μ ih1 =>
      intro c q W1 σ1 hμ hF_σ1 hcq hqn hq hP1 hok hK1 hC
      have hW_σ1 := Fr.wd hF_σ1 hW
      obtain ⟨k1, hk1⟩ : ∃ k1 : Nat, W1 6 0 = (k1 : Int) := ⟨_, (Int.toNat_of_nonneg hok.1.1).symm⟩
      have hk16 : k1 ≤ 6 := by have := hok.1.2; omega
      have hk1w : σ1.1 76 17 = (k1 : Int) := hP1.1.trans hk1
      refine tt_ar rfl ?_
      refine tt_getI (x := ((q : Nat) : Int)) (wo_76 hW_σ1) rfl hq ?_
      refine tt_ar rfl ?_
      refine tt_getR (wo_76 hW_σ1) rfl (wr_76_9 hW_σ1) ?_
      refine tt_ar rfl ?_
      refine tt_iald (t) (x := ((n : Nat) : Int)) (wa_81 hW_σ1) rfl (by omega) ((hF_σ1.2 81 (by decide) (t)).trans hn) ?_
      refine tt_icge (fun h1_6 => ?_) (fun h1_6 => ?_)
      · refine tt_ar rfl ?_
        refine tt_iret ?_
        exact Or.inl ⟨q, W1, hC.symm.trans (run_end (by omega)), rfl, (Fr.tr Fr.rf hF_σ1 (by decide)), hK1, hP1, hok⟩
      · refine tt_ar rfl ?_
        refine tt_ar rfl ?_
        have hfq := hf q (by omega)
        have hc194 := c194 f t n q σ1 hW_σ1 (TQ.fr (L := [76, 87, 88, 89, 90]) (Fr.tr Fr.rf hF_σ1 (by decide)) (by decide) hT) hq (by omega)
        rw [show p_here f n q = f q from if_pos (by omega)] at hc194
        refine tt_cv2 2 rfl (wo_76 hW_σ1) hc194 (kp ?_)
        refine tt_ar rfl ?_
        refine tt_ar rfl ?_
        refine tt_ar rfl ?_
        refine tt_icne (fun h1_13 => ?_) (fun h1_13 => ?_)
        · refine tt_ar rfl ?_
          refine tt_ar rfl ?_
          refine tt_icne (fun h2_2 => ?_) (fun h2_2 => ?_)
          · refine tt_ar rfl ?_
            refine tt_ar rfl ?_
            refine tt_iceq (fun h3_2 => ?_) (fun h3_2 => ?_)
            · refine tt_ar rfl ?_
              refine tt_ar rfl ?_
              refine tt_getI (x := ((q : Nat) : Int)) (wo_76 hW_σ1) rfl hq ?_
              refine tt_ar rfl ?_
              refine tt_iadd (by omega) (by omega) ?_
              refine tt_putI (wo_76 hW_σ1) rfl ?_
              refine tt_ar rfl ?_
              refine tt_ar rfl ?_
              refine tt_ar rfl ?_
              refine tt_cv3 3 rfl (wo_76 hW_σ1) (c195 f t n q k1 W1 (am_set σ1 76 (23) ((((q : Nat) : Int) + 1))) hW_σ1 (TQ.fr (L := [76, 87, 88, 89, 90]) (Fr.put (Fr.tr Fr.rf hF_σ1 (by decide)) (by decide)) (by decide) hT) ((@am_set_rd σ1 76 (23) ((((q : Nat) : Int) + 1))).trans (by omega)) (by omega) hP1.s23 hk1 hk16 (by omega)) ?_
              intro r0 σ2 hq0
              rcases hq0 with ⟨q2, W2, hq2, rfl, hF2, hK2, hq3, hP2⟩ | ⟨q2, hq2, rfl, hF2, hK2, hq3⟩
              · have hW3 := Fr.wd hF2 hW_σ1
                have hok2 := p_item_ok hq2 (by omega) hok
                refine tt_ifneT (by decide) ?_
                refine tt_goto ?_
                refine tt_loc [(0, vR 76), (1, vI (((t : Nat) : Int)))] rfl rfl ⟨rfl, rfl, trivial⟩ ?_
                exact ih1 (c + 1) (q2) (W2) σ2 (by omega) (Fr.tr (Fr.put (Fr.tr Fr.rf hF_σ1 (by decide)) (by decide)) hF2 (by decide)) (by first | omega | (have := hok2.2.1; omega)) (by first | omega | exact hok2.2.2) (by first | exact hq3 | exact am_set_rd) (by first | exact hP2 | exact hP1.s23) (by first | exact hok2.1 | exact hok) (by first | exact (fun j h1 h2 h3 h4 => (hK2 j h1 h2 h3 h4).trans ((by simp [am_set, h3] : _ = σ1.1 76 j).trans (hK1 j h1 h2 h3 h4))) | exact (fun j h1 h2 h3 h4 => (by simp [am_set, h3] : _ = σ1.1 76 j).trans (hK1 j h1 h2 h3 h4))) (by first | exact (run_it (by omega) (by omega) h1_13 hq2).trans hC | exact (run_sp (by omega) (by omega) (by omega)).trans hC)
              · have hW4 := Fr.wd hF2 hW_σ1
                refine tt_ifneF (by decide) ?_
                refine tt_ar rfl ?_
                refine tt_getI (x := ((q2 : Nat) : Int)) (wo_76 hW4) rfl hq3 ?_
                refine tt_iret ?_
                exact Or.inr ⟨q2, hC.symm.trans (run_no (by omega) (by omega) h1_13 hq2), rfl, (Fr.tr (Fr.put (Fr.tr Fr.rf hF_σ1 (by decide)) (by decide)) hF2 (by decide)), fun j h1 h2 h3 h4 => (hK2 j h1 h2 h3 h4).trans ((by simp [am_set, h3] : _ = σ1.1 76 j).trans (hK1 j h1 h2 h3 h4))⟩
            · refine tt_ar rfl ?_
              refine tt_ar rfl ?_
              refine tt_iceq (fun h3_5 => ?_) (fun h3_5 => ?_)
              · refine tt_ar rfl ?_
                refine tt_ar rfl ?_
                refine tt_getI (x := ((q : Nat) : Int)) (wo_76 hW_σ1) rfl hq ?_
                refine tt_ar rfl ?_
                refine tt_iadd (by omega) (by omega) ?_
                refine tt_putI (wo_76 hW_σ1) rfl ?_
                refine tt_ar rfl ?_
                refine tt_ar rfl ?_
                refine tt_ar rfl ?_
                refine tt_cv3 3 rfl (wo_76 hW_σ1) (c195 f t n q k1 W1 (am_set σ1 76 (23) ((((q : Nat) : Int) + 1))) hW_σ1 (TQ.fr (L := [76, 87, 88, 89, 90]) (Fr.put (Fr.tr Fr.rf hF_σ1 (by decide)) (by decide)) (by decide) hT) ((@am_set_rd σ1 76 (23) ((((q : Nat) : Int) + 1))).trans (by omega)) (by omega) hP1.s23 hk1 hk16 (by omega)) ?_
                intro r0 σ2 hq0
                rcases hq0 with ⟨q2, W2, hq2, rfl, hF2, hK2, hq3, hP2⟩ | ⟨q2, hq2, rfl, hF2, hK2, hq3⟩
                · have hW5 := Fr.wd hF2 hW_σ1
                  have hok2 := p_item_ok hq2 (by omega) hok
                  refine tt_ifneT (by decide) ?_
                  refine tt_goto ?_
                  refine tt_loc [(0, vR 76), (1, vI (((t : Nat) : Int)))] rfl rfl ⟨rfl, rfl, trivial⟩ ?_
                  exact ih1 (c + 1) (q2) (W2) σ2 (by omega) (Fr.tr (Fr.put (Fr.tr Fr.rf hF_σ1 (by decide)) (by decide)) hF2 (by decide)) (by first | omega | (have := hok2.2.1; omega)) (by first | omega | exact hok2.2.2) (by first | exact hq3 | exact am_set_rd) (by first | exact hP2 | exact hP1.s23) (by first | exact hok2.1 | exact hok) (by first | exact (fun j h1 h2 h3 h4 => (hK2 j h1 h2 h3 h4).trans ((by simp [am_set, h3] : _ = σ1.1 76 j).trans (hK1 j h1 h2 h3 h4))) | exact (fun j h1 h2 h3 h4 => (by simp [am_set, h3] : _ = σ1.1 76 j).trans (hK1 j h1 h2 h3 h4))) (by first | exact (run_it (by omega) (by omega) h1_13 hq2).trans hC | exact (run_sp (by omega) (by omega) (by omega)).trans hC)
                · have hW6 := Fr.wd hF2 hW_σ1
                  refine tt_ifneF (by decide) ?_
                  refine tt_ar rfl ?_
                  refine tt_getI (x := ((q2 : Nat) : Int)) (wo_76 hW6) rfl hq3 ?_
                  refine tt_iret ?_
                  exact Or.inr ⟨q2, hC.symm.trans (run_no (by omega) (by omega) h1_13 hq2), rfl, (Fr.tr (Fr.put (Fr.tr Fr.rf hF_σ1 (by decide)) (by decide)) hF2 (by decide)), fun j h1 h2 h3 h4 => (hK2 j h1 h2 h3 h4).trans ((by simp [am_set, h3] : _ = σ1.1 76 j).trans (hK1 j h1 h2 h3 h4))⟩
              · refine tt_ar rfl ?_
                refine tt_ar rfl ?_
                refine tt_iceq (fun h3_8 => ?_) (fun h3_8 => ?_)
                · refine tt_ar rfl ?_
                  refine tt_ar rfl ?_
                  refine tt_getI (x := ((q : Nat) : Int)) (wo_76 hW_σ1) rfl hq ?_
                  refine tt_ar rfl ?_
                  refine tt_iadd (by omega) (by omega) ?_
                  refine tt_putI (wo_76 hW_σ1) rfl ?_
                  refine tt_ar rfl ?_
                  refine tt_ar rfl ?_
                  refine tt_ar rfl ?_
                  refine tt_cv3 3 rfl (wo_76 hW_σ1) (c195 f t n q k1 W1 (am_set σ1 76 (23) ((((q : Nat) : Int) + 1))) hW_σ1 (TQ.fr (L := [76, 87, 88, 89, 90]) (Fr.put (Fr.tr Fr.rf hF_σ1 (by decide)) (by decide)) (by decide) hT) ((@am_set_rd σ1 76 (23) ((((q : Nat) : Int) + 1))).trans (by omega)) (by omega) hP1.s23 hk1 hk16 (by omega)) ?_
                  intro r0 σ2 hq0
                  rcases hq0 with ⟨q2, W2, hq2, rfl, hF2, hK2, hq3, hP2⟩ | ⟨q2, hq2, rfl, hF2, hK2, hq3⟩
                  · have hW7 := Fr.wd hF2 hW_σ1
                    have hok2 := p_item_ok hq2 (by omega) hok
                    refine tt_ifneT (by decide) ?_
                    refine tt_goto ?_
                    refine tt_loc [(0, vR 76), (1, vI (((t : Nat) : Int)))] rfl rfl ⟨rfl, rfl, trivial⟩ ?_
                    exact ih1 (c + 1) (q2) (W2) σ2 (by omega) (Fr.tr (Fr.put (Fr.tr Fr.rf hF_σ1 (by decide)) (by decide)) hF2 (by decide)) (by first | omega | (have := hok2.2.1; omega)) (by first | omega | exact hok2.2.2) (by first | exact hq3 | exact am_set_rd) (by first | exact hP2 | exact hP1.s23) (by first | exact hok2.1 | exact hok) (by first | exact (fun j h1 h2 h3 h4 => (hK2 j h1 h2 h3 h4).trans ((by simp [am_set, h3] : _ = σ1.1 76 j).trans (hK1 j h1 h2 h3 h4))) | exact (fun j h1 h2 h3 h4 => (by simp [am_set, h3] : _ = σ1.1 76 j).trans (hK1 j h1 h2 h3 h4))) (by first | exact (run_it (by omega) (by omega) h1_13 hq2).trans hC | exact (run_sp (by omega) (by omega) (by omega)).trans hC)
                  · have hW8 := Fr.wd hF2 hW_σ1
                    refine tt_ifneF (by decide) ?_
                    refine tt_ar rfl ?_
                    refine tt_getI (x := ((q2 : Nat) : Int)) (wo_76 hW8) rfl hq3 ?_
                    refine tt_iret ?_
                    exact Or.inr ⟨q2, hC.symm.trans (run_no (by omega) (by omega) h1_13 hq2), rfl, (Fr.tr (Fr.put (Fr.tr Fr.rf hF_σ1 (by decide)) (by decide)) hF2 (by decide)), fun j h1 h2 h3 h4 => (hK2 j h1 h2 h3 h4).trans ((by simp [am_set, h3] : _ = σ1.1 76 j).trans (hK1 j h1 h2 h3 h4))⟩
                · refine tt_ar rfl ?_
                  refine tt_getI (x := ((q : Nat) : Int)) (wo_76 hW_σ1) rfl hq ?_
                  refine tt_iret ?_
                  exact Or.inr ⟨q, hC.symm.trans (run_no (by omega) (by omega) h1_13 (item_no hk1 (by omega))), rfl, (Fr.tr Fr.rf hF_σ1 (by decide)), hK1⟩
          · refine tt_ar rfl ?_
            refine tt_getI (x := ((k1 : Nat) : Int)) (wo_76 hW_σ1) rfl hk1w ?_
            refine tt_ar rfl ?_
            refine tt_iclt (fun h2_6 => ?_) (fun h2_6 => ?_)
            · refine tt_ar rfl ?_
              refine tt_ar rfl ?_
              refine tt_getI (x := ((q : Nat) : Int)) (wo_76 hW_σ1) rfl hq ?_
              refine tt_ar rfl ?_
              refine tt_iadd (by omega) (by omega) ?_
              refine tt_putI (wo_76 hW_σ1) rfl ?_
              refine tt_ar rfl ?_
              refine tt_ar rfl ?_
              refine tt_ar rfl ?_
              refine tt_cv3 3 rfl (wo_76 hW_σ1) (c195 f t n q k1 W1 (am_set σ1 76 (23) ((((q : Nat) : Int) + 1))) hW_σ1 (TQ.fr (L := [76, 87, 88, 89, 90]) (Fr.put (Fr.tr Fr.rf hF_σ1 (by decide)) (by decide)) (by decide) hT) ((@am_set_rd σ1 76 (23) ((((q : Nat) : Int) + 1))).trans (by omega)) (by omega) hP1.s23 hk1 hk16 (by omega)) ?_
              intro r0 σ2 hq0
              rcases hq0 with ⟨q2, W2, hq2, rfl, hF2, hK2, hq3, hP2⟩ | ⟨q2, hq2, rfl, hF2, hK2, hq3⟩
              · have hW9 := Fr.wd hF2 hW_σ1
                have hok2 := p_item_ok hq2 (by omega) hok
                refine tt_ifneT (by decide) ?_
                refine tt_goto ?_
                refine tt_loc [(0, vR 76), (1, vI (((t : Nat) : Int)))] rfl rfl ⟨rfl, rfl, trivial⟩ ?_
                exact ih1 (c + 1) (q2) (W2) σ2 (by omega) (Fr.tr (Fr.put (Fr.tr Fr.rf hF_σ1 (by decide)) (by decide)) hF2 (by decide)) (by first | omega | (have := hok2.2.1; omega)) (by first | omega | exact hok2.2.2) (by first | exact hq3 | exact am_set_rd) (by first | exact hP2 | exact hP1.s23) (by first | exact hok2.1 | exact hok) (by first | exact (fun j h1 h2 h3 h4 => (hK2 j h1 h2 h3 h4).trans ((by simp [am_set, h3] : _ = σ1.1 76 j).trans (hK1 j h1 h2 h3 h4))) | exact (fun j h1 h2 h3 h4 => (by simp [am_set, h3] : _ = σ1.1 76 j).trans (hK1 j h1 h2 h3 h4))) (by first | exact (run_it (by omega) (by omega) h1_13 hq2).trans hC | exact (run_sp (by omega) (by omega) (by omega)).trans hC)
              · have hW10 := Fr.wd hF2 hW_σ1
                refine tt_ifneF (by decide) ?_
                refine tt_ar rfl ?_
                refine tt_getI (x := ((q2 : Nat) : Int)) (wo_76 hW10) rfl hq3 ?_
                refine tt_iret ?_
                exact Or.inr ⟨q2, hC.symm.trans (run_no (by omega) (by omega) h1_13 hq2), rfl, (Fr.tr (Fr.put (Fr.tr Fr.rf hF_σ1 (by decide)) (by decide)) hF2 (by decide)), fun j h1 h2 h3 h4 => (hK2 j h1 h2 h3 h4).trans ((by simp [am_set, h3] : _ = σ1.1 76 j).trans (hK1 j h1 h2 h3 h4))⟩
            · refine tt_nop ?_
              refine tt_ar rfl ?_
              refine tt_ar rfl ?_
              refine tt_iceq (fun h3_2 => ?_) (fun h3_2 => ?_)
              · refine tt_ar rfl ?_
                refine tt_ar rfl ?_
                refine tt_getI (x := ((q : Nat) : Int)) (wo_76 hW_σ1) rfl hq ?_
                refine tt_ar rfl ?_
                refine tt_iadd (by omega) (by omega) ?_
                refine tt_putI (wo_76 hW_σ1) rfl ?_
                refine tt_ar rfl ?_
                refine tt_ar rfl ?_
                refine tt_ar rfl ?_
                refine tt_cv3 3 rfl (wo_76 hW_σ1) (c195 f t n q k1 W1 (am_set σ1 76 (23) ((((q : Nat) : Int) + 1))) hW_σ1 (TQ.fr (L := [76, 87, 88, 89, 90]) (Fr.put (Fr.tr Fr.rf hF_σ1 (by decide)) (by decide)) (by decide) hT) ((@am_set_rd σ1 76 (23) ((((q : Nat) : Int) + 1))).trans (by omega)) (by omega) hP1.s23 hk1 hk16 (by omega)) ?_
                intro r0 σ2 hq0
                rcases hq0 with ⟨q2, W2, hq2, rfl, hF2, hK2, hq3, hP2⟩ | ⟨q2, hq2, rfl, hF2, hK2, hq3⟩
                · have hW11 := Fr.wd hF2 hW_σ1
                  have hok2 := p_item_ok hq2 (by omega) hok
                  refine tt_ifneT (by decide) ?_
                  refine tt_goto ?_
                  refine tt_loc [(0, vR 76), (1, vI (((t : Nat) : Int)))] rfl rfl ⟨rfl, rfl, trivial⟩ ?_
                  exact ih1 (c + 1) (q2) (W2) σ2 (by omega) (Fr.tr (Fr.put (Fr.tr Fr.rf hF_σ1 (by decide)) (by decide)) hF2 (by decide)) (by first | omega | (have := hok2.2.1; omega)) (by first | omega | exact hok2.2.2) (by first | exact hq3 | exact am_set_rd) (by first | exact hP2 | exact hP1.s23) (by first | exact hok2.1 | exact hok) (by first | exact (fun j h1 h2 h3 h4 => (hK2 j h1 h2 h3 h4).trans ((by simp [am_set, h3] : _ = σ1.1 76 j).trans (hK1 j h1 h2 h3 h4))) | exact (fun j h1 h2 h3 h4 => (by simp [am_set, h3] : _ = σ1.1 76 j).trans (hK1 j h1 h2 h3 h4))) (by first | exact (run_it (by omega) (by omega) h1_13 hq2).trans hC | exact (run_sp (by omega) (by omega) (by omega)).trans hC)
                · have hW12 := Fr.wd hF2 hW_σ1
                  refine tt_ifneF (by decide) ?_
                  refine tt_ar rfl ?_
                  refine tt_getI (x := ((q2 : Nat) : Int)) (wo_76 hW12) rfl hq3 ?_
                  refine tt_iret ?_
                  exact Or.inr ⟨q2, hC.symm.trans (run_no (by omega) (by omega) h1_13 hq2), rfl, (Fr.tr (Fr.put (Fr.tr Fr.rf hF_σ1 (by decide)) (by decide)) hF2 (by decide)), fun j h1 h2 h3 h4 => (hK2 j h1 h2 h3 h4).trans ((by simp [am_set, h3] : _ = σ1.1 76 j).trans (hK1 j h1 h2 h3 h4))⟩
              · refine tt_ar rfl ?_
                refine tt_ar rfl ?_
                refine tt_iceq (fun h3_5 => ?_) (fun h3_5 => ?_)
                · refine tt_ar rfl ?_
                  refine tt_ar rfl ?_
                  refine tt_getI (x := ((q : Nat) : Int)) (wo_76 hW_σ1) rfl hq ?_
                  refine tt_ar rfl ?_
                  refine tt_iadd (by omega) (by omega) ?_
                  refine tt_putI (wo_76 hW_σ1) rfl ?_
                  refine tt_ar rfl ?_
                  refine tt_ar rfl ?_
                  refine tt_ar rfl ?_
                  refine tt_cv3 3 rfl (wo_76 hW_σ1) (c195 f t n q k1 W1 (am_set σ1 76 (23) ((((q : Nat) : Int) + 1))) hW_σ1 (TQ.fr (L := [76, 87, 88, 89, 90]) (Fr.put (Fr.tr Fr.rf hF_σ1 (by decide)) (by decide)) (by decide) hT) ((@am_set_rd σ1 76 (23) ((((q : Nat) : Int) + 1))).trans (by omega)) (by omega) hP1.s23 hk1 hk16 (by omega)) ?_
                  intro r0 σ2 hq0
                  rcases hq0 with ⟨q2, W2, hq2, rfl, hF2, hK2, hq3, hP2⟩ | ⟨q2, hq2, rfl, hF2, hK2, hq3⟩
                  · have hW13 := Fr.wd hF2 hW_σ1
                    have hok2 := p_item_ok hq2 (by omega) hok
                    refine tt_ifneT (by decide) ?_
                    refine tt_goto ?_
                    refine tt_loc [(0, vR 76), (1, vI (((t : Nat) : Int)))] rfl rfl ⟨rfl, rfl, trivial⟩ ?_
                    exact ih1 (c + 1) (q2) (W2) σ2 (by omega) (Fr.tr (Fr.put (Fr.tr Fr.rf hF_σ1 (by decide)) (by decide)) hF2 (by decide)) (by first | omega | (have := hok2.2.1; omega)) (by first | omega | exact hok2.2.2) (by first | exact hq3 | exact am_set_rd) (by first | exact hP2 | exact hP1.s23) (by first | exact hok2.1 | exact hok) (by first | exact (fun j h1 h2 h3 h4 => (hK2 j h1 h2 h3 h4).trans ((by simp [am_set, h3] : _ = σ1.1 76 j).trans (hK1 j h1 h2 h3 h4))) | exact (fun j h1 h2 h3 h4 => (by simp [am_set, h3] : _ = σ1.1 76 j).trans (hK1 j h1 h2 h3 h4))) (by first | exact (run_it (by omega) (by omega) h1_13 hq2).trans hC | exact (run_sp (by omega) (by omega) (by omega)).trans hC)
                  · have hW14 := Fr.wd hF2 hW_σ1
                    refine tt_ifneF (by decide) ?_
                    refine tt_ar rfl ?_
                    refine tt_getI (x := ((q2 : Nat) : Int)) (wo_76 hW14) rfl hq3 ?_
                    refine tt_iret ?_
                    exact Or.inr ⟨q2, hC.symm.trans (run_no (by omega) (by omega) h1_13 hq2), rfl, (Fr.tr (Fr.put (Fr.tr Fr.rf hF_σ1 (by decide)) (by decide)) hF2 (by decide)), fun j h1 h2 h3 h4 => (hK2 j h1 h2 h3 h4).trans ((by simp [am_set, h3] : _ = σ1.1 76 j).trans (hK1 j h1 h2 h3 h4))⟩
                · refine tt_ar rfl ?_
                  refine tt_ar rfl ?_
                  refine tt_iceq (fun h3_8 => ?_) (fun h3_8 => ?_)
                  · refine tt_ar rfl ?_
                    refine tt_ar rfl ?_
                    refine tt_getI (x := ((q : Nat) : Int)) (wo_76 hW_σ1) rfl hq ?_
                    refine tt_ar rfl ?_
                    refine tt_iadd (by omega) (by omega) ?_
                    refine tt_putI (wo_76 hW_σ1) rfl ?_
                    refine tt_ar rfl ?_
                    refine tt_ar rfl ?_
                    refine tt_ar rfl ?_
                    refine tt_cv3 3 rfl (wo_76 hW_σ1) (c195 f t n q k1 W1 (am_set σ1 76 (23) ((((q : Nat) : Int) + 1))) hW_σ1 (TQ.fr (L := [76, 87, 88, 89, 90]) (Fr.put (Fr.tr Fr.rf hF_σ1 (by decide)) (by decide)) (by decide) hT) ((@am_set_rd σ1 76 (23) ((((q : Nat) : Int) + 1))).trans (by omega)) (by omega) hP1.s23 hk1 hk16 (by omega)) ?_
                    intro r0 σ2 hq0
                    rcases hq0 with ⟨q2, W2, hq2, rfl, hF2, hK2, hq3, hP2⟩ | ⟨q2, hq2, rfl, hF2, hK2, hq3⟩
                    · have hW15 := Fr.wd hF2 hW_σ1
                      have hok2 := p_item_ok hq2 (by omega) hok
                      refine tt_ifneT (by decide) ?_
                      refine tt_goto ?_
                      refine tt_loc [(0, vR 76), (1, vI (((t : Nat) : Int)))] rfl rfl ⟨rfl, rfl, trivial⟩ ?_
                      exact ih1 (c + 1) (q2) (W2) σ2 (by omega) (Fr.tr (Fr.put (Fr.tr Fr.rf hF_σ1 (by decide)) (by decide)) hF2 (by decide)) (by first | omega | (have := hok2.2.1; omega)) (by first | omega | exact hok2.2.2) (by first | exact hq3 | exact am_set_rd) (by first | exact hP2 | exact hP1.s23) (by first | exact hok2.1 | exact hok) (by first | exact (fun j h1 h2 h3 h4 => (hK2 j h1 h2 h3 h4).trans ((by simp [am_set, h3] : _ = σ1.1 76 j).trans (hK1 j h1 h2 h3 h4))) | exact (fun j h1 h2 h3 h4 => (by simp [am_set, h3] : _ = σ1.1 76 j).trans (hK1 j h1 h2 h3 h4))) (by first | exact (run_it (by omega) (by omega) h1_13 hq2).trans hC | exact (run_sp (by omega) (by omega) (by omega)).trans hC)
                    · have hW16 := Fr.wd hF2 hW_σ1
                      refine tt_ifneF (by decide) ?_
                      refine tt_ar rfl ?_
                      refine tt_getI (x := ((q2 : Nat) : Int)) (wo_76 hW16) rfl hq3 ?_
                      refine tt_iret ?_
                      exact Or.inr ⟨q2, hC.symm.trans (run_no (by omega) (by omega) h1_13 hq2), rfl, (Fr.tr (Fr.put (Fr.tr Fr.rf hF_σ1 (by decide)) (by decide)) hF2 (by decide)), fun j h1 h2 h3 h4 => (hK2 j h1 h2 h3 h4).trans ((by simp [am_set, h3] : _ = σ1.1 76 j).trans (hK1 j h1 h2 h3 h4))⟩
                  · refine tt_ar rfl ?_
                    refine tt_getI (x := ((q : Nat) : Int)) (wo_76 hW_σ1) rfl hq ?_
                    refine tt_iret ?_
                    exact Or.inr ⟨q, hC.symm.trans (run_no (by omega) (by omega) h1_13 (item_no hk1 (by omega))), rfl, (Fr.tr Fr.rf hF_σ1 (by decide)), hK1⟩
        · refine tt_ar rfl ?_
          refine tt_ar rfl ?_
          refine tt_getI (x := ((q : Nat) : Int)) (wo_76 hW_σ1) rfl hq ?_
          refine tt_ar rfl ?_
          refine tt_iadd (by omega) (by omega) ?_
          refine tt_putI (wo_76 hW_σ1) rfl ?_
          refine tt_goto ?_
          refine tt_loc [(0, vR 76), (1, vI (((t : Nat) : Int)))] rfl rfl ⟨rfl, rfl, trivial⟩ ?_
          exact ih1 (c + 1) (q + 1) (W1) _ (by omega) (Fr.put (Fr.tr Fr.rf hF_σ1 (by decide)) (by decide)) (by first | omega | (have := hok2.2.1; omega)) (by first | omega | exact hok2.2.2) (by first | exact hq3 | exact am_set_rd) (by first | exact hP2 | exact hP1.s23) (by first | exact hok2.1 | exact hok) (by first | exact (fun j h1 h2 h3 h4 => (hK2 j h1 h2 h3 h4).trans ((by simp [am_set, h3] : _ = σ1.1 76 j).trans (hK1 j h1 h2 h3 h4))) | exact (fun j h1 h2 h3 h4 => (by simp [am_set, h3] : _ = σ1.1 76 j).trans (hK1 j h1 h2 h3 h4))) (by first | exact (run_it (by omega) (by omega) h1_13 hq2).trans hC | exact (run_sp (by omega) (by omega) (by omega)).trans hC)
  refine tt_loc [(0, vR 76), (1, vI (((t : Nat) : Int)))] rfl rfl ⟨rfl, rfl, trivial⟩ ?_
  exact lp1_2 _ (0) (0) (p_W0) _ (Nat.lt_succ_self _) (Fr.put (Fr.tr Fr.rf hF0 (by decide)) (by decide)) (by omega) (by omega) am_set_rd hP0.s23 WOK0 (fun j h1 h2 h3 h4 => (by simp [am_set, h3] : _ = σ0.1 76 j).trans (hK0 j h1 h2 h3 h4)) rfl

theorem c192 (A σ : am_S) (k nm ns : Nat) (D : Nat → Nat → Int) (hA : CI k nm ns D A) (hW : Wd σ) (hR : RRb k nm ns D A σ) (u : Int) : CC 192 [vR 76, vI (u)] σ (fun r σ' => PMd A σ (x_fault A u) r σ') := by
  show TT am_b192 (am_b192.getD 0 []) [(0, vR 76), (1, vI (u))] [] σ _
  refine tt_ar rfl ?_
  refine tt_ar rfl ?_
  refine tt_cv2 2 rfl (wo_76 hW) (c191 A σ k nm ns D hA hW hR (u)) (kor (kand fun hx => ks ?_) (kor (kand fun hx => ks ?_) (kand fun hx => ks ?_)))
  · refine tt_ar rfl ?_
    refine tt_ar rfl ?_
    refine tt_ifgeF (by decide) ?_
    refine tt_ar rfl ?_
    refine tt_goto ?_
    refine tt_iret ?_
    exact pm_same hR (by unfold x_fault; rw [if_neg hx]) QR.rf
  · refine tt_ar rfl ?_
    refine tt_ar rfl ?_
    refine tt_ifgeF (by decide) ?_
    refine tt_ar rfl ?_
    refine tt_goto ?_
    refine tt_iret ?_
    exact pm_mt (f := 1) hR (by decide) (by unfold x_fault; rw [if_pos hx.1, if_pos hx.2]) QR.rf
  · refine tt_ar rfl ?_
    refine tt_ar rfl ?_
    refine tt_ifgeT (by decide) ?_
    obtain ⟨un, rfl⟩ : ∃ un : Nat, u = (un : Int) := ⟨u.toNat, by omega⟩
    have hx2 : 0 ≤ A.1 (68 + 2 * un) 1 := hx.2
    refine tt_ar rfl ?_
    refine tt_ar rfl ?_
    obtain ⟨zn, hzn⟩ : ∃ zn : Nat, A.1 (68 + 2 * un) 1 = (zn : Int) := ⟨_, (Int.toNat_of_nonneg hx2).symm⟩
    have hzt : (A.1 (68 + 2 * un) 1).toNat = zn := by rw [hzn]; rfl
    refine tt_cv2 2 rfl (wo_76 hW) (c193 (A.1 (69 + 2 * un)) un zn σ hW (hR.tq hA (by omega) hzn)) ?_
    intro r0 σn hq0
    rcases hq0 with ⟨q, W1, hr, rfl, hF, hK, hP, hok⟩ | ⟨q, hr, rfl, hF, hK⟩
    · refine tt_nop ?_
      refine tt_iret ?_
      exact pm_same (hR.rq hF hK) (show x_fault A un = (vI (-9), A) by unfold x_fault rdT; (try simp only [Int.toNat_natCast]); rw [if_pos (by omega), if_neg (by omega), hzt, hr]; rfl) (QR.of hF (by decide))
    · refine tt_nop ?_
      refine tt_iret ?_
      exact pm_same (hR.rq hF hK) (show x_fault A un = (vI (((q : Nat) : Int)), A) by unfold x_fault rdT; (try simp only [Int.toNat_natCast]); rw [if_pos (by omega), if_neg (by omega), hzt, hr]; rfl) (QR.of hF (by decide))

theorem c176 (σ : am_S) (k : Nat) (hW : Wd σ) (hk6 : k ≤ 6) (h11 : σ.1 76 11 = (k : Int)) : CC 176 [vR 76] σ (fun r σ' => r = none ∧ Fr [76, 92, 93] σ σ' ∧ (∀ j, j ≠ 27 → σ'.1 76 j = σ.1 76 j) ∧ σ'.1 76 27 = (nkT k : Int) ∧ ∀ j, j < nkT k → σ'.1 92 j = (tb k j : Int) ∧ ∀ s, s < 6 → σ'.1 93 (6 * j + s) = (dg (tb k j) s : Int)) := by
  show TT am_b176 (am_b176.getD 0 []) [(0, vR 76)] [] σ _
  have hp66 := p10_le k hk6
  have hnb := nkT_bd k
  refine tt_ar rfl ?_
  refine tt_ar rfl ?_
  refine tt_putI (wo_76 hW) rfl ?_
  refine tt_ar rfl ?_
  refine tt_ar rfl ?_
  refine tt_ar rfl ?_
  refine tt_ar rfl ?_
  refine tt_nop ?_
  have lp1_1 : ∀ (μ : Nat) (s : Nat) (p : Nat), k - s < μ → (s ≤ k) → (p = 10 ^ s) → TT am_b176 (am_b176.getD 1 []) [(0, vR 76), (1, vI (((p : Nat) : Int))), (2, vI (((s : Nat) : Int)))] [] (am_set σ 76 (27) (0)) (fun r σ' => r = none ∧ Fr [76, 92, 93] σ σ' ∧ (∀ j, j ≠ 27 → σ'.1 76 j = σ.1 76 j) ∧ σ'.1 76 27 = (nkT k : Int) ∧ ∀ j, j < nkT k → σ'.1 92 j = (tb k j : Int) ∧ ∀ s, s < 6 → σ'.1 93 (6 * j + s) = (dg (tb k j) s : Int)) := by
    intro μ
    induction μ with
    | zero => intro s p hμ; exact absurd hμ (Nat.not_lt_zero _)
    | succ μ ih1 =>
      intro s p hμ hs hp
      have hp6 := p10_le s (by omega)
      refine tt_ar rfl ?_
      refine tt_ar rfl ?_
      refine tt_getI (x := ((k : Nat) : Int)) (wo_76 hW) rfl h11 ?_
      refine tt_icge (fun h1_3 => ?_) (fun h1_3 => ?_)
      · have es : k = s := by omega
        subst es
        refine tt_ar rfl ?_
        refine tt_ar rfl ?_
        refine tt_nop ?_
        have lp3_2 : ∀ (μ : Nat) (x : Nat) (h : Nat) (σ1 : am_S), 10 ^ k - x < μ → Fr [76, 92, 93] σ σ1 → (x ≤ 10 ^ k) → (HBL k x h) → (σ1.1 76 27 = ((h : Nat) : Int)) → (∀ j, j ≠ 27 → σ1.1 76 j = σ.1 76 j) → (∀ j, j < h → σ1.1 92 j = (tb k j : Int) ∧ ∀ s, s < 6 → σ1.1 93 (6 * j + s) = (dg (tb k j) s : Int)) → TT am_b176 (am_b176.getD 3 []) [(0, vR 76), (1, vI (((p : Nat) : Int))), (2, vI (((x : Nat) : Int)))] [] σ1 (fun r σ' => r = none ∧ Fr [76, 92, 93] σ σ' ∧ (∀ j, j ≠ 27 → σ'.1 76 j = σ.1 76 j) ∧ σ'.1 76 27 = (nkT k : Int) ∧ ∀ j, j < nkT k → σ'.1 92 j = (tb k j : Int) ∧ ∀ s, s < 6 → σ'.1 93 (6 * j + s) = (dg (tb k j) s : Int)) := by
          intro μ
          induction μ with
          | zero => intro x h σ1 hμ; exact absurd hμ (Nat.not_lt_zero _)
          | succ μ ih3 =>
            intro x h σ1 hμ hF_σ1 hx hH h27 hK1 hC
            have hW_σ1 := Fr.wd hF_σ1 hW
            have hh4 := hH.1
            refine tt_ar rfl ?_
            refine tt_ar rfl ?_
            refine tt_icge (fun h3_2 => ?_) (fun h3_2 => ?_)
            · refine tt_vret ?_
              have ex : x = 10 ^ k := by omega
              subst ex
              have eh := hH.fin hk6
              subst eh
              exact ⟨rfl, hF_σ1, hK1, h27, hC⟩
            · refine tt_ar rfl ?_
              refine tt_ar rfl ?_
              refine tt_ar rfl ?_
              refine tt_ar rfl ?_
              refine tt_nop ?_
              have lp4_3 : ∀ (μ : Nat) (r : Nat) (s : Nat) (d : Nat), 7 - s < μ → (r = x / 10 ^ s) → (d = dsN s x) → (s ≤ 6) → TT am_b176 (am_b176.getD 4 []) [(0, vR 76), (1, vI (((p : Nat) : Int))), (2, vI (((x : Nat) : Int))), (3, vI (((d : Nat) : Int))), (4, vI (((r : Nat) : Int)))] [] σ1 (fun r σ' => r = none ∧ Fr [76, 92, 93] σ σ' ∧ (∀ j, j ≠ 27 → σ'.1 76 j = σ.1 76 j) ∧ σ'.1 76 27 = (nkT k : Int) ∧ ∀ j, j < nkT k → σ'.1 92 j = (tb k j : Int) ∧ ∀ s, s < 6 → σ'.1 93 (6 * j + s) = (dg (tb k j) s : Int)) := by
                intro μ
                induction μ with
                | zero => intro r s d hμ; exact absurd hμ (Nat.not_lt_zero _)
                | succ μ ih4 =>
                  intro r s d hμ hr hd hs6
                  have h9 := ds_9 (x := x) s
                  have hrx : r ≤ x := by rw [hr]; exact Nat.div_le_self _ _
                  refine tt_ar rfl ?_
                  refine tt_ifle (fun h4_1 => ?_) (fun h4_1 => ?_)
                  · have hz0 : x / 10 ^ s = 0 := by omega
                    have hd6 : dsN 6 x = d := by rw [hd, show 6 = s + (6 - s) by omega]; exact ds_z hz0 _
                    refine tt_ar rfl ?_
                    refine tt_ar rfl ?_
                    refine tt_icgt (fun h5_2 => ?_) (fun h5_2 => ?_)
                    · refine tt_iinc (y := ((x + 1 : Nat) : Int)) rfl (iinc_fit (by omega) (by omega) (by omega)) ?_
                      refine tt_goto ?_
                      refine tt_loc [(0, vR 76), (1, vI (((p : Nat) : Int))), (2, vI (((x + 1 : Nat) : Int)))] rfl rfl ⟨rfl, rfl, rfl, trivial⟩ ?_
                      exact ih3 (x + 1) (h) σ1 (by omega) (Fr.tr Fr.rf hF_σ1 (by decide)) (by omega) (by first | exact hHn | exact hH.mis hk6 (by omega)) (by first | exact h27 | exact (am_set_rd).trans (by omega)) (by first | exact hK1 | exact (fun j hj => (am_set_at).trans ((if_neg hj).trans ((hF_σ2.2 76 (by decide) j).trans (hK1 j hj))))) (by first | exact hC | exact hCn _ (am_set_c (by decide)) (am_set_c (by decide)))
                    · obtain ⟨hn1, hn2, hHn⟩ := hH.hit hk6 (by omega) (by omega)
                      refine tt_ar rfl ?_
                      refine tt_getR (wo_76 hW_σ1) rfl (wr_76_28 hW_σ1) ?_
                      refine tt_ar rfl ?_
                      refine tt_getI (x := ((h : Nat) : Int)) (wo_76 hW_σ1) rfl h27 ?_
                      refine tt_ar rfl ?_
                      refine tt_iast (h) (wa_92 hW_σ1) (by omega) rfl (by omega) ?_
                      refine tt_ar rfl ?_
                      refine tt_ar rfl ?_
                      refine tt_ar rfl ?_
                      refine tt_ar rfl ?_
                      refine tt_nop ?_
                      have lp6_4 : ∀ (μ : Nat) (s : Nat) (r : Nat) (σ2 : am_S), 6 - s < μ → Fr [93] (am_set σ1 92 (h) (((x : Nat) : Int))) σ2 → (s ≤ 6) → (r = x / 10 ^ s) → (∀ t, t < s → σ2.1 93 (6 * h + t) = (dg x t : Int)) → (∀ y, (y < 6 * h ∨ 6 * h + s ≤ y) → σ2.1 93 y = σ1.1 93 y) → TT am_b176 (am_b176.getD 6 []) [(0, vR 76), (1, vI (((p : Nat) : Int))), (2, vI (((x : Nat) : Int))), (4, vI (((r : Nat) : Int))), (5, vI (((s : Nat) : Int)))] [] σ2 (fun r σ' => r = none ∧ Fr [76, 92, 93] σ σ' ∧ (∀ j, j ≠ 27 → σ'.1 76 j = σ.1 76 j) ∧ σ'.1 76 27 = (nkT k : Int) ∧ ∀ j, j < nkT k → σ'.1 92 j = (tb k j : Int) ∧ ∀ s, s < 6 → σ'.1 93 (6 * j + s) = (dg (tb k j) s : Int)) := by
                        intro μ
                        induction μ with
                        | zero => intro s r σ2 hμ; exact absurd hμ (Nat.not_lt_zero _)
                        | succ μ ih6 =>
                          intro s r σ2 hμ hF_σ2 hs2 hr2 h93 hO
                          have hW_σ2 := Fr.wd hF_σ2 hW_σ1
                          have hrx2 : r ≤ x := by rw [hr2]; exact Nat.div_le_self _ _
                          refine tt_ar rfl ?_
                          refine tt_ar rfl ?_
                          refine tt_icge (fun h6_2 => ?_) (fun h6_2 => ?_)
                          · have e6 : s = 6 := by omega
                            subst e6
                            have hCn : ∀ σ3 : am_S, σ3.1 92 = σ2.1 92 → σ3.1 93 = σ2.1 93 → (∀ j, j < (h + 1) → σ3.1 92 j = (tb k j : Int) ∧ ∀ s, s < 6 → σ3.1 93 (6 * j + s) = (dg (tb k j) s : Int)) := fun σ3 q92 q93 j hj => by
                              rw [q92, q93, hF_σ2.2 92 (by decide)]
                              by_cases e : j = h
                              · subst e
                                refine ⟨(am_set_at).trans ((if_pos rfl).trans (by rw [hn2])), fun t ht => (h93 t ht).trans (by rw [hn2])⟩
                              · refine ⟨(am_set_at).trans ((if_neg e).trans (hC j (by omega)).1), fun t ht => (hO _ (by omega)).trans ((hC j (by omega)).2 t ht)⟩
                            refine tt_ar rfl ?_
                            refine tt_ar rfl ?_
                            refine tt_getI (x := ((h : Nat) : Int)) (wo_76 hW_σ2) rfl ((hF_σ2.2 76 (by decide) (27)).trans h27) ?_
                            refine tt_ar rfl ?_
                            refine tt_iadd (by omega) (by omega) ?_
                            refine tt_putI (wo_76 hW_σ2) rfl ?_
                            refine tt_nop ?_
                            refine tt_iinc (y := ((x + 1 : Nat) : Int)) rfl (iinc_fit (by omega) (by omega) (by omega)) ?_
                            refine tt_goto ?_
                            refine tt_loc [(0, vR 76), (1, vI (((p : Nat) : Int))), (2, vI (((x + 1 : Nat) : Int)))] rfl rfl ⟨rfl, rfl, rfl, trivial⟩ ?_
                            exact ih3 (x + 1) (h + 1) _ (by omega) (Fr.put (Fr.tr (Fr.put (Fr.tr Fr.rf hF_σ1 (by decide)) (by decide)) hF_σ2 (by decide)) (by decide)) (by omega) (by first | exact hHn | exact hH.mis hk6 (by omega)) (by first | exact h27 | exact (am_set_rd).trans (by omega)) (by first | exact hK1 | exact (fun j hj => (am_set_at).trans ((if_neg hj).trans ((hF_σ2.2 76 (by decide) j).trans (hK1 j hj))))) (by first | exact hC | exact hCn _ (am_set_c (by decide)) (am_set_c (by decide)))
                          · refine tt_ar rfl ?_
                            refine tt_getR (wo_76 hW_σ2) rfl (wr_76_29 hW_σ2) ?_
                            refine tt_ar rfl ?_
                            refine tt_ar rfl ?_
                            refine tt_getI (x := ((h : Nat) : Int)) (wo_76 hW_σ2) rfl ((hF_σ2.2 76 (by decide) (27)).trans h27) ?_
                            refine tt_imul (by omega) (by omega) ?_
                            refine tt_ar rfl ?_
                            refine tt_iadd (by omega) (by omega) ?_
                            refine tt_ar rfl ?_
                            refine tt_ar rfl ?_
                            refine tt_dI (g := (fun a b => Int.tmod a b)) (z := ((r % 10 : Nat) : Int)) rfl (by omega) tmod10 ?_
                            refine tt_iast (((6 * h) + s)) (wa_93 hW_σ2) (by omega) (by omega) (by omega) ?_
                            refine tt_ar rfl ?_
                            refine tt_ar rfl ?_
                            refine tt_dI (g := (fun a b => w32 (Int.tdiv a b))) (z := ((r / 10 : Nat) : Int)) rfl (by omega) (tdiv10 (by omega)) ?_
                            refine tt_ar rfl ?_
                            refine tt_iinc (y := ((s + 1 : Nat) : Int)) rfl (iinc_fit (by omega) (by omega) (by omega)) ?_
                            refine tt_goto ?_
                            refine tt_loc [(0, vR 76), (1, vI (((p : Nat) : Int))), (2, vI (((x : Nat) : Int))), (4, vI (((r / 10 : Nat) : Int))), (5, vI (((s + 1 : Nat) : Int)))] rfl rfl ⟨rfl, rfl, rfl, rfl, rfl, trivial⟩ ?_
                            exact ih6 (s + 1) (r / 10) _ (by omega) (Fr.put (Fr.tr Fr.rf hF_σ2 (by decide)) (by decide)) (by omega) (by rw [dv_s, ← hr2]) (fun t ht => by rw [am_set_at]; by_cases e : t = s; (rw [if_pos (by omega), e]; unfold dg; rw [← hr2]); (rw [if_neg (by omega)]; exact h93 t (by omega))) (fun y hy => by rw [am_set_at, if_neg (by omega)]; exact hO y (by omega))
                      refine tt_loc [(0, vR 76), (1, vI (((p : Nat) : Int))), (2, vI (((x : Nat) : Int))), (4, vI (((x : Nat) : Int))), (5, vI (((0 : Nat) : Int)))] rfl rfl ⟨rfl, rfl, rfl, rfl, lv_to rfl (by omega), trivial⟩ ?_
                      exact lp6_4 _ (0) (x) _ (Nat.lt_succ_self _) Fr.rf (by omega) (by simp) (fun t ht => absurd ht (Nat.not_lt_zero t)) (fun y _ => rfl)
                  · refine tt_ar rfl ?_
                    refine tt_ar rfl ?_
                    refine tt_ar rfl ?_
                    refine tt_dI (g := (fun a b => Int.tmod a b)) (z := ((r % 10 : Nat) : Int)) rfl (by omega) tmod10 ?_
                    refine tt_iadd (by omega) (by omega) ?_
                    refine tt_ar rfl ?_
                    refine tt_ar rfl ?_
                    refine tt_ar rfl ?_
                    refine tt_dI (g := (fun a b => w32 (Int.tdiv a b))) (z := ((r / 10 : Nat) : Int)) rfl (by omega) (tdiv10 (by omega)) ?_
                    refine tt_ar rfl ?_
                    refine tt_goto ?_
                    refine tt_loc [(0, vR 76), (1, vI (((p : Nat) : Int))), (2, vI (((x : Nat) : Int))), (3, vI (((d + r % 10 : Nat) : Int))), (4, vI (((r / 10 : Nat) : Int)))] rfl rfl ⟨rfl, rfl, rfl, lv_to rfl (by omega), rfl, trivial⟩ ?_
                    exact ih4 (r / 10) (s + 1) (d + r % 10) (by omega) (by rw [dv_s, ← hr]) (by rw [ds_s, ← hd]; unfold dg; rw [← hr]) (by rcases Nat.lt_or_ge s 6 with q | q; omega; (exfalso; rw [show s = 6 by omega, Nat.div_eq_of_lt (by omega)] at hr; omega))
              refine tt_loc [(0, vR 76), (1, vI (((p : Nat) : Int))), (2, vI (((x : Nat) : Int))), (3, vI (((0 : Nat) : Int))), (4, vI (((x : Nat) : Int)))] rfl rfl ⟨rfl, rfl, rfl, lv_to rfl (by omega), rfl, trivial⟩ ?_
              exact lp4_3 _ (x) (0) (0) (Nat.lt_succ_self _) (by simp) rfl (by omega)
        refine tt_loc [(0, vR 76), (1, vI (((p : Nat) : Int))), (2, vI (((0 : Nat) : Int)))] rfl rfl ⟨rfl, rfl, lv_to rfl (by omega), trivial⟩ ?_
        exact lp3_2 _ (0) (0) _ (Nat.lt_succ_self _) (Fr.put Fr.rf (by decide)) (by omega) ⟨Nat.zero_le _, fun j hj => absurd hj (Nat.not_lt_zero j), fun _ => Nat.zero_le _⟩ rfl (fun j hj => (am_set_at).trans (if_neg hj)) (fun j hj => absurd hj (Nat.not_lt_zero j))
      · refine tt_ar rfl ?_
        refine tt_ar rfl ?_
        refine tt_imul (by omega) (by omega) ?_
        refine tt_ar rfl ?_
        refine tt_iinc (y := ((s + 1 : Nat) : Int)) rfl (iinc_fit (by omega) (by omega) (by omega)) ?_
        refine tt_goto ?_
        refine tt_loc [(0, vR 76), (1, vI (((p * 10 : Nat) : Int))), (2, vI (((s + 1 : Nat) : Int)))] rfl rfl ⟨rfl, lv_to rfl (by omega), rfl, trivial⟩ ?_
        exact ih1 (s + 1) (p * 10) (by omega) (by omega) (by rw [Nat.pow_succ, hp])
  refine tt_loc [(0, vR 76), (1, vI (((1 : Nat) : Int))), (2, vI (((0 : Nat) : Int)))] rfl rfl ⟨rfl, lv_to rfl (by omega), lv_to rfl (by omega), trivial⟩ ?_
  exact lp1_1 _ (0) (1) (Nat.lt_succ_self _) (by omega) rfl

