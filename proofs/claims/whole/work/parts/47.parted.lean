/-! PARTED -/
def loF (σ : am_S) (w : Int) (x : Nat) (z : Int) : Int := if isIn (σ.1 5 4) w (x : Int) then 0 else σ.1 25 (z.toNat * 8 + x)
def hiF (σ : am_S) (x : Nat) (z : Int) : Int := σ.1 26 (z.toNat * 8 + x)
/-- how many pairs, of which the most of the one is less than the least of the other -/
def ptM (N : Nat) (p : Nat → Bool) (lo hi : Nat → Int) : Int := sumN N (fun a => if p a then sumN N (fun b => if p b then (if hi a + 1 ≤ lo b then 1 else 0) else 0) else 0)
theorem lo_bd {N : Nat} {σ : am_S} {w : Int} {x h : Nat} (hB : HB N σ) (hh : h < N) (hx : x < 8) : 0 ≤ loF σ w x (h : Int) ∧ loF σ w x (h : Int) ≤ 45 ∧ 0 ≤ hiF σ x (h : Int) ∧ hiF σ x (h : Int) ≤ 45 := by
  have := hB.2.2.2.1 (h * 8 + x) (by omega)
  unfold loF hiF
  rw [Int.toNat_natCast]
  split <;> omega
theorem pt_list {N c : Nat} {p : Nat → Bool} {L : Nat → Int} {lo hi : Int → Int} (hL : LI p N L) (hc : c = ctN p N) : sumN c (fun i => sumN c (fun j => if hi (L i) + 1 ≤ lo (L j) then 1 else 0)) = ptM N p (fun b => lo (b : Int)) (fun a => hi (a : Int)) := by
  subst hc
  rw [LI.sum (f := fun z => sumN (ctN p N) (fun j => if hi z + 1 ≤ lo (L j) then 1 else 0)) hL]
  unfold ptM
  refine sumN_congr (fun a _ => ?_)
  split
  · exact LI.sum (f := fun z => if hi (a : Int) + 1 ≤ lo z then 1 else 0) hL
  · rfl
theorem ge_step {n : Nat} {f : Nat → Int} {v : Int} : sumN n (fun j => if f j = v then 1 else 0) + sumN n (fun j => if v + 1 ≤ f j then 1 else 0) = sumN n (fun j => if v ≤ f j then 1 else 0) := by
  rw [← sumN_add]
  refine sumN_congr (fun j _ => ?_)
  by_cases h1 : f j = v
  · rw [if_pos h1, if_neg (by omega), if_pos (by omega)]
    rfl
  · rw [if_neg h1]
    by_cases h2 : v + 1 ≤ f j
    · rw [if_pos h2, if_pos (by omega)]
      rfl
    · rw [if_neg h2, if_neg (by omega)]
      rfl
theorem ct_bd {n : Nat} {c : Nat → Prop} [DecidablePred c] : 0 ≤ sumN n (fun j => if c j then 1 else 0) ∧ sumN n (fun j => if c j then 1 else 0) ≤ (n : Int) := by
  have := sumN_bd (n := n) (f := fun j => if c j then 1 else 0) (a := 0) (b := 1) (fun i _ => by
    split <;> omega)
  omega
theorem c157 (σ : am_S) (k nm : Nat) (hW : Wd σ) (D ex : Nat → Nat → Int) (hX : WX k nm D σ) (hex : ∀ m h, h < nkT k → 0 ≤ ex m h ∧ ex m h ≤ 1000000) (hLS : LQ k nm D ex σ) (x : Nat) (w : Int) (hn : 0 < nm) (hx : x < 8) : CC 157 [vR 36, vI (w), vI (((x : Nat) : Int))] σ (fun r σ' => r = some (vI (ptM (nkT k) (plM 1000000 (nkT k) nm D ex (nm - 1)) (fun b => loF σ w x (b : Int)) (fun a => hiF σ x (a : Int)))) ∧ Fr [46] σ σ') := by
  show TT am_b157 (am_b157.getD 0 []) [(0, vR 36), (1, vI (w)), (2, vI (((x : Nat) : Int)))] [] σ _
  obtain ⟨hD, hH, hL, hDI⟩ := id hX
  have hk6 := hD.2.1
  have hnb := nkT_bd k
  have hnm := hL.2.1
  have hpr := hD.2.2.2.1
  have hDb : ∀ a b, a < nkT k → b < nkT k → 0 ≤ D a b := fun a b ha hb => (DI.bd hk6 hpr hDI ha hb).1
  have hab : ∀ m h, h < nkT k → 0 ≤ ahN 1000000 (nkT k) D ex m h ∧ ahN 1000000 (nkT k) D ex m h ≤ 1000000 := fun m h hh => ahN_bd (by omega) (by omega) hDb (fun m h hh => (hex m h hh).1) m hh
  have hHB := HB_of hD hH
  have hcm := ctN_le (p := (plM 1000000 (nkT k) nm D ex (nm - 1))) (nkT k)
  have hnl : nkT k ≤ 462 := hnb.2
  refine tt_ar rfl ?_
  refine tt_getR (wo_36 hW) rfl (wr_36_1 hW) ?_
  refine tt_getI (x := ((nm : Nat) : Int)) (wo_27 hW) rfl hL.1 ?_
  refine tt_ar rfl ?_
  refine tt_bI (g := fun a b => w32 (a - b)) (z := ((nm - 1 : Nat) : Int)) rfl (by rw [show ((nm : Nat) : Int) - 1 = ((nm - 1 : Nat) : Int) by omega]; exact w32_i (by omega) (by omega)) ?_
  refine tt_ar rfl ?_
  refine tt_ar rfl ?_
  refine tt_getR (wo_36 hW) rfl (wr_36_17 hW) ?_
  refine tt_ar rfl ?_
  refine tt_cs2 2 rfl (c4 σ 46 64 0 (wa_46 hW) (by decide) (by rfl)) ?_
  intro r0 σ0 hq0
  obtain ⟨rfl, hF0, hC0⟩ := hq0
  have hW1 := Fr.wd hF0 hW
  refine tt_ar rfl ?_
  refine tt_ar rfl ?_
  refine tt_nop ?_
  have lp1_2 : ∀ (μ : Nat) (i : Nat) (σ1 : am_S), (ctN (plM 1000000 (nkT k) nm D ex (nm - 1)) (nkT k)) - i < μ → Fr [46] σ σ1 → (i ≤ (ctN (plM 1000000 (nkT k) nm D ex (nm - 1)) (nkT k))) → (∀ v : Nat, v < 64 → σ1.1 46 v = sumN i (fun j => if (loF σ w x (σ.1 42 ((nm - 1) * 462 + j))) = (v : Int) then 1 else 0)) → TT am_b157 (am_b157.getD 1 []) [(0, vR 36), (1, vI (w)), (2, vI (((x : Nat) : Int))), (3, vI (((nm - 1 : Nat) : Int))), (4, vI (((i : Nat) : Int)))] [] σ1 (fun r σ' => r = some (vI (ptM (nkT k) (plM 1000000 (nkT k) nm D ex (nm - 1)) (fun b => loF σ w x (b : Int)) (fun a => hiF σ x (a : Int)))) ∧ Fr [46] σ σ') := by
    intro μ
    induction μ with
    | zero => intro i σ1 hμ; exact absurd hμ (Nat.not_lt_zero _)
    | succ μ ih1 =>
      intro i σ1 hμ hF_σ1 hi hA
      have hW_σ1 := Fr.wd hF_σ1 hW
      have hcb : ∀ v : Nat, v < 64 → 0 ≤ σ1.1 46 v ∧ σ1.1 46 v ≤ 462 := fun v hv => by rw [hA v hv]; have := ct_bd (n := i) (c := fun j => (loF σ w x (σ.1 42 ((nm - 1) * 462 + j))) = (v : Int)); omega
      refine tt_ar rfl ?_
      refine tt_ar rfl ?_
      refine tt_getR (wo_36 hW_σ1) rfl (wr_36_14 hW_σ1) ?_
      refine tt_ar rfl ?_
      refine tt_iald ((nm - 1)) (x := (((ctN (plM 1000000 (nkT k) nm D ex (nm - 1)) (nkT k)) : Nat) : Int)) (wa_43 hW_σ1) (by omega) (by omega) ((hF_σ1.2 43 (by decide) ((nm - 1))).trans (hLS (nm - 1) (by omega)).2) ?_
      refine tt_icge (fun h1_5 => ?_) (fun h1_5 => ?_)
      · have ei : i = (ctN (plM 1000000 (nkT k) nm D ex (nm - 1)) (nkT k)) := by omega
        refine tt_ar rfl ?_
        refine tt_ar rfl ?_
        refine tt_nop ?_
        have lp3_3 : ∀ (μ : Nat) (c : Nat) (σ3 : am_S), c < μ → Fr [46] σ σ3 → (c ≤ 63) → (∀ v : Nat, c ≤ v → v < 64 → σ3.1 46 v = sumN (ctN (plM 1000000 (nkT k) nm D ex (nm - 1)) (nkT k)) (fun j => if (v : Int) ≤ (loF σ w x (σ.1 42 ((nm - 1) * 462 + j))) then 1 else 0)) → (∀ v : Nat, v < c → σ3.1 46 v = sumN (ctN (plM 1000000 (nkT k) nm D ex (nm - 1)) (nkT k)) (fun j => if (loF σ w x (σ.1 42 ((nm - 1) * 462 + j))) = (v : Int) then 1 else 0)) → TT am_b157 (am_b157.getD 3 []) [(0, vR 36), (2, vI (((x : Nat) : Int))), (3, vI (((nm - 1 : Nat) : Int))), (4, vI ((((c : Nat) : Int) - 1)))] [] σ3 (fun r σ' => r = some (vI (ptM (nkT k) (plM 1000000 (nkT k) nm D ex (nm - 1)) (fun b => loF σ w x (b : Int)) (fun a => hiF σ x (a : Int)))) ∧ Fr [46] σ σ') := by
          intro μ
          induction μ with
          | zero => intro c σ3 hμ; exact absurd hμ (Nat.not_lt_zero _)
          | succ μ ih3 =>
            intro c σ3 hμ hF_σ3 hc hB hA3
            have hW_σ3 := Fr.wd hF_σ3 hW
            refine tt_ar rfl ?_
            refine tt_iflt (fun h3_1 => ?_) (fun h3_1 => ?_)
            · refine tt_ar rfl ?_
              refine tt_ar rfl ?_
              refine tt_ar rfl ?_
              refine tt_ar rfl ?_
              refine tt_nop ?_
              have lp5_4 : ∀ (μ : Nat) (i : Nat), (ctN (plM 1000000 (nkT k) nm D ex (nm - 1)) (nkT k)) - i < μ → (i ≤ (ctN (plM 1000000 (nkT k) nm D ex (nm - 1)) (nkT k))) → TT am_b157 (am_b157.getD 5 []) [(0, vR 36), (2, vI (((x : Nat) : Int))), (3, vI (((nm - 1 : Nat) : Int))), (4, vI (sumN i (fun i2 => sumN (ctN (plM 1000000 (nkT k) nm D ex (nm - 1)) (nkT k)) (fun j => if (hiF σ x (σ.1 42 ((nm - 1) * 462 + i2))) + 1 ≤ (loF σ w x (σ.1 42 ((nm - 1) * 462 + j))) then 1 else 0)))), (5, vI (((i : Nat) : Int)))] [] σ3 (fun r σ' => r = some (vI (ptM (nkT k) (plM 1000000 (nkT k) nm D ex (nm - 1)) (fun b => loF σ w x (b : Int)) (fun a => hiF σ x (a : Int)))) ∧ Fr [46] σ σ') := by
                intro μ
                induction μ with
                | zero => intro i hμ; exact absurd hμ (Nat.not_lt_zero _)
                | succ μ ih5 =>
                  intro i hμ hi
                  have hsb := sumN_bd (n := i) (f := fun i2 => sumN (ctN (plM 1000000 (nkT k) nm D ex (nm - 1)) (nkT k)) (fun j => if (hiF σ x (σ.1 42 ((nm - 1) * 462 + i2))) + 1 ≤ (loF σ w x (σ.1 42 ((nm - 1) * 462 + j))) then 1 else 0)) (a := 0) (b := 462) (fun i2 _ => by have := ct_bd (n := (ctN (plM 1000000 (nkT k) nm D ex (nm - 1)) (nkT k))) (c := fun j => (hiF σ x (σ.1 42 ((nm - 1) * 462 + i2))) + 1 ≤ (loF σ w x (σ.1 42 ((nm - 1) * 462 + j)))); omega)
                  refine tt_ar rfl ?_
                  refine tt_ar rfl ?_
                  refine tt_getR (wo_36 hW_σ3) rfl (wr_36_14 hW_σ3) ?_
                  refine tt_ar rfl ?_
                  refine tt_iald ((nm - 1)) (x := (((ctN (plM 1000000 (nkT k) nm D ex (nm - 1)) (nkT k)) : Nat) : Int)) (wa_43 hW_σ3) (by omega) (by omega) ((hF_σ3.2 43 (by decide) ((nm - 1))).trans (hLS (nm - 1) (by omega)).2) ?_
                  refine tt_icge (fun h5_5 => ?_) (fun h5_5 => ?_)
                  · refine tt_ar rfl ?_
                    refine tt_iret ?_
                    have e : i = (ctN (plM 1000000 (nkT k) nm D ex (nm - 1)) (nkT k)) := by omega
                    exact ⟨rv (by rw [e]; exact pt_list (lo := loF σ w x) (hi := hiF σ x) (hLS (nm - 1) (by omega)).1 rfl), hF_σ3⟩
                  · obtain ⟨h, h1, h2, h3, h4⟩ := LI.at (hLS (nm - 1) (by omega)).1 (show i < (ctN (plM 1000000 (nkT k) nm D ex (nm - 1)) (nkT k)) by omega)
                    have h4 : σ.1 42 ((nm - 1) * 462 + i) = (h : Int) := h4
                    have hlb := lo_bd (w := w) (x := x) hHB h1 hx
                    refine tt_ar rfl ?_
                    refine tt_ar rfl ?_
                    refine tt_getR (wo_36 hW_σ3) rfl (wr_36_17 hW_σ3) ?_
                    refine tt_ar rfl ?_
                    refine tt_getR (wo_36 hW_σ3) rfl (wr_36_0 hW_σ3) ?_
                    refine tt_getR (wo_18 hW_σ3) rfl (wr_18_9 hW_σ3) ?_
                    refine tt_ar rfl ?_
                    refine tt_getR (wo_36 hW_σ3) rfl (wr_36_13 hW_σ3) ?_
                    refine tt_ar rfl ?_
                    refine tt_ar rfl ?_
                    refine tt_imul (by omega) (by omega) ?_
                    refine tt_ar rfl ?_
                    refine tt_iadd (by omega) (by omega) ?_
                    refine tt_iald ((((nm - 1) * 462) + i)) (x := ((h : Nat) : Int)) (wa_42 hW_σ3) (by omega) (by omega) ((hF_σ3.2 42 (by decide) ((((nm - 1) * 462) + i))).trans h4) ?_
                    refine tt_ar rfl ?_
                    refine tt_imul (by omega) (by omega) ?_
                    refine tt_ar rfl ?_
                    refine tt_iadd (by omega) (by omega) ?_
                    obtain ⟨q, hq⟩ : ∃ q : Nat, hiF σ x (h : Int) = (q : Int) := ⟨_, (Int.toNat_of_nonneg hlb.2.2.1).symm⟩
                    have hq45 : q ≤ 45 := by omega
                    have hq1 : σ.1 26 (h * 8 + x) = (q : Int) := by rw [← hq]; unfold hiF; rw [Int.toNat_natCast]
                    have hB6 : σ3.1 46 (q + 1) = sumN (ctN (plM 1000000 (nkT k) nm D ex (nm - 1)) (nkT k)) (fun j => if ((q : Int) + 1) ≤ (loF σ w x (σ.1 42 ((nm - 1) * 462 + j))) then 1 else 0) := by rw [hB (q + 1) (by omega) (by omega), Int.natCast_add]; rfl
                    have hb7 := ct_bd (n := (ctN (plM 1000000 (nkT k) nm D ex (nm - 1)) (nkT k))) (c := fun j => (q : Int) + 1 ≤ (loF σ w x (σ.1 42 ((nm - 1) * 462 + j))))
                    refine tt_iald (((h * 8) + x)) (x := ((q : Nat) : Int)) (wa_26 hW_σ3) (by omega) (by omega) ((hF_σ3.2 26 (by decide) (((h * 8) + x))).trans hq1) ?_
                    refine tt_ar rfl ?_
                    refine tt_iadd (by omega) (by omega) ?_
                    refine tt_iald ((q + 1)) (x := sumN (ctN (plM 1000000 (nkT k) nm D ex (nm - 1)) (nkT k)) (fun j => if ((q : Int) + 1) ≤ (loF σ w x (σ.1 42 ((nm - 1) * 462 + j))) then 1 else 0)) (wa_46 hW_σ3) (by omega) (by omega) hB6 ?_
                    refine tt_iadd (by omega) (by omega) ?_
                    refine tt_ar rfl ?_
                    refine tt_iinc (y := ((i + 1 : Nat) : Int)) rfl (iinc_fit (by omega) (by omega) (by omega)) ?_
                    refine tt_goto ?_
                    refine tt_loc [(0, vR 36), (2, vI (((x : Nat) : Int))), (3, vI (((nm - 1 : Nat) : Int))), (4, vI (sumN (i + 1) (fun i2 => sumN (ctN (plM 1000000 (nkT k) nm D ex (nm - 1)) (nkT k)) (fun j => if (hiF σ x (σ.1 42 ((nm - 1) * 462 + i2))) + 1 ≤ (loF σ w x (σ.1 42 ((nm - 1) * 462 + j))) then 1 else 0)))), (5, vI (((i + 1 : Nat) : Int)))] rfl rfl ⟨rfl, rfl, rfl, lv_to rfl (by rw [sumN_s, h4, hq]; first | done | rfl), rfl, trivial⟩ ?_
                    exact ih5 (i + 1) (by omega) (by omega)
              refine tt_loc [(0, vR 36), (2, vI (((x : Nat) : Int))), (3, vI (((nm - 1 : Nat) : Int))), (4, vI (sumN 0 (fun i2 => sumN (ctN (plM 1000000 (nkT k) nm D ex (nm - 1)) (nkT k)) (fun j => if (hiF σ x (σ.1 42 ((nm - 1) * 462 + i2))) + 1 ≤ (loF σ w x (σ.1 42 ((nm - 1) * 462 + j))) then 1 else 0)))), (5, vI (((0 : Nat) : Int)))] rfl rfl ⟨rfl, rfl, rfl, lv_to rfl rfl, lv_to rfl (by omega), trivial⟩ ?_
              exact lp5_4 _ (0) (Nat.lt_succ_self _) (by omega)
            · refine tt_loc [(0, vR 36), (2, vI (((x : Nat) : Int))), (3, vI (((nm - 1 : Nat) : Int))), (4, vI (((c - 1 : Nat) : Int)))] rfl rfl ⟨rfl, rfl, rfl, lv_to rfl (by omega), trivial⟩ ?_
              have z1 := hA3 (c - 1) (by omega)
              have z2 := hB (c - 1 + 1) (by omega) (by omega)
              have z3 := ct_bd (n := (ctN (plM 1000000 (nkT k) nm D ex (nm - 1)) (nkT k))) (c := fun j => (loF σ w x (σ.1 42 ((nm - 1) * 462 + j))) = ((c - 1 : Nat) : Int))
              have z4 := ct_bd (n := (ctN (plM 1000000 (nkT k) nm D ex (nm - 1)) (nkT k))) (c := fun j => ((c - 1 + 1 : Nat) : Int) ≤ (loF σ w x (σ.1 42 ((nm - 1) * 462 + j))))
              have z5 : 0 ≤ σ3.1 46 (c - 1) ∧ σ3.1 46 (c - 1) ≤ 462 := by rw [z1]; omega
              have z6 : 0 ≤ σ3.1 46 (c - 1 + 1) ∧ σ3.1 46 (c - 1 + 1) ≤ 462 := by rw [z2]; omega
              refine tt_ar rfl ?_
              refine tt_getR (wo_36 hW_σ3) rfl (wr_36_17 hW_σ3) ?_
              refine tt_ar rfl ?_
              refine tt_ar rfl ?_
              refine tt_iald (c - 1) (x := σ3.1 46 (c - 1)) (wa_46 hW_σ3) rfl (by omega) rfl ?_
              refine tt_ar rfl ?_
              refine tt_getR (wo_36 hW_σ3) rfl (wr_36_17 hW_σ3) ?_
              refine tt_ar rfl ?_
              refine tt_ar rfl ?_
              refine tt_iadd (by omega) (by omega) ?_
              refine tt_iald (((c - 1) + 1)) (x := σ3.1 46 (((c - 1) + 1))) (wa_46 hW_σ3) (by omega) (by omega) rfl ?_
              refine tt_iadd (by omega) (by omega) ?_
              refine tt_iast (c - 1) (wa_46 hW_σ3) (by omega) rfl (by omega) ?_
              refine tt_iinc (y := (((c - 1 : Nat) : Int) - 1)) rfl (iinc_fit (by omega) (by omega) (by omega)) ?_
              refine tt_goto ?_
              refine tt_loc [(0, vR 36), (2, vI (((x : Nat) : Int))), (3, vI (((nm - 1 : Nat) : Int))), (4, vI ((((c - 1 : Nat) : Int) - 1)))] rfl rfl ⟨rfl, rfl, rfl, rfl, trivial⟩ ?_
              exact ih3 (c - 1) _ (by omega) (Fr.put (Fr.tr Fr.rf hF_σ3 (by decide)) (by decide)) (by omega) (fun v h1 h2 => by rw [am_set_at]; by_cases e : v = c - 1; (subst e; rw [if_pos rfl, hA3 _ (by omega), hB (c - 1 + 1) (by omega) (by omega), Int.natCast_add]; exact ge_step); (rw [if_neg e]; exact hB v (by omega) h2)) (fun v hv => by rw [am_set_at, if_neg (by omega)]; exact hA3 v (by omega))
        refine tt_loc [(0, vR 36), (2, vI (((x : Nat) : Int))), (3, vI (((nm - 1 : Nat) : Int))), (4, vI ((((63 : Nat) : Int) - 1)))] rfl rfl ⟨rfl, rfl, rfl, lv_to rfl (by omega), trivial⟩ ?_
        exact lp3_3 _ (63) σ1 (Nat.lt_succ_self _) (Fr.tr Fr.rf hF_σ1 (by decide)) (by omega) (fun v h1 h2 => by rw [hA v h2, ← ei]; exact sumN_congr (fun j hj => by obtain ⟨h, g1, g2, g3, g4⟩ := LI.at (hLS (nm - 1) (by omega)).1 (show j < (ctN (plM 1000000 (nkT k) nm D ex (nm - 1)) (nkT k)) by omega); have g4 : σ.1 42 ((nm - 1) * 462 + j) = (h : Int) := g4; have q := lo_bd (w := w) (x := x) hHB g1 hx; rw [g4, if_neg (by omega), if_neg (by omega)])) (fun v hv => by rw [← ei]; exact hA v (by omega))
      · obtain ⟨h, h1, h2, h3, h4⟩ := LI.at (hLS (nm - 1) (by omega)).1 (show i < (ctN (plM 1000000 (nkT k) nm D ex (nm - 1)) (nkT k)) by omega)
        have h4 : σ.1 42 ((nm - 1) * 462 + i) = (h : Int) := h4
        have hlb := lo_bd (w := w) (x := x) hHB h1 hx
        refine tt_ar rfl ?_
        refine tt_getR (wo_36 hW_σ1) rfl (wr_36_17 hW_σ1) ?_
        refine tt_ar rfl ?_
        refine tt_getR (wo_36 hW_σ1) rfl (wr_36_0 hW_σ1) ?_
        refine tt_ar rfl ?_
        refine tt_getR (wo_36 hW_σ1) rfl (wr_36_13 hW_σ1) ?_
        refine tt_ar rfl ?_
        refine tt_ar rfl ?_
        refine tt_imul (by omega) (by omega) ?_
        refine tt_ar rfl ?_
        refine tt_iadd (by omega) (by omega) ?_
        refine tt_iald ((((nm - 1) * 462) + i)) (x := ((h : Nat) : Int)) (wa_42 hW_σ1) (by omega) (by omega) ((hF_σ1.2 42 (by decide) ((((nm - 1) * 462) + i))).trans h4) ?_
        refine tt_ar rfl ?_
        refine tt_ar rfl ?_
        obtain ⟨l, hl⟩ : ∃ l : Nat, loF σ w x (h : Int) = (l : Int) := ⟨_, (Int.toNat_of_nonneg hlb.1).symm⟩
        rw [hl] at hlb
        have hl1 : (if isIn (σ1.1 5 4) w (x : Int) then 0 else σ1.1 25 (h * 8 + x)) = (l : Int) := by rw [hF_σ1.2 5 (by decide), hF_σ1.2 25 (by decide), ← hl]; unfold loF; rw [Int.toNat_natCast]
        have hcl := hcb l (by omega)
        refine tt_cv4 4 rfl (wo_18 hW_σ1) (hl1 ▸ c71 σ1 h x w hW_σ1 (by omega) hx) (kp ?_)
        refine tt_ar rfl ?_
        refine tt_iald (l) (x := σ1.1 46 (l)) (wa_46 hW_σ1) rfl (by omega) rfl ?_
        refine tt_ar rfl ?_
        refine tt_iadd (by omega) (by omega) ?_
        refine tt_iast (l) (wa_46 hW_σ1) (by omega) rfl (by omega) ?_
        refine tt_iinc (y := ((i + 1 : Nat) : Int)) rfl (iinc_fit (by omega) (by omega) (by omega)) ?_
        refine tt_goto ?_
        refine tt_loc [(0, vR 36), (1, vI (w)), (2, vI (((x : Nat) : Int))), (3, vI (((nm - 1 : Nat) : Int))), (4, vI (((i + 1 : Nat) : Int)))] rfl rfl ⟨rfl, rfl, rfl, rfl, rfl, trivial⟩ ?_
        exact ih1 (i + 1) _ (by omega) (Fr.put (Fr.tr Fr.rf hF_σ1 (by decide)) (by decide)) (by omega) (fun v hv => by rw [am_set_at, sumN_s, h4, hl]; by_cases e : v = l; (subst e; rw [if_pos rfl, if_pos rfl, hA _ hv]); (rw [if_neg e, if_neg (by omega), hA v hv]; exact (Int.add_zero _).symm))
  refine tt_loc [(0, vR 36), (1, vI (w)), (2, vI (((x : Nat) : Int))), (3, vI (((nm - 1 : Nat) : Int))), (4, vI (((0 : Nat) : Int)))] rfl rfl ⟨rfl, rfl, rfl, rfl, lv_to rfl (by omega), trivial⟩ ?_
  exact lp1_2 _ (0) σ0 (Nat.lt_succ_self _) (Fr.tr Fr.rf hF0 (by decide)) (by omega) (fun v hv => by rw [hC0 v, if_pos hv]; rfl)

