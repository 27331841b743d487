/-! THE LAW'S END: WHO STAYS, COMES, GOES -/
theorem upH_rd {m kd a b : Int} {A : am_S} {n : Nat} (h : A.1 47 2 = (n : Int)) (e : Nat) : (upH m kd a b A).1 48 e = (if e = n then kd else A.1 48 e) ∧ (upH m kd a b A).1 49 e = (if e = n then m else A.1 49 e) ∧ (upH m kd a b A).1 50 e = if e = n then a else A.1 50 e := by
  have e1 : (A.1 47 2).toNat = n := by rw [h]; rfl
  unfold upH
  rw [e1]
  refine ⟨?_, ?_, ?_⟩ <;> simp
theorem lw_65 {k nm : Nat} {D : Nat → Nat → Int} (σ : am_S) (hC : CI k nm 0 D σ) (hk : 1 ≤ k ∧ k ≤ 3) (hN : nIN σ.2.2.1 ≤ 1000 ∧ sIN σ.2.2.1 ≤ 1000000) (a : Nat) (ha : a < k) (b : Int) (hb : b = ((10 ^ a : Nat) : Int)) : TT am_b0 (am_b0.getD 65 []) [(1, vR 2), (18, vI (((a : Nat) : Int)))] [vI (b)] σ (fun r σ' => QL r σ') := by
  have hL0 : LX 0 0 σ.2.2.1 σ.2.2.1 := LX.lk LK.rf
  have hH0 : ∀ e, e < 0 → σ.1 48 e = hpK e ∧ σ.1 49 e = hpD e ∧ σ.1 50 e = (a : Int) := fun e he => absurd he (Nat.not_lt_zero e)
  refine tt_ar rfl ?_
  refine tt_ar rfl ?_
  refine tt_ar rfl ?_
  refine tt_ar rfl ?_
  refine tt_ar rfl ?_
  refine tt_ar rfl ?_
  refine tt_cv5 5 rfl (wo_2 hC.w) (c130 σ k nm 0 D hC 0 1 (a : Int) 0) ?_
  intro r1 σ1 hq1
  rw [show x_happen σ 0 1 (a : Int) 0 = (vI 0, upH 0 1 (a : Int) 0 σ) from by have h47 := hC.st.1; have h5 := hC.x.1.1; unfold x_happen; rw [if_pos ⟨by omega, by omega, fun e => by omega, fun _ _ => ⟨by omega, by omega⟩⟩, if_pos (by omega), if_neg (show ¬ (1 : Int) = 0 by omega), if_neg (show ¬ (1 : Int) = 6 by omega), h47]; rfl] at hq1
  obtain ⟨ns1, hC1, rfl, hE1, hQ1⟩ := hq1
  have h47_1 := hC.st.1
  have e47_1 : σ1.1 47 2 = (1 : Nat) := (hE1 47 2 (by unfold bcP; omega)).trans ((show (upH 0 1 (a : Int) 0 σ).1 47 2 = σ.1 47 2 + 1 from rfl).trans (by rw [h47_1]; rfl))
  obtain rfl : ns1 = 1 := by have := hC1.st.1; omega
  have hL1 := hL0.tr (LX.lk hQ1.2.1)
  have hH1 : ∀ e, e < 1 → σ1.1 48 e = hpK e ∧ σ1.1 49 e = hpD e ∧ σ1.1 50 e = (a : Int) := fun e he => by
    have q48 := hE1 48 e (by unfold bcP; omega)
    have q49 := hE1 49 e (by unfold bcP; omega)
    have q50 := hE1 50 e (by unfold bcP; omega)
    rw [q48, q49, q50]
    have u := upH_rd (m := 0) (kd := 1) (a := (a : Int)) (b := 0) (A := σ) (n := 0) h47_1 e
    rw [u.1, u.2.1, u.2.2]
    by_cases c : e = 0
    · rw [if_pos c, if_pos c, if_pos c, c]; exact ⟨rfl, rfl, rfl⟩
    · rw [if_neg c, if_neg c, if_neg c]; exact hH0 e (by omega)
  · refine tt_ifneF (by decide) ?_
    refine tt_ar rfl ?_
    refine tt_ar rfl ?_
    have hv2 : hoN (toS (σ1.1 6) (σ1.1 48) (σ1.1 49) (σ1.1 50) 1 1) = b := by rw [toS_congr (K' := hpK) (D' := hpD) (A' := fun _ => (a : Int)) hH1]; rw [hb]; exact hp_1 _ a (by omega)
    refine tt_cv2 2 rfl (wo_2 hC1.w) (c143 σ1 k nm 1 D hC1 0) ?_
    intro r2 σ2 hq2
    rw [show x_household 1 σ1 0 = (vI b, σ1) from by unfold x_household; rw [if_pos (by omega), show Int.toNat 0 + 1 = 1 from rfl, hv2]] at hq2
    obtain ⟨hC2, rfl, hE2, hQ2⟩ := hq2
    have hL2 := hL1.tr (LX.lk hQ2.2.1)
    have hH2 : ∀ e, e < 1 → σ2.1 48 e = hpK e ∧ σ2.1 49 e = hpD e ∧ σ2.1 50 e = (a : Int) := fun e he => by rw [hE2 48 e (by unfold bcP; omega), hE2 49 e (by unfold bcP; omega), hE2 50 e (by unfold bcP; omega)]; exact hH1 e he
    · refine tt_ar rfl ?_
      refine tt_icne (fun h65_12 => ?_) (fun h65_12 => ?_)
      · exfalso; omega
      · refine tt_ar rfl ?_
        refine tt_ar rfl ?_
        refine tt_ar rfl ?_
        refine tt_ar rfl ?_
        refine tt_ar rfl ?_
        refine tt_cv5 5 rfl (wo_2 hC2.w) (c130 σ2 k nm 1 D hC2 3 2 (a : Int) 0) ?_
        intro r3 σ3 hq3
        rw [show x_happen σ2 3 2 (a : Int) 0 = (vI 1, upH 3 2 (a : Int) 0 σ2) from by have h47 := hC2.st.1; have h5 := hC2.x.1.1; unfold x_happen; rw [if_pos ⟨by omega, by omega, fun e => by omega, fun _ _ => ⟨by omega, by omega⟩⟩, if_pos (by omega), if_neg (show ¬ (2 : Int) = 0 by omega), if_neg (show ¬ (2 : Int) = 6 by omega), h47]; rfl] at hq3
        obtain ⟨ns3, hC3, rfl, hE3, hQ3⟩ := hq3
        have h47_3 := hC2.st.1
        have e47_3 : σ3.1 47 2 = (2 : Nat) := (hE3 47 2 (by unfold bcP; omega)).trans ((show (upH 3 2 (a : Int) 0 σ2).1 47 2 = σ2.1 47 2 + 1 from rfl).trans (by rw [h47_3]; rfl))
        obtain rfl : ns3 = 2 := by have := hC3.st.1; omega
        have hL3 := hL2.tr (LX.lk hQ3.2.1)
        have hH3 : ∀ e, e < 2 → σ3.1 48 e = hpK e ∧ σ3.1 49 e = hpD e ∧ σ3.1 50 e = (a : Int) := fun e he => by
          have q48 := hE3 48 e (by unfold bcP; omega)
          have q49 := hE3 49 e (by unfold bcP; omega)
          have q50 := hE3 50 e (by unfold bcP; omega)
          rw [q48, q49, q50]
          have u := upH_rd (m := 3) (kd := 2) (a := (a : Int)) (b := 0) (A := σ2) (n := 1) h47_3 e
          rw [u.1, u.2.1, u.2.2]
          by_cases c : e = 1
          · rw [if_pos c, if_pos c, if_pos c, c]; exact ⟨rfl, rfl, rfl⟩
          · rw [if_neg c, if_neg c, if_neg c]; exact hH2 e (by omega)
        · refine tt_ar rfl ?_
          refine tt_icne (fun h => absurd h (by omega)) (fun _ => ?_)
          refine tt_ar rfl ?_
          refine tt_ar rfl ?_
          have hv4 : hoN (toS (σ3.1 6) (σ3.1 48) (σ3.1 49) (σ3.1 50) 2 3) = b := by rw [toS_congr (K' := hpK) (D' := hpD) (A' := fun _ => (a : Int)) hH3]; rw [hb]; exact (hp_2 _ a (by omega)).1
          refine tt_cv2 2 rfl (wo_2 hC3.w) (c143 σ3 k nm 2 D hC3 2) ?_
          intro r4 σ4 hq4
          rw [show x_household 2 σ3 2 = (vI b, σ3) from by unfold x_household; rw [if_pos (by omega), show Int.toNat 2 + 1 = 3 from rfl, hv4]] at hq4
          obtain ⟨hC4, rfl, hE4, hQ4⟩ := hq4
          have hL4 := hL3.tr (LX.lk hQ4.2.1)
          have hH4 : ∀ e, e < 2 → σ4.1 48 e = hpK e ∧ σ4.1 49 e = hpD e ∧ σ4.1 50 e = (a : Int) := fun e he => by rw [hE4 48 e (by unfold bcP; omega), hE4 49 e (by unfold bcP; omega), hE4 50 e (by unfold bcP; omega)]; exact hH3 e he
          · refine tt_ar rfl ?_
            refine tt_icne (fun h65_25 => ?_) (fun h65_25 => ?_)
            · exfalso; omega
            · refine tt_ar rfl ?_
              refine tt_ar rfl ?_
              have hv5 : hoN (toS (σ4.1 6) (σ4.1 48) (σ4.1 49) (σ4.1 50) 2 4) = 0 := by rw [toS_congr (K' := hpK) (D' := hpD) (A' := fun _ => (a : Int)) hH4]; exact (hp_2 _ a (by omega)).2
              refine tt_cv2 2 rfl (wo_2 hC4.w) (c143 σ4 k nm 2 D hC4 3) ?_
              intro r5 σ5 hq5
              rw [show x_household 2 σ4 3 = (vI 0, σ4) from by unfold x_household; rw [if_pos (by omega), show Int.toNat 3 + 1 = 4 from rfl, hv5]] at hq5
              obtain ⟨hC5, rfl, hE5, hQ5⟩ := hq5
              have hL5 := hL4.tr (LX.lk hQ5.2.1)
              have hH5 : ∀ e, e < 2 → σ5.1 48 e = hpK e ∧ σ5.1 49 e = hpD e ∧ σ5.1 50 e = (a : Int) := fun e he => by rw [hE5 48 e (by unfold bcP; omega), hE5 49 e (by unfold bcP; omega), hE5 50 e (by unfold bcP; omega)]; exact hH4 e he
              · refine tt_ifneF (by decide) ?_
                refine tt_ar rfl ?_
                refine tt_ar rfl ?_
                refine tt_ar rfl ?_
                refine tt_ar rfl ?_
                refine tt_ar rfl ?_
                refine tt_cv5 5 rfl (wo_2 hC5.w) (c130 σ5 k nm 2 D hC5 5 2 (a : Int) 0) ?_
                intro r6 σ6 hq6
                rw [show x_happen σ5 5 2 (a : Int) 0 = (vI 2, upH 5 2 (a : Int) 0 σ5) from by have h47 := hC5.st.1; have h5 := hC5.x.1.1; unfold x_happen; rw [if_pos ⟨by omega, by omega, fun e => by omega, fun _ _ => ⟨by omega, by omega⟩⟩, if_pos (by omega), if_neg (show ¬ (2 : Int) = 0 by omega), if_neg (show ¬ (2 : Int) = 6 by omega), h47]; rfl] at hq6
                obtain ⟨ns6, hC6, rfl, hE6, hQ6⟩ := hq6
                have h47_6 := hC5.st.1
                have e47_6 : σ6.1 47 2 = (3 : Nat) := (hE6 47 2 (by unfold bcP; omega)).trans ((show (upH 5 2 (a : Int) 0 σ5).1 47 2 = σ5.1 47 2 + 1 from rfl).trans (by rw [h47_6]; rfl))
                obtain rfl : ns6 = 3 := by have := hC6.st.1; omega
                have hL6 := hL5.tr (LX.lk hQ6.2.1)
                have hH6 : ∀ e, e < 3 → σ6.1 48 e = hpK e ∧ σ6.1 49 e = hpD e ∧ σ6.1 50 e = (a : Int) := fun e he => by
                  have q48 := hE6 48 e (by unfold bcP; omega)
                  have q49 := hE6 49 e (by unfold bcP; omega)
                  have q50 := hE6 50 e (by unfold bcP; omega)
                  rw [q48, q49, q50]
                  have u := upH_rd (m := 5) (kd := 2) (a := (a : Int)) (b := 0) (A := σ5) (n := 2) h47_6 e
                  rw [u.1, u.2.1, u.2.2]
                  by_cases c : e = 2
                  · rw [if_pos c, if_pos c, if_pos c, c]; exact ⟨rfl, rfl, rfl⟩
                  · rw [if_neg c, if_neg c, if_neg c]; exact hH5 e (by omega)
                · refine tt_ar rfl ?_
                  refine tt_icne (fun h => absurd h (by omega)) (fun _ => ?_)
                  refine tt_ar rfl ?_
                  refine tt_ar rfl ?_
                  have hv7 : hoN (toS (σ6.1 6) (σ6.1 48) (σ6.1 49) (σ6.1 50) 3 5) = 0 := by rw [toS_congr (K' := hpK) (D' := hpD) (A' := fun _ => (a : Int)) hH6]; exact (hp_3 _ a (by omega)).1
                  refine tt_cv2 2 rfl (wo_2 hC6.w) (c143 σ6 k nm 3 D hC6 4) ?_
                  intro r7 σ7 hq7
                  rw [show x_household 3 σ6 4 = (vI 0, σ6) from by unfold x_household; rw [if_pos (by omega), show Int.toNat 4 + 1 = 5 from rfl, hv7]] at hq7
                  obtain ⟨hC7, rfl, hE7, hQ7⟩ := hq7
                  have hL7 := hL6.tr (LX.lk hQ7.2.1)
                  have hH7 : ∀ e, e < 3 → σ7.1 48 e = hpK e ∧ σ7.1 49 e = hpD e ∧ σ7.1 50 e = (a : Int) := fun e he => by rw [hE7 48 e (by unfold bcP; omega), hE7 49 e (by unfold bcP; omega), hE7 50 e (by unfold bcP; omega)]; exact hH6 e he
                  · refine tt_ifneF (by decide) ?_
                    refine tt_ar rfl ?_
                    refine tt_ar rfl ?_
                    have hv8 : hoN (toS (σ7.1 6) (σ7.1 48) (σ7.1 49) (σ7.1 50) 3 6) = (-9) := by rw [toS_congr (K' := hpK) (D' := hpD) (A' := fun _ => (a : Int)) hH7]; exact (hp_3 _ a (by omega)).2.1
                    refine tt_cv2 2 rfl (wo_2 hC7.w) (c143 σ7 k nm 3 D hC7 5) ?_
                    intro r8 σ8 hq8
                    rw [show x_household 3 σ7 5 = (vI (-9), σ7) from by unfold x_household; rw [if_pos (by omega), show Int.toNat 5 + 1 = 6 from rfl, hv8]] at hq8
                    obtain ⟨hC8, rfl, hE8, hQ8⟩ := hq8
                    have hL8 := hL7.tr (LX.lk hQ8.2.1)
                    have hH8 : ∀ e, e < 3 → σ8.1 48 e = hpK e ∧ σ8.1 49 e = hpD e ∧ σ8.1 50 e = (a : Int) := fun e he => by rw [hE8 48 e (by unfold bcP; omega), hE8 49 e (by unfold bcP; omega), hE8 50 e (by unfold bcP; omega)]; exact hH7 e he
                    · refine tt_ar rfl ?_
                      refine tt_icne (fun h => absurd h (by omega)) (fun _ => ?_)
                      refine tt_ar rfl ?_
                      refine tt_ar rfl ?_
                      have hv9 : hoN (toS (σ8.1 6) (σ8.1 48) (σ8.1 49) (σ8.1 50) 3 12) = (-9) := by rw [toS_congr (K' := hpK) (D' := hpD) (A' := fun _ => (a : Int)) hH8]; exact (hp_3 _ a (by omega)).2.2
                      refine tt_cv2 2 rfl (wo_2 hC8.w) (c143 σ8 k nm 3 D hC8 11) ?_
                      intro r9 σ9 hq9
                      rw [show x_household 3 σ8 11 = (vI (-9), σ8) from by unfold x_household; rw [if_pos (by omega), show Int.toNat 11 + 1 = 12 from rfl, hv9]] at hq9
                      obtain ⟨hC9, rfl, hE9, hQ9⟩ := hq9
                      have hL9 := hL8.tr (LX.lk hQ9.2.1)
                      have hH9 : ∀ e, e < 3 → σ9.1 48 e = hpK e ∧ σ9.1 49 e = hpD e ∧ σ9.1 50 e = (a : Int) := fun e he => by rw [hE9 48 e (by unfold bcP; omega), hE9 49 e (by unfold bcP; omega), hE9 50 e (by unfold bcP; omega)]; exact hH8 e he
                      · refine tt_ar rfl ?_
                        refine tt_icne (fun h => absurd h (by omega)) (fun _ => ?_)
                        refine tt_ar rfl ?_
                        refine tt_goto ?_
                        refine tt_zret (by omega) ?_
                        refine ql_of hC9 ?_
                        have q := hL9
                        obtain ⟨-, q1, q2⟩ := q
                        omega

theorem lw_60 {k nm : Nat} {D : Nat → Nat → Int} (σ : am_S) (L : Nat) (xs : Nat → Int32) (hC : CI k nm 0 D σ) (hk : 1 ≤ k ∧ k ≤ 3) (hS : Sc L xs σ) (hL : L ≤ 260) (hN : nIN σ.2.2.1 ≤ 1000 ∧ sIN σ.2.2.1 ≤ 1000000) : TT am_b0 (am_b0.getD 60 []) [(0, vR 1), (1, vR 2), (6, vI (((k : Nat) : Int)))] [] σ (fun r σ' => QL r σ') := by
  refine tt_ar rfl ?_
  refine tt_ar rfl ?_
  refine tt_cv2 2 rfl (wo_2 hC.w) (c143 σ k nm 0 D hC 11) ?_
  intro r1 σ1 hq1
  rw [show x_household 0 σ 11 = (vI 0, σ) from by unfold x_household; rw [if_pos (by omega), show Int.toNat 11 + 1 = 12 from rfl, hp_0]] at hq1
  obtain ⟨hC1, rfl, hE1, hQ1⟩ := hq1
  · refine tt_ifneF (by decide) ?_
    refine tt_ar rfl ?_
    refine tt_ar rfl ?_
    have hkk := hC1.x.1.2.1
    have hnk := nkT_bd k
    obtain ⟨y, hy⟩ : ∃ y, y = (ldN (cDb σ1 nm) (σ1.1 20) (nkT k - 1)).1 := ⟨_, rfl⟩
    have hyN : y < nkT k := by have := (ldN_bd (db := cDb σ1 nm) (all := σ1.1 20) (nkT k - 1)).1; omega
    refine tt_cv1 1 rfl (wo_2 hC1.w) (c154 σ1 k nm 0 D hC1) ?_
    intro r2 σ2 hq2
    unfold x_least at hq2
    rw [← hy] at hq2
    obtain ⟨hC2, rfl, hE2, hQ2⟩ := hq2
    have a2 : σ2.1 2 12 = cDb σ1 nm y := (hE2 2 12 (Or.inl rfl)).trans upA_12
    have e5 : σ2.1 5 = σ1.1 5 := funext (hQ2.2.2 5 (by omega))
    have e25 : σ2.1 25 = σ1.1 25 := funext (hQ2.2.2 25 (by omega))
    have e26 : σ2.1 26 = σ1.1 26 := funext (hQ2.2.2 26 (by omega))
    have e28 : σ2.1 28 = σ1.1 28 := funext (fun j => (hE2 28 j (by unfold bcP; omega)).trans (upA_nb (by decide)))
    have e30 : σ2.1 30 = σ1.1 30 := funext (fun j => (hE2 30 j (by unfold bcP; omega)).trans (upA_nb (by decide)))
    have ed : cDb σ2 nm y = cDb σ1 nm y := by unfold cDb cDb1; rw [e5, e25, e26, e28, e30]
    · refine tt_cv2 2 rfl (wo_2 hC2.w) (c152 σ2 k nm 0 D hC2 (tb k y : Int)) ?_
      intro r3 σ3 hq3
      rw [show x_doubts k nm σ2 (tb k y : Int) = (vI (cDb σ1 nm y), σ2) from by unfold x_doubts; rw [ix_of hkk hyN rfl, if_pos (by omega), Int.toNat_natCast, ed]] at hq3
      obtain ⟨hC3, rfl, hE3, hQ3⟩ := hq3
      have a3 : σ3.1 2 12 = cDb σ1 nm y := (hE3 2 12 (Or.inl rfl)).trans a2
      · refine tt_ar rfl ?_
        refine tt_cv1 1 rfl (wo_2 hC3.w) (c158 σ3 k nm 0 D hC3) ?_
        intro r4 σ4 hq4
        rw [show x_asked σ3 = (vI (cDb σ1 nm y), σ3) from by unfold x_asked; rw [a3]] at hq4
        obtain ⟨hC4, rfl, hE4, hQ4⟩ := hq4
        have hQ := ((hQ1.tr hQ2).tr hQ3).tr hQ4
        have hN4 : nIN σ4.2.2.1 ≤ 1000 ∧ sIN σ4.2.2.1 ≤ 1000000 := by have := hQ.2.1.2; omega
        have hS4 : Sc L xs σ4 := ⟨fun j => (hQ.2.2 1 (by omega) j).trans (hS.1 j), hQ.2.1.1 _ _ hS.2⟩
        · refine tt_iceq (fun h60_10 => ?_) (fun h60_10 => ?_)
          · refine tt_ar rfl ?_
            refine tt_ar rfl ?_
            refine tt_cs2 2 rfl (c173' σ4 L xs hS4 hL (25) (by omega) _ (by omega)) (kxI (fun xc10 hxc10 => ?_))
            · refine tt_ar rfl ?_
              refine tt_cs2 2 rfl (c172 σ4 _ _ (by omega)) (kx (fun i11 hi11 => ?_))
              · refine tt_ar rfl ?_
                refine tt_ar rfl ?_
                refine tt_ifne (fun h62_7 => ?_) (fun h62_7 => ?_)
                · refine tt_ar rfl ?_
                  refine tt_ar rfl ?_
                  refine tt_icne (fun h63_2 => ?_) (fun h63_2 => ?_)
                  · refine tt_ar rfl ?_
                    refine tt_nop ?_
                    have eb : (100 : Int) = ((10 ^ i11 : Nat) : Int) := by rw [show i11 = 2 by omega]; rfl
                    refine tt_loc [(1, vR 2), (18, vI (((i11 : Nat) : Int)))] rfl rfl ⟨rfl, rfl, trivial⟩ ?_
                    exact lw_65 σ4 hC4 hk hN4 i11 (by omega) 100 eb
                  · refine tt_ar rfl ?_
                    refine tt_goto ?_
                    have eb : (10 : Int) = ((10 ^ i11 : Nat) : Int) := by rw [show i11 = 1 by omega]; rfl
                    refine tt_loc [(1, vR 2), (18, vI (((i11 : Nat) : Int)))] rfl rfl ⟨rfl, rfl, trivial⟩ ?_
                    exact lw_65 σ4 hC4 hk hN4 i11 (by omega) 10 eb
                · refine tt_ar rfl ?_
                  refine tt_goto ?_
                  have eb : (1 : Int) = ((10 ^ i11 : Nat) : Int) := by rw [show i11 = 0 by omega]; rfl
                  refine tt_loc [(1, vR 2), (18, vI (((i11 : Nat) : Int)))] rfl rfl ⟨rfl, rfl, trivial⟩ ?_
                  exact lw_65 σ4 hC4 hk hN4 i11 (by omega) 1 eb
          · refine tt_nop ?_
            exfalso; omega

