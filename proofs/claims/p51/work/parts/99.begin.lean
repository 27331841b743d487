/-! THE LAW'S START -/
theorem lw_nw {k nm ns n p L : Nat} {xs : Nat → Int32} {D : Nat → Nat → Int} {σ σ' : am_S} (hl : σ.2.2.1.length = p) (h : σ' = am_new σ (.inl .int, n)) (hC : CI k nm ns D σ) (hS : Sc L xs σ) : CI k nm ns D σ' ∧ Sc L xs σ' ∧ LX 1 n σ.2.2.1 σ'.2.2.1 ∧ σ'.2.2.1.length = p + 1 ∧ σ'.2.2.1[p]? = some (.inl .int, n) ∧ (∀ a, a ≠ p → ∀ j, σ'.1 a j = σ.1 a j) ∧ (∀ j, σ'.1 p j = 0) := by
  have hw := hC.w.len
  have ho : ∀ a, a ≠ p → ∀ j, σ'.1 a j = σ.1 a j := fun a ha j => by
    rw [h]
    exact if_neg (fun e => ha (e.trans hl))
  have hX : LX 1 n σ.2.2.1 σ'.2.2.1 := by
    rw [h]
    exact LX.new
  refine ⟨by rw [h]; exact hC.new, ⟨fun j => (ho 1 (by omega) j).trans (hS.1 j), hX.1 _ _ hS.2⟩, hX, ?_, ?_, ho, fun j => ?_⟩
  · rw [h]
    show (σ.2.2.1 ++ [_]).length = _
    rw [List.length_append, hl]
    rfl
  · rw [h]
    show (σ.2.2.1 ++ [_])[p]? = _
    rw [List.getElem?_append_right (by omega), hl, Nat.sub_self]
    rfl
  · rw [h]
    exact if_pos hl.symm
theorem LX.len {c z : Nat} {l l' : List am_Ly} (h : LX (c + 1) z l l') : l.length < l'.length := by
  rcases Nat.lt_or_ge l.length l'.length with e | e
  · exact e
  · exfalso
    have e2 : l = l' := List.ext_getElem? (fun a => by
      rcases Nat.lt_or_ge a l.length with q | q
      · rw [List.getElem?_eq_getElem q]
        exact (h.1 a _ (List.getElem?_eq_getElem q)).symm
      · rw [List.getElem?_eq_none q, List.getElem?_eq_none (by omega)])
    have h2 := h.2.1
    rw [e2] at h2
    omega
theorem lw_3 {k mm pM pH L : Nat} {xs : Nat → Int32} {D : Nat → Nat → Int} (σ : am_S) (hCI : CI k mm 0 D σ) (hk : 1 ≤ k ∧ k ≤ 3) (hm : 1 ≤ mm ∧ mm ≤ 4) (hS : Sc L xs σ) (hL : L ≤ 260) (hpH : pH = σ.2.2.1.length) (k79 : σ.2.2.1[79]? = some (.inl .int, 6)) (h79 : ∀ i, i < 5 → σ.1 79 (1 + i) = σ.1 9 i) (h80 : 80 < pH) (hN : nIN σ.2.2.1 ≤ 900 ∧ sIN σ.2.2.1 ≤ 900000) : TT am_b0 (am_b0.getD 3 []) [(0, vR 1), (1, vR 2), (2, vR 76), (3, vR 77), (4, vR 78), (5, vR 79), (6, vI (((k : Nat) : Int))), (7, vR pM), (8, vI (((mm : Nat) : Int)))] [] σ (fun r σ' => QL r σ') := by
  refine tt_ar rfl ?_
  refine tt_cs1 1 rfl (c176 σ k pH hk hCI.w hpH) ?_
  intro r1 σ1 hq1
  obtain ⟨rfl, e2, eo, h63, hHo⟩ := hq1
  have hLn : LX 1 64 σ.2.2.1 σ1.2.2.1 := by
    rw [show σ1.2.2.1 = (am_new σ (.inl .int, 64)).2.2.1 from by rw [e2]]
    exact LX.new
  have kpH : σ1.2.2.1[pH]? = some (.inl .int, 64) := by
    rw [show σ1.2.2.1 = σ.2.2.1 ++ [(.inl .int, 64)] from by rw [e2]; rfl, hpH, List.getElem?_append_right (Nat.le_refl _), Nat.sub_self]
    rfl
  have hF1 : Fr [pH] (am_new σ (.inl .int, 64)) σ1 := ⟨e2, fun a ha j => by
    have ha : a ≠ pH := (by simpa using ha)
    rw [eo a ha]
    exact (if_neg (c := a = σ.2.2.1.length) (fun e => ha (e.trans hpH.symm))).symm⟩
  have hC1 : CI k mm 0 D σ1 := hCI.new.law hF1 (fun a ha => by
    have ha : a = pH := (by simpa using ha)
    subst ha
    exact ⟨by omega, 64, by rw [show (am_new σ (.inl .int, 64)).2.2.1 = σ1.2.2.1 from by rw [e2]]; exact kpH⟩)
  have hS1 : Sc L xs σ1 := ⟨fun j => (eo 1 (by omega) j).trans (hS.1 j), hLn.1 _ _ hS.2⟩
  have hA : LA k mm pH L xs D σ1 := ⟨⟨hC1, hk, hm⟩, ⟨hS1, hL⟩, ⟨hLn.1 _ _ k79, fun i hi => by
    rw [eo 79 (by omega), eo 9 (by omega)]
    exact h79 i hi⟩, ⟨h80, kpH, hHo⟩, by
    rw [hLn.2.1, hLn.2.2]
    omega⟩
  refine tt_ar rfl ?_
  refine tt_ar rfl ?_
  refine tt_ar rfl ?_
  refine tt_iald (63) (x := ((nkT k : Nat) : Int)) kpH (by omega) (by omega) h63 ?_
  refine tt_ar rfl ?_
  refine tt_ar rfl ?_
  refine tt_ar rfl ?_
  refine tt_nop ?_
  refine tt_loc [(0, vR 1), (1, vR 2), (5, vR 79), (6, vI (((k : Nat) : Int))), (8, vI (((mm : Nat) : Int))), (9, vR pH), (10, vI (((nkT k : Nat) : Int))), (11, vI 0)] rfl rfl ⟨rfl, rfl, rfl, rfl, rfl, rfl, rfl, rfl, trivial⟩ ?_
  exact lw_4 σ1 hA (lz_rf hA)
theorem lw_1 {k pM L : Nat} {xs : Nat → Int32} {D : Nat → Nat → Int} (σ : am_S) (hCI : CI k 0 0 D σ) (hk : 1 ≤ k ∧ k ≤ 3) (hS : Sc L xs σ) (hL : L ≤ 260) (hpM : 80 < pM) (k77 : σ.2.2.1[77]? = some (.inl .int, 24)) (k78 : σ.2.2.1[78]? = some (.inl .int, 24)) (k79 : σ.2.2.1[79]? = some (.inl .int, 6)) (kpM : σ.2.2.1[pM]? = some (.inl .int, 40)) (hM : ∀ i, i < 24 → 0 ≤ σ.1 77 i ∧ σ.1 77 i ≤ σ.1 78 i ∧ σ.1 78 i ≤ 4) (h79 : ∀ i, i < 5 → σ.1 79 (1 + i) = σ.1 9 i) (hN : nIN σ.2.2.1 ≤ 800 ∧ sIN σ.2.2.1 ≤ 800000) : TT am_b0 (am_b0.getD 1 []) [(0, vR 1), (1, vR 2), (2, vR 76), (3, vR 77), (4, vR 78), (5, vR 79), (6, vI (((k : Nat) : Int))), (7, vR pM)] [] σ (fun r σ' => QL r σ') := by
  refine tt_ar rfl ?_
  refine tt_ar rfl ?_
  refine tt_ar rfl ?_
  refine tt_ar rfl ?_
  refine tt_ar rfl ?_
  refine tt_ar rfl ?_
  refine tt_ar rfl ?_
  refine tt_ar rfl ?_
  refine tt_ar rfl ?_
  refine tt_cs9 9 rfl (c177 σ L xs k 0 pM σ.2.2.1.length D hCI hk hS hL hpM rfl k77 k78 k79 kpM hM) ?_
  intro r1 σ1 hq1
  obtain ⟨mm, hmm, rfl, hC1, hE, hS1, hX⟩ := hq1
  refine tt_nop ?_
  refine tt_ar rfl ?_
  refine tt_ar rfl ?_
  refine tt_ifge (fun h2_2 => ?_) (fun h2_2 => ?_)
  · have kM1 := hX.1 _ _ kpM
    have hl := (List.getElem?_eq_some_iff.mp kM1).1
    refine tt_loc [(0, vR 1), (1, vR 2), (2, vR 76), (3, vR 77), (4, vR 78), (5, vR 79), (6, vI (((k : Nat) : Int))), (7, vR pM), (8, vI (((mm : Nat) : Int)))] rfl rfl ⟨rfl, rfl, rfl, rfl, rfl, rfl, rfl, rfl, rfl, trivial⟩ ?_
    exact lw_3 σ1 hC1 hk hmm hS1 hL rfl (hX.1 _ _ k79) (fun i hi => by
      rw [hE 79 (Or.inr (Or.inr ⟨by omega, by omega, _, k79⟩)), hE 9 (Or.inl (by omega))]
      exact h79 i hi) (by omega) (by rw [hX.2.1, hX.2.2]; omega)
  · exfalso
    omega
theorem lw_start {L : Nat} {xs : Nat → Int32} (hL : L ≤ 260) : TT am_b0 (am_b0.getD 0 []) [(0, vR 1)] [] (lw_f xs, Cs L 0 0) (fun r σ' => QL r σ') := by
  have h0 : ∀ a, 2 ≤ a → ∀ j, lw_f xs a j = 0 := fun a ha j => by
    unfold lw_f
    rw [if_neg (by omega), if_neg (by omega)]
  have hZ0 : Zf 0 (lw_f xs) := fun a ha => h0 a (by omega)
  refine tc_new (n := 0) (a := 2) (n' := 1) (by decide) rfl (by decide +kernel) hZ0 rfl rfl ?_
  refine tt_ar rfl ?_
  refine tt_cx1 1 rfl (k1_2 (L := L) (zf_up hZ0) h0 (by decide : ∀ j, j < 6 → (am_wv j).toInt = ((10 ^ j : Nat) : Int))) ?_
  intro r1 σ1 hq1
  obtain ⟨rfl, g, rfl, hZg, g3, rfl, hHT, hW5, e3⟩ := hq1
  obtain ⟨⟨D, hC0⟩, hs0, hk0, -⟩ := lw_made (L := L) (xs := xs) (σ' := ((chn g3, Cs L 74 85) : am_S)) hHT hW5 e3 rfl (fun a _ j => rfl)
  obtain ⟨σ0, hσ0⟩ : ∃ x, x = ((chn g3, Cs L 74 85) : am_S) := ⟨_, rfl⟩
  rw [← hσ0] at hC0 hs0 hk0
  refine tt_st hσ0.symm ?_
  have hS0 : Sc L xs σ0 := ⟨hs0, by rw [hk0]; rfl⟩
  have l0 : σ0.2.2.1.length = 76 := by
    rw [hk0]
    rfl
  have n0 : nIN σ0.2.2.1 ≤ 700 ∧ sIN σ0.2.2.1 ≤ 700000 := by
    have e1 : nIN cs_ly ≤ 600 ∧ sIN cs_ly ≤ 600000 := by decide +kernel
    have e2 : nIN (lw_k0 L) = nIN cs_ly + 1 + 1 := rfl
    have e3 : sIN (lw_k0 L) = sIN cs_ly + L + 6 := rfl
    rw [hk0, e2, e3]
    omega
  clear hσ0 hHT hW5 e3 hZg h0 hZ0
  refine tt_ar rfl ?_
  refine tt_ar rfl ?_
  refine tt_newa (by omega) (by omega) ?_
  obtain ⟨σ1, hσ1⟩ : ∃ x, x = am_new σ0 (.inl .int, 6) := ⟨_, rfl⟩
  rw [l0]
  refine tt_st hσ1.symm ?_
  obtain ⟨hC1, hS1, hX1, l1, k1, o1, z1⟩ := lw_nw l0 hσ1 hC0 hS0
  refine tt_ar rfl ?_
  refine tt_ar rfl ?_
  refine tt_newa (by omega) (by omega) ?_
  obtain ⟨σ2, hσ2⟩ : ∃ x, x = am_new σ1 (.inl .int, 24) := ⟨_, rfl⟩
  rw [l1]
  refine tt_st hσ2.symm ?_
  obtain ⟨hC2, hS2, hX2, l2, k2, o2, z2⟩ := lw_nw l1 hσ2 hC1 hS1
  refine tt_ar rfl ?_
  refine tt_ar rfl ?_
  refine tt_newa (by omega) (by omega) ?_
  obtain ⟨σ3, hσ3⟩ : ∃ x, x = am_new σ2 (.inl .int, 24) := ⟨_, rfl⟩
  rw [l2]
  refine tt_st hσ3.symm ?_
  obtain ⟨hC3, hS3, hX3, l3, k3, o3, z3⟩ := lw_nw l2 hσ3 hC2 hS2
  refine tt_ar rfl ?_
  refine tt_ar rfl ?_
  refine tt_newa (by omega) (by omega) ?_
  obtain ⟨σ4, hσ4⟩ : ∃ x, x = am_new σ3 (.inl .int, 6) := ⟨_, rfl⟩
  rw [l3]
  refine tt_st hσ4.symm ?_
  obtain ⟨hC4, hS4, hX4, l4, k4, o4, z4⟩ := lw_nw l3 hσ4 hC3 hS3
  have hX : LX 4 60 σ0.2.2.1 σ4.2.2.1 := ((hX1.tr hX2).tr hX3).tr hX4
  refine tt_ar rfl ?_
  refine tt_ar rfl ?_
  refine tt_ar rfl ?_
  refine tt_ar rfl ?_
  refine tt_ar rfl ?_
  refine tt_ar rfl ?_
  refine tt_ar rfl ?_
  refine tt_ar rfl ?_
  refine tt_ar rfl ?_
  refine tt_cs8 8 rfl (c175 σ4 L xs 0 0 0 D hC4 hS4 hL l4 (hX4.1 _ _ (hX3.1 _ _ (hX2.1 _ _ k1))) (hX4.1 _ _ (hX3.1 _ _ k2)) (hX4.1 _ _ k3) k4 (fun i => by rw [o4 77 (by decide), o3 77 (by decide), z2]) (fun i => by rw [o4 78 (by decide), z3])) ?_
  intro r5 σ5 hq5
  obtain ⟨k, hk, rfl, ⟨D5, hC5⟩, h95, hM5, hS5, hX5⟩ := hq5
  have l5 := hX5.len
  refine tt_ar rfl ?_
  refine tt_ar rfl ?_
  refine tt_newa (by omega) (by omega) ?_
  obtain ⟨σ6, hσ6⟩ : ∃ x, x = am_new σ5 (.inl .int, 40) := ⟨_, rfl⟩
  refine tt_st hσ6.symm ?_
  obtain ⟨hC6, hS6, hX6, l6, k6, o6, z6⟩ := lw_nw rfl hσ6 hC5 hS5
  refine tt_ar rfl ?_
  refine tt_ar rfl ?_
  refine tt_ifge (fun h0_26 => ?_) (fun h0_26 => ?_)
  · have hX := (hX.tr hX5).tr hX6
    refine tt_loc [(0, vR 1), (1, vR 2), (2, vR 76), (3, vR 77), (4, vR 78), (5, vR 79), (6, vI (((k : Nat) : Int))), (7, vR σ5.2.2.1.length)] rfl rfl ⟨rfl, rfl, rfl, rfl, rfl, rfl, rfl, rfl, trivial⟩ ?_
    exact lw_1 σ6 hC6 hk hS6 hL (by omega) (hX6.1 _ _ (hX5.1 _ _ (hX4.1 _ _ (hX3.1 _ _ k2)))) (hX6.1 _ _ (hX5.1 _ _ (hX4.1 _ _ k3))) (hX6.1 _ _ (hX5.1 _ _ k4)) k6 (fun i hi => by
      rw [o6 77 (by omega), o6 78 (by omega)]
      exact hM5 i hi) (fun i hi => by
      rw [o6 79 (by omega), o6 9 (by omega)]
      exact (h95 i hi).symm) (by rw [hX.2.1, hX.2.2]; omega)
  · exfalso
    omega
