/-! THE LAW'S CASES -/
/-- what holds at the head of the law's loop -/
def LwI (L : Nat) (xs : Nat → Int32) (σ : am_S) : Prop := (∃ k nm ns D, CI k nm ns D σ ∧ RRb k nm ns D σ σ) ∧ (∀ j, σ.1 1 j = (xs j).toInt) ∧ σ.2.2.1[1]? = some (.inl .int, L)
theorem QR.ci {k nm ns : Nat} {D : Nat → Nat → Int} {σ σ' : am_S} (h : QR σ σ') (hC : CI k nm ns D σ) : CI k nm ns D σ' :=
  hC.keep (h.wd hC.w) (by rw [h.1]) (by rw [h.1]) (fun a ha => h.2 a (by unfold ciC at ha; omega)) (fun r hr => by rw [h.2 (56 + 2 * r) (by omega)]; exact hC.row r hr) (fun t ht => by rw [h.2 (68 + 2 * t) (by omega)]; exact ⟨(hC.txt t ht).1, fun j hj => by rw [h.2 (69 + 2 * t) (by omega)]; exact (hC.txt t ht).2 j hj⟩)
theorem QR.eqb {σ σ' : am_S} (h : QR σ σ') : EqB σ σ' := fun a j q => h.2 a (by unfold bcP at q; omega) j
theorem QC.rr {k nm ns : Nat} {D : Nat → Nat → Int} {A σ σ' : am_S} (h : QC σ σ') (hR : RRb k nm ns D A σ) : RRb k nm ns D A σ' :=
  hR.kp (fun a ha => h.2.2 a (by unfold rrC at ha; omega)) (fun j _ => h.2.2 76 (by omega) j)
/-- after both calls -/
theorem lw_next {L : Nat} {xs : Nat → Int32} {σ σ1 σ2 : am_S} {c : am_S} (hx : ∀ j, σ.1 1 j = (xs j).toInt) (h1 : σ.2.2.1[1]? = some (.inl .int, L)) (hC : ∃ k nm ns D, CI k nm ns D σ1) (hE : EqB c σ1) (hQ : QC σ σ1) (hR : RRc c σ2) (hQ2 : QR σ1 σ2) : LwI L xs σ2 := by
  obtain ⟨k, nm, ns, D, hC⟩ := hC
  refine ⟨⟨k, nm, ns, D, hQ2.ci hC, hR.norm (hE.tr hQ2.eqb) (hQ2.ci hC)⟩, fun j => ?_, ?_⟩
  · rw [hQ2.2 1 (by omega), hQ.2.2 1 (by omega), hx]
  · rw [hQ2.1]
    exact hQ.2.1 _ h1
theorem xs_bd (x : Int32) : -2147483648 ≤ x.toInt ∧ x.toInt ≤ 2147483647 := by
  have h1 := Int32.le_toInt x
  have h2 := Int32.toInt_lt x
  omega
theorem is_row (A : am_S) (u v : Int) : ∃ z, (x_row A u v).1 = vI z := by
  unfold x_row
  (try unfold wOf)
  (repeat' split) <;> exact ⟨_, rfl⟩
theorem lw_b2 {L : Nat} {xs : Nat → Int32} {σ : am_S} {i : Nat} {Q : Option am_V → am_S → Prop} (hL : L ≤ 3072) (hi : i + 6 ≤ L) (hI : LwI L xs σ) (K : ∀ σ', LwI L xs σ' → TT am_b0 (am_b0.getD 50 []) [(0, vR 1), (1, vR 2), (2, vR 76), (3, vI ((i : Nat) : Int))] [] σ' Q) : TT am_b0 (am_b0.getD 2 []) [(0, vR 1), (1, vR 2), (2, vR 76), (3, vI ((i : Nat) : Int))] [] σ Q := by
  obtain ⟨⟨k, nm, ns, D, hCI, hR⟩, hx, h1⟩ := hI
  have hW := hCI.w
  refine tt_ar rfl ?_
  refine tt_ar rfl ?_
  refine tt_ar rfl ?_
  refine tt_ar rfl ?_
  refine tt_iadd (by omega) (by omega) ?_
  refine tt_iald (i + 1) (x := (xs (i + 1)).toInt) h1 (by omega) (by omega) (hx _) ?_
  refine tt_ar rfl ?_
  refine tt_ar rfl ?_
  refine tt_ar rfl ?_
  refine tt_iadd (by omega) (by omega) ?_
  refine tt_iald (i + 2) (x := (xs (i + 2)).toInt) h1 (by omega) (by omega) (hx _) ?_
  refine tt_cv3 3 rfl (wo_2 hW) (c21 σ k nm ns D hCI (xs (i + 1)).toInt (xs (i + 2)).toInt) ?_
  intro r1 σ1 hq1
  obtain ⟨hC1, rfl, hE1, hQ1⟩ := hq1
  have hW1 := hQ1.1 hW
  have hR1 := hQ1.rr hR
  have hx1 : ∀ j, σ1.1 1 j = (xs j).toInt := fun j => (hQ1.2.2 1 (by omega) j).trans (hx j)
  have h11 := hQ1.2.1 _ h1
  obtain ⟨z, hz⟩ := is_row σ (xs (i + 1)).toInt (xs (i + 2)).toInt
  rw [hz]
  refine tt_ar rfl ?_
  refine tt_ar rfl ?_
  refine tt_ar rfl ?_
  refine tt_ar rfl ?_
  refine tt_iadd (by omega) (by omega) ?_
  refine tt_iald (i + 1) (x := (xs (i + 1)).toInt) h11 (by omega) (by omega) (hx1 _) ?_
  refine tt_ar rfl ?_
  refine tt_ar rfl ?_
  refine tt_ar rfl ?_
  refine tt_iadd (by omega) (by omega) ?_
  refine tt_iald (i + 2) (x := (xs (i + 2)).toInt) h11 (by omega) (by omega) (hx1 _) ?_
  refine tt_cv3 3 rfl (wo_76 hW1) (c177 σ σ1 k nm ns D hCI hW1 hR1 (xs (i + 1)).toInt (xs (i + 2)).toInt) ?_
  intro r2 σ2 hq2
  obtain ⟨rfl, hR2, hQ2⟩ := hq2
  have hN : LwI L xs σ2 := lw_next hx h1 hC1 hE1 hQ1 hR2 hQ2
  rw [hz]
  exact tt_iceq (fun _ => K σ2 hN) (fun h => absurd rfl h)
theorem is_lay (A : am_S) (u v w : Int) : ∃ z, (x_lay A u v w).1 = vI z := by
  unfold x_lay
  (try unfold wOf)
  (repeat' split) <;> exact ⟨_, rfl⟩
theorem lw_b3 {L : Nat} {xs : Nat → Int32} {σ : am_S} {i : Nat} {Q : Option am_V → am_S → Prop} (hL : L ≤ 3072) (hi : i + 6 ≤ L) (hI : LwI L xs σ) (K : ∀ σ', LwI L xs σ' → TT am_b0 (am_b0.getD 50 []) [(0, vR 1), (1, vR 2), (2, vR 76), (3, vI ((i : Nat) : Int))] [] σ' Q) : TT am_b0 (am_b0.getD 3 []) [(0, vR 1), (1, vR 2), (2, vR 76), (3, vI ((i : Nat) : Int))] [] σ Q := by
  obtain ⟨⟨k, nm, ns, D, hCI, hR⟩, hx, h1⟩ := hI
  have hW := hCI.w
  refine tt_ar rfl ?_
  refine tt_ar rfl ?_
  refine tt_ar rfl ?_
  refine tt_ar rfl ?_
  refine tt_iadd (by omega) (by omega) ?_
  refine tt_iald (i + 1) (x := (xs (i + 1)).toInt) h1 (by omega) (by omega) (hx _) ?_
  refine tt_ar rfl ?_
  refine tt_ar rfl ?_
  refine tt_ar rfl ?_
  refine tt_iadd (by omega) (by omega) ?_
  refine tt_iald (i + 2) (x := (xs (i + 2)).toInt) h1 (by omega) (by omega) (hx _) ?_
  refine tt_ar rfl ?_
  refine tt_ar rfl ?_
  refine tt_ar rfl ?_
  refine tt_iadd (by omega) (by omega) ?_
  refine tt_iald (i + 3) (x := (xs (i + 3)).toInt) h1 (by omega) (by omega) (hx _) ?_
  refine tt_cv4 4 rfl (wo_2 hW) (c26 σ k nm ns D hCI (xs (i + 1)).toInt (xs (i + 2)).toInt (xs (i + 3)).toInt) ?_
  intro r1 σ1 hq1
  obtain ⟨hC1, rfl, hE1, hQ1⟩ := hq1
  have hW1 := hQ1.1 hW
  have hR1 := hQ1.rr hR
  have hx1 : ∀ j, σ1.1 1 j = (xs j).toInt := fun j => (hQ1.2.2 1 (by omega) j).trans (hx j)
  have h11 := hQ1.2.1 _ h1
  obtain ⟨z, hz⟩ := is_lay σ (xs (i + 1)).toInt (xs (i + 2)).toInt (xs (i + 3)).toInt
  rw [hz]
  refine tt_ar rfl ?_
  refine tt_ar rfl ?_
  refine tt_ar rfl ?_
  refine tt_ar rfl ?_
  refine tt_iadd (by omega) (by omega) ?_
  refine tt_iald (i + 1) (x := (xs (i + 1)).toInt) h11 (by omega) (by omega) (hx1 _) ?_
  refine tt_ar rfl ?_
  refine tt_ar rfl ?_
  refine tt_ar rfl ?_
  refine tt_iadd (by omega) (by omega) ?_
  refine tt_iald (i + 2) (x := (xs (i + 2)).toInt) h11 (by omega) (by omega) (hx1 _) ?_
  refine tt_ar rfl ?_
  refine tt_ar rfl ?_
  refine tt_ar rfl ?_
  refine tt_iadd (by omega) (by omega) ?_
  refine tt_iald (i + 3) (x := (xs (i + 3)).toInt) h11 (by omega) (by omega) (hx1 _) ?_
  refine tt_cv4 4 rfl (wo_76 hW1) (c184 σ σ1 k nm ns D hCI hW1 hR1 (xs (i + 1)).toInt (xs (i + 2)).toInt (xs (i + 3)).toInt) ?_
  intro r2 σ2 hq2
  obtain ⟨rfl, hR2, hQ2⟩ := hq2
  have hN : LwI L xs σ2 := lw_next hx h1 hC1 hE1 hQ1 hR2 hQ2
  rw [hz]
  exact tt_iceq (fun _ => K σ2 hN) (fun h => absurd rfl h)
theorem is_at (A : am_S) (u v : Int) : ∃ z, (x_at A u v).1 = vI z := by
  unfold x_at
  (try unfold wOf)
  (repeat' split) <;> exact ⟨_, rfl⟩
theorem lw_b4 {L : Nat} {xs : Nat → Int32} {σ : am_S} {i : Nat} {Q : Option am_V → am_S → Prop} (hL : L ≤ 3072) (hi : i + 6 ≤ L) (hI : LwI L xs σ) (K : ∀ σ', LwI L xs σ' → TT am_b0 (am_b0.getD 50 []) [(0, vR 1), (1, vR 2), (2, vR 76), (3, vI ((i : Nat) : Int))] [] σ' Q) : TT am_b0 (am_b0.getD 4 []) [(0, vR 1), (1, vR 2), (2, vR 76), (3, vI ((i : Nat) : Int))] [] σ Q := by
  obtain ⟨⟨k, nm, ns, D, hCI, hR⟩, hx, h1⟩ := hI
  have hW := hCI.w
  refine tt_ar rfl ?_
  refine tt_ar rfl ?_
  refine tt_ar rfl ?_
  refine tt_ar rfl ?_
  refine tt_iadd (by omega) (by omega) ?_
  refine tt_iald (i + 1) (x := (xs (i + 1)).toInt) h1 (by omega) (by omega) (hx _) ?_
  refine tt_ar rfl ?_
  refine tt_ar rfl ?_
  refine tt_ar rfl ?_
  refine tt_iadd (by omega) (by omega) ?_
  refine tt_iald (i + 2) (x := (xs (i + 2)).toInt) h1 (by omega) (by omega) (hx _) ?_
  refine tt_cv3 3 rfl (wo_2 hW) (c31 σ k nm ns D hCI (xs (i + 1)).toInt (xs (i + 2)).toInt) ?_
  intro r1 σ1 hq1
  obtain ⟨hC1, rfl, hE1, hQ1⟩ := hq1
  have hW1 := hQ1.1 hW
  have hR1 := hQ1.rr hR
  have hx1 : ∀ j, σ1.1 1 j = (xs j).toInt := fun j => (hQ1.2.2 1 (by omega) j).trans (hx j)
  have h11 := hQ1.2.1 _ h1
  obtain ⟨z, hz⟩ := is_at σ (xs (i + 1)).toInt (xs (i + 2)).toInt
  rw [hz]
  refine tt_ar rfl ?_
  refine tt_ar rfl ?_
  refine tt_ar rfl ?_
  refine tt_ar rfl ?_
  refine tt_iadd (by omega) (by omega) ?_
  refine tt_iald (i + 1) (x := (xs (i + 1)).toInt) h11 (by omega) (by omega) (hx1 _) ?_
  refine tt_ar rfl ?_
  refine tt_ar rfl ?_
  refine tt_ar rfl ?_
  refine tt_iadd (by omega) (by omega) ?_
  refine tt_iald (i + 2) (x := (xs (i + 2)).toInt) h11 (by omega) (by omega) (hx1 _) ?_
  refine tt_cv3 3 rfl (wo_76 hW1) (c180 σ σ1 k nm ns D hCI hW1 hR1 (xs (i + 1)).toInt (xs (i + 2)).toInt) ?_
  intro r2 σ2 hq2
  obtain ⟨rfl, hR2, hQ2⟩ := hq2
  have hN : LwI L xs σ2 := lw_next hx h1 hC1 hE1 hQ1 hR2 hQ2
  rw [hz]
  exact tt_iceq (fun _ => K σ2 hN) (fun h => absurd rfl h)
theorem is_tear (A : am_S) (u : Int) : ∃ z, (x_tear A u).1 = vI z := by
  unfold x_tear
  (try unfold wOf)
  (repeat' split) <;> exact ⟨_, rfl⟩
theorem lw_b5 {L : Nat} {xs : Nat → Int32} {σ : am_S} {i : Nat} {Q : Option am_V → am_S → Prop} (hL : L ≤ 3072) (hi : i + 6 ≤ L) (hI : LwI L xs σ) (K : ∀ σ', LwI L xs σ' → TT am_b0 (am_b0.getD 50 []) [(0, vR 1), (1, vR 2), (2, vR 76), (3, vI ((i : Nat) : Int))] [] σ' Q) : TT am_b0 (am_b0.getD 5 []) [(0, vR 1), (1, vR 2), (2, vR 76), (3, vI ((i : Nat) : Int))] [] σ Q := by
  obtain ⟨⟨k, nm, ns, D, hCI, hR⟩, hx, h1⟩ := hI
  have hW := hCI.w
  refine tt_ar rfl ?_
  refine tt_ar rfl ?_
  refine tt_ar rfl ?_
  refine tt_ar rfl ?_
  refine tt_iadd (by omega) (by omega) ?_
  refine tt_iald (i + 1) (x := (xs (i + 1)).toInt) h1 (by omega) (by omega) (hx _) ?_
  refine tt_cv2 2 rfl (wo_2 hW) (c32 σ k nm ns D hCI (xs (i + 1)).toInt) ?_
  intro r1 σ1 hq1
  obtain ⟨hC1, rfl, hE1, hQ1⟩ := hq1
  have hW1 := hQ1.1 hW
  have hR1 := hQ1.rr hR
  have hx1 : ∀ j, σ1.1 1 j = (xs j).toInt := fun j => (hQ1.2.2 1 (by omega) j).trans (hx j)
  have h11 := hQ1.2.1 _ h1
  obtain ⟨z, hz⟩ := is_tear σ (xs (i + 1)).toInt
  rw [hz]
  refine tt_ar rfl ?_
  refine tt_ar rfl ?_
  refine tt_ar rfl ?_
  refine tt_ar rfl ?_
  refine tt_iadd (by omega) (by omega) ?_
  refine tt_iald (i + 1) (x := (xs (i + 1)).toInt) h11 (by omega) (by omega) (hx1 _) ?_
  refine tt_cv2 2 rfl (wo_76 hW1) (c185 σ σ1 k nm ns D hCI hW1 hR1 (xs (i + 1)).toInt) ?_
  intro r2 σ2 hq2
  obtain ⟨rfl, hR2, hQ2⟩ := hq2
  have hN : LwI L xs σ2 := lw_next hx h1 hC1 hE1 hQ1 hR2 hQ2
  rw [hz]
  exact tt_iceq (fun _ => K σ2 hN) (fun h => absurd rfl h)
theorem is_copy (A : am_S) (u v w x y : Int) : ∃ z, (x_copy A u v w x y).1 = vI z := by
  unfold x_copy
  (try unfold wOf)
  (repeat' split) <;> exact ⟨_, rfl⟩
theorem lw_b6 {L : Nat} {xs : Nat → Int32} {σ : am_S} {i : Nat} {Q : Option am_V → am_S → Prop} (hL : L ≤ 3072) (hi : i + 6 ≤ L) (hI : LwI L xs σ) (K : ∀ σ', LwI L xs σ' → TT am_b0 (am_b0.getD 50 []) [(0, vR 1), (1, vR 2), (2, vR 76), (3, vI ((i : Nat) : Int))] [] σ' Q) : TT am_b0 (am_b0.getD 6 []) [(0, vR 1), (1, vR 2), (2, vR 76), (3, vI ((i : Nat) : Int))] [] σ Q := by
  obtain ⟨⟨k, nm, ns, D, hCI, hR⟩, hx, h1⟩ := hI
  have hW := hCI.w
  refine tt_ar rfl ?_
  refine tt_ar rfl ?_
  refine tt_ar rfl ?_
  refine tt_ar rfl ?_
  refine tt_iadd (by omega) (by omega) ?_
  refine tt_iald (i + 1) (x := (xs (i + 1)).toInt) h1 (by omega) (by omega) (hx _) ?_
  refine tt_ar rfl ?_
  refine tt_ar rfl ?_
  refine tt_ar rfl ?_
  refine tt_iadd (by omega) (by omega) ?_
  refine tt_iald (i + 2) (x := (xs (i + 2)).toInt) h1 (by omega) (by omega) (hx _) ?_
  refine tt_ar rfl ?_
  refine tt_ar rfl ?_
  refine tt_ar rfl ?_
  refine tt_iadd (by omega) (by omega) ?_
  refine tt_iald (i + 3) (x := (xs (i + 3)).toInt) h1 (by omega) (by omega) (hx _) ?_
  refine tt_ar rfl ?_
  refine tt_ar rfl ?_
  refine tt_ar rfl ?_
  refine tt_iadd (by omega) (by omega) ?_
  refine tt_iald (i + 4) (x := (xs (i + 4)).toInt) h1 (by omega) (by omega) (hx _) ?_
  refine tt_ar rfl ?_
  refine tt_ar rfl ?_
  refine tt_ar rfl ?_
  refine tt_iadd (by omega) (by omega) ?_
  refine tt_iald (i + 5) (x := (xs (i + 5)).toInt) h1 (by omega) (by omega) (hx _) ?_
  refine tt_cv6 6 rfl (wo_2 hW) (c33 σ k nm ns D hCI (xs (i + 1)).toInt (xs (i + 2)).toInt (xs (i + 3)).toInt (xs (i + 4)).toInt (xs (i + 5)).toInt) ?_
  intro r1 σ1 hq1
  obtain ⟨hC1, rfl, hE1, hQ1⟩ := hq1
  have hW1 := hQ1.1 hW
  have hR1 := hQ1.rr hR
  have hx1 : ∀ j, σ1.1 1 j = (xs j).toInt := fun j => (hQ1.2.2 1 (by omega) j).trans (hx j)
  have h11 := hQ1.2.1 _ h1
  obtain ⟨z, hz⟩ := is_copy σ (xs (i + 1)).toInt (xs (i + 2)).toInt (xs (i + 3)).toInt (xs (i + 4)).toInt (xs (i + 5)).toInt
  rw [hz]
  refine tt_ar rfl ?_
  refine tt_ar rfl ?_
  refine tt_ar rfl ?_
  refine tt_ar rfl ?_
  refine tt_iadd (by omega) (by omega) ?_
  refine tt_iald (i + 1) (x := (xs (i + 1)).toInt) h11 (by omega) (by omega) (hx1 _) ?_
  refine tt_ar rfl ?_
  refine tt_ar rfl ?_
  refine tt_ar rfl ?_
  refine tt_iadd (by omega) (by omega) ?_
  refine tt_iald (i + 2) (x := (xs (i + 2)).toInt) h11 (by omega) (by omega) (hx1 _) ?_
  refine tt_ar rfl ?_
  refine tt_ar rfl ?_
  refine tt_ar rfl ?_
  refine tt_iadd (by omega) (by omega) ?_
  refine tt_iald (i + 3) (x := (xs (i + 3)).toInt) h11 (by omega) (by omega) (hx1 _) ?_
  refine tt_ar rfl ?_
  refine tt_ar rfl ?_
  refine tt_ar rfl ?_
  refine tt_iadd (by omega) (by omega) ?_
  refine tt_iald (i + 4) (x := (xs (i + 4)).toInt) h11 (by omega) (by omega) (hx1 _) ?_
  refine tt_ar rfl ?_
  refine tt_ar rfl ?_
  refine tt_ar rfl ?_
  refine tt_iadd (by omega) (by omega) ?_
  refine tt_iald (i + 5) (x := (xs (i + 5)).toInt) h11 (by omega) (by omega) (hx1 _) ?_
  refine tt_cv6 6 rfl (wo_76 hW1) (c186 σ σ1 k nm ns D hCI hW1 hR1 (xs (i + 1)).toInt (xs (i + 2)).toInt (xs (i + 3)).toInt (xs (i + 4)).toInt (xs (i + 5)).toInt ⟨xs_bd _, xs_bd _, (xs_bd _).2⟩) ?_
  intro r2 σ2 hq2
  obtain ⟨rfl, hR2, hQ2⟩ := hq2
  have hN : LwI L xs σ2 := lw_next hx h1 hC1 hE1 hQ1 hR2 hQ2
  rw [hz]
  exact tt_iceq (fun _ => K σ2 hN) (fun h => absurd rfl h)
theorem is_mean (A : am_S) (u : Int) : ∃ z, (x_mean A u).1 = vI z := by
  unfold x_mean
  (try unfold wOf)
  (repeat' split) <;> exact ⟨_, rfl⟩
theorem lw_b7 {L : Nat} {xs : Nat → Int32} {σ : am_S} {i : Nat} {Q : Option am_V → am_S → Prop} (hL : L ≤ 3072) (hi : i + 6 ≤ L) (hI : LwI L xs σ) (K : ∀ σ', LwI L xs σ' → TT am_b0 (am_b0.getD 50 []) [(0, vR 1), (1, vR 2), (2, vR 76), (3, vI ((i : Nat) : Int))] [] σ' Q) : TT am_b0 (am_b0.getD 7 []) [(0, vR 1), (1, vR 2), (2, vR 76), (3, vI ((i : Nat) : Int))] [] σ Q := by
  obtain ⟨⟨k, nm, ns, D, hCI, hR⟩, hx, h1⟩ := hI
  have hW := hCI.w
  refine tt_ar rfl ?_
  refine tt_ar rfl ?_
  refine tt_ar rfl ?_
  refine tt_ar rfl ?_
  refine tt_iadd (by omega) (by omega) ?_
  refine tt_iald (i + 1) (x := (xs (i + 1)).toInt) h1 (by omega) (by omega) (hx _) ?_
  refine tt_cv2 2 rfl (wo_2 hW) (c35 σ k nm ns D hCI (xs (i + 1)).toInt) ?_
  intro r1 σ1 hq1
  obtain ⟨hC1, rfl, hE1, hQ1⟩ := hq1
  have hW1 := hQ1.1 hW
  have hR1 := hQ1.rr hR
  have hx1 : ∀ j, σ1.1 1 j = (xs j).toInt := fun j => (hQ1.2.2 1 (by omega) j).trans (hx j)
  have h11 := hQ1.2.1 _ h1
  obtain ⟨z, hz⟩ := is_mean σ (xs (i + 1)).toInt
  rw [hz]
  refine tt_ar rfl ?_
  refine tt_ar rfl ?_
  refine tt_ar rfl ?_
  refine tt_ar rfl ?_
  refine tt_iadd (by omega) (by omega) ?_
  refine tt_iald (i + 1) (x := (xs (i + 1)).toInt) h11 (by omega) (by omega) (hx1 _) ?_
  refine tt_cv2 2 rfl (wo_76 hW1) (c187 σ σ1 k nm ns D hCI hW1 hR1 (xs (i + 1)).toInt) ?_
  intro r2 σ2 hq2
  obtain ⟨rfl, hR2, hQ2⟩ := hq2
  have hN : LwI L xs σ2 := lw_next hx h1 hC1 hE1 hQ1 hR2 hQ2
  rw [hz]
  exact tt_iceq (fun _ => K σ2 hN) (fun h => absurd rfl h)
theorem is_text (A : am_S) (u v : Int) : ∃ z, (x_text A u v).1 = vI z := by
  unfold x_text
  (try unfold wOf)
  (repeat' split) <;> exact ⟨_, rfl⟩
theorem lw_b8 {L : Nat} {xs : Nat → Int32} {σ : am_S} {i : Nat} {Q : Option am_V → am_S → Prop} (hL : L ≤ 3072) (hi : i + 6 ≤ L) (hI : LwI L xs σ) (K : ∀ σ', LwI L xs σ' → TT am_b0 (am_b0.getD 50 []) [(0, vR 1), (1, vR 2), (2, vR 76), (3, vI ((i : Nat) : Int))] [] σ' Q) : TT am_b0 (am_b0.getD 8 []) [(0, vR 1), (1, vR 2), (2, vR 76), (3, vI ((i : Nat) : Int))] [] σ Q := by
  obtain ⟨⟨k, nm, ns, D, hCI, hR⟩, hx, h1⟩ := hI
  have hW := hCI.w
  refine tt_ar rfl ?_
  refine tt_ar rfl ?_
  refine tt_ar rfl ?_
  refine tt_ar rfl ?_
  refine tt_iadd (by omega) (by omega) ?_
  refine tt_iald (i + 1) (x := (xs (i + 1)).toInt) h1 (by omega) (by omega) (hx _) ?_
  refine tt_ar rfl ?_
  refine tt_ar rfl ?_
  refine tt_ar rfl ?_
  refine tt_iadd (by omega) (by omega) ?_
  refine tt_iald (i + 2) (x := (xs (i + 2)).toInt) h1 (by omega) (by omega) (hx _) ?_
  refine tt_cv3 3 rfl (wo_2 hW) (c37 σ k nm ns D hCI (xs (i + 1)).toInt (xs (i + 2)).toInt) ?_
  intro r1 σ1 hq1
  obtain ⟨hC1, rfl, hE1, hQ1⟩ := hq1
  have hW1 := hQ1.1 hW
  have hR1 := hQ1.rr hR
  have hx1 : ∀ j, σ1.1 1 j = (xs j).toInt := fun j => (hQ1.2.2 1 (by omega) j).trans (hx j)
  have h11 := hQ1.2.1 _ h1
  obtain ⟨z, hz⟩ := is_text σ (xs (i + 1)).toInt (xs (i + 2)).toInt
  rw [hz]
  refine tt_ar rfl ?_
  refine tt_ar rfl ?_
  refine tt_ar rfl ?_
  refine tt_ar rfl ?_
  refine tt_iadd (by omega) (by omega) ?_
  refine tt_iald (i + 1) (x := (xs (i + 1)).toInt) h11 (by omega) (by omega) (hx1 _) ?_
  refine tt_ar rfl ?_
  refine tt_ar rfl ?_
  refine tt_ar rfl ?_
  refine tt_iadd (by omega) (by omega) ?_
  refine tt_iald (i + 2) (x := (xs (i + 2)).toInt) h11 (by omega) (by omega) (hx1 _) ?_
  refine tt_cv3 3 rfl (wo_76 hW1) (c188 σ σ1 k nm ns D hCI hW1 hR1 (xs (i + 1)).toInt (xs (i + 2)).toInt) ?_
  intro r2 σ2 hq2
  obtain ⟨rfl, hR2, hQ2⟩ := hq2
  have hN : LwI L xs σ2 := lw_next hx h1 hC1 hE1 hQ1 hR2 hQ2
  rw [hz]
  exact tt_iceq (fun _ => K σ2 hN) (fun h => absurd rfl h)
theorem is_put (A : am_S) (u v w : Int) : ∃ z, (x_put A u v w).1 = vI z := by
  unfold x_put
  (try unfold wOf)
  (repeat' split) <;> exact ⟨_, rfl⟩
theorem lw_b9 {L : Nat} {xs : Nat → Int32} {σ : am_S} {i : Nat} {Q : Option am_V → am_S → Prop} (hL : L ≤ 3072) (hi : i + 6 ≤ L) (hI : LwI L xs σ) (K : ∀ σ', LwI L xs σ' → TT am_b0 (am_b0.getD 50 []) [(0, vR 1), (1, vR 2), (2, vR 76), (3, vI ((i : Nat) : Int))] [] σ' Q) : TT am_b0 (am_b0.getD 9 []) [(0, vR 1), (1, vR 2), (2, vR 76), (3, vI ((i : Nat) : Int))] [] σ Q := by
  obtain ⟨⟨k, nm, ns, D, hCI, hR⟩, hx, h1⟩ := hI
  have hW := hCI.w
  refine tt_ar rfl ?_
  refine tt_ar rfl ?_
  refine tt_ar rfl ?_
  refine tt_ar rfl ?_
  refine tt_iadd (by omega) (by omega) ?_
  refine tt_iald (i + 1) (x := (xs (i + 1)).toInt) h1 (by omega) (by omega) (hx _) ?_
  refine tt_ar rfl ?_
  refine tt_ar rfl ?_
  refine tt_ar rfl ?_
  refine tt_iadd (by omega) (by omega) ?_
  refine tt_iald (i + 2) (x := (xs (i + 2)).toInt) h1 (by omega) (by omega) (hx _) ?_
  refine tt_ar rfl ?_
  refine tt_ar rfl ?_
  refine tt_ar rfl ?_
  refine tt_iadd (by omega) (by omega) ?_
  refine tt_iald (i + 3) (x := (xs (i + 3)).toInt) h1 (by omega) (by omega) (hx _) ?_
  refine tt_cv4 4 rfl (wo_2 hW) (c39 σ k nm ns D hCI (xs (i + 1)).toInt (xs (i + 2)).toInt (xs (i + 3)).toInt) ?_
  intro r1 σ1 hq1
  obtain ⟨hC1, rfl, hE1, hQ1⟩ := hq1
  have hW1 := hQ1.1 hW
  have hR1 := hQ1.rr hR
  have hx1 : ∀ j, σ1.1 1 j = (xs j).toInt := fun j => (hQ1.2.2 1 (by omega) j).trans (hx j)
  have h11 := hQ1.2.1 _ h1
  obtain ⟨z, hz⟩ := is_put σ (xs (i + 1)).toInt (xs (i + 2)).toInt (xs (i + 3)).toInt
  rw [hz]
  refine tt_ar rfl ?_
  refine tt_ar rfl ?_
  refine tt_ar rfl ?_
  refine tt_ar rfl ?_
  refine tt_iadd (by omega) (by omega) ?_
  refine tt_iald (i + 1) (x := (xs (i + 1)).toInt) h11 (by omega) (by omega) (hx1 _) ?_
  refine tt_ar rfl ?_
  refine tt_ar rfl ?_
  refine tt_ar rfl ?_
  refine tt_iadd (by omega) (by omega) ?_
  refine tt_iald (i + 2) (x := (xs (i + 2)).toInt) h11 (by omega) (by omega) (hx1 _) ?_
  refine tt_ar rfl ?_
  refine tt_ar rfl ?_
  refine tt_ar rfl ?_
  refine tt_iadd (by omega) (by omega) ?_
  refine tt_iald (i + 3) (x := (xs (i + 3)).toInt) h11 (by omega) (by omega) (hx1 _) ?_
  refine tt_cv4 4 rfl (wo_76 hW1) (c190 σ σ1 k nm ns D hCI hW1 hR1 (xs (i + 1)).toInt (xs (i + 2)).toInt (xs (i + 3)).toInt) ?_
  intro r2 σ2 hq2
  obtain ⟨rfl, hR2, hQ2⟩ := hq2
  have hN : LwI L xs σ2 := lw_next hx h1 hC1 hE1 hQ1 hR2 hQ2
  rw [hz]
  exact tt_iceq (fun _ => K σ2 hN) (fun h => absurd rfl h)
theorem is_fault (A : am_S) (u : Int) : ∃ z, (x_fault A u).1 = vI z := by
  unfold x_fault
  (try unfold wOf)
  (repeat' split) <;> exact ⟨_, rfl⟩
theorem lw_b10 {L : Nat} {xs : Nat → Int32} {σ : am_S} {i : Nat} {Q : Option am_V → am_S → Prop} (hL : L ≤ 3072) (hi : i + 6 ≤ L) (hI : LwI L xs σ) (K : ∀ σ', LwI L xs σ' → TT am_b0 (am_b0.getD 50 []) [(0, vR 1), (1, vR 2), (2, vR 76), (3, vI ((i : Nat) : Int))] [] σ' Q) : TT am_b0 (am_b0.getD 10 []) [(0, vR 1), (1, vR 2), (2, vR 76), (3, vI ((i : Nat) : Int))] [] σ Q := by
  obtain ⟨⟨k, nm, ns, D, hCI, hR⟩, hx, h1⟩ := hI
  have hW := hCI.w
  refine tt_ar rfl ?_
  refine tt_ar rfl ?_
  refine tt_ar rfl ?_
  refine tt_ar rfl ?_
  refine tt_iadd (by omega) (by omega) ?_
  refine tt_iald (i + 1) (x := (xs (i + 1)).toInt) h1 (by omega) (by omega) (hx _) ?_
  refine tt_cv2 2 rfl (wo_2 hW) (c40 σ k nm ns D hCI (xs (i + 1)).toInt) ?_
  intro r1 σ1 hq1
  obtain ⟨hC1, rfl, hE1, hQ1⟩ := hq1
  have hW1 := hQ1.1 hW
  have hR1 := hQ1.rr hR
  have hx1 : ∀ j, σ1.1 1 j = (xs j).toInt := fun j => (hQ1.2.2 1 (by omega) j).trans (hx j)
  have h11 := hQ1.2.1 _ h1
  obtain ⟨z, hz⟩ := is_fault σ (xs (i + 1)).toInt
  rw [hz]
  refine tt_ar rfl ?_
  refine tt_ar rfl ?_
  refine tt_ar rfl ?_
  refine tt_ar rfl ?_
  refine tt_iadd (by omega) (by omega) ?_
  refine tt_iald (i + 1) (x := (xs (i + 1)).toInt) h11 (by omega) (by omega) (hx1 _) ?_
  refine tt_cv2 2 rfl (wo_76 hW1) (c192 σ σ1 k nm ns D hCI hW1 hR1 (xs (i + 1)).toInt) ?_
  intro r2 σ2 hq2
  obtain ⟨rfl, hR2, hQ2⟩ := hq2
  have hN : LwI L xs σ2 := lw_next hx h1 hC1 hE1 hQ1 hR2 hQ2
  rw [hz]
  exact tt_iceq (fun _ => K σ2 hN) (fun h => absurd rfl h)
theorem is_world (A : am_S) (u : Int) : ∃ z, (x_world A u).1 = vI z := by
  unfold x_world
  (try unfold wOf)
  (repeat' split) <;> exact ⟨_, rfl⟩
theorem lw_b11 {L : Nat} {xs : Nat → Int32} {σ : am_S} {i : Nat} {Q : Option am_V → am_S → Prop} (hL : L ≤ 3072) (hi : i + 6 ≤ L) (hI : LwI L xs σ) (K : ∀ σ', LwI L xs σ' → TT am_b0 (am_b0.getD 50 []) [(0, vR 1), (1, vR 2), (2, vR 76), (3, vI ((i : Nat) : Int))] [] σ' Q) : TT am_b0 (am_b0.getD 11 []) [(0, vR 1), (1, vR 2), (2, vR 76), (3, vI ((i : Nat) : Int))] [] σ Q := by
  obtain ⟨⟨k, nm, ns, D, hCI, hR⟩, hx, h1⟩ := hI
  have hW := hCI.w
  refine tt_ar rfl ?_
  refine tt_ar rfl ?_
  refine tt_ar rfl ?_
  refine tt_ar rfl ?_
  refine tt_iadd (by omega) (by omega) ?_
  refine tt_iald (i + 1) (x := (xs (i + 1)).toInt) h1 (by omega) (by omega) (hx _) ?_
  refine tt_cv2 2 rfl (wo_2 hW) (c51 σ k nm ns D hCI (xs (i + 1)).toInt) ?_
  intro r1 σ1 hq1
  obtain ⟨hC1, rfl, hE1, hQ1⟩ := hq1
  have hW1 := hQ1.1 hW
  have hR1 := hQ1.rr hR
  have hx1 : ∀ j, σ1.1 1 j = (xs j).toInt := fun j => (hQ1.2.2 1 (by omega) j).trans (hx j)
  have h11 := hQ1.2.1 _ h1
  obtain ⟨z, hz⟩ := is_world σ (xs (i + 1)).toInt
  rw [hz]
  refine tt_ar rfl ?_
  refine tt_ar rfl ?_
  refine tt_ar rfl ?_
  refine tt_ar rfl ?_
  refine tt_iadd (by omega) (by omega) ?_
  refine tt_iald (i + 1) (x := (xs (i + 1)).toInt) h11 (by omega) (by omega) (hx1 _) ?_
  refine tt_cv2 2 rfl (wo_76 hW1) (c200 σ σ1 k nm ns D hCI hW1 hR1 (xs (i + 1)).toInt) ?_
  intro r2 σ2 hq2
  obtain ⟨rfl, hR2, hQ2⟩ := hq2
  have hN : LwI L xs σ2 := lw_next hx h1 hC1 hE1 hQ1 hR2 hQ2
  rw [hz]
  exact tt_iceq (fun _ => K σ2 hN) (fun h => absurd rfl h)
theorem is_wears (A : am_S) (u v : Int) : ∃ z, (x_wears A u v).1 = vI z := by
  unfold x_wears
  (try unfold wOf)
  (repeat' split) <;> exact ⟨_, rfl⟩
theorem lw_b12 {L : Nat} {xs : Nat → Int32} {σ : am_S} {i : Nat} {Q : Option am_V → am_S → Prop} (hL : L ≤ 3072) (hi : i + 6 ≤ L) (hI : LwI L xs σ) (K : ∀ σ', LwI L xs σ' → TT am_b0 (am_b0.getD 50 []) [(0, vR 1), (1, vR 2), (2, vR 76), (3, vI ((i : Nat) : Int))] [] σ' Q) : TT am_b0 (am_b0.getD 12 []) [(0, vR 1), (1, vR 2), (2, vR 76), (3, vI ((i : Nat) : Int))] [] σ Q := by
  obtain ⟨⟨k, nm, ns, D, hCI, hR⟩, hx, h1⟩ := hI
  have hW := hCI.w
  refine tt_ar rfl ?_
  refine tt_ar rfl ?_
  refine tt_ar rfl ?_
  refine tt_ar rfl ?_
  refine tt_iadd (by omega) (by omega) ?_
  refine tt_iald (i + 1) (x := (xs (i + 1)).toInt) h1 (by omega) (by omega) (hx _) ?_
  refine tt_ar rfl ?_
  refine tt_ar rfl ?_
  refine tt_ar rfl ?_
  refine tt_iadd (by omega) (by omega) ?_
  refine tt_iald (i + 2) (x := (xs (i + 2)).toInt) h1 (by omega) (by omega) (hx _) ?_
  refine tt_cv3 3 rfl (wo_2 hW) (c55 σ k nm ns D hCI (xs (i + 1)).toInt (xs (i + 2)).toInt) ?_
  intro r1 σ1 hq1
  obtain ⟨hC1, rfl, hE1, hQ1⟩ := hq1
  have hW1 := hQ1.1 hW
  have hR1 := hQ1.rr hR
  have hx1 : ∀ j, σ1.1 1 j = (xs j).toInt := fun j => (hQ1.2.2 1 (by omega) j).trans (hx j)
  have h11 := hQ1.2.1 _ h1
  obtain ⟨z, hz⟩ := is_wears σ (xs (i + 1)).toInt (xs (i + 2)).toInt
  rw [hz]
  refine tt_ar rfl ?_
  refine tt_ar rfl ?_
  refine tt_ar rfl ?_
  refine tt_ar rfl ?_
  refine tt_iadd (by omega) (by omega) ?_
  refine tt_iald (i + 1) (x := (xs (i + 1)).toInt) h11 (by omega) (by omega) (hx1 _) ?_
  refine tt_ar rfl ?_
  refine tt_ar rfl ?_
  refine tt_ar rfl ?_
  refine tt_iadd (by omega) (by omega) ?_
  refine tt_iald (i + 2) (x := (xs (i + 2)).toInt) h11 (by omega) (by omega) (hx1 _) ?_
  refine tt_cv3 3 rfl (wo_76 hW1) (c201 σ σ1 k nm ns D hCI hW1 hR1 (xs (i + 1)).toInt (xs (i + 2)).toInt) ?_
  intro r2 σ2 hq2
  obtain ⟨rfl, hR2, hQ2⟩ := hq2
  have hN : LwI L xs σ2 := lw_next hx h1 hC1 hE1 hQ1 hR2 hQ2
  rw [hz]
  exact tt_iceq (fun _ => K σ2 hN) (fun h => absurd rfl h)
theorem is_grows (A : am_S) (u : Int) : ∃ z, (x_grows A u).1 = vI z := by
  unfold x_grows
  (try unfold wOf)
  (repeat' split) <;> exact ⟨_, rfl⟩
theorem lw_b13 {L : Nat} {xs : Nat → Int32} {σ : am_S} {i : Nat} {Q : Option am_V → am_S → Prop} (hL : L ≤ 3072) (hi : i + 6 ≤ L) (hI : LwI L xs σ) (K : ∀ σ', LwI L xs σ' → TT am_b0 (am_b0.getD 50 []) [(0, vR 1), (1, vR 2), (2, vR 76), (3, vI ((i : Nat) : Int))] [] σ' Q) : TT am_b0 (am_b0.getD 13 []) [(0, vR 1), (1, vR 2), (2, vR 76), (3, vI ((i : Nat) : Int))] [] σ Q := by
  obtain ⟨⟨k, nm, ns, D, hCI, hR⟩, hx, h1⟩ := hI
  have hW := hCI.w
  refine tt_ar rfl ?_
  refine tt_ar rfl ?_
  refine tt_ar rfl ?_
  refine tt_ar rfl ?_
  refine tt_iadd (by omega) (by omega) ?_
  refine tt_iald (i + 1) (x := (xs (i + 1)).toInt) h1 (by omega) (by omega) (hx _) ?_
  refine tt_cv2 2 rfl (wo_2 hW) (c58 σ k nm ns D hCI (xs (i + 1)).toInt) ?_
  intro r1 σ1 hq1
  obtain ⟨hC1, rfl, hE1, hQ1⟩ := hq1
  have hW1 := hQ1.1 hW
  have hR1 := hQ1.rr hR
  have hx1 : ∀ j, σ1.1 1 j = (xs j).toInt := fun j => (hQ1.2.2 1 (by omega) j).trans (hx j)
  have h11 := hQ1.2.1 _ h1
  obtain ⟨z, hz⟩ := is_grows σ (xs (i + 1)).toInt
  rw [hz]
  refine tt_ar rfl ?_
  refine tt_ar rfl ?_
  refine tt_ar rfl ?_
  refine tt_ar rfl ?_
  refine tt_iadd (by omega) (by omega) ?_
  refine tt_iald (i + 1) (x := (xs (i + 1)).toInt) h11 (by omega) (by omega) (hx1 _) ?_
  refine tt_cv2 2 rfl (wo_76 hW1) (c204 σ σ1 k nm ns D hCI hW1 hR1 (xs (i + 1)).toInt) ?_
  intro r2 σ2 hq2
  obtain ⟨rfl, hR2, hQ2⟩ := hq2
  have hN : LwI L xs σ2 := lw_next hx h1 hC1 hE1 hQ1 hR2 hQ2
  rw [hz]
  exact tt_iceq (fun _ => K σ2 hN) (fun h => absurd rfl h)
theorem is_indoors (A : am_S) : ∃ z, (x_indoors A).1 = vI z := by
  unfold x_indoors
  (try unfold wOf)
  (repeat' split) <;> exact ⟨_, rfl⟩
theorem lw_b14 {L : Nat} {xs : Nat → Int32} {σ : am_S} {i : Nat} {Q : Option am_V → am_S → Prop} (hL : L ≤ 3072) (hi : i + 6 ≤ L) (hI : LwI L xs σ) (K : ∀ σ', LwI L xs σ' → TT am_b0 (am_b0.getD 50 []) [(0, vR 1), (1, vR 2), (2, vR 76), (3, vI ((i : Nat) : Int))] [] σ' Q) : TT am_b0 (am_b0.getD 14 []) [(0, vR 1), (1, vR 2), (2, vR 76), (3, vI ((i : Nat) : Int))] [] σ Q := by
  obtain ⟨⟨k, nm, ns, D, hCI, hR⟩, hx, h1⟩ := hI
  have hW := hCI.w
  refine tt_ar rfl ?_
  refine tt_cv1 1 rfl (wo_2 hW) (c59 σ k nm ns D hCI ) ?_
  intro r1 σ1 hq1
  obtain ⟨hC1, rfl, hE1, hQ1⟩ := hq1
  have hW1 := hQ1.1 hW
  have hR1 := hQ1.rr hR
  have hx1 : ∀ j, σ1.1 1 j = (xs j).toInt := fun j => (hQ1.2.2 1 (by omega) j).trans (hx j)
  have h11 := hQ1.2.1 _ h1
  obtain ⟨z, hz⟩ := is_indoors σ 
  rw [hz]
  refine tt_ar rfl ?_
  refine tt_cv1 1 rfl (wo_76 hW1) (c205 σ σ1 k nm ns D hCI hW1 hR1 ) ?_
  intro r2 σ2 hq2
  obtain ⟨rfl, hR2, hQ2⟩ := hq2
  have hN : LwI L xs σ2 := lw_next hx h1 hC1 hE1 hQ1 hR2 hQ2
  rw [hz]
  exact tt_iceq (fun _ => K σ2 hN) (fun h => absurd rfl h)
theorem is_price (A : am_S) (u v : Int) : ∃ z, (x_price A u v).1 = vI z := by
  unfold x_price
  (try unfold wOf)
  (repeat' split) <;> exact ⟨_, rfl⟩
theorem lw_b15 {L : Nat} {xs : Nat → Int32} {σ : am_S} {i : Nat} {Q : Option am_V → am_S → Prop} (hL : L ≤ 3072) (hi : i + 6 ≤ L) (hI : LwI L xs σ) (K : ∀ σ', LwI L xs σ' → TT am_b0 (am_b0.getD 50 []) [(0, vR 1), (1, vR 2), (2, vR 76), (3, vI ((i : Nat) : Int))] [] σ' Q) : TT am_b0 (am_b0.getD 15 []) [(0, vR 1), (1, vR 2), (2, vR 76), (3, vI ((i : Nat) : Int))] [] σ Q := by
  obtain ⟨⟨k, nm, ns, D, hCI, hR⟩, hx, h1⟩ := hI
  have hW := hCI.w
  refine tt_ar rfl ?_
  refine tt_ar rfl ?_
  refine tt_ar rfl ?_
  refine tt_ar rfl ?_
  refine tt_iadd (by omega) (by omega) ?_
  refine tt_iald (i + 1) (x := (xs (i + 1)).toInt) h1 (by omega) (by omega) (hx _) ?_
  refine tt_ar rfl ?_
  refine tt_ar rfl ?_
  refine tt_ar rfl ?_
  refine tt_iadd (by omega) (by omega) ?_
  refine tt_iald (i + 2) (x := (xs (i + 2)).toInt) h1 (by omega) (by omega) (hx _) ?_
  refine tt_cv3 3 rfl (wo_2 hW) (c60 σ k nm ns D hCI (xs (i + 1)).toInt (xs (i + 2)).toInt) ?_
  intro r1 σ1 hq1
  obtain ⟨hC1, rfl, hE1, hQ1⟩ := hq1
  have hW1 := hQ1.1 hW
  have hR1 := hQ1.rr hR
  have hx1 : ∀ j, σ1.1 1 j = (xs j).toInt := fun j => (hQ1.2.2 1 (by omega) j).trans (hx j)
  have h11 := hQ1.2.1 _ h1
  obtain ⟨z, hz⟩ := is_price σ (xs (i + 1)).toInt (xs (i + 2)).toInt
  rw [hz]
  refine tt_ar rfl ?_
  refine tt_ar rfl ?_
  refine tt_ar rfl ?_
  refine tt_ar rfl ?_
  refine tt_iadd (by omega) (by omega) ?_
  refine tt_iald (i + 1) (x := (xs (i + 1)).toInt) h11 (by omega) (by omega) (hx1 _) ?_
  refine tt_ar rfl ?_
  refine tt_ar rfl ?_
  refine tt_ar rfl ?_
  refine tt_iadd (by omega) (by omega) ?_
  refine tt_iald (i + 2) (x := (xs (i + 2)).toInt) h11 (by omega) (by omega) (hx1 _) ?_
  refine tt_cv3 3 rfl (wo_76 hW1) (c206 σ σ1 k nm ns D hCI hW1 hR1 (xs (i + 1)).toInt (xs (i + 2)).toInt) ?_
  intro r2 σ2 hq2
  obtain ⟨rfl, hR2, hQ2⟩ := hq2
  have hN : LwI L xs σ2 := lw_next hx h1 hC1 hE1 hQ1 hR2 hQ2
  rw [hz]
  exact tt_iceq (fun _ => K σ2 hN) (fun h => absurd rfl h)
theorem is_monday (A : am_S) (u v w : Int) : ∃ z, (x_monday A u v w).1 = vI z := by
  unfold x_monday
  (try unfold wOf)
  (repeat' split) <;> exact ⟨_, rfl⟩
theorem lw_b16 {L : Nat} {xs : Nat → Int32} {σ : am_S} {i : Nat} {Q : Option am_V → am_S → Prop} (hL : L ≤ 3072) (hi : i + 6 ≤ L) (hI : LwI L xs σ) (K : ∀ σ', LwI L xs σ' → TT am_b0 (am_b0.getD 50 []) [(0, vR 1), (1, vR 2), (2, vR 76), (3, vI ((i : Nat) : Int))] [] σ' Q) : TT am_b0 (am_b0.getD 16 []) [(0, vR 1), (1, vR 2), (2, vR 76), (3, vI ((i : Nat) : Int))] [] σ Q := by
  obtain ⟨⟨k, nm, ns, D, hCI, hR⟩, hx, h1⟩ := hI
  have hW := hCI.w
  refine tt_ar rfl ?_
  refine tt_ar rfl ?_
  refine tt_ar rfl ?_
  refine tt_ar rfl ?_
  refine tt_iadd (by omega) (by omega) ?_
  refine tt_iald (i + 1) (x := (xs (i + 1)).toInt) h1 (by omega) (by omega) (hx _) ?_
  refine tt_ar rfl ?_
  refine tt_ar rfl ?_
  refine tt_ar rfl ?_
  refine tt_iadd (by omega) (by omega) ?_
  refine tt_iald (i + 2) (x := (xs (i + 2)).toInt) h1 (by omega) (by omega) (hx _) ?_
  refine tt_ar rfl ?_
  refine tt_ar rfl ?_
  refine tt_ar rfl ?_
  refine tt_iadd (by omega) (by omega) ?_
  refine tt_iald (i + 3) (x := (xs (i + 3)).toInt) h1 (by omega) (by omega) (hx _) ?_
  refine tt_cv4 4 rfl (wo_2 hW) (c61 σ k nm ns D hCI (xs (i + 1)).toInt (xs (i + 2)).toInt (xs (i + 3)).toInt) ?_
  intro r1 σ1 hq1
  obtain ⟨hC1, rfl, hE1, hQ1⟩ := hq1
  have hW1 := hQ1.1 hW
  have hR1 := hQ1.rr hR
  have hx1 : ∀ j, σ1.1 1 j = (xs j).toInt := fun j => (hQ1.2.2 1 (by omega) j).trans (hx j)
  have h11 := hQ1.2.1 _ h1
  obtain ⟨z, hz⟩ := is_monday σ (xs (i + 1)).toInt (xs (i + 2)).toInt (xs (i + 3)).toInt
  rw [hz]
  refine tt_ar rfl ?_
  refine tt_ar rfl ?_
  refine tt_ar rfl ?_
  refine tt_ar rfl ?_
  refine tt_iadd (by omega) (by omega) ?_
  refine tt_iald (i + 1) (x := (xs (i + 1)).toInt) h11 (by omega) (by omega) (hx1 _) ?_
  refine tt_ar rfl ?_
  refine tt_ar rfl ?_
  refine tt_ar rfl ?_
  refine tt_iadd (by omega) (by omega) ?_
  refine tt_iald (i + 2) (x := (xs (i + 2)).toInt) h11 (by omega) (by omega) (hx1 _) ?_
  refine tt_ar rfl ?_
  refine tt_ar rfl ?_
  refine tt_ar rfl ?_
  refine tt_iadd (by omega) (by omega) ?_
  refine tt_iald (i + 3) (x := (xs (i + 3)).toInt) h11 (by omega) (by omega) (hx1 _) ?_
  refine tt_cv4 4 rfl (wo_76 hW1) (c207 σ σ1 k nm ns D hCI hW1 hR1 (xs (i + 1)).toInt (xs (i + 2)).toInt (xs (i + 3)).toInt) ?_
  intro r2 σ2 hq2
  obtain ⟨rfl, hR2, hQ2⟩ := hq2
  have hN : LwI L xs σ2 := lw_next hx h1 hC1 hE1 hQ1 hR2 hQ2
  rw [hz]
  exact tt_iceq (fun _ => K σ2 hN) (fun h => absurd rfl h)
theorem is_hung (A : am_S) (u v w : Int) : ∃ z, (x_hung A u v w).1 = vI z := by
  unfold x_hung
  (try unfold wOf)
  (repeat' split) <;> exact ⟨_, rfl⟩
theorem lw_b17 {L : Nat} {xs : Nat → Int32} {σ : am_S} {i : Nat} {Q : Option am_V → am_S → Prop} (hL : L ≤ 3072) (hi : i + 6 ≤ L) (hI : LwI L xs σ) (K : ∀ σ', LwI L xs σ' → TT am_b0 (am_b0.getD 50 []) [(0, vR 1), (1, vR 2), (2, vR 76), (3, vI ((i : Nat) : Int))] [] σ' Q) : TT am_b0 (am_b0.getD 17 []) [(0, vR 1), (1, vR 2), (2, vR 76), (3, vI ((i : Nat) : Int))] [] σ Q := by
  obtain ⟨⟨k, nm, ns, D, hCI, hR⟩, hx, h1⟩ := hI
  have hW := hCI.w
  refine tt_ar rfl ?_
  refine tt_ar rfl ?_
  refine tt_ar rfl ?_
  refine tt_ar rfl ?_
  refine tt_iadd (by omega) (by omega) ?_
  refine tt_iald (i + 1) (x := (xs (i + 1)).toInt) h1 (by omega) (by omega) (hx _) ?_
  refine tt_ar rfl ?_
  refine tt_ar rfl ?_
  refine tt_ar rfl ?_
  refine tt_iadd (by omega) (by omega) ?_
  refine tt_iald (i + 2) (x := (xs (i + 2)).toInt) h1 (by omega) (by omega) (hx _) ?_
  refine tt_ar rfl ?_
  refine tt_ar rfl ?_
  refine tt_ar rfl ?_
  refine tt_iadd (by omega) (by omega) ?_
  refine tt_iald (i + 3) (x := (xs (i + 3)).toInt) h1 (by omega) (by omega) (hx _) ?_
  refine tt_cv4 4 rfl (wo_2 hW) (c65 σ k nm ns D hCI (xs (i + 1)).toInt (xs (i + 2)).toInt (xs (i + 3)).toInt) ?_
  intro r1 σ1 hq1
  obtain ⟨hC1, rfl, hE1, hQ1⟩ := hq1
  have hW1 := hQ1.1 hW
  have hR1 := hQ1.rr hR
  have hx1 : ∀ j, σ1.1 1 j = (xs j).toInt := fun j => (hQ1.2.2 1 (by omega) j).trans (hx j)
  have h11 := hQ1.2.1 _ h1
  obtain ⟨z, hz⟩ := is_hung σ (xs (i + 1)).toInt (xs (i + 2)).toInt (xs (i + 3)).toInt
  rw [hz]
  refine tt_ar rfl ?_
  refine tt_ar rfl ?_
  refine tt_ar rfl ?_
  refine tt_ar rfl ?_
  refine tt_iadd (by omega) (by omega) ?_
  refine tt_iald (i + 1) (x := (xs (i + 1)).toInt) h11 (by omega) (by omega) (hx1 _) ?_
  refine tt_ar rfl ?_
  refine tt_ar rfl ?_
  refine tt_ar rfl ?_
  refine tt_iadd (by omega) (by omega) ?_
  refine tt_iald (i + 2) (x := (xs (i + 2)).toInt) h11 (by omega) (by omega) (hx1 _) ?_
  refine tt_ar rfl ?_
  refine tt_ar rfl ?_
  refine tt_ar rfl ?_
  refine tt_iadd (by omega) (by omega) ?_
  refine tt_iald (i + 3) (x := (xs (i + 3)).toInt) h11 (by omega) (by omega) (hx1 _) ?_
  refine tt_cv4 4 rfl (wo_76 hW1) (c208 σ σ1 k nm ns D hCI hW1 hR1 (xs (i + 1)).toInt (xs (i + 2)).toInt (xs (i + 3)).toInt) ?_
  intro r2 σ2 hq2
  obtain ⟨rfl, hR2, hQ2⟩ := hq2
  have hN : LwI L xs σ2 := lw_next hx h1 hC1 hE1 hQ1 hR2 hQ2
  rw [hz]
  exact tt_iceq (fun _ => K σ2 hN) (fun h => absurd rfl h)
theorem is_told (A : am_S) (u v : Int) : ∃ z, (x_told A u v).1 = vI z := by
  unfold x_told
  (try unfold wOf)
  (repeat' split) <;> exact ⟨_, rfl⟩
theorem lw_b18 {L : Nat} {xs : Nat → Int32} {σ : am_S} {i : Nat} {Q : Option am_V → am_S → Prop} (hL : L ≤ 3072) (hi : i + 6 ≤ L) (hI : LwI L xs σ) (K : ∀ σ', LwI L xs σ' → TT am_b0 (am_b0.getD 50 []) [(0, vR 1), (1, vR 2), (2, vR 76), (3, vI ((i : Nat) : Int))] [] σ' Q) : TT am_b0 (am_b0.getD 18 []) [(0, vR 1), (1, vR 2), (2, vR 76), (3, vI ((i : Nat) : Int))] [] σ Q := by
  obtain ⟨⟨k, nm, ns, D, hCI, hR⟩, hx, h1⟩ := hI
  have hW := hCI.w
  refine tt_ar rfl ?_
  refine tt_ar rfl ?_
  refine tt_ar rfl ?_
  refine tt_ar rfl ?_
  refine tt_iadd (by omega) (by omega) ?_
  refine tt_iald (i + 1) (x := (xs (i + 1)).toInt) h1 (by omega) (by omega) (hx _) ?_
  refine tt_ar rfl ?_
  refine tt_ar rfl ?_
  refine tt_ar rfl ?_
  refine tt_iadd (by omega) (by omega) ?_
  refine tt_iald (i + 2) (x := (xs (i + 2)).toInt) h1 (by omega) (by omega) (hx _) ?_
  refine tt_cv3 3 rfl (wo_2 hW) (c67 σ k nm ns D hCI (xs (i + 1)).toInt (xs (i + 2)).toInt) ?_
  intro r1 σ1 hq1
  obtain ⟨hC1, rfl, hE1, hQ1⟩ := hq1
  have hW1 := hQ1.1 hW
  have hR1 := hQ1.rr hR
  have hx1 : ∀ j, σ1.1 1 j = (xs j).toInt := fun j => (hQ1.2.2 1 (by omega) j).trans (hx j)
  have h11 := hQ1.2.1 _ h1
  obtain ⟨z, hz⟩ := is_told σ (xs (i + 1)).toInt (xs (i + 2)).toInt
  rw [hz]
  refine tt_ar rfl ?_
  refine tt_ar rfl ?_
  refine tt_ar rfl ?_
  refine tt_ar rfl ?_
  refine tt_iadd (by omega) (by omega) ?_
  refine tt_iald (i + 1) (x := (xs (i + 1)).toInt) h11 (by omega) (by omega) (hx1 _) ?_
  refine tt_ar rfl ?_
  refine tt_ar rfl ?_
  refine tt_ar rfl ?_
  refine tt_iadd (by omega) (by omega) ?_
  refine tt_iald (i + 2) (x := (xs (i + 2)).toInt) h11 (by omega) (by omega) (hx1 _) ?_
  refine tt_cv3 3 rfl (wo_76 hW1) (c211 σ σ1 k nm ns D hCI hW1 hR1 (xs (i + 1)).toInt (xs (i + 2)).toInt) ?_
  intro r2 σ2 hq2
  obtain ⟨rfl, hR2, hQ2⟩ := hq2
  have hN : LwI L xs σ2 := lw_next hx h1 hC1 hE1 hQ1 hR2 hQ2
  rw [hz]
  exact tt_iceq (fun _ => K σ2 hN) (fun h => absurd rfl h)
theorem is_back (A : am_S) (u : Int) : ∃ z, (x_back A u).1 = vI z := by
  unfold x_back
  (try unfold wOf)
  (repeat' split) <;> exact ⟨_, rfl⟩
theorem lw_b19 {L : Nat} {xs : Nat → Int32} {σ : am_S} {i : Nat} {Q : Option am_V → am_S → Prop} (hL : L ≤ 3072) (hi : i + 6 ≤ L) (hI : LwI L xs σ) (K : ∀ σ', LwI L xs σ' → TT am_b0 (am_b0.getD 50 []) [(0, vR 1), (1, vR 2), (2, vR 76), (3, vI ((i : Nat) : Int))] [] σ' Q) : TT am_b0 (am_b0.getD 19 []) [(0, vR 1), (1, vR 2), (2, vR 76), (3, vI ((i : Nat) : Int))] [] σ Q := by
  obtain ⟨⟨k, nm, ns, D, hCI, hR⟩, hx, h1⟩ := hI
  have hW := hCI.w
  refine tt_ar rfl ?_
  refine tt_ar rfl ?_
  refine tt_ar rfl ?_
  refine tt_ar rfl ?_
  refine tt_iadd (by omega) (by omega) ?_
  refine tt_iald (i + 1) (x := (xs (i + 1)).toInt) h1 (by omega) (by omega) (hx _) ?_
  refine tt_cv2 2 rfl (wo_2 hW) (c69 σ k nm ns D hCI (xs (i + 1)).toInt) ?_
  intro r1 σ1 hq1
  obtain ⟨hC1, rfl, hE1, hQ1⟩ := hq1
  have hW1 := hQ1.1 hW
  have hR1 := hQ1.rr hR
  have hx1 : ∀ j, σ1.1 1 j = (xs j).toInt := fun j => (hQ1.2.2 1 (by omega) j).trans (hx j)
  have h11 := hQ1.2.1 _ h1
  obtain ⟨z, hz⟩ := is_back σ (xs (i + 1)).toInt
  rw [hz]
  refine tt_ar rfl ?_
  refine tt_ar rfl ?_
  refine tt_ar rfl ?_
  refine tt_ar rfl ?_
  refine tt_iadd (by omega) (by omega) ?_
  refine tt_iald (i + 1) (x := (xs (i + 1)).toInt) h11 (by omega) (by omega) (hx1 _) ?_
  refine tt_cv2 2 rfl (wo_76 hW1) (c212 σ σ1 k nm ns D hCI hW1 hR1 (xs (i + 1)).toInt) ?_
  intro r2 σ2 hq2
  obtain ⟨rfl, hR2, hQ2⟩ := hq2
  have hN : LwI L xs σ2 := lw_next hx h1 hC1 hE1 hQ1 hR2 hQ2
  rw [hz]
  exact tt_iceq (fun _ => K σ2 hN) (fun h => absurd rfl h)
theorem is_hangs (k : Nat) (A : am_S) (u v w : Int) : ∃ z, (x_hangs k A u v w).1 = vI z := by
  unfold x_hangs
  (try unfold wOf)
  (repeat' split) <;> exact ⟨_, rfl⟩
theorem lw_b20 {L : Nat} {xs : Nat → Int32} {σ : am_S} {i : Nat} {Q : Option am_V → am_S → Prop} (hL : L ≤ 3072) (hi : i + 6 ≤ L) (hI : LwI L xs σ) (K : ∀ σ', LwI L xs σ' → TT am_b0 (am_b0.getD 50 []) [(0, vR 1), (1, vR 2), (2, vR 76), (3, vI ((i : Nat) : Int))] [] σ' Q) : TT am_b0 (am_b0.getD 20 []) [(0, vR 1), (1, vR 2), (2, vR 76), (3, vI ((i : Nat) : Int))] [] σ Q := by
  obtain ⟨⟨k, nm, ns, D, hCI, hR⟩, hx, h1⟩ := hI
  have hW := hCI.w
  refine tt_ar rfl ?_
  refine tt_ar rfl ?_
  refine tt_ar rfl ?_
  refine tt_ar rfl ?_
  refine tt_iadd (by omega) (by omega) ?_
  refine tt_iald (i + 1) (x := (xs (i + 1)).toInt) h1 (by omega) (by omega) (hx _) ?_
  refine tt_ar rfl ?_
  refine tt_ar rfl ?_
  refine tt_ar rfl ?_
  refine tt_iadd (by omega) (by omega) ?_
  refine tt_iald (i + 2) (x := (xs (i + 2)).toInt) h1 (by omega) (by omega) (hx _) ?_
  refine tt_ar rfl ?_
  refine tt_ar rfl ?_
  refine tt_ar rfl ?_
  refine tt_iadd (by omega) (by omega) ?_
  refine tt_iald (i + 3) (x := (xs (i + 3)).toInt) h1 (by omega) (by omega) (hx _) ?_
  refine tt_cv4 4 rfl (wo_2 hW) (c70 σ k nm ns D hCI (xs (i + 1)).toInt (xs (i + 2)).toInt (xs (i + 3)).toInt) ?_
  intro r1 σ1 hq1
  obtain ⟨hC1, rfl, hE1, hQ1⟩ := hq1
  have hW1 := hQ1.1 hW
  have hR1 := hQ1.rr hR
  have hx1 : ∀ j, σ1.1 1 j = (xs j).toInt := fun j => (hQ1.2.2 1 (by omega) j).trans (hx j)
  have h11 := hQ1.2.1 _ h1
  obtain ⟨z, hz⟩ := is_hangs k σ (xs (i + 1)).toInt (xs (i + 2)).toInt (xs (i + 3)).toInt
  rw [hz]
  refine tt_ar rfl ?_
  refine tt_ar rfl ?_
  refine tt_ar rfl ?_
  refine tt_ar rfl ?_
  refine tt_iadd (by omega) (by omega) ?_
  refine tt_iald (i + 1) (x := (xs (i + 1)).toInt) h11 (by omega) (by omega) (hx1 _) ?_
  refine tt_ar rfl ?_
  refine tt_ar rfl ?_
  refine tt_ar rfl ?_
  refine tt_iadd (by omega) (by omega) ?_
  refine tt_iald (i + 2) (x := (xs (i + 2)).toInt) h11 (by omega) (by omega) (hx1 _) ?_
  refine tt_ar rfl ?_
  refine tt_ar rfl ?_
  refine tt_ar rfl ?_
  refine tt_iadd (by omega) (by omega) ?_
  refine tt_iald (i + 3) (x := (xs (i + 3)).toInt) h11 (by omega) (by omega) (hx1 _) ?_
  refine tt_cv4 4 rfl (wo_76 hW1) (c213 σ σ1 k nm ns D hCI hW1 hR1 (xs (i + 1)).toInt (xs (i + 2)).toInt (xs (i + 3)).toInt) ?_
  intro r2 σ2 hq2
  obtain ⟨rfl, hR2, hQ2⟩ := hq2
  have hN : LwI L xs σ2 := lw_next hx h1 hC1 hE1 hQ1 hR2 hQ2
  rw [hz]
  exact tt_iceq (fun _ => K σ2 hN) (fun h => absurd rfl h)
theorem is_explains (k : Nat) (A : am_S) (u v : Int) : ∃ z, (x_explains k A u v).1 = vI z := by
  unfold x_explains
  (try unfold wOf)
  (repeat' split) <;> exact ⟨_, rfl⟩
theorem lw_b21 {L : Nat} {xs : Nat → Int32} {σ : am_S} {i : Nat} {Q : Option am_V → am_S → Prop} (hL : L ≤ 3072) (hi : i + 6 ≤ L) (hI : LwI L xs σ) (K : ∀ σ', LwI L xs σ' → TT am_b0 (am_b0.getD 50 []) [(0, vR 1), (1, vR 2), (2, vR 76), (3, vI ((i : Nat) : Int))] [] σ' Q) : TT am_b0 (am_b0.getD 21 []) [(0, vR 1), (1, vR 2), (2, vR 76), (3, vI ((i : Nat) : Int))] [] σ Q := by
  obtain ⟨⟨k, nm, ns, D, hCI, hR⟩, hx, h1⟩ := hI
  have hW := hCI.w
  refine tt_ar rfl ?_
  refine tt_ar rfl ?_
  refine tt_ar rfl ?_
  refine tt_ar rfl ?_
  refine tt_iadd (by omega) (by omega) ?_
  refine tt_iald (i + 1) (x := (xs (i + 1)).toInt) h1 (by omega) (by omega) (hx _) ?_
  refine tt_ar rfl ?_
  refine tt_ar rfl ?_
  refine tt_ar rfl ?_
  refine tt_iadd (by omega) (by omega) ?_
  refine tt_iald (i + 2) (x := (xs (i + 2)).toInt) h1 (by omega) (by omega) (hx _) ?_
  refine tt_cv3 3 rfl (wo_2 hW) (c73 σ k nm ns D hCI (xs (i + 1)).toInt (xs (i + 2)).toInt) ?_
  intro r1 σ1 hq1
  obtain ⟨hC1, rfl, hE1, hQ1⟩ := hq1
  have hW1 := hQ1.1 hW
  have hR1 := hQ1.rr hR
  have hx1 : ∀ j, σ1.1 1 j = (xs j).toInt := fun j => (hQ1.2.2 1 (by omega) j).trans (hx j)
  have h11 := hQ1.2.1 _ h1
  obtain ⟨z, hz⟩ := is_explains k σ (xs (i + 1)).toInt (xs (i + 2)).toInt
  rw [hz]
  refine tt_ar rfl ?_
  refine tt_ar rfl ?_
  refine tt_ar rfl ?_
  refine tt_ar rfl ?_
  refine tt_iadd (by omega) (by omega) ?_
  refine tt_iald (i + 1) (x := (xs (i + 1)).toInt) h11 (by omega) (by omega) (hx1 _) ?_
  refine tt_ar rfl ?_
  refine tt_ar rfl ?_
  refine tt_ar rfl ?_
  refine tt_iadd (by omega) (by omega) ?_
  refine tt_iald (i + 2) (x := (xs (i + 2)).toInt) h11 (by omega) (by omega) (hx1 _) ?_
  refine tt_cv3 3 rfl (wo_76 hW1) (c218 σ σ1 k nm ns D hCI hW1 hR1 (xs (i + 1)).toInt (xs (i + 2)).toInt) ?_
  intro r2 σ2 hq2
  obtain ⟨rfl, hR2, hQ2⟩ := hq2
  have hN : LwI L xs σ2 := lw_next hx h1 hC1 hE1 hQ1 hR2 hQ2
  rw [hz]
  exact tt_iceq (fun _ => K σ2 hN) (fun h => absurd rfl h)
theorem is_lacks (k : Nat) (A : am_S) (u v : Int) : ∃ z, (x_lacks k A u v).1 = vI z := by
  unfold x_lacks
  (try unfold wOf)
  (repeat' split) <;> exact ⟨_, rfl⟩
theorem lw_b22 {L : Nat} {xs : Nat → Int32} {σ : am_S} {i : Nat} {Q : Option am_V → am_S → Prop} (hL : L ≤ 3072) (hi : i + 6 ≤ L) (hI : LwI L xs σ) (K : ∀ σ', LwI L xs σ' → TT am_b0 (am_b0.getD 50 []) [(0, vR 1), (1, vR 2), (2, vR 76), (3, vI ((i : Nat) : Int))] [] σ' Q) : TT am_b0 (am_b0.getD 22 []) [(0, vR 1), (1, vR 2), (2, vR 76), (3, vI ((i : Nat) : Int))] [] σ Q := by
  obtain ⟨⟨k, nm, ns, D, hCI, hR⟩, hx, h1⟩ := hI
  have hW := hCI.w
  refine tt_ar rfl ?_
  refine tt_ar rfl ?_
  refine tt_ar rfl ?_
  refine tt_ar rfl ?_
  refine tt_iadd (by omega) (by omega) ?_
  refine tt_iald (i + 1) (x := (xs (i + 1)).toInt) h1 (by omega) (by omega) (hx _) ?_
  refine tt_ar rfl ?_
  refine tt_ar rfl ?_
  refine tt_ar rfl ?_
  refine tt_iadd (by omega) (by omega) ?_
  refine tt_iald (i + 2) (x := (xs (i + 2)).toInt) h1 (by omega) (by omega) (hx _) ?_
  refine tt_cv3 3 rfl (wo_2 hW) (c82 σ k nm ns D hCI (xs (i + 1)).toInt (xs (i + 2)).toInt) ?_
  intro r1 σ1 hq1
  obtain ⟨hC1, rfl, hE1, hQ1⟩ := hq1
  have hW1 := hQ1.1 hW
  have hR1 := hQ1.rr hR
  have hx1 : ∀ j, σ1.1 1 j = (xs j).toInt := fun j => (hQ1.2.2 1 (by omega) j).trans (hx j)
  have h11 := hQ1.2.1 _ h1
  obtain ⟨z, hz⟩ := is_lacks k σ (xs (i + 1)).toInt (xs (i + 2)).toInt
  rw [hz]
  refine tt_ar rfl ?_
  refine tt_ar rfl ?_
  refine tt_ar rfl ?_
  refine tt_ar rfl ?_
  refine tt_iadd (by omega) (by omega) ?_
  refine tt_iald (i + 1) (x := (xs (i + 1)).toInt) h11 (by omega) (by omega) (hx1 _) ?_
  refine tt_ar rfl ?_
  refine tt_ar rfl ?_
  refine tt_ar rfl ?_
  refine tt_iadd (by omega) (by omega) ?_
  refine tt_iald (i + 2) (x := (xs (i + 2)).toInt) h11 (by omega) (by omega) (hx1 _) ?_
  refine tt_cv3 3 rfl (wo_76 hW1) (c222 σ σ1 k nm ns D hCI hW1 hR1 (xs (i + 1)).toInt (xs (i + 2)).toInt) ?_
  intro r2 σ2 hq2
  obtain ⟨rfl, hR2, hQ2⟩ := hq2
  have hN : LwI L xs σ2 := lw_next hx h1 hC1 hE1 hQ1 hR2 hQ2
  rw [hz]
  exact tt_iceq (fun _ => K σ2 hN) (fun h => absurd rfl h)
theorem is_fewest (k : Nat) (A : am_S) (u : Int) : ∃ z, (x_fewest k A u).1 = vI z := by
  unfold x_fewest
  (try unfold wOf)
  (repeat' split) <;> exact ⟨_, rfl⟩
theorem lw_b23 {L : Nat} {xs : Nat → Int32} {σ : am_S} {i : Nat} {Q : Option am_V → am_S → Prop} (hL : L ≤ 3072) (hi : i + 6 ≤ L) (hI : LwI L xs σ) (K : ∀ σ', LwI L xs σ' → TT am_b0 (am_b0.getD 50 []) [(0, vR 1), (1, vR 2), (2, vR 76), (3, vI ((i : Nat) : Int))] [] σ' Q) : TT am_b0 (am_b0.getD 23 []) [(0, vR 1), (1, vR 2), (2, vR 76), (3, vI ((i : Nat) : Int))] [] σ Q := by
  obtain ⟨⟨k, nm, ns, D, hCI, hR⟩, hx, h1⟩ := hI
  have hW := hCI.w
  refine tt_ar rfl ?_
  refine tt_ar rfl ?_
  refine tt_ar rfl ?_
  refine tt_ar rfl ?_
  refine tt_iadd (by omega) (by omega) ?_
  refine tt_iald (i + 1) (x := (xs (i + 1)).toInt) h1 (by omega) (by omega) (hx _) ?_
  refine tt_cv2 2 rfl (wo_2 hW) (c85 σ k nm ns D hCI (xs (i + 1)).toInt) ?_
  intro r1 σ1 hq1
  obtain ⟨hC1, rfl, hE1, hQ1⟩ := hq1
  have hW1 := hQ1.1 hW
  have hR1 := hQ1.rr hR
  have hx1 : ∀ j, σ1.1 1 j = (xs j).toInt := fun j => (hQ1.2.2 1 (by omega) j).trans (hx j)
  have h11 := hQ1.2.1 _ h1
  obtain ⟨z, hz⟩ := is_fewest k σ (xs (i + 1)).toInt
  rw [hz]
  refine tt_ar rfl ?_
  refine tt_ar rfl ?_
  refine tt_ar rfl ?_
  refine tt_ar rfl ?_
  refine tt_iadd (by omega) (by omega) ?_
  refine tt_iald (i + 1) (x := (xs (i + 1)).toInt) h11 (by omega) (by omega) (hx1 _) ?_
  refine tt_cv2 2 rfl (wo_76 hW1) (c223 σ σ1 k nm ns D hCI hW1 hR1 (xs (i + 1)).toInt) ?_
  intro r2 σ2 hq2
  obtain ⟨rfl, hR2, hQ2⟩ := hq2
  have hN : LwI L xs σ2 := lw_next hx h1 hC1 hE1 hQ1 hR2 hQ2
  rw [hz]
  exact tt_iceq (fun _ => K σ2 hN) (fun h => absurd rfl h)
theorem is_bound (k : Nat) (A : am_S) (u : Int) : ∃ z, (x_bound k A u).1 = vI z := by
  unfold x_bound
  (try unfold wOf)
  (repeat' split) <;> exact ⟨_, rfl⟩
theorem lw_b24 {L : Nat} {xs : Nat → Int32} {σ : am_S} {i : Nat} {Q : Option am_V → am_S → Prop} (hL : L ≤ 3072) (hi : i + 6 ≤ L) (hI : LwI L xs σ) (K : ∀ σ', LwI L xs σ' → TT am_b0 (am_b0.getD 50 []) [(0, vR 1), (1, vR 2), (2, vR 76), (3, vI ((i : Nat) : Int))] [] σ' Q) : TT am_b0 (am_b0.getD 24 []) [(0, vR 1), (1, vR 2), (2, vR 76), (3, vI ((i : Nat) : Int))] [] σ Q := by
  obtain ⟨⟨k, nm, ns, D, hCI, hR⟩, hx, h1⟩ := hI
  have hW := hCI.w
  refine tt_ar rfl ?_
  refine tt_ar rfl ?_
  refine tt_ar rfl ?_
  refine tt_ar rfl ?_
  refine tt_iadd (by omega) (by omega) ?_
  refine tt_iald (i + 1) (x := (xs (i + 1)).toInt) h1 (by omega) (by omega) (hx _) ?_
  refine tt_cv2 2 rfl (wo_2 hW) (c87 σ k nm ns D hCI (xs (i + 1)).toInt) ?_
  intro r1 σ1 hq1
  obtain ⟨hC1, rfl, hE1, hQ1⟩ := hq1
  have hW1 := hQ1.1 hW
  have hR1 := hQ1.rr hR
  have hx1 : ∀ j, σ1.1 1 j = (xs j).toInt := fun j => (hQ1.2.2 1 (by omega) j).trans (hx j)
  have h11 := hQ1.2.1 _ h1
  obtain ⟨z, hz⟩ := is_bound k σ (xs (i + 1)).toInt
  rw [hz]
  refine tt_ar rfl ?_
  refine tt_ar rfl ?_
  refine tt_ar rfl ?_
  refine tt_ar rfl ?_
  refine tt_iadd (by omega) (by omega) ?_
  refine tt_iald (i + 1) (x := (xs (i + 1)).toInt) h11 (by omega) (by omega) (hx1 _) ?_
  refine tt_cv2 2 rfl (wo_76 hW1) (c225 σ σ1 k nm ns D hCI hW1 hR1 (xs (i + 1)).toInt) ?_
  intro r2 σ2 hq2
  obtain ⟨rfl, hR2, hQ2⟩ := hq2
  have hN : LwI L xs σ2 := lw_next hx h1 hC1 hE1 hQ1 hR2 hQ2
  rw [hz]
  exact tt_iceq (fun _ => K σ2 hN) (fun h => absurd rfl h)
theorem is_many (k : Nat) (A : am_S) (u v : Int) : ∃ z, (x_many k A u v).1 = vI z := by
  unfold x_many
  (try unfold wOf)
  (repeat' split) <;> exact ⟨_, rfl⟩
theorem lw_b25 {L : Nat} {xs : Nat → Int32} {σ : am_S} {i : Nat} {Q : Option am_V → am_S → Prop} (hL : L ≤ 3072) (hi : i + 6 ≤ L) (hI : LwI L xs σ) (K : ∀ σ', LwI L xs σ' → TT am_b0 (am_b0.getD 50 []) [(0, vR 1), (1, vR 2), (2, vR 76), (3, vI ((i : Nat) : Int))] [] σ' Q) : TT am_b0 (am_b0.getD 25 []) [(0, vR 1), (1, vR 2), (2, vR 76), (3, vI ((i : Nat) : Int))] [] σ Q := by
  obtain ⟨⟨k, nm, ns, D, hCI, hR⟩, hx, h1⟩ := hI
  have hW := hCI.w
  refine tt_ar rfl ?_
  refine tt_ar rfl ?_
  refine tt_ar rfl ?_
  refine tt_ar rfl ?_
  refine tt_iadd (by omega) (by omega) ?_
  refine tt_iald (i + 1) (x := (xs (i + 1)).toInt) h1 (by omega) (by omega) (hx _) ?_
  refine tt_ar rfl ?_
  refine tt_ar rfl ?_
  refine tt_ar rfl ?_
  refine tt_iadd (by omega) (by omega) ?_
  refine tt_iald (i + 2) (x := (xs (i + 2)).toInt) h1 (by omega) (by omega) (hx _) ?_
  refine tt_cv3 3 rfl (wo_2 hW) (c90 σ k nm ns D hCI (xs (i + 1)).toInt (xs (i + 2)).toInt) ?_
  intro r1 σ1 hq1
  obtain ⟨hC1, rfl, hE1, hQ1⟩ := hq1
  have hW1 := hQ1.1 hW
  have hR1 := hQ1.rr hR
  have hx1 : ∀ j, σ1.1 1 j = (xs j).toInt := fun j => (hQ1.2.2 1 (by omega) j).trans (hx j)
  have h11 := hQ1.2.1 _ h1
  obtain ⟨z, hz⟩ := is_many k σ (xs (i + 1)).toInt (xs (i + 2)).toInt
  rw [hz]
  refine tt_ar rfl ?_
  refine tt_ar rfl ?_
  refine tt_ar rfl ?_
  refine tt_ar rfl ?_
  refine tt_iadd (by omega) (by omega) ?_
  refine tt_iald (i + 1) (x := (xs (i + 1)).toInt) h11 (by omega) (by omega) (hx1 _) ?_
  refine tt_ar rfl ?_
  refine tt_ar rfl ?_
  refine tt_ar rfl ?_
  refine tt_iadd (by omega) (by omega) ?_
  refine tt_iald (i + 2) (x := (xs (i + 2)).toInt) h11 (by omega) (by omega) (hx1 _) ?_
  refine tt_cv3 3 rfl (wo_76 hW1) (c227 σ σ1 k nm ns D hCI hW1 hR1 (xs (i + 1)).toInt (xs (i + 2)).toInt) ?_
  intro r2 σ2 hq2
  obtain ⟨rfl, hR2, hQ2⟩ := hq2
  have hN : LwI L xs σ2 := lw_next hx h1 hC1 hE1 hQ1 hR2 hQ2
  rw [hz]
  exact tt_iceq (fun _ => K σ2 hN) (fun h => absurd rfl h)
theorem is_step (k : Nat) (D : Nat → Nat → Int) (A : am_S) (u v : Int) : ∃ z, (x_step k D A u v).1 = vI z := by
  unfold x_step
  (try unfold wOf)
  (repeat' split) <;> exact ⟨_, rfl⟩
theorem lw_b26 {L : Nat} {xs : Nat → Int32} {σ : am_S} {i : Nat} {Q : Option am_V → am_S → Prop} (hL : L ≤ 3072) (hi : i + 6 ≤ L) (hI : LwI L xs σ) (K : ∀ σ', LwI L xs σ' → TT am_b0 (am_b0.getD 50 []) [(0, vR 1), (1, vR 2), (2, vR 76), (3, vI ((i : Nat) : Int))] [] σ' Q) : TT am_b0 (am_b0.getD 26 []) [(0, vR 1), (1, vR 2), (2, vR 76), (3, vI ((i : Nat) : Int))] [] σ Q := by
  obtain ⟨⟨k, nm, ns, D, hCI, hR⟩, hx, h1⟩ := hI
  have hW := hCI.w
  refine tt_ar rfl ?_
  refine tt_ar rfl ?_
  refine tt_ar rfl ?_
  refine tt_ar rfl ?_
  refine tt_iadd (by omega) (by omega) ?_
  refine tt_iald (i + 1) (x := (xs (i + 1)).toInt) h1 (by omega) (by omega) (hx _) ?_
  refine tt_ar rfl ?_
  refine tt_ar rfl ?_
  refine tt_ar rfl ?_
  refine tt_iadd (by omega) (by omega) ?_
  refine tt_iald (i + 2) (x := (xs (i + 2)).toInt) h1 (by omega) (by omega) (hx _) ?_
  refine tt_cv3 3 rfl (wo_2 hW) (c92 σ k nm ns D hCI (xs (i + 1)).toInt (xs (i + 2)).toInt) ?_
  intro r1 σ1 hq1
  obtain ⟨hC1, rfl, hE1, hQ1⟩ := hq1
  have hW1 := hQ1.1 hW
  have hR1 := hQ1.rr hR
  have hx1 : ∀ j, σ1.1 1 j = (xs j).toInt := fun j => (hQ1.2.2 1 (by omega) j).trans (hx j)
  have h11 := hQ1.2.1 _ h1
  obtain ⟨z, hz⟩ := is_step k D σ (xs (i + 1)).toInt (xs (i + 2)).toInt
  rw [hz]
  refine tt_ar rfl ?_
  refine tt_ar rfl ?_
  refine tt_ar rfl ?_
  refine tt_ar rfl ?_
  refine tt_iadd (by omega) (by omega) ?_
  refine tt_iald (i + 1) (x := (xs (i + 1)).toInt) h11 (by omega) (by omega) (hx1 _) ?_
  refine tt_ar rfl ?_
  refine tt_ar rfl ?_
  refine tt_ar rfl ?_
  refine tt_iadd (by omega) (by omega) ?_
  refine tt_iald (i + 2) (x := (xs (i + 2)).toInt) h11 (by omega) (by omega) (hx1 _) ?_
  refine tt_cv3 3 rfl (wo_76 hW1) (c228 σ σ1 k nm ns D hCI hW1 hR1 (xs (i + 1)).toInt (xs (i + 2)).toInt) ?_
  intro r2 σ2 hq2
  obtain ⟨rfl, hR2, hQ2⟩ := hq2
  have hN : LwI L xs σ2 := lw_next hx h1 hC1 hE1 hQ1 hR2 hQ2
  rw [hz]
  exact tt_iceq (fun _ => K σ2 hN) (fun h => absurd rfl h)
theorem is_plain (k : Nat) (nm : Nat) (D : Nat → Nat → Int) (A : am_S) : ∃ z, (x_plain k nm D A).1 = vI z := by
  unfold x_plain
  (try unfold wOf)
  (repeat' split) <;> exact ⟨_, rfl⟩
theorem lw_b27 {L : Nat} {xs : Nat → Int32} {σ : am_S} {i : Nat} {Q : Option am_V → am_S → Prop} (hL : L ≤ 3072) (hi : i + 6 ≤ L) (hI : LwI L xs σ) (K : ∀ σ', LwI L xs σ' → TT am_b0 (am_b0.getD 50 []) [(0, vR 1), (1, vR 2), (2, vR 76), (3, vI ((i : Nat) : Int))] [] σ' Q) : TT am_b0 (am_b0.getD 27 []) [(0, vR 1), (1, vR 2), (2, vR 76), (3, vI ((i : Nat) : Int))] [] σ Q := by
  obtain ⟨⟨k, nm, ns, D, hCI, hR⟩, hx, h1⟩ := hI
  have hW := hCI.w
  refine tt_ar rfl ?_
  refine tt_cv1 1 rfl (wo_2 hW) (c101 σ k nm ns D hCI ) ?_
  intro r1 σ1 hq1
  obtain ⟨hC1, rfl, hE1, hQ1⟩ := hq1
  have hW1 := hQ1.1 hW
  have hR1 := hQ1.rr hR
  have hx1 : ∀ j, σ1.1 1 j = (xs j).toInt := fun j => (hQ1.2.2 1 (by omega) j).trans (hx j)
  have h11 := hQ1.2.1 _ h1
  obtain ⟨z, hz⟩ := is_plain k nm D σ 
  rw [hz]
  refine tt_ar rfl ?_
  refine tt_cv1 1 rfl (wo_76 hW1) (c234 σ σ1 k nm ns D hCI hW1 hR1 ) ?_
  intro r2 σ2 hq2
  obtain ⟨rfl, hR2, hQ2⟩ := hq2
  have hN : LwI L xs σ2 := lw_next hx h1 hC1 hE1 hQ1 hR2 hQ2
  rw [hz]
  exact tt_iceq (fun _ => K σ2 hN) (fun h => absurd rfl h)
theorem is_tale (k : Nat) (nm : Nat) (D : Nat → Nat → Int) (A : am_S) (u : Int) : ∃ z, (x_tale k nm D A u).1 = vI z := by
  unfold x_tale
  (try unfold wOf)
  (repeat' split) <;> exact ⟨_, rfl⟩
theorem lw_b28 {L : Nat} {xs : Nat → Int32} {σ : am_S} {i : Nat} {Q : Option am_V → am_S → Prop} (hL : L ≤ 3072) (hi : i + 6 ≤ L) (hI : LwI L xs σ) (K : ∀ σ', LwI L xs σ' → TT am_b0 (am_b0.getD 50 []) [(0, vR 1), (1, vR 2), (2, vR 76), (3, vI ((i : Nat) : Int))] [] σ' Q) : TT am_b0 (am_b0.getD 28 []) [(0, vR 1), (1, vR 2), (2, vR 76), (3, vI ((i : Nat) : Int))] [] σ Q := by
  obtain ⟨⟨k, nm, ns, D, hCI, hR⟩, hx, h1⟩ := hI
  have hW := hCI.w
  refine tt_ar rfl ?_
  refine tt_ar rfl ?_
  refine tt_ar rfl ?_
  refine tt_ar rfl ?_
  refine tt_iadd (by omega) (by omega) ?_
  refine tt_iald (i + 1) (x := (xs (i + 1)).toInt) h1 (by omega) (by omega) (hx _) ?_
  refine tt_cv2 2 rfl (wo_2 hW) (c114 σ k nm ns D hCI (xs (i + 1)).toInt) ?_
  intro r1 σ1 hq1
  obtain ⟨hC1, rfl, hE1, hQ1⟩ := hq1
  have hW1 := hQ1.1 hW
  have hR1 := hQ1.rr hR
  have hx1 : ∀ j, σ1.1 1 j = (xs j).toInt := fun j => (hQ1.2.2 1 (by omega) j).trans (hx j)
  have h11 := hQ1.2.1 _ h1
  obtain ⟨z, hz⟩ := is_tale k nm D σ (xs (i + 1)).toInt
  rw [hz]
  refine tt_ar rfl ?_
  refine tt_ar rfl ?_
  refine tt_ar rfl ?_
  refine tt_ar rfl ?_
  refine tt_iadd (by omega) (by omega) ?_
  refine tt_iald (i + 1) (x := (xs (i + 1)).toInt) h11 (by omega) (by omega) (hx1 _) ?_
  refine tt_cv2 2 rfl (wo_76 hW1) (c237 σ σ1 k nm ns D hCI hW1 hR1 (xs (i + 1)).toInt) ?_
  intro r2 σ2 hq2
  obtain ⟨rfl, hR2, hQ2⟩ := hq2
  have hN : LwI L xs σ2 := lw_next hx h1 hC1 hE1 hQ1 hR2 hQ2
  rw [hz]
  exact tt_iceq (fun _ => K σ2 hN) (fun h => absurd rfl h)
theorem is_ways (k : Nat) (nm : Nat) (D : Nat → Nat → Int) (A : am_S) : ∃ z, (x_ways k nm D A).1 = vI z := by
  unfold x_ways
  (try unfold wOf)
  (repeat' split) <;> exact ⟨_, rfl⟩
theorem lw_b29 {L : Nat} {xs : Nat → Int32} {σ : am_S} {i : Nat} {Q : Option am_V → am_S → Prop} (hL : L ≤ 3072) (hi : i + 6 ≤ L) (hI : LwI L xs σ) (K : ∀ σ', LwI L xs σ' → TT am_b0 (am_b0.getD 50 []) [(0, vR 1), (1, vR 2), (2, vR 76), (3, vI ((i : Nat) : Int))] [] σ' Q) : TT am_b0 (am_b0.getD 29 []) [(0, vR 1), (1, vR 2), (2, vR 76), (3, vI ((i : Nat) : Int))] [] σ Q := by
  obtain ⟨⟨k, nm, ns, D, hCI, hR⟩, hx, h1⟩ := hI
  have hW := hCI.w
  refine tt_ar rfl ?_
  refine tt_cv1 1 rfl (wo_2 hW) (c115 σ k nm ns D hCI ) ?_
  intro r1 σ1 hq1
  obtain ⟨hC1, rfl, hE1, hQ1⟩ := hq1
  have hW1 := hQ1.1 hW
  have hR1 := hQ1.rr hR
  have hx1 : ∀ j, σ1.1 1 j = (xs j).toInt := fun j => (hQ1.2.2 1 (by omega) j).trans (hx j)
  have h11 := hQ1.2.1 _ h1
  obtain ⟨z, hz⟩ := is_ways k nm D σ 
  rw [hz]
  refine tt_ar rfl ?_
  refine tt_cv1 1 rfl (wo_76 hW1) (c240 σ σ1 k nm ns D hCI hW1 hR1 ) ?_
  intro r2 σ2 hq2
  obtain ⟨rfl, hR2, hQ2⟩ := hq2
  have hN : LwI L xs σ2 := lw_next hx h1 hC1 hE1 hQ1 hR2 hQ2
  rw [hz]
  exact tt_iceq (fun _ => K σ2 hN) (fun h => absurd rfl h)
theorem is_sure (k : Nat) (nm : Nat) (D : Nat → Nat → Int) (A : am_S) (u v : Int) : ∃ z, (x_sure k nm D A u v).1 = vI z := by
  unfold x_sure
  (try unfold wOf)
  (repeat' split) <;> exact ⟨_, rfl⟩
theorem lw_b30 {L : Nat} {xs : Nat → Int32} {σ : am_S} {i : Nat} {Q : Option am_V → am_S → Prop} (hL : L ≤ 3072) (hi : i + 6 ≤ L) (hI : LwI L xs σ) (K : ∀ σ', LwI L xs σ' → TT am_b0 (am_b0.getD 50 []) [(0, vR 1), (1, vR 2), (2, vR 76), (3, vI ((i : Nat) : Int))] [] σ' Q) : TT am_b0 (am_b0.getD 30 []) [(0, vR 1), (1, vR 2), (2, vR 76), (3, vI ((i : Nat) : Int))] [] σ Q := by
  obtain ⟨⟨k, nm, ns, D, hCI, hR⟩, hx, h1⟩ := hI
  have hW := hCI.w
  refine tt_ar rfl ?_
  refine tt_ar rfl ?_
  refine tt_ar rfl ?_
  refine tt_ar rfl ?_
  refine tt_iadd (by omega) (by omega) ?_
  refine tt_iald (i + 1) (x := (xs (i + 1)).toInt) h1 (by omega) (by omega) (hx _) ?_
  refine tt_ar rfl ?_
  refine tt_ar rfl ?_
  refine tt_ar rfl ?_
  refine tt_iadd (by omega) (by omega) ?_
  refine tt_iald (i + 2) (x := (xs (i + 2)).toInt) h1 (by omega) (by omega) (hx _) ?_
  refine tt_cv3 3 rfl (wo_2 hW) (c120 σ k nm ns D hCI (xs (i + 1)).toInt (xs (i + 2)).toInt) ?_
  intro r1 σ1 hq1
  obtain ⟨hC1, rfl, hE1, hQ1⟩ := hq1
  have hW1 := hQ1.1 hW
  have hR1 := hQ1.rr hR
  have hx1 : ∀ j, σ1.1 1 j = (xs j).toInt := fun j => (hQ1.2.2 1 (by omega) j).trans (hx j)
  have h11 := hQ1.2.1 _ h1
  obtain ⟨z, hz⟩ := is_sure k nm D σ (xs (i + 1)).toInt (xs (i + 2)).toInt
  rw [hz]
  refine tt_ar rfl ?_
  refine tt_ar rfl ?_
  refine tt_ar rfl ?_
  refine tt_ar rfl ?_
  refine tt_iadd (by omega) (by omega) ?_
  refine tt_iald (i + 1) (x := (xs (i + 1)).toInt) h11 (by omega) (by omega) (hx1 _) ?_
  refine tt_ar rfl ?_
  refine tt_ar rfl ?_
  refine tt_ar rfl ?_
  refine tt_iadd (by omega) (by omega) ?_
  refine tt_iald (i + 2) (x := (xs (i + 2)).toInt) h11 (by omega) (by omega) (hx1 _) ?_
  refine tt_cv3 3 rfl (wo_76 hW1) (c243 σ σ1 k nm ns D hCI hW1 hR1 (xs (i + 1)).toInt (xs (i + 2)).toInt) ?_
  intro r2 σ2 hq2
  obtain ⟨rfl, hR2, hQ2⟩ := hq2
  have hN : LwI L xs σ2 := lw_next hx h1 hC1 hE1 hQ1 hR2 hQ2
  rw [hz]
  exact tt_iceq (fun _ => K σ2 hN) (fun h => absurd rfl h)
theorem is_share (k : Nat) (nm : Nat) (D : Nat → Nat → Int) (A : am_S) (u v w : Int) : ∃ z, (x_share k nm D A u v w).1 = vI z := by
  unfold x_share
  (try unfold wOf)
  (repeat' split) <;> exact ⟨_, rfl⟩
theorem lw_b31 {L : Nat} {xs : Nat → Int32} {σ : am_S} {i : Nat} {Q : Option am_V → am_S → Prop} (hL : L ≤ 3072) (hi : i + 6 ≤ L) (hI : LwI L xs σ) (K : ∀ σ', LwI L xs σ' → TT am_b0 (am_b0.getD 50 []) [(0, vR 1), (1, vR 2), (2, vR 76), (3, vI ((i : Nat) : Int))] [] σ' Q) : TT am_b0 (am_b0.getD 31 []) [(0, vR 1), (1, vR 2), (2, vR 76), (3, vI ((i : Nat) : Int))] [] σ Q := by
  obtain ⟨⟨k, nm, ns, D, hCI, hR⟩, hx, h1⟩ := hI
  have hW := hCI.w
  refine tt_ar rfl ?_
  refine tt_ar rfl ?_
  refine tt_ar rfl ?_
  refine tt_ar rfl ?_
  refine tt_iadd (by omega) (by omega) ?_
  refine tt_iald (i + 1) (x := (xs (i + 1)).toInt) h1 (by omega) (by omega) (hx _) ?_
  refine tt_ar rfl ?_
  refine tt_ar rfl ?_
  refine tt_ar rfl ?_
  refine tt_iadd (by omega) (by omega) ?_
  refine tt_iald (i + 2) (x := (xs (i + 2)).toInt) h1 (by omega) (by omega) (hx _) ?_
  refine tt_ar rfl ?_
  refine tt_ar rfl ?_
  refine tt_ar rfl ?_
  refine tt_iadd (by omega) (by omega) ?_
  refine tt_iald (i + 3) (x := (xs (i + 3)).toInt) h1 (by omega) (by omega) (hx _) ?_
  refine tt_cv4 4 rfl (wo_2 hW) (c123 σ k nm ns D hCI (xs (i + 1)).toInt (xs (i + 2)).toInt (xs (i + 3)).toInt) ?_
  intro r1 σ1 hq1
  obtain ⟨hC1, rfl, hE1, hQ1⟩ := hq1
  have hW1 := hQ1.1 hW
  have hR1 := hQ1.rr hR
  have hx1 : ∀ j, σ1.1 1 j = (xs j).toInt := fun j => (hQ1.2.2 1 (by omega) j).trans (hx j)
  have h11 := hQ1.2.1 _ h1
  obtain ⟨z, hz⟩ := is_share k nm D σ (xs (i + 1)).toInt (xs (i + 2)).toInt (xs (i + 3)).toInt
  rw [hz]
  refine tt_ar rfl ?_
  refine tt_ar rfl ?_
  refine tt_ar rfl ?_
  refine tt_ar rfl ?_
  refine tt_iadd (by omega) (by omega) ?_
  refine tt_iald (i + 1) (x := (xs (i + 1)).toInt) h11 (by omega) (by omega) (hx1 _) ?_
  refine tt_ar rfl ?_
  refine tt_ar rfl ?_
  refine tt_ar rfl ?_
  refine tt_iadd (by omega) (by omega) ?_
  refine tt_iald (i + 2) (x := (xs (i + 2)).toInt) h11 (by omega) (by omega) (hx1 _) ?_
  refine tt_ar rfl ?_
  refine tt_ar rfl ?_
  refine tt_ar rfl ?_
  refine tt_iadd (by omega) (by omega) ?_
  refine tt_iald (i + 3) (x := (xs (i + 3)).toInt) h11 (by omega) (by omega) (hx1 _) ?_
  refine tt_cv4 4 rfl (wo_76 hW1) (c244 σ σ1 k nm ns D hCI hW1 hR1 (xs (i + 1)).toInt (xs (i + 2)).toInt (xs (i + 3)).toInt) ?_
  intro r2 σ2 hq2
  obtain ⟨rfl, hR2, hQ2⟩ := hq2
  have hN : LwI L xs σ2 := lw_next hx h1 hC1 hE1 hQ1 hR2 hQ2
  rw [hz]
  exact tt_iceq (fun _ => K σ2 hN) (fun h => absurd rfl h)
theorem is_through (k : Nat) (nm : Nat) (D : Nat → Nat → Int) (A : am_S) (u v : Int) : ∃ z, (x_through k nm D A u v).1 = vI z := by
  unfold x_through
  (try unfold wOf)
  (repeat' split) <;> exact ⟨_, rfl⟩
theorem lw_b32 {L : Nat} {xs : Nat → Int32} {σ : am_S} {i : Nat} {Q : Option am_V → am_S → Prop} (hL : L ≤ 3072) (hi : i + 6 ≤ L) (hI : LwI L xs σ) (K : ∀ σ', LwI L xs σ' → TT am_b0 (am_b0.getD 50 []) [(0, vR 1), (1, vR 2), (2, vR 76), (3, vI ((i : Nat) : Int))] [] σ' Q) : TT am_b0 (am_b0.getD 32 []) [(0, vR 1), (1, vR 2), (2, vR 76), (3, vI ((i : Nat) : Int))] [] σ Q := by
  obtain ⟨⟨k, nm, ns, D, hCI, hR⟩, hx, h1⟩ := hI
  have hW := hCI.w
  refine tt_ar rfl ?_
  refine tt_ar rfl ?_
  refine tt_ar rfl ?_
  refine tt_ar rfl ?_
  refine tt_iadd (by omega) (by omega) ?_
  refine tt_iald (i + 1) (x := (xs (i + 1)).toInt) h1 (by omega) (by omega) (hx _) ?_
  refine tt_ar rfl ?_
  refine tt_ar rfl ?_
  refine tt_ar rfl ?_
  refine tt_iadd (by omega) (by omega) ?_
  refine tt_iald (i + 2) (x := (xs (i + 2)).toInt) h1 (by omega) (by omega) (hx _) ?_
  refine tt_cv3 3 rfl (wo_2 hW) (c127 σ k nm ns D hCI (xs (i + 1)).toInt (xs (i + 2)).toInt) ?_
  intro r1 σ1 hq1
  obtain ⟨hC1, rfl, hE1, hQ1⟩ := hq1
  have hW1 := hQ1.1 hW
  have hR1 := hQ1.rr hR
  have hx1 : ∀ j, σ1.1 1 j = (xs j).toInt := fun j => (hQ1.2.2 1 (by omega) j).trans (hx j)
  have h11 := hQ1.2.1 _ h1
  obtain ⟨z, hz⟩ := is_through k nm D σ (xs (i + 1)).toInt (xs (i + 2)).toInt
  rw [hz]
  refine tt_ar rfl ?_
  refine tt_ar rfl ?_
  refine tt_ar rfl ?_
  refine tt_ar rfl ?_
  refine tt_iadd (by omega) (by omega) ?_
  refine tt_iald (i + 1) (x := (xs (i + 1)).toInt) h11 (by omega) (by omega) (hx1 _) ?_
  refine tt_ar rfl ?_
  refine tt_ar rfl ?_
  refine tt_ar rfl ?_
  refine tt_iadd (by omega) (by omega) ?_
  refine tt_iald (i + 2) (x := (xs (i + 2)).toInt) h11 (by omega) (by omega) (hx1 _) ?_
  refine tt_cv3 3 rfl (wo_76 hW1) (c247 σ σ1 k nm ns D hCI hW1 hR1 (xs (i + 1)).toInt (xs (i + 2)).toInt) ?_
  intro r2 σ2 hq2
  obtain ⟨rfl, hR2, hQ2⟩ := hq2
  have hN : LwI L xs σ2 := lw_next hx h1 hC1 hE1 hQ1 hR2 hQ2
  rw [hz]
  exact tt_iceq (fun _ => K σ2 hN) (fun h => absurd rfl h)
theorem is_rival (k : Nat) (nm : Nat) (D : Nat → Nat → Int) (A : am_S) (u : Int) : ∃ z, (x_rival k nm D A u).1 = vI z := by
  unfold x_rival
  (try unfold wOf)
  (repeat' split) <;> exact ⟨_, rfl⟩
theorem lw_b33 {L : Nat} {xs : Nat → Int32} {σ : am_S} {i : Nat} {Q : Option am_V → am_S → Prop} (hL : L ≤ 3072) (hi : i + 6 ≤ L) (hI : LwI L xs σ) (K : ∀ σ', LwI L xs σ' → TT am_b0 (am_b0.getD 50 []) [(0, vR 1), (1, vR 2), (2, vR 76), (3, vI ((i : Nat) : Int))] [] σ' Q) : TT am_b0 (am_b0.getD 33 []) [(0, vR 1), (1, vR 2), (2, vR 76), (3, vI ((i : Nat) : Int))] [] σ Q := by
  obtain ⟨⟨k, nm, ns, D, hCI, hR⟩, hx, h1⟩ := hI
  have hW := hCI.w
  refine tt_ar rfl ?_
  refine tt_ar rfl ?_
  refine tt_ar rfl ?_
  refine tt_ar rfl ?_
  refine tt_iadd (by omega) (by omega) ?_
  refine tt_iald (i + 1) (x := (xs (i + 1)).toInt) h1 (by omega) (by omega) (hx _) ?_
  refine tt_cv2 2 rfl (wo_2 hW) (c128 σ k nm ns D hCI (xs (i + 1)).toInt) ?_
  intro r1 σ1 hq1
  obtain ⟨hC1, rfl, hE1, hQ1⟩ := hq1
  have hW1 := hQ1.1 hW
  have hR1 := hQ1.rr hR
  have hx1 : ∀ j, σ1.1 1 j = (xs j).toInt := fun j => (hQ1.2.2 1 (by omega) j).trans (hx j)
  have h11 := hQ1.2.1 _ h1
  obtain ⟨z, hz⟩ := is_rival k nm D σ (xs (i + 1)).toInt
  rw [hz]
  refine tt_ar rfl ?_
  refine tt_ar rfl ?_
  refine tt_ar rfl ?_
  refine tt_ar rfl ?_
  refine tt_iadd (by omega) (by omega) ?_
  refine tt_iald (i + 1) (x := (xs (i + 1)).toInt) h11 (by omega) (by omega) (hx1 _) ?_
  refine tt_cv2 2 rfl (wo_76 hW1) (c248 σ σ1 k nm ns D hCI hW1 hR1 (xs (i + 1)).toInt) ?_
  intro r2 σ2 hq2
  obtain ⟨rfl, hR2, hQ2⟩ := hq2
  have hN : LwI L xs σ2 := lw_next hx h1 hC1 hE1 hQ1 hR2 hQ2
  rw [hz]
  exact tt_iceq (fun _ => K σ2 hN) (fun h => absurd rfl h)
theorem is_happen (A : am_S) (u v w x : Int) : ∃ z, (x_happen A u v w x).1 = vI z := by
  unfold x_happen
  (try unfold wOf)
  (repeat' split) <;> exact ⟨_, rfl⟩
theorem lw_b34 {L : Nat} {xs : Nat → Int32} {σ : am_S} {i : Nat} {Q : Option am_V → am_S → Prop} (hL : L ≤ 3072) (hi : i + 6 ≤ L) (hI : LwI L xs σ) (K : ∀ σ', LwI L xs σ' → TT am_b0 (am_b0.getD 50 []) [(0, vR 1), (1, vR 2), (2, vR 76), (3, vI ((i : Nat) : Int))] [] σ' Q) : TT am_b0 (am_b0.getD 34 []) [(0, vR 1), (1, vR 2), (2, vR 76), (3, vI ((i : Nat) : Int))] [] σ Q := by
  obtain ⟨⟨k, nm, ns, D, hCI, hR⟩, hx, h1⟩ := hI
  have hW := hCI.w
  refine tt_ar rfl ?_
  refine tt_ar rfl ?_
  refine tt_ar rfl ?_
  refine tt_ar rfl ?_
  refine tt_iadd (by omega) (by omega) ?_
  refine tt_iald (i + 1) (x := (xs (i + 1)).toInt) h1 (by omega) (by omega) (hx _) ?_
  refine tt_ar rfl ?_
  refine tt_ar rfl ?_
  refine tt_ar rfl ?_
  refine tt_iadd (by omega) (by omega) ?_
  refine tt_iald (i + 2) (x := (xs (i + 2)).toInt) h1 (by omega) (by omega) (hx _) ?_
  refine tt_ar rfl ?_
  refine tt_ar rfl ?_
  refine tt_ar rfl ?_
  refine tt_iadd (by omega) (by omega) ?_
  refine tt_iald (i + 3) (x := (xs (i + 3)).toInt) h1 (by omega) (by omega) (hx _) ?_
  refine tt_ar rfl ?_
  refine tt_ar rfl ?_
  refine tt_ar rfl ?_
  refine tt_iadd (by omega) (by omega) ?_
  refine tt_iald (i + 4) (x := (xs (i + 4)).toInt) h1 (by omega) (by omega) (hx _) ?_
  refine tt_cv5 5 rfl (wo_2 hW) (c130 σ k nm ns D hCI (xs (i + 1)).toInt (xs (i + 2)).toInt (xs (i + 3)).toInt (xs (i + 4)).toInt) ?_
  intro r1 σ1 hq1
  obtain ⟨hC1, rfl, hE1, hQ1⟩ := hq1
  have hW1 := hQ1.1 hW
  have hR1 := hQ1.rr hR
  have hx1 : ∀ j, σ1.1 1 j = (xs j).toInt := fun j => (hQ1.2.2 1 (by omega) j).trans (hx j)
  have h11 := hQ1.2.1 _ h1
  obtain ⟨z, hz⟩ := is_happen σ (xs (i + 1)).toInt (xs (i + 2)).toInt (xs (i + 3)).toInt (xs (i + 4)).toInt
  rw [hz]
  refine tt_ar rfl ?_
  refine tt_ar rfl ?_
  refine tt_ar rfl ?_
  refine tt_ar rfl ?_
  refine tt_iadd (by omega) (by omega) ?_
  refine tt_iald (i + 1) (x := (xs (i + 1)).toInt) h11 (by omega) (by omega) (hx1 _) ?_
  refine tt_ar rfl ?_
  refine tt_ar rfl ?_
  refine tt_ar rfl ?_
  refine tt_iadd (by omega) (by omega) ?_
  refine tt_iald (i + 2) (x := (xs (i + 2)).toInt) h11 (by omega) (by omega) (hx1 _) ?_
  refine tt_ar rfl ?_
  refine tt_ar rfl ?_
  refine tt_ar rfl ?_
  refine tt_iadd (by omega) (by omega) ?_
  refine tt_iald (i + 3) (x := (xs (i + 3)).toInt) h11 (by omega) (by omega) (hx1 _) ?_
  refine tt_ar rfl ?_
  refine tt_ar rfl ?_
  refine tt_ar rfl ?_
  refine tt_iadd (by omega) (by omega) ?_
  refine tt_iald (i + 4) (x := (xs (i + 4)).toInt) h11 (by omega) (by omega) (hx1 _) ?_
  refine tt_cv5 5 rfl (wo_76 hW1) (c249 σ σ1 k nm ns D hCI hW1 hR1 (xs (i + 1)).toInt (xs (i + 2)).toInt (xs (i + 3)).toInt (xs (i + 4)).toInt) ?_
  intro r2 σ2 hq2
  obtain ⟨rfl, hR2, hQ2⟩ := hq2
  have hN : LwI L xs σ2 := lw_next hx h1 hC1 hE1 hQ1 hR2 hQ2
  rw [hz]
  exact tt_iceq (fun _ => K σ2 hN) (fun h => absurd rfl h)
theorem is_event (A : am_S) (u v : Int) : ∃ z, (x_event A u v).1 = vI z := by
  unfold x_event
  (try unfold wOf)
  (repeat' split) <;> exact ⟨_, rfl⟩
theorem lw_b35 {L : Nat} {xs : Nat → Int32} {σ : am_S} {i : Nat} {Q : Option am_V → am_S → Prop} (hL : L ≤ 3072) (hi : i + 6 ≤ L) (hI : LwI L xs σ) (K : ∀ σ', LwI L xs σ' → TT am_b0 (am_b0.getD 50 []) [(0, vR 1), (1, vR 2), (2, vR 76), (3, vI ((i : Nat) : Int))] [] σ' Q) : TT am_b0 (am_b0.getD 35 []) [(0, vR 1), (1, vR 2), (2, vR 76), (3, vI ((i : Nat) : Int))] [] σ Q := by
  obtain ⟨⟨k, nm, ns, D, hCI, hR⟩, hx, h1⟩ := hI
  have hW := hCI.w
  refine tt_ar rfl ?_
  refine tt_ar rfl ?_
  refine tt_ar rfl ?_
  refine tt_ar rfl ?_
  refine tt_iadd (by omega) (by omega) ?_
  refine tt_iald (i + 1) (x := (xs (i + 1)).toInt) h1 (by omega) (by omega) (hx _) ?_
  refine tt_ar rfl ?_
  refine tt_ar rfl ?_
  refine tt_ar rfl ?_
  refine tt_iadd (by omega) (by omega) ?_
  refine tt_iald (i + 2) (x := (xs (i + 2)).toInt) h1 (by omega) (by omega) (hx _) ?_
  refine tt_cv3 3 rfl (wo_2 hW) (c132 σ k nm ns D hCI (xs (i + 1)).toInt (xs (i + 2)).toInt) ?_
  intro r1 σ1 hq1
  obtain ⟨hC1, rfl, hE1, hQ1⟩ := hq1
  have hW1 := hQ1.1 hW
  have hR1 := hQ1.rr hR
  have hx1 : ∀ j, σ1.1 1 j = (xs j).toInt := fun j => (hQ1.2.2 1 (by omega) j).trans (hx j)
  have h11 := hQ1.2.1 _ h1
  obtain ⟨z, hz⟩ := is_event σ (xs (i + 1)).toInt (xs (i + 2)).toInt
  rw [hz]
  refine tt_ar rfl ?_
  refine tt_ar rfl ?_
  refine tt_ar rfl ?_
  refine tt_ar rfl ?_
  refine tt_iadd (by omega) (by omega) ?_
  refine tt_iald (i + 1) (x := (xs (i + 1)).toInt) h11 (by omega) (by omega) (hx1 _) ?_
  refine tt_ar rfl ?_
  refine tt_ar rfl ?_
  refine tt_ar rfl ?_
  refine tt_iadd (by omega) (by omega) ?_
  refine tt_iald (i + 2) (x := (xs (i + 2)).toInt) h11 (by omega) (by omega) (hx1 _) ?_
  refine tt_cv3 3 rfl (wo_76 hW1) (c250 σ σ1 k nm ns D hCI hW1 hR1 (xs (i + 1)).toInt (xs (i + 2)).toInt) ?_
  intro r2 σ2 hq2
  obtain ⟨rfl, hR2, hQ2⟩ := hq2
  have hN : LwI L xs σ2 := lw_next hx h1 hC1 hE1 hQ1 hR2 hQ2
  rw [hz]
  exact tt_iceq (fun _ => K σ2 hN) (fun h => absurd rfl h)
theorem is_mark (ns : Nat) (A : am_S) (u v : Int) : ∃ z, (x_mark ns A u v).1 = vI z := by
  unfold x_mark
  (try unfold wOf)
  (repeat' split) <;> exact ⟨_, rfl⟩
theorem lw_b36 {L : Nat} {xs : Nat → Int32} {σ : am_S} {i : Nat} {Q : Option am_V → am_S → Prop} (hL : L ≤ 3072) (hi : i + 6 ≤ L) (hI : LwI L xs σ) (K : ∀ σ', LwI L xs σ' → TT am_b0 (am_b0.getD 50 []) [(0, vR 1), (1, vR 2), (2, vR 76), (3, vI ((i : Nat) : Int))] [] σ' Q) : TT am_b0 (am_b0.getD 36 []) [(0, vR 1), (1, vR 2), (2, vR 76), (3, vI ((i : Nat) : Int))] [] σ Q := by
  obtain ⟨⟨k, nm, ns, D, hCI, hR⟩, hx, h1⟩ := hI
  have hW := hCI.w
  refine tt_ar rfl ?_
  refine tt_ar rfl ?_
  refine tt_ar rfl ?_
  refine tt_ar rfl ?_
  refine tt_iadd (by omega) (by omega) ?_
  refine tt_iald (i + 1) (x := (xs (i + 1)).toInt) h1 (by omega) (by omega) (hx _) ?_
  refine tt_ar rfl ?_
  refine tt_ar rfl ?_
  refine tt_ar rfl ?_
  refine tt_iadd (by omega) (by omega) ?_
  refine tt_iald (i + 2) (x := (xs (i + 2)).toInt) h1 (by omega) (by omega) (hx _) ?_
  refine tt_cv3 3 rfl (wo_2 hW) (c135 σ k nm ns D hCI (xs (i + 1)).toInt (xs (i + 2)).toInt) ?_
  intro r1 σ1 hq1
  obtain ⟨hC1, rfl, hE1, hQ1⟩ := hq1
  have hW1 := hQ1.1 hW
  have hR1 := hQ1.rr hR
  have hx1 : ∀ j, σ1.1 1 j = (xs j).toInt := fun j => (hQ1.2.2 1 (by omega) j).trans (hx j)
  have h11 := hQ1.2.1 _ h1
  obtain ⟨z, hz⟩ := is_mark ns σ (xs (i + 1)).toInt (xs (i + 2)).toInt
  rw [hz]
  refine tt_ar rfl ?_
  refine tt_ar rfl ?_
  refine tt_ar rfl ?_
  refine tt_ar rfl ?_
  refine tt_iadd (by omega) (by omega) ?_
  refine tt_iald (i + 1) (x := (xs (i + 1)).toInt) h11 (by omega) (by omega) (hx1 _) ?_
  refine tt_ar rfl ?_
  refine tt_ar rfl ?_
  refine tt_ar rfl ?_
  refine tt_iadd (by omega) (by omega) ?_
  refine tt_iald (i + 2) (x := (xs (i + 2)).toInt) h11 (by omega) (by omega) (hx1 _) ?_
  refine tt_cv3 3 rfl (wo_76 hW1) (c253 σ σ1 k nm ns D hCI hW1 hR1 (xs (i + 1)).toInt (xs (i + 2)).toInt) ?_
  intro r2 σ2 hq2
  obtain ⟨rfl, hR2, hQ2⟩ := hq2
  have hN : LwI L xs σ2 := lw_next hx h1 hC1 hE1 hQ1 hR2 hQ2
  rw [hz]
  exact tt_iceq (fun _ => K σ2 hN) (fun h => absurd rfl h)
theorem is_household (ns : Nat) (A : am_S) (u : Int) : ∃ z, (x_household ns A u).1 = vI z := by
  unfold x_household
  (try unfold wOf)
  (repeat' split) <;> exact ⟨_, rfl⟩
theorem lw_b37 {L : Nat} {xs : Nat → Int32} {σ : am_S} {i : Nat} {Q : Option am_V → am_S → Prop} (hL : L ≤ 3072) (hi : i + 6 ≤ L) (hI : LwI L xs σ) (K : ∀ σ', LwI L xs σ' → TT am_b0 (am_b0.getD 50 []) [(0, vR 1), (1, vR 2), (2, vR 76), (3, vI ((i : Nat) : Int))] [] σ' Q) : TT am_b0 (am_b0.getD 37 []) [(0, vR 1), (1, vR 2), (2, vR 76), (3, vI ((i : Nat) : Int))] [] σ Q := by
  obtain ⟨⟨k, nm, ns, D, hCI, hR⟩, hx, h1⟩ := hI
  have hW := hCI.w
  refine tt_ar rfl ?_
  refine tt_ar rfl ?_
  refine tt_ar rfl ?_
  refine tt_ar rfl ?_
  refine tt_iadd (by omega) (by omega) ?_
  refine tt_iald (i + 1) (x := (xs (i + 1)).toInt) h1 (by omega) (by omega) (hx _) ?_
  refine tt_cv2 2 rfl (wo_2 hW) (c143 σ k nm ns D hCI (xs (i + 1)).toInt) ?_
  intro r1 σ1 hq1
  obtain ⟨hC1, rfl, hE1, hQ1⟩ := hq1
  have hW1 := hQ1.1 hW
  have hR1 := hQ1.rr hR
  have hx1 : ∀ j, σ1.1 1 j = (xs j).toInt := fun j => (hQ1.2.2 1 (by omega) j).trans (hx j)
  have h11 := hQ1.2.1 _ h1
  obtain ⟨z, hz⟩ := is_household ns σ (xs (i + 1)).toInt
  rw [hz]
  refine tt_ar rfl ?_
  refine tt_ar rfl ?_
  refine tt_ar rfl ?_
  refine tt_ar rfl ?_
  refine tt_iadd (by omega) (by omega) ?_
  refine tt_iald (i + 1) (x := (xs (i + 1)).toInt) h11 (by omega) (by omega) (hx1 _) ?_
  refine tt_cv2 2 rfl (wo_76 hW1) (c256 σ σ1 k nm ns D hCI hW1 hR1 (xs (i + 1)).toInt) ?_
  intro r2 σ2 hq2
  obtain ⟨rfl, hR2, hQ2⟩ := hq2
  have hN : LwI L xs σ2 := lw_next hx h1 hC1 hE1 hQ1 hR2 hQ2
  rw [hz]
  exact tt_iceq (fun _ => K σ2 hN) (fun h => absurd rfl h)
theorem is_judge (k : Nat) (nm : Nat) (ns : Nat) (A : am_S) : ∃ z, (x_judge k nm ns A).1 = vI z := by
  unfold x_judge
  (try unfold wOf)
  (repeat' split) <;> exact ⟨_, rfl⟩
theorem lw_b38 {L : Nat} {xs : Nat → Int32} {σ : am_S} {i : Nat} {Q : Option am_V → am_S → Prop} (hL : L ≤ 3072) (hi : i + 6 ≤ L) (hI : LwI L xs σ) (K : ∀ σ', LwI L xs σ' → TT am_b0 (am_b0.getD 50 []) [(0, vR 1), (1, vR 2), (2, vR 76), (3, vI ((i : Nat) : Int))] [] σ' Q) : TT am_b0 (am_b0.getD 38 []) [(0, vR 1), (1, vR 2), (2, vR 76), (3, vI ((i : Nat) : Int))] [] σ Q := by
  obtain ⟨⟨k, nm, ns, D, hCI, hR⟩, hx, h1⟩ := hI
  have hW := hCI.w
  refine tt_ar rfl ?_
  refine tt_cv1 1 rfl (wo_2 hW) (c145 σ k nm ns D hCI ) ?_
  intro r1 σ1 hq1
  obtain ⟨hC1, rfl, hE1, hQ1⟩ := hq1
  have hW1 := hQ1.1 hW
  have hR1 := hQ1.rr hR
  have hx1 : ∀ j, σ1.1 1 j = (xs j).toInt := fun j => (hQ1.2.2 1 (by omega) j).trans (hx j)
  have h11 := hQ1.2.1 _ h1
  obtain ⟨z, hz⟩ := is_judge k nm ns σ 
  rw [hz]
  refine tt_ar rfl ?_
  refine tt_cv1 1 rfl (wo_76 hW1) (c257 σ σ1 k nm ns D hCI hW1 hR1 ) ?_
  intro r2 σ2 hq2
  obtain ⟨rfl, hR2, hQ2⟩ := hq2
  have hN : LwI L xs σ2 := lw_next hx h1 hC1 hE1 hQ1 hR2 hQ2
  rw [hz]
  exact tt_iceq (fun _ => K σ2 hN) (fun h => absurd rfl h)
theorem is_doubts (k : Nat) (nm : Nat) (A : am_S) (u : Int) : ∃ z, (x_doubts k nm A u).1 = vI z := by
  unfold x_doubts
  (try unfold wOf)
  (repeat' split) <;> exact ⟨_, rfl⟩
theorem lw_b39 {L : Nat} {xs : Nat → Int32} {σ : am_S} {i : Nat} {Q : Option am_V → am_S → Prop} (hL : L ≤ 3072) (hi : i + 6 ≤ L) (hI : LwI L xs σ) (K : ∀ σ', LwI L xs σ' → TT am_b0 (am_b0.getD 50 []) [(0, vR 1), (1, vR 2), (2, vR 76), (3, vI ((i : Nat) : Int))] [] σ' Q) : TT am_b0 (am_b0.getD 39 []) [(0, vR 1), (1, vR 2), (2, vR 76), (3, vI ((i : Nat) : Int))] [] σ Q := by
  obtain ⟨⟨k, nm, ns, D, hCI, hR⟩, hx, h1⟩ := hI
  have hW := hCI.w
  refine tt_ar rfl ?_
  refine tt_ar rfl ?_
  refine tt_ar rfl ?_
  refine tt_ar rfl ?_
  refine tt_iadd (by omega) (by omega) ?_
  refine tt_iald (i + 1) (x := (xs (i + 1)).toInt) h1 (by omega) (by omega) (hx _) ?_
  refine tt_cv2 2 rfl (wo_2 hW) (c152 σ k nm ns D hCI (xs (i + 1)).toInt) ?_
  intro r1 σ1 hq1
  obtain ⟨hC1, rfl, hE1, hQ1⟩ := hq1
  have hW1 := hQ1.1 hW
  have hR1 := hQ1.rr hR
  have hx1 : ∀ j, σ1.1 1 j = (xs j).toInt := fun j => (hQ1.2.2 1 (by omega) j).trans (hx j)
  have h11 := hQ1.2.1 _ h1
  obtain ⟨z, hz⟩ := is_doubts k nm σ (xs (i + 1)).toInt
  rw [hz]
  refine tt_ar rfl ?_
  refine tt_ar rfl ?_
  refine tt_ar rfl ?_
  refine tt_ar rfl ?_
  refine tt_iadd (by omega) (by omega) ?_
  refine tt_iald (i + 1) (x := (xs (i + 1)).toInt) h11 (by omega) (by omega) (hx1 _) ?_
  refine tt_cv2 2 rfl (wo_76 hW1) (c262 σ σ1 k nm ns D hCI hW1 hR1 (xs (i + 1)).toInt) ?_
  intro r2 σ2 hq2
  obtain ⟨rfl, hR2, hQ2⟩ := hq2
  have hN : LwI L xs σ2 := lw_next hx h1 hC1 hE1 hQ1 hR2 hQ2
  rw [hz]
  exact tt_iceq (fun _ => K σ2 hN) (fun h => absurd rfl h)
theorem is_least (k : Nat) (nm : Nat) (A : am_S) : ∃ z, (x_least k nm A).1 = vI z := by
  unfold x_least
  (try unfold wOf)
  (repeat' split) <;> exact ⟨_, rfl⟩
theorem lw_b40 {L : Nat} {xs : Nat → Int32} {σ : am_S} {i : Nat} {Q : Option am_V → am_S → Prop} (hL : L ≤ 3072) (hi : i + 6 ≤ L) (hI : LwI L xs σ) (K : ∀ σ', LwI L xs σ' → TT am_b0 (am_b0.getD 50 []) [(0, vR 1), (1, vR 2), (2, vR 76), (3, vI ((i : Nat) : Int))] [] σ' Q) : TT am_b0 (am_b0.getD 40 []) [(0, vR 1), (1, vR 2), (2, vR 76), (3, vI ((i : Nat) : Int))] [] σ Q := by
  obtain ⟨⟨k, nm, ns, D, hCI, hR⟩, hx, h1⟩ := hI
  have hW := hCI.w
  refine tt_ar rfl ?_
  refine tt_cv1 1 rfl (wo_2 hW) (c154 σ k nm ns D hCI ) ?_
  intro r1 σ1 hq1
  obtain ⟨hC1, rfl, hE1, hQ1⟩ := hq1
  have hW1 := hQ1.1 hW
  have hR1 := hQ1.rr hR
  have hx1 : ∀ j, σ1.1 1 j = (xs j).toInt := fun j => (hQ1.2.2 1 (by omega) j).trans (hx j)
  have h11 := hQ1.2.1 _ h1
  obtain ⟨z, hz⟩ := is_least k nm σ 
  rw [hz]
  refine tt_ar rfl ?_
  refine tt_cv1 1 rfl (wo_76 hW1) (c264 σ σ1 k nm ns D hCI hW1 hR1 ) ?_
  intro r2 σ2 hq2
  obtain ⟨rfl, hR2, hQ2⟩ := hq2
  have hN : LwI L xs σ2 := lw_next hx h1 hC1 hE1 hQ1 hR2 hQ2
  rw [hz]
  exact tt_iceq (fun _ => K σ2 hN) (fun h => absurd rfl h)
theorem is_see (k : Nat) (nm : Nat) (D : Nat → Nat → Int) (A : am_S) (u : Int) : ∃ z, (x_see k nm D A u).1 = vI z := by
  unfold x_see
  (try unfold wOf)
  (repeat' split) <;> exact ⟨_, rfl⟩
theorem lw_b41 {L : Nat} {xs : Nat → Int32} {σ : am_S} {i : Nat} {Q : Option am_V → am_S → Prop} (hL : L ≤ 3072) (hi : i + 6 ≤ L) (hI : LwI L xs σ) (K : ∀ σ', LwI L xs σ' → TT am_b0 (am_b0.getD 50 []) [(0, vR 1), (1, vR 2), (2, vR 76), (3, vI ((i : Nat) : Int))] [] σ' Q) : TT am_b0 (am_b0.getD 41 []) [(0, vR 1), (1, vR 2), (2, vR 76), (3, vI ((i : Nat) : Int))] [] σ Q := by
  obtain ⟨⟨k, nm, ns, D, hCI, hR⟩, hx, h1⟩ := hI
  have hW := hCI.w
  refine tt_ar rfl ?_
  refine tt_ar rfl ?_
  refine tt_ar rfl ?_
  refine tt_ar rfl ?_
  refine tt_iadd (by omega) (by omega) ?_
  refine tt_iald (i + 1) (x := (xs (i + 1)).toInt) h1 (by omega) (by omega) (hx _) ?_
  refine tt_cv2 2 rfl (wo_2 hW) (c156 σ k nm ns D hCI (xs (i + 1)).toInt) ?_
  intro r1 σ1 hq1
  obtain ⟨hC1, rfl, hE1, hQ1⟩ := hq1
  have hW1 := hQ1.1 hW
  have hR1 := hQ1.rr hR
  have hx1 : ∀ j, σ1.1 1 j = (xs j).toInt := fun j => (hQ1.2.2 1 (by omega) j).trans (hx j)
  have h11 := hQ1.2.1 _ h1
  obtain ⟨z, hz⟩ := is_see k nm D σ (xs (i + 1)).toInt
  rw [hz]
  refine tt_ar rfl ?_
  refine tt_ar rfl ?_
  refine tt_ar rfl ?_
  refine tt_ar rfl ?_
  refine tt_iadd (by omega) (by omega) ?_
  refine tt_iald (i + 1) (x := (xs (i + 1)).toInt) h11 (by omega) (by omega) (hx1 _) ?_
  refine tt_cv2 2 rfl (wo_76 hW1) (c265 σ σ1 k nm ns D hCI hW1 hR1 (xs (i + 1)).toInt) ?_
  intro r2 σ2 hq2
  obtain ⟨rfl, hR2, hQ2⟩ := hq2
  have hN : LwI L xs σ2 := lw_next hx h1 hC1 hE1 hQ1 hR2 hQ2
  rw [hz]
  exact tt_iceq (fun _ => K σ2 hN) (fun h => absurd rfl h)
theorem is_asked (A : am_S) : ∃ z, (x_asked A).1 = vI z := by
  unfold x_asked
  (try unfold wOf)
  (repeat' split) <;> exact ⟨_, rfl⟩
theorem lw_b42 {L : Nat} {xs : Nat → Int32} {σ : am_S} {i : Nat} {Q : Option am_V → am_S → Prop} (hL : L ≤ 3072) (hi : i + 6 ≤ L) (hI : LwI L xs σ) (K : ∀ σ', LwI L xs σ' → TT am_b0 (am_b0.getD 50 []) [(0, vR 1), (1, vR 2), (2, vR 76), (3, vI ((i : Nat) : Int))] [] σ' Q) : TT am_b0 (am_b0.getD 42 []) [(0, vR 1), (1, vR 2), (2, vR 76), (3, vI ((i : Nat) : Int))] [] σ Q := by
  obtain ⟨⟨k, nm, ns, D, hCI, hR⟩, hx, h1⟩ := hI
  have hW := hCI.w
  refine tt_ar rfl ?_
  refine tt_cv1 1 rfl (wo_2 hW) (c158 σ k nm ns D hCI ) ?_
  intro r1 σ1 hq1
  obtain ⟨hC1, rfl, hE1, hQ1⟩ := hq1
  have hW1 := hQ1.1 hW
  have hR1 := hQ1.rr hR
  have hx1 : ∀ j, σ1.1 1 j = (xs j).toInt := fun j => (hQ1.2.2 1 (by omega) j).trans (hx j)
  have h11 := hQ1.2.1 _ h1
  obtain ⟨z, hz⟩ := is_asked σ 
  rw [hz]
  refine tt_ar rfl ?_
  refine tt_cv1 1 rfl (wo_76 hW1) (c267 σ σ1 k nm ns D hCI hW1 hR1 ) ?_
  intro r2 σ2 hq2
  obtain ⟨rfl, hR2, hQ2⟩ := hq2
  have hN : LwI L xs σ2 := lw_next hx h1 hC1 hE1 hQ1 hR2 hQ2
  rw [hz]
  exact tt_iceq (fun _ => K σ2 hN) (fun h => absurd rfl h)
theorem is_tales (A : am_S) : ∃ z, (x_tales A).1 = vL z := by
  unfold x_tales
  (try unfold wOf)
  (repeat' split) <;> exact ⟨_, rfl⟩
theorem lw_b43 {L : Nat} {xs : Nat → Int32} {σ : am_S} {i : Nat} {Q : Option am_V → am_S → Prop} (hL : L ≤ 3072) (hi : i + 6 ≤ L) (hI : LwI L xs σ) (K : ∀ σ', LwI L xs σ' → TT am_b0 (am_b0.getD 50 []) [(0, vR 1), (1, vR 2), (2, vR 76), (3, vI ((i : Nat) : Int))] [] σ' Q) : TT am_b0 (am_b0.getD 43 []) [(0, vR 1), (1, vR 2), (2, vR 76), (3, vI ((i : Nat) : Int))] [] σ Q := by
  obtain ⟨⟨k, nm, ns, D, hCI, hR⟩, hx, h1⟩ := hI
  have hW := hCI.w
  refine tt_ar rfl ?_
  refine tt_cv1 1 rfl (wo_2 hW) (c159 σ k nm ns D hCI ) ?_
  intro r1 σ1 hq1
  obtain ⟨hC1, rfl, hE1, hQ1⟩ := hq1
  have hW1 := hQ1.1 hW
  have hR1 := hQ1.rr hR
  have hx1 : ∀ j, σ1.1 1 j = (xs j).toInt := fun j => (hQ1.2.2 1 (by omega) j).trans (hx j)
  have h11 := hQ1.2.1 _ h1
  obtain ⟨z, hz⟩ := is_tales σ 
  rw [hz]
  refine tt_ar rfl ?_
  refine tt_cv1 1 rfl (wo_76 hW1) (c242 σ σ1 k nm ns D hCI hW1 hR1 ) ?_
  intro r2 σ2 hq2
  obtain ⟨rfl, hR2, hQ2⟩ := hq2
  have hN : LwI L xs σ2 := lw_next hx h1 hC1 hE1 hQ1 hR2 hQ2
  rw [hz]
  exact tt_lcmp (fun h => absurd h (by omega)) (fun _ => tt_ifeqT rfl (K σ2 hN)) (fun h => absurd h (by omega))
theorem is_upper (A : am_S) : ∃ z, (x_upper A).1 = vL z := by
  unfold x_upper
  (try unfold wOf)
  (repeat' split) <;> exact ⟨_, rfl⟩
theorem lw_b44 {L : Nat} {xs : Nat → Int32} {σ : am_S} {i : Nat} {Q : Option am_V → am_S → Prop} (hL : L ≤ 3072) (hi : i + 6 ≤ L) (hI : LwI L xs σ) (K : ∀ σ', LwI L xs σ' → TT am_b0 (am_b0.getD 50 []) [(0, vR 1), (1, vR 2), (2, vR 76), (3, vI ((i : Nat) : Int))] [] σ' Q) : TT am_b0 (am_b0.getD 44 []) [(0, vR 1), (1, vR 2), (2, vR 76), (3, vI ((i : Nat) : Int))] [] σ Q := by
  obtain ⟨⟨k, nm, ns, D, hCI, hR⟩, hx, h1⟩ := hI
  have hW := hCI.w
  refine tt_ar rfl ?_
  refine tt_cv1 1 rfl (wo_2 hW) (c160 σ k nm ns D hCI ) ?_
  intro r1 σ1 hq1
  obtain ⟨hC1, rfl, hE1, hQ1⟩ := hq1
  have hW1 := hQ1.1 hW
  have hR1 := hQ1.rr hR
  have hx1 : ∀ j, σ1.1 1 j = (xs j).toInt := fun j => (hQ1.2.2 1 (by omega) j).trans (hx j)
  have h11 := hQ1.2.1 _ h1
  obtain ⟨z, hz⟩ := is_upper σ 
  rw [hz]
  refine tt_ar rfl ?_
  refine tt_cv1 1 rfl (wo_76 hW1) (c268 σ σ1 k nm ns D hCI hW1 hR1 ) ?_
  intro r2 σ2 hq2
  obtain ⟨rfl, hR2, hQ2⟩ := hq2
  have hN : LwI L xs σ2 := lw_next hx h1 hC1 hE1 hQ1 hR2 hQ2
  rw [hz]
  exact tt_lcmp (fun h => absurd h (by omega)) (fun _ => tt_ifeqT rfl (K σ2 hN)) (fun h => absurd h (by omega))
theorem is_lower (A : am_S) : ∃ z, (x_lower A).1 = vL z := by
  unfold x_lower
  (try unfold wOf)
  (repeat' split) <;> exact ⟨_, rfl⟩
theorem lw_b45 {L : Nat} {xs : Nat → Int32} {σ : am_S} {i : Nat} {Q : Option am_V → am_S → Prop} (hL : L ≤ 3072) (hi : i + 6 ≤ L) (hI : LwI L xs σ) (K : ∀ σ', LwI L xs σ' → TT am_b0 (am_b0.getD 50 []) [(0, vR 1), (1, vR 2), (2, vR 76), (3, vI ((i : Nat) : Int))] [] σ' Q) : TT am_b0 (am_b0.getD 45 []) [(0, vR 1), (1, vR 2), (2, vR 76), (3, vI ((i : Nat) : Int))] [] σ Q := by
  obtain ⟨⟨k, nm, ns, D, hCI, hR⟩, hx, h1⟩ := hI
  have hW := hCI.w
  refine tt_ar rfl ?_
  refine tt_cv1 1 rfl (wo_2 hW) (c161 σ k nm ns D hCI ) ?_
  intro r1 σ1 hq1
  obtain ⟨hC1, rfl, hE1, hQ1⟩ := hq1
  have hW1 := hQ1.1 hW
  have hR1 := hQ1.rr hR
  have hx1 : ∀ j, σ1.1 1 j = (xs j).toInt := fun j => (hQ1.2.2 1 (by omega) j).trans (hx j)
  have h11 := hQ1.2.1 _ h1
  obtain ⟨z, hz⟩ := is_lower σ 
  rw [hz]
  refine tt_ar rfl ?_
  refine tt_cv1 1 rfl (wo_76 hW1) (c269 σ σ1 k nm ns D hCI hW1 hR1 ) ?_
  intro r2 σ2 hq2
  obtain ⟨rfl, hR2, hQ2⟩ := hq2
  have hN : LwI L xs σ2 := lw_next hx h1 hC1 hE1 hQ1 hR2 hQ2
  rw [hz]
  exact tt_lcmp (fun h => absurd h (by omega)) (fun _ => tt_ifeqT rfl (K σ2 hN)) (fun h => absurd h (by omega))
theorem is_count (ns : Nat) (A : am_S) (u : Int) : ∃ z, (x_count ns A u).1 = vI z := by
  unfold x_count
  (try unfold wOf)
  (repeat' split) <;> exact ⟨_, rfl⟩
theorem lw_b46 {L : Nat} {xs : Nat → Int32} {σ : am_S} {i : Nat} {Q : Option am_V → am_S → Prop} (hL : L ≤ 3072) (hi : i + 6 ≤ L) (hI : LwI L xs σ) (K : ∀ σ', LwI L xs σ' → TT am_b0 (am_b0.getD 50 []) [(0, vR 1), (1, vR 2), (2, vR 76), (3, vI ((i : Nat) : Int))] [] σ' Q) : TT am_b0 (am_b0.getD 46 []) [(0, vR 1), (1, vR 2), (2, vR 76), (3, vI ((i : Nat) : Int))] [] σ Q := by
  obtain ⟨⟨k, nm, ns, D, hCI, hR⟩, hx, h1⟩ := hI
  have hW := hCI.w
  refine tt_ar rfl ?_
  refine tt_ar rfl ?_
  refine tt_ar rfl ?_
  refine tt_ar rfl ?_
  refine tt_iadd (by omega) (by omega) ?_
  refine tt_iald (i + 1) (x := (xs (i + 1)).toInt) h1 (by omega) (by omega) (hx _) ?_
  refine tt_cv2 2 rfl (wo_2 hW) (c162 σ k nm ns D hCI (xs (i + 1)).toInt) ?_
  intro r1 σ1 hq1
  obtain ⟨hC1, rfl, hE1, hQ1⟩ := hq1
  have hW1 := hQ1.1 hW
  have hR1 := hQ1.rr hR
  have hx1 : ∀ j, σ1.1 1 j = (xs j).toInt := fun j => (hQ1.2.2 1 (by omega) j).trans (hx j)
  have h11 := hQ1.2.1 _ h1
  obtain ⟨z, hz⟩ := is_count ns σ (xs (i + 1)).toInt
  rw [hz]
  refine tt_ar rfl ?_
  refine tt_ar rfl ?_
  refine tt_ar rfl ?_
  refine tt_ar rfl ?_
  refine tt_iadd (by omega) (by omega) ?_
  refine tt_iald (i + 1) (x := (xs (i + 1)).toInt) h11 (by omega) (by omega) (hx1 _) ?_
  refine tt_cv2 2 rfl (wo_76 hW1) (c270 σ σ1 k nm ns D hCI hW1 hR1 (xs (i + 1)).toInt) ?_
  intro r2 σ2 hq2
  obtain ⟨rfl, hR2, hQ2⟩ := hq2
  have hN : LwI L xs σ2 := lw_next hx h1 hC1 hE1 hQ1 hR2 hQ2
  rw [hz]
  exact tt_iceq (fun _ => K σ2 hN) (fun h => absurd rfl h)
theorem is_finding (A : am_S) : ∃ z, (x_finding A).1 = vI z := by
  unfold x_finding
  (try unfold wOf)
  (repeat' split) <;> exact ⟨_, rfl⟩
theorem lw_b47 {L : Nat} {xs : Nat → Int32} {σ : am_S} {i : Nat} {Q : Option am_V → am_S → Prop} (hL : L ≤ 3072) (hi : i + 6 ≤ L) (hI : LwI L xs σ) (K : ∀ σ', LwI L xs σ' → TT am_b0 (am_b0.getD 50 []) [(0, vR 1), (1, vR 2), (2, vR 76), (3, vI ((i : Nat) : Int))] [] σ' Q) : TT am_b0 (am_b0.getD 47 []) [(0, vR 1), (1, vR 2), (2, vR 76), (3, vI ((i : Nat) : Int))] [] σ Q := by
  obtain ⟨⟨k, nm, ns, D, hCI, hR⟩, hx, h1⟩ := hI
  have hW := hCI.w
  refine tt_ar rfl ?_
  refine tt_cv1 1 rfl (wo_2 hW) (c165 σ k nm ns D hCI ) ?_
  intro r1 σ1 hq1
  obtain ⟨hC1, rfl, hE1, hQ1⟩ := hq1
  have hW1 := hQ1.1 hW
  have hR1 := hQ1.rr hR
  have hx1 : ∀ j, σ1.1 1 j = (xs j).toInt := fun j => (hQ1.2.2 1 (by omega) j).trans (hx j)
  have h11 := hQ1.2.1 _ h1
  obtain ⟨z, hz⟩ := is_finding σ 
  rw [hz]
  refine tt_ar rfl ?_
  refine tt_cv1 1 rfl (wo_76 hW1) (c272 σ σ1 k nm ns D hCI hW1 hR1 ) ?_
  intro r2 σ2 hq2
  obtain ⟨rfl, hR2, hQ2⟩ := hq2
  have hN : LwI L xs σ2 := lw_next hx h1 hC1 hE1 hQ1 hR2 hQ2
  rw [hz]
  exact tt_iceq (fun _ => K σ2 hN) (fun h => absurd rfl h)
theorem is_findings (A : am_S) (u : Int) : ∃ z, (x_findings A u).1 = vI z := by
  unfold x_findings
  (try unfold wOf)
  (repeat' split) <;> exact ⟨_, rfl⟩
theorem lw_b48 {L : Nat} {xs : Nat → Int32} {σ : am_S} {i : Nat} {Q : Option am_V → am_S → Prop} (hL : L ≤ 3072) (hi : i + 6 ≤ L) (hI : LwI L xs σ) (K : ∀ σ', LwI L xs σ' → TT am_b0 (am_b0.getD 50 []) [(0, vR 1), (1, vR 2), (2, vR 76), (3, vI ((i : Nat) : Int))] [] σ' Q) : TT am_b0 (am_b0.getD 48 []) [(0, vR 1), (1, vR 2), (2, vR 76), (3, vI ((i : Nat) : Int))] [] σ Q := by
  obtain ⟨⟨k, nm, ns, D, hCI, hR⟩, hx, h1⟩ := hI
  have hW := hCI.w
  refine tt_ar rfl ?_
  refine tt_ar rfl ?_
  refine tt_ar rfl ?_
  refine tt_ar rfl ?_
  refine tt_iadd (by omega) (by omega) ?_
  refine tt_iald (i + 1) (x := (xs (i + 1)).toInt) h1 (by omega) (by omega) (hx _) ?_
  refine tt_cv2 2 rfl (wo_2 hW) (c166 σ k nm ns D hCI (xs (i + 1)).toInt) ?_
  intro r1 σ1 hq1
  obtain ⟨hC1, rfl, hE1, hQ1⟩ := hq1
  have hW1 := hQ1.1 hW
  have hR1 := hQ1.rr hR
  have hx1 : ∀ j, σ1.1 1 j = (xs j).toInt := fun j => (hQ1.2.2 1 (by omega) j).trans (hx j)
  have h11 := hQ1.2.1 _ h1
  obtain ⟨z, hz⟩ := is_findings σ (xs (i + 1)).toInt
  rw [hz]
  refine tt_ar rfl ?_
  refine tt_ar rfl ?_
  refine tt_ar rfl ?_
  refine tt_ar rfl ?_
  refine tt_iadd (by omega) (by omega) ?_
  refine tt_iald (i + 1) (x := (xs (i + 1)).toInt) h11 (by omega) (by omega) (hx1 _) ?_
  refine tt_cv2 2 rfl (wo_76 hW1) (c273 σ σ1 k nm ns D hCI hW1 hR1 (xs (i + 1)).toInt) ?_
  intro r2 σ2 hq2
  obtain ⟨rfl, hR2, hQ2⟩ := hq2
  have hN : LwI L xs σ2 := lw_next hx h1 hC1 hE1 hQ1 hR2 hQ2
  rw [hz]
  exact tt_iceq (fun _ => K σ2 hN) (fun h => absurd rfl h)
theorem is_digest (k : Nat) (nm : Nat) (ns : Nat) (A : am_S) : ∃ z, (x_digest k nm ns A).1 = vL z := by
  unfold x_digest
  (try unfold wOf)
  (repeat' split) <;> exact ⟨_, rfl⟩
theorem lw_b49 {L : Nat} {xs : Nat → Int32} {σ : am_S} {i : Nat} {Q : Option am_V → am_S → Prop} (hL : L ≤ 3072) (hi : i + 6 ≤ L) (hI : LwI L xs σ) (K : ∀ σ', LwI L xs σ' → TT am_b0 (am_b0.getD 50 []) [(0, vR 1), (1, vR 2), (2, vR 76), (3, vI ((i : Nat) : Int))] [] σ' Q) : TT am_b0 (am_b0.getD 49 []) [(0, vR 1), (1, vR 2), (2, vR 76), (3, vI ((i : Nat) : Int))] [] σ Q := by
  obtain ⟨⟨k, nm, ns, D, hCI, hR⟩, hx, h1⟩ := hI
  have hW := hCI.w
  refine tt_ar rfl ?_
  refine tt_cv1 1 rfl (wo_2 hW) (c167 σ k nm ns D hCI ) ?_
  intro r1 σ1 hq1
  obtain ⟨hC1, rfl, hE1, hQ1⟩ := hq1
  have hW1 := hQ1.1 hW
  have hR1 := hQ1.rr hR
  have hx1 : ∀ j, σ1.1 1 j = (xs j).toInt := fun j => (hQ1.2.2 1 (by omega) j).trans (hx j)
  have h11 := hQ1.2.1 _ h1
  obtain ⟨z, hz⟩ := is_digest k nm ns σ 
  rw [hz]
  refine tt_ar rfl ?_
  refine tt_cv1 1 rfl (wo_76 hW1) (c274 σ σ1 k nm ns D hCI hW1 hR1 ) ?_
  intro r2 σ2 hq2
  obtain ⟨rfl, hR2, hQ2⟩ := hq2
  have hN : LwI L xs σ2 := lw_next hx h1 hC1 hE1 hQ1 hR2 hQ2
  rw [hz]
  exact tt_lcmp (fun h => absurd h (by omega)) (fun _ => tt_ifeqT rfl (K σ2 hN)) (fun h => absurd h (by omega))
