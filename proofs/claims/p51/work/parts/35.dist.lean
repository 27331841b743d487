/-! SPREAD, GATHER; THE PRICES OF STEPS -/
theorem bnN.le {N : Nat} {c : Nat → Int} (h : bnN N c) {x : Nat} (hx : x < N) : c x ≤ 1000000 := (h x hx).2
def dlN (h : Nat) (g : Nat) : Int := if g = h then 0 else 1000000
/-- D is the price of a step from each to each -/
def DI (k : Nat) (into pr : Nat → Int) (D : Nat → Nat → Int) : Prop := ∀ h, h < nkT k → SP k (GP into) (pr 1) (pr 2) (pr 0) (dlN h) (D h)
theorem to_nobody {k : Nat} (hk : k ≤ 6) : ∀ (d : Nat) {h : Nat}, h < nkT k → dsN 6 (tb k h) = d → wkR (dnR k) d h 0 ∧ wkR (upR k) d 0 h
  | 0, h, hh, hd => by
    have h1 := (en_at hk hh).2.2.1
    rw [lw_zero hd] at h1
    have : h = 0 := tb_inj hk hh (by have := (nkT_bd k).1; omega) (by rw [tb_0 k (by omega)]; exact h1.symm)
    subst this
    exact ⟨rfl, rfl⟩
  | d + 1, h, hh, hd => by
    obtain ⟨s, h1, h2⟩ := ds_pos (num := tb k h) (n := 6) (by omega)
    have hs : s < k := by
      rcases Nat.lt_or_ge s k with e | e
      · exact e
      · have := (en_at hk hh).2.2.2 s h1 e
        omega
    obtain ⟨g, hg⟩ := MM2.less hk hh hs h2
    obtain ⟨q1, q2⟩ := to_nobody hk d hg.2.1 (by have := hg.ds hk; omega)
    exact ⟨wkR.pre ⟨s, hg⟩ q1, ⟨g, q2, s, hg⟩⟩
theorem DI.bd {k : Nat} {into pr : Nat → Int} {D : Nat → Nat → Int} (hk : k ≤ 6) (hpr : ∀ i, i < 5 → 0 ≤ pr i ∧ pr i ≤ 9) (h : DI k into pr D) {a b : Nat} (ha : a < nkT k) (hb : b < nkT k) : 0 ≤ D a b ∧ D a b ≤ 90 := by
  obtain ⟨e0, e1, e2, e3, f⟩ := h a ha
  have p0 := hpr 0 (by omega)
  have p1 := hpr 1 (by omega)
  have p2 := hpr 2 (by omega)
  constructor
  · obtain ⟨g, x, y, n1, n2, n3, q0, -, -, -, q4⟩ := f b hb
    have h1 : 0 ≤ (n1 : Int) * pr 1 := Int.mul_nonneg (by omega) p1.1
    have h2 : 0 ≤ (n2 : Int) * pr 2 := Int.mul_nonneg (by omega) p2.1
    have h3 : 0 ≤ (n3 : Int) * pr 0 := Int.mul_nonneg (by omega) p0.1
    have h4 : 0 ≤ dlN a g := by unfold dlN; split <;> omega
    omega
  · have hz : 0 < nkT k := by have := (nkT_bd k).1; omega
    have da := (en_at hk ha).2.1
    have db := (en_at hk hb).2.1
    obtain ⟨w1, -⟩ := to_nobody hk _ ha rfl
    obtain ⟨-, w2⟩ := to_nobody hk _ hb rfl
    have i0 := e0 a ha
    have i1 := e1.wk (fun _ _ => dn_lt) w1 ha
    have i2 := e3.wk (fun _ _ => up_lt) w2 hz
    have i3 : dlN a a = 0 := if_pos rfl
    have m1 : ((dsN 6 (tb k a) : Nat) : Int) * pr 1 ≤ 5 * 9 := (mul_bd (by omega) (by omega) p1.1 p1.2).2
    have m2 : ((dsN 6 (tb k b) : Nat) : Int) * pr 0 ≤ 5 * 9 := (mul_bd (by omega) (by omega) p0.1 p0.2).2
    omega
theorem c94_33 (σ : am_S) (k : Nat) (hW : Wd σ) (hD : LD k σ) (hH : HT k σ) (hc : bnN (nkT k) (σ.1 33)) : CC 94 [vR 32, vR 33] σ (fun r σ' => r = none ∧ Fr [33] σ σ' ∧ bnN (nkT k) (σ'.1 33) ∧ SP k (GP (σ.1 6)) (σ.1 9 1) (σ.1 9 2) (σ.1 9 0) (σ.1 33) (σ'.1 33)) := by
  show TT am_b94 (am_b94.getD 0 []) [(0, vR 32), (1, vR 33)] [] σ _
  have hk6 := hD.2.1
  have hnb := nkT_bd k
  refine tt_ar rfl ?_
  refine tt_ar rfl ?_
  refine tt_ar rfl ?_
  refine tt_getR (wo_32 hW) rfl (wr_32_0 hW) ?_
  refine tt_getR (wo_5 hW) rfl (wr_5_5 hW) ?_
  refine tt_ar rfl ?_
  refine tt_iald (1) (x := σ.1 9 (1)) (wa_9 hW) rfl (by omega) rfl ?_
  have hb9 := hD.2.2.2.1 (1) (by omega)
  refine tt_cv3 3 rfl (wo_32 hW) (c95_33 σ k hW hD hH _ (by omega) hc) ?_
  intro r0 σ1 hq0
  obtain ⟨rfl, hF1, hbn1, hok1⟩ := hq0
  have hW1 := Fr.wd hF1 hW
  obtain ⟨a1, b1, f1⟩ := okR_split hok1
  have e6 : σ1.1 6 = σ.1 6 := funext (hF1.2 6 (by decide))
  have e9 : σ1.1 9 = σ.1 9 := funext (hF1.2 9 (by decide))
  refine tt_ar rfl ?_
  refine tt_ar rfl ?_
  refine tt_cv2 2 rfl (wo_32 hW1) (c97_33 σ1 k hW1 (LD.fr (L := [33]) hF1 (by decide) hD) (HT.fr (L := [33]) hF1 (by decide) hH) hbn1) ?_
  intro r0 σ2 hq0
  obtain ⟨rfl, hF2, hbn2, a2, b2, f2⟩ := hq0
  have hW2 := Fr.wd hF2 hW1
  rw [e6, e9] at b2 f2
  refine tt_ar rfl ?_
  refine tt_ar rfl ?_
  refine tt_ar rfl ?_
  refine tt_getR (wo_32 hW2) rfl (wr_32_0 hW2) ?_
  refine tt_getR (wo_5 hW2) rfl (wr_5_5 hW2) ?_
  refine tt_ar rfl ?_
  refine tt_iald (0) (x := σ.1 9 (0)) (wa_9 hW2) rfl (by omega) ((hF2.2 9 (by decide) (0)).trans (hF1.2 9 (by decide) (0))) ?_
  have hb9 := hD.2.2.2.1 (0) (by omega)
  refine tt_cv3 3 rfl (wo_32 hW2) (c99_33 σ2 k hW2 (LD.fr (L := [33]) (Fr.tr (Fr.tr Fr.rf hF1 (by decide)) hF2 (by decide)) (by decide) hD) (HT.fr (L := [33]) (Fr.tr (Fr.tr Fr.rf hF1 (by decide)) hF2 (by decide)) (by decide) hH) _ (by omega) hbn2) ?_
  intro r0 σ3 hq0
  obtain ⟨rfl, hF3, hbn3, hok3⟩ := hq0
  have hW3 := Fr.wd hF3 hW2
  obtain ⟨a3, b3, f3⟩ := okR_split hok3
  refine tt_vret ?_
  exact ⟨rfl, (Fr.tr (Fr.tr (Fr.tr Fr.rf hF1 (by decide)) hF2 (by decide)) hF3 (by decide)), hbn3, SP_of hk6 (hD.2.2.2.1 _ (by omega)).1 (hD.2.2.2.1 2 (by omega)).1 (hD.2.2.2.1 _ (by omega)).1 a1 b1 f1 a2 b2 f2 a3 b3 f3⟩

theorem c108_33 (σ : am_S) (k : Nat) (hW : Wd σ) (hD : LD k σ) (hH : HT k σ) (hc : bnN (nkT k) (σ.1 33)) : CC 108 [vR 32, vR 33] σ (fun r σ' => r = none ∧ Fr [33] σ σ' ∧ bnN (nkT k) (σ'.1 33) ∧ SP k (rvP (GP (σ.1 6))) (σ.1 9 0) (σ.1 9 2) (σ.1 9 1) (σ.1 33) (σ'.1 33)) := by
  show TT am_b108 (am_b108.getD 0 []) [(0, vR 32), (1, vR 33)] [] σ _
  have hk6 := hD.2.1
  have hnb := nkT_bd k
  refine tt_ar rfl ?_
  refine tt_ar rfl ?_
  refine tt_ar rfl ?_
  refine tt_getR (wo_32 hW) rfl (wr_32_0 hW) ?_
  refine tt_getR (wo_5 hW) rfl (wr_5_5 hW) ?_
  refine tt_ar rfl ?_
  refine tt_iald (0) (x := σ.1 9 (0)) (wa_9 hW) rfl (by omega) rfl ?_
  have hb9 := hD.2.2.2.1 (0) (by omega)
  refine tt_cv3 3 rfl (wo_32 hW) (c95_33 σ k hW hD hH _ (by omega) hc) ?_
  intro r0 σ1 hq0
  obtain ⟨rfl, hF1, hbn1, hok1⟩ := hq0
  have hW1 := Fr.wd hF1 hW
  obtain ⟨a1, b1, f1⟩ := okR_split hok1
  have e6 : σ1.1 6 = σ.1 6 := funext (hF1.2 6 (by decide))
  have e9 : σ1.1 9 = σ.1 9 := funext (hF1.2 9 (by decide))
  refine tt_ar rfl ?_
  refine tt_ar rfl ?_
  refine tt_cv2 2 rfl (wo_32 hW1) (c109_33 σ1 k hW1 (LD.fr (L := [33]) hF1 (by decide) hD) (HT.fr (L := [33]) hF1 (by decide) hH) hbn1) ?_
  intro r0 σ2 hq0
  obtain ⟨rfl, hF2, hbn2, a2, b2, f2⟩ := hq0
  have hW2 := Fr.wd hF2 hW1
  rw [e6, e9] at b2 f2
  refine tt_ar rfl ?_
  refine tt_ar rfl ?_
  refine tt_ar rfl ?_
  refine tt_getR (wo_32 hW2) rfl (wr_32_0 hW2) ?_
  refine tt_getR (wo_5 hW2) rfl (wr_5_5 hW2) ?_
  refine tt_ar rfl ?_
  refine tt_iald (1) (x := σ.1 9 (1)) (wa_9 hW2) rfl (by omega) ((hF2.2 9 (by decide) (1)).trans (hF1.2 9 (by decide) (1))) ?_
  have hb9 := hD.2.2.2.1 (1) (by omega)
  refine tt_cv3 3 rfl (wo_32 hW2) (c99_33 σ2 k hW2 (LD.fr (L := [33]) (Fr.tr (Fr.tr Fr.rf hF1 (by decide)) hF2 (by decide)) (by decide) hD) (HT.fr (L := [33]) (Fr.tr (Fr.tr Fr.rf hF1 (by decide)) hF2 (by decide)) (by decide) hH) _ (by omega) hbn2) ?_
  intro r0 σ3 hq0
  obtain ⟨rfl, hF3, hbn3, hok3⟩ := hq0
  have hW3 := Fr.wd hF3 hW2
  obtain ⟨a3, b3, f3⟩ := okR_split hok3
  refine tt_vret ?_
  exact ⟨rfl, (Fr.tr (Fr.tr (Fr.tr Fr.rf hF1 (by decide)) hF2 (by decide)) hF3 (by decide)), hbn3, SP_of hk6 (hD.2.2.2.1 _ (by omega)).1 (hD.2.2.2.1 2 (by omega)).1 (hD.2.2.2.1 _ (by omega)).1 a1 b1 f1 a2 b2 f2 a3 b3 f3⟩

theorem c94_38 (σ : am_S) (k : Nat) (hW : Wd σ) (hD : LD k σ) (hH : HT k σ) (hc : bnN (nkT k) (σ.1 38)) : CC 94 [vR 32, vR 38] σ (fun r σ' => r = none ∧ Fr [38] σ σ' ∧ bnN (nkT k) (σ'.1 38) ∧ SP k (GP (σ.1 6)) (σ.1 9 1) (σ.1 9 2) (σ.1 9 0) (σ.1 38) (σ'.1 38)) := by
  show TT am_b94 (am_b94.getD 0 []) [(0, vR 32), (1, vR 38)] [] σ _
  have hk6 := hD.2.1
  have hnb := nkT_bd k
  refine tt_ar rfl ?_
  refine tt_ar rfl ?_
  refine tt_ar rfl ?_
  refine tt_getR (wo_32 hW) rfl (wr_32_0 hW) ?_
  refine tt_getR (wo_5 hW) rfl (wr_5_5 hW) ?_
  refine tt_ar rfl ?_
  refine tt_iald (1) (x := σ.1 9 (1)) (wa_9 hW) rfl (by omega) rfl ?_
  have hb9 := hD.2.2.2.1 (1) (by omega)
  refine tt_cv3 3 rfl (wo_32 hW) (c95_38 σ k hW hD hH _ (by omega) hc) ?_
  intro r0 σ1 hq0
  obtain ⟨rfl, hF1, hbn1, hok1⟩ := hq0
  have hW1 := Fr.wd hF1 hW
  obtain ⟨a1, b1, f1⟩ := okR_split hok1
  have e6 : σ1.1 6 = σ.1 6 := funext (hF1.2 6 (by decide))
  have e9 : σ1.1 9 = σ.1 9 := funext (hF1.2 9 (by decide))
  refine tt_ar rfl ?_
  refine tt_ar rfl ?_
  refine tt_cv2 2 rfl (wo_32 hW1) (c97_38 σ1 k hW1 (LD.fr (L := [38]) hF1 (by decide) hD) (HT.fr (L := [38]) hF1 (by decide) hH) hbn1) ?_
  intro r0 σ2 hq0
  obtain ⟨rfl, hF2, hbn2, a2, b2, f2⟩ := hq0
  have hW2 := Fr.wd hF2 hW1
  rw [e6, e9] at b2 f2
  refine tt_ar rfl ?_
  refine tt_ar rfl ?_
  refine tt_ar rfl ?_
  refine tt_getR (wo_32 hW2) rfl (wr_32_0 hW2) ?_
  refine tt_getR (wo_5 hW2) rfl (wr_5_5 hW2) ?_
  refine tt_ar rfl ?_
  refine tt_iald (0) (x := σ.1 9 (0)) (wa_9 hW2) rfl (by omega) ((hF2.2 9 (by decide) (0)).trans (hF1.2 9 (by decide) (0))) ?_
  have hb9 := hD.2.2.2.1 (0) (by omega)
  refine tt_cv3 3 rfl (wo_32 hW2) (c99_38 σ2 k hW2 (LD.fr (L := [38]) (Fr.tr (Fr.tr Fr.rf hF1 (by decide)) hF2 (by decide)) (by decide) hD) (HT.fr (L := [38]) (Fr.tr (Fr.tr Fr.rf hF1 (by decide)) hF2 (by decide)) (by decide) hH) _ (by omega) hbn2) ?_
  intro r0 σ3 hq0
  obtain ⟨rfl, hF3, hbn3, hok3⟩ := hq0
  have hW3 := Fr.wd hF3 hW2
  obtain ⟨a3, b3, f3⟩ := okR_split hok3
  refine tt_vret ?_
  exact ⟨rfl, (Fr.tr (Fr.tr (Fr.tr Fr.rf hF1 (by decide)) hF2 (by decide)) hF3 (by decide)), hbn3, SP_of hk6 (hD.2.2.2.1 _ (by omega)).1 (hD.2.2.2.1 2 (by omega)).1 (hD.2.2.2.1 _ (by omega)).1 a1 b1 f1 a2 b2 f2 a3 b3 f3⟩

theorem c108_38 (σ : am_S) (k : Nat) (hW : Wd σ) (hD : LD k σ) (hH : HT k σ) (hc : bnN (nkT k) (σ.1 38)) : CC 108 [vR 32, vR 38] σ (fun r σ' => r = none ∧ Fr [38] σ σ' ∧ bnN (nkT k) (σ'.1 38) ∧ SP k (rvP (GP (σ.1 6))) (σ.1 9 0) (σ.1 9 2) (σ.1 9 1) (σ.1 38) (σ'.1 38)) := by
  show TT am_b108 (am_b108.getD 0 []) [(0, vR 32), (1, vR 38)] [] σ _
  have hk6 := hD.2.1
  have hnb := nkT_bd k
  refine tt_ar rfl ?_
  refine tt_ar rfl ?_
  refine tt_ar rfl ?_
  refine tt_getR (wo_32 hW) rfl (wr_32_0 hW) ?_
  refine tt_getR (wo_5 hW) rfl (wr_5_5 hW) ?_
  refine tt_ar rfl ?_
  refine tt_iald (0) (x := σ.1 9 (0)) (wa_9 hW) rfl (by omega) rfl ?_
  have hb9 := hD.2.2.2.1 (0) (by omega)
  refine tt_cv3 3 rfl (wo_32 hW) (c95_38 σ k hW hD hH _ (by omega) hc) ?_
  intro r0 σ1 hq0
  obtain ⟨rfl, hF1, hbn1, hok1⟩ := hq0
  have hW1 := Fr.wd hF1 hW
  obtain ⟨a1, b1, f1⟩ := okR_split hok1
  have e6 : σ1.1 6 = σ.1 6 := funext (hF1.2 6 (by decide))
  have e9 : σ1.1 9 = σ.1 9 := funext (hF1.2 9 (by decide))
  refine tt_ar rfl ?_
  refine tt_ar rfl ?_
  refine tt_cv2 2 rfl (wo_32 hW1) (c109_38 σ1 k hW1 (LD.fr (L := [38]) hF1 (by decide) hD) (HT.fr (L := [38]) hF1 (by decide) hH) hbn1) ?_
  intro r0 σ2 hq0
  obtain ⟨rfl, hF2, hbn2, a2, b2, f2⟩ := hq0
  have hW2 := Fr.wd hF2 hW1
  rw [e6, e9] at b2 f2
  refine tt_ar rfl ?_
  refine tt_ar rfl ?_
  refine tt_ar rfl ?_
  refine tt_getR (wo_32 hW2) rfl (wr_32_0 hW2) ?_
  refine tt_getR (wo_5 hW2) rfl (wr_5_5 hW2) ?_
  refine tt_ar rfl ?_
  refine tt_iald (1) (x := σ.1 9 (1)) (wa_9 hW2) rfl (by omega) ((hF2.2 9 (by decide) (1)).trans (hF1.2 9 (by decide) (1))) ?_
  have hb9 := hD.2.2.2.1 (1) (by omega)
  refine tt_cv3 3 rfl (wo_32 hW2) (c99_38 σ2 k hW2 (LD.fr (L := [38]) (Fr.tr (Fr.tr Fr.rf hF1 (by decide)) hF2 (by decide)) (by decide) hD) (HT.fr (L := [38]) (Fr.tr (Fr.tr Fr.rf hF1 (by decide)) hF2 (by decide)) (by decide) hH) _ (by omega) hbn2) ?_
  intro r0 σ3 hq0
  obtain ⟨rfl, hF3, hbn3, hok3⟩ := hq0
  have hW3 := Fr.wd hF3 hW2
  obtain ⟨a3, b3, f3⟩ := okR_split hok3
  refine tt_vret ?_
  exact ⟨rfl, (Fr.tr (Fr.tr (Fr.tr Fr.rf hF1 (by decide)) hF2 (by decide)) hF3 (by decide)), hbn3, SP_of hk6 (hD.2.2.2.1 _ (by omega)).1 (hD.2.2.2.1 2 (by omega)).1 (hD.2.2.2.1 _ (by omega)).1 a1 b1 f1 a2 b2 f2 a3 b3 f3⟩

