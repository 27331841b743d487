/-! THE REFERENCE'S CALLS: WORLD, PRICES, MONDAYS -/
theorem upW_o {W : Nat → Nat → Int} {A : am_S} {a j : Nat} (h : a < 5 ∨ (9 < a ∧ a ≠ 27 ∧ a ≠ 47)) : (upW W A).1 a j = A.1 a j := by
  unfold upW
  show (if a = 5 ∧ j = 0 then W 6 0 else if a = 5 ∧ j = 4 then W 6 1 else if a = 6 ∧ j < 6 then W 7 j else if a = 7 ∧ j < 48 then W 8 j else if a = 8 ∧ j < 48 then W 9 j else if a = 9 ∧ j < 5 then W 10 j else if a = 27 ∧ j = 0 then 0 else if a = 47 ∧ j = 2 then 0 else A.1 a j) = _
  rw [if_neg (by omega), if_neg (by omega), if_neg (by omega), if_neg (by omega), if_neg (by omega), if_neg (by omega), if_neg (by omega), if_neg (by omega)]
theorem grow_in {W : Nat → Nat → Int} {i k2 : Nat} (hk : W 6 0 = (k2 : Int)) (h : 0 ≤ W 7 i ∧ W 7 i ≤ (k2 : Int) - 1) : p_grow W 7 i = W 7 i := if_neg (fun z => by omega)
theorem grow_out {W : Nat → Nat → Int} {i k2 : Nat} (hk : W 6 0 = (k2 : Int)) (h : ¬ (0 ≤ W 7 i ∧ W 7 i ≤ (k2 : Int) - 1)) (h9 : W 7 i = -9 ∨ 0 ≤ W 7 i) : p_grow W 7 i = -9 := by
  unfold p_grow
  split
  · rfl
  · omega
section RRT
variable {k nm ns : Nat} {D : Nat → Nat → Int} {A A' σ σ' : am_S}
theorem RRb.wld {k2 : Nat} {D2 W : Nat → Nat → Int} (h : RRb k nm ns D A σ) (hk : W 6 0 = (k2 : Int)) (hF : Fr [76, 83, 84, 85, 86, 92, 93] σ σ') (hK : ∀ j, (j = 0 ∨ (2 ≤ j ∧ j ≤ 5)) → σ'.1 76 j = σ.1 76 j) (h11 : σ'.1 76 11 = (k2 : Int)) (h15 : σ'.1 76 15 = W 6 1) (h83 : ∀ i, i < 6 → i < k2 → σ'.1 83 i = W 7 i) (h84 : ∀ i, i < 48 → σ'.1 84 i = W 8 i ∧ σ'.1 85 i = W 9 i) (h86 : ∀ i, i < 5 → σ'.1 86 i = W 10 i) (h25 : σ'.1 76 25 = 0) (h43 : σ'.1 76 43 = 0) (h27 : σ'.1 76 27 = (nkT k2 : Int)) (hC : ∀ h, h < nkT k2 → σ'.1 92 h = (tb k2 h : Int) ∧ ∀ s, s < 6 → σ'.1 93 (6 * h + s) = (dg (tb k2 h) s : Int)) (h31 : σ'.1 76 31 = 0) : RRb k2 0 0 D2 (upW W A) σ' := by
  have m : ∀ a j, (a < 5 ∨ (9 < a ∧ a ≠ 27 ∧ a ≠ 47)) → (upW W A).1 a j = A.1 a j := fun a j ha => upW_o ha
  have s : ∀ a, (a ≠ 76 ∧ a ≠ 83 ∧ a ≠ 84 ∧ a ≠ 85 ∧ a ≠ 86 ∧ a ≠ 92 ∧ a ≠ 93) → ∀ j, σ'.1 a j = σ.1 a j := fun a ha => hF.2 a (by simp only [List.mem_cons, List.not_mem_nil, or_false, not_or]; exact ha)
  obtain ⟨b1, b2, b3, b4, b5⟩ := h.sc
  refine ⟨⟨hk, rfl, rfl⟩, ⟨(hK 0 (by omega)).trans b1, (hK 2 (by omega)).trans b2, (hK 3 (by omega)).trans b3, (hK 4 (by omega)).trans b4, (hK 5 (by omega)).trans b5⟩, fun f hf => (s 77 (by omega) f).trans (h.fs f hf), fun r hr => ?_, fun r hr => ?_, ⟨h11, h15, fun i h1 h2 => (h83 i h1 h2).trans ?_, fun i hi => ⟨(h84 i hi).1.trans ?_, (h84 i hi).2.trans ?_⟩, fun i hi => (h86 i hi).trans ?_⟩, ⟨h25, fun q hq => absurd hq (Nat.not_lt_zero q)⟩, ⟨h43, fun q hq => absurd hq (Nat.not_lt_zero q)⟩, ⟨h27, hC⟩, Or.inl h31⟩
  · rw [s 78 (by omega), m (56 + 2 * r) 1 (by omega)]
    exact ⟨(h.rw r hr).1, fun j hj => by rw [s 79 (by omega), m (57 + 2 * r) j (by omega)]; exact (h.rw r hr).2 j hj⟩
  · rw [s 81 (by omega), m (68 + 2 * r) 1 (by omega)]
    exact ⟨(h.tx r hr).1, fun j hj => by rw [s 82 (by omega), m (69 + 2 * r) j (by omega)]; exact (h.tx r hr).2 j hj⟩
  · show _ = if 6 = 5 ∧ i = 0 then W 6 0 else if 6 = 5 ∧ i = 4 then W 6 1 else if 6 = 6 ∧ i < 6 then W 7 i else _
    rw [if_neg (by omega), if_neg (by omega), if_pos ⟨rfl, h1⟩]
  · show _ = if 7 = 5 ∧ i = 0 then W 6 0 else if 7 = 5 ∧ i = 4 then W 6 1 else if 7 = 6 ∧ i < 6 then W 7 i else if 7 = 7 ∧ i < 48 then W 8 i else _
    rw [if_neg (by omega), if_neg (by omega), if_neg (by omega), if_pos ⟨rfl, hi⟩]
  · show _ = if 8 = 5 ∧ i = 0 then W 6 0 else if 8 = 5 ∧ i = 4 then W 6 1 else if 8 = 6 ∧ i < 6 then W 7 i else if 8 = 7 ∧ i < 48 then W 8 i else if 8 = 8 ∧ i < 48 then W 9 i else _
    rw [if_neg (by omega), if_neg (by omega), if_neg (by omega), if_neg (by omega), if_pos ⟨rfl, hi⟩]
  · show _ = if 9 = 5 ∧ i = 0 then W 6 0 else if 9 = 5 ∧ i = 4 then W 6 1 else if 9 = 6 ∧ i < 6 then W 7 i else if 9 = 7 ∧ i < 48 then W 8 i else if 9 = 8 ∧ i < 48 then W 9 i else if 9 = 9 ∧ i < 5 then W 10 i else _
    rw [if_neg (by omega), if_neg (by omega), if_neg (by omega), if_neg (by omega), if_neg (by omega), if_pos ⟨rfl, hi⟩]
theorem RRb.lin {nm' : Nat} (h : RRb k nm ns D A σ) (hA : ∀ a, (a < 27 ∨ 30 < a) → A'.1 a = A.1 a) (hF : Fr [76, 91] σ σ') (hK : ∀ j, j ≠ 25 → σ'.1 76 j = σ.1 76 j) (h27 : A'.1 27 0 = (nm' : Int)) (h25 : σ'.1 76 25 = (nm' : Int)) (h91 : ∀ m, m < nm' → ∀ w, w < 10 → σ'.1 91 (10 * m + w) = lnD A' m w) : RRb k nm' ns D A' σ' := by
  have s : ∀ a, (a ≠ 76 ∧ a ≠ 91) → σ'.1 a = σ.1 a := fun a ha => funext (hF.2 a (by simp only [List.mem_cons, List.not_mem_nil, or_false, not_or]; exact ha))
  refine ⟨⟨by rw [hA 5 (by omega)]; exact h.aa.1, h27, by rw [hA 47 (by omega)]; exact h.aa.2.2⟩, by rw [hK 0 (by omega), hK 2 (by omega), hK 3 (by omega), hK 4 (by omega), hK 5 (by omega), hA 2 (by omega)]; exact h.sc, by rw [s 77 (by omega), hA 55 (by omega)]; exact h.fs, fun r hr => by rw [s 78 (by omega), s 79 (by omega), hA (56 + 2 * r) (by omega), hA (57 + 2 * r) (by omega)]; exact h.rw r hr, fun r hr => by rw [s 81 (by omega), s 82 (by omega), hA (68 + 2 * r) (by omega), hA (69 + 2 * r) (by omega)]; exact h.tx r hr, by rw [hK 11 (by omega), hK 15 (by omega), s 83 (by omega), s 84 (by omega), s 85 (by omega), s 86 (by omega), hA 5 (by omega), hA 6 (by omega), hA 7 (by omega), hA 8 (by omega), hA 9 (by omega)]; exact h.wl, ⟨h25, h91⟩, ?_, by rw [hK 27 (by omega), s 92 (by omega), s 93 (by omega)]; exact h.hs, by rw [hK 31 (by omega), s 94 (by omega), hA 6 (by omega), hA 9 (by omega)]; exact h.sp⟩
  unfold stD
  rw [hK 43 (by omega), s 104 (by omega), hA 48 (by omega), hA 49 (by omega), hA 50 (by omega), hA 51 (by omega)]
  exact h.st
theorem RRb.pri (h : RRb k nm ns D A σ) (hA : ∀ a, a ≠ 9 → A'.1 a = A.1 a) (hF : Fr [76, 86] σ σ') (hK : ∀ j, j ≠ 31 → σ'.1 76 j = σ.1 76 j) (h86 : ∀ i, i < 5 → σ'.1 86 i = A'.1 9 i) (h31 : σ'.1 76 31 = 0) : RRb k nm ns D A' σ' := by
  have s : ∀ a, (a ≠ 76 ∧ a ≠ 86) → σ'.1 a = σ.1 a := fun a ha => funext (hF.2 a (by simp only [List.mem_cons, List.not_mem_nil, or_false, not_or]; exact ha))
  refine ⟨by rw [hA 5 (by omega), hA 27 (by omega), hA 47 (by omega)]; exact h.aa, by rw [hK 0 (by omega), hK 2 (by omega), hK 3 (by omega), hK 4 (by omega), hK 5 (by omega), hA 2 (by omega)]; exact h.sc, by rw [s 77 (by omega), hA 55 (by omega)]; exact h.fs, fun r hr => by rw [s 78 (by omega), s 79 (by omega), hA (56 + 2 * r) (by omega), hA (57 + 2 * r) (by omega)]; exact h.rw r hr, fun r hr => by rw [s 81 (by omega), s 82 (by omega), hA (68 + 2 * r) (by omega), hA (69 + 2 * r) (by omega)]; exact h.tx r hr, ⟨by rw [hK 11 (by omega)]; exact h.wl.1, by rw [hK 15 (by omega), hA 5 (by omega)]; exact h.wl.2.1, by rw [s 83 (by omega), hA 6 (by omega)]; exact h.wl.2.2.1, by rw [s 84 (by omega), s 85 (by omega), hA 7 (by omega), hA 8 (by omega)]; exact h.wl.2.2.2.1, h86⟩, ?_, ?_, by rw [hK 27 (by omega), s 92 (by omega), s 93 (by omega)]; exact h.hs, Or.inl h31⟩
  · unfold lnD
    rw [hK 25 (by omega), s 91 (by omega), hA 28 (by omega), hA 29 (by omega), hA 30 (by omega)]
    exact h.ln
  · unfold stD
    rw [hK 43 (by omega), s 104 (by omega), hA 48 (by omega), hA 49 (by omega), hA 50 (by omega), hA 51 (by omega)]
    exact h.st
theorem lnD_30 {i m w : Nat} {v : Int} : lnD (am_set A 30 i v) m w = if w = 0 then A.1 28 m else if w = 1 then A.1 29 m else if m * 8 + w - 2 = i then v else A.1 30 (m * 8 + w - 2) := by
  unfold lnD
  rw [am_set_nb (by decide), am_set_nb (by decide), am_set_at]
theorem lnD_upM {n m w p : Nat} {v d : Int} (hn : A.1 27 0 = (n : Int)) (hw : w < 10) : lnD (upM v d p A) m w = if m = n then (if w = 0 then v else if w = 1 then d else A.1 p (w - 2)) else lnD A m w := by
  have e : (A.1 27 0).toNat = n := by rw [hn]; rfl
  have e28 : (upM v d p A).1 28 m = if m = n then v else A.1 28 m := by unfold upM; rw [e]; simp
  have e29 : (upM v d p A).1 29 m = if m = n then d else A.1 29 m := by unfold upM; rw [e]; simp
  have e30 : ∀ j, (upM v d p A).1 30 j = if n * 8 ≤ j ∧ j < n * 8 + 8 then A.1 p (j - n * 8) else A.1 30 j := fun j => by unfold upM; rw [e]; simp
  unfold lnD
  rw [e28, e29, e30]
  by_cases h0 : w = 0
  · rw [if_pos h0, if_pos h0, if_pos h0]
  · rw [if_neg h0, if_neg h0, if_neg h0]
    by_cases h1 : w = 1
    · rw [if_pos h1, if_pos h1, if_pos h1]
    · rw [if_neg h1, if_neg h1, if_neg h1]
      by_cases hm : m = n
      · rw [if_pos hm, if_pos (by omega), hm, show n * 8 + w - 2 - n * 8 = w - 2 by omega]
      · rw [if_neg hm, if_neg (by omega)]
end RRT
theorem c202 (A σ : am_S) (k nm ns : Nat) (D : Nat → Nat → Int) (hA : CI k nm ns D A) (hW : Wd σ) (hR : RRb k nm ns D A σ) (v : Int) : CC 202 [vR 76, vI (v)] σ (fun r σ' => σ' = σ ∧ ((0 ≤ v ∧ v < (k : Int)) ∧ r = some (vI 1) ∨ ¬(0 ≤ v ∧ v < (k : Int)) ∧ r = some (vI 0))) := by
  show TT am_b202 (am_b202.getD 0 []) [(0, vR 76), (1, vI (v))] [] σ _
  have hmx := hA.x.1.2.1
  refine tt_ar rfl ?_
  refine tt_ar rfl ?_
  refine tt_ar rfl ?_
  refine tt_getI (x := ((k : Nat) : Int)) (wo_76 hW) rfl hR.wl.1 ?_
  refine tt_ar rfl ?_
  refine tt_isub (by omega) (by omega) ?_
  refine tt_cs3 3 rfl (c175 _ _ _ _) (kb (fun h0_6 => ?_) (fun h0_6 => ?_))
  · refine tt_zret (by omega) ?_
    exact ⟨rfl, Or.inl ⟨by omega, rfl⟩⟩
  · refine tt_zret (by omega) ?_
    exact ⟨rfl, Or.inr ⟨by omega, rfl⟩⟩

theorem c209 (A σ : am_S) (k nm ns : Nat) (D : Nat → Nat → Int) (hA : CI k nm ns D A) (hW : Wd σ) (hR : RRb k nm ns D A σ) (v : Int) : CC 209 [vR 76, vI (v)] σ (fun r σ' => σ' = σ ∧ ((0 ≤ v ∧ v < (nm : Int)) ∧ r = some (vI 1) ∨ ¬(0 ≤ v ∧ v < (nm : Int)) ∧ r = some (vI 0))) := by
  show TT am_b209 (am_b209.getD 0 []) [(0, vR 76), (1, vI (v))] [] σ _
  have hmx := hA.x.2.2.1.2.1
  refine tt_ar rfl ?_
  refine tt_ar rfl ?_
  refine tt_ar rfl ?_
  refine tt_getI (x := ((nm : Nat) : Int)) (wo_76 hW) rfl hR.ln.1 ?_
  refine tt_ar rfl ?_
  refine tt_isub (by omega) (by omega) ?_
  refine tt_cs3 3 rfl (c175 _ _ _ _) (kb (fun h0_6 => ?_) (fun h0_6 => ?_))
  · refine tt_zret (by omega) ?_
    exact ⟨rfl, Or.inl ⟨by omega, rfl⟩⟩
  · refine tt_zret (by omega) ?_
    exact ⟨rfl, Or.inr ⟨by omega, rfl⟩⟩

theorem c251 (A σ : am_S) (k nm ns : Nat) (D : Nat → Nat → Int) (hA : CI k nm ns D A) (hW : Wd σ) (hR : RRb k nm ns D A σ) (v : Int) : CC 251 [vR 76, vI (v)] σ (fun r σ' => σ' = σ ∧ ((0 ≤ v ∧ v < (ns : Int)) ∧ r = some (vI 1) ∨ ¬(0 ≤ v ∧ v < (ns : Int)) ∧ r = some (vI 0))) := by
  show TT am_b251 (am_b251.getD 0 []) [(0, vR 76), (1, vI (v))] [] σ _
  have hmx := hA.st.2
  refine tt_ar rfl ?_
  refine tt_ar rfl ?_
  refine tt_ar rfl ?_
  refine tt_getI (x := ((ns : Nat) : Int)) (wo_76 hW) rfl hR.st.1 ?_
  refine tt_ar rfl ?_
  refine tt_isub (by omega) (by omega) ?_
  refine tt_cs3 3 rfl (c175 _ _ _ _) (kb (fun h0_6 => ?_) (fun h0_6 => ?_))
  · refine tt_zret (by omega) ?_
    exact ⟨rfl, Or.inl ⟨by omega, rfl⟩⟩
  · refine tt_zret (by omega) ?_
    exact ⟨rfl, Or.inr ⟨by omega, rfl⟩⟩

theorem c210 (A σ : am_S) (k nm ns : Nat) (D : Nat → Nat → Int) (hA : CI k nm ns D A) (hW : Wd σ) (hR : RRb k nm ns D A σ) (m w : Nat) (hm : m < nm) (hw : w < 10) : CC 210 [vR 76, vI (((m : Nat) : Int)), vI (((w : Nat) : Int))] σ (fun r σ' => r = some (vI (lnD A m w)) ∧ σ' = σ) := by
  show TT am_b210 (am_b210.getD 0 []) [(0, vR 76), (1, vI (((m : Nat) : Int))), (2, vI (((w : Nat) : Int)))] [] σ _
  have hmx := hA.x.2.2.1.2.1
  refine tt_ar rfl ?_
  refine tt_getR (wo_76 hW) rfl (wr_76_26 hW) ?_
  refine tt_ar rfl ?_
  refine tt_ar rfl ?_
  refine tt_imul (by omega) (by omega) ?_
  refine tt_ar rfl ?_
  refine tt_iadd (by omega) (by omega) ?_
  refine tt_iald (((10 * m) + w)) (x := σ.1 91 (((10 * m) + w))) (wa_91 hW) (by omega) (by omega) rfl ?_
  refine tt_iret ?_
  exact ⟨rv (hR.ln.2 m hm w hw), rfl⟩

theorem c174 (W : Nat → Nat → Int) (k2 : Nat) (σ : am_S) (hW : Wd σ) (hP : WQ W σ) (hok : WOK W) (hk2 : W 6 0 = (k2 : Int)) : CC 174 [vR 76] σ (fun r σ' => r = none ∧ Fr [76, 83, 84, 85, 86, 92, 93] σ σ' ∧ (∀ j, j ≠ 11 → j ≠ 15 → j ≠ 25 → j ≠ 43 → j ≠ 27 → j ≠ 31 → σ'.1 76 j = σ.1 76 j) ∧ σ'.1 76 11 = (k2 : Int) ∧ σ'.1 76 15 = W 6 1 ∧ (∀ i, i < 6 → i < k2 → σ'.1 83 i = p_grow W 7 i) ∧ (∀ i, i < 48 → σ'.1 84 i = W 8 i ∧ σ'.1 85 i = W 9 i) ∧ (∀ i, i < 5 → σ'.1 86 i = W 10 i) ∧ σ'.1 76 25 = 0 ∧ σ'.1 76 43 = 0 ∧ σ'.1 76 27 = (nkT k2 : Int) ∧ (∀ j, j < nkT k2 → σ'.1 92 j = (tb k2 j : Int) ∧ ∀ s, s < 6 → σ'.1 93 (6 * j + s) = (dg (tb k2 j) s : Int)) ∧ σ'.1 76 31 = 0) := by
  show TT am_b174 (am_b174.getD 0 []) [(0, vR 76)] [] σ _
  have hk26 : k2 ≤ 6 := by have := hok.1.2; omega
  refine tt_ar rfl ?_
  refine tt_ar rfl ?_
  refine tt_getI (x := ((k2 : Nat) : Int)) (wo_76 hW) rfl (hP.1.trans hk2) ?_
  refine tt_putI (wo_76 hW) rfl ?_
  refine tt_ar rfl ?_
  refine tt_ar rfl ?_
  refine tt_getI (x := W 6 1) (wo_76 hW) rfl hP.2.1 ?_
  refine tt_putI (wo_76 hW) rfl ?_
  refine tt_ar rfl ?_
  refine tt_ar rfl ?_
  refine tt_nop ?_
  have lp1_1 : ∀ (μ : Nat) (i : Nat) (σ1 : am_S), k2 - i < μ → Fr [83] (am_set (am_set σ 76 (11) (((k2 : Nat) : Int))) 76 (15) (W 6 1)) σ1 → (i ≤ k2) → (∀ j, j < i → σ1.1 83 j = p_grow W 7 j) → TT am_b174 (am_b174.getD 1 []) [(0, vR 76), (1, vI (((i : Nat) : Int)))] [] σ1 (fun r σ' => r = none ∧ Fr [76, 83, 84, 85, 86, 92, 93] σ σ' ∧ (∀ j, j ≠ 11 → j ≠ 15 → j ≠ 25 → j ≠ 43 → j ≠ 27 → j ≠ 31 → σ'.1 76 j = σ.1 76 j) ∧ σ'.1 76 11 = (k2 : Int) ∧ σ'.1 76 15 = W 6 1 ∧ (∀ i, i < 6 → i < k2 → σ'.1 83 i = p_grow W 7 i) ∧ (∀ i, i < 48 → σ'.1 84 i = W 8 i ∧ σ'.1 85 i = W 9 i) ∧ (∀ i, i < 5 → σ'.1 86 i = W 10 i) ∧ σ'.1 76 25 = 0 ∧ σ'.1 76 43 = 0 ∧ σ'.1 76 27 = (nkT k2 : Int) ∧ (∀ j, j < nkT k2 → σ'.1 92 j = (tb k2 j : Int) ∧ ∀ s, s < 6 → σ'.1 93 (6 * j + s) = (dg (tb k2 j) s : Int)) ∧ σ'.1 76 31 = 0) := by
    intro μ
    induction μ with
    | zero => intro i σ1 hμ; exact absurd hμ (Nat.not_lt_zero _)
    | succ μ ih1 =>
      intro i σ1 hμ hF_σ1 hi h83
      have hW_σ1 := Fr.wd hF_σ1 hW
      have hwi : i < k2 → -9 ≤ W 7 i ∧ W 7 i ≤ 5 ∧ (W 7 i = -9 ∨ 0 ≤ W 7 i) := fun h => hok.2.1 i (by omega)
      refine tt_ar rfl ?_
      refine tt_ar rfl ?_
      refine tt_getI (x := ((k2 : Nat) : Int)) (wo_76 hW_σ1) rfl ((hF_σ1.2 76 (by decide) (11)).trans (@am_set_rd σ 76 (11) (((k2 : Nat) : Int)))) ?_
      refine tt_icge (fun h1_3 => ?_) (fun h1_3 => ?_)
      · refine tt_ar rfl ?_
        refine tt_ar rfl ?_
        refine tt_nop ?_
        have lp5_2 : ∀ (μ : Nat) (i : Nat) (σ2 : am_S), 48 - i < μ → Fr [84, 85] σ1 σ2 → (i ≤ 48) → (∀ j, j < i → σ2.1 84 j = W 8 j ∧ σ2.1 85 j = W 9 j) → TT am_b174 (am_b174.getD 5 []) [(0, vR 76), (1, vI (((i : Nat) : Int)))] [] σ2 (fun r σ' => r = none ∧ Fr [76, 83, 84, 85, 86, 92, 93] σ σ' ∧ (∀ j, j ≠ 11 → j ≠ 15 → j ≠ 25 → j ≠ 43 → j ≠ 27 → j ≠ 31 → σ'.1 76 j = σ.1 76 j) ∧ σ'.1 76 11 = (k2 : Int) ∧ σ'.1 76 15 = W 6 1 ∧ (∀ i, i < 6 → i < k2 → σ'.1 83 i = p_grow W 7 i) ∧ (∀ i, i < 48 → σ'.1 84 i = W 8 i ∧ σ'.1 85 i = W 9 i) ∧ (∀ i, i < 5 → σ'.1 86 i = W 10 i) ∧ σ'.1 76 25 = 0 ∧ σ'.1 76 43 = 0 ∧ σ'.1 76 27 = (nkT k2 : Int) ∧ (∀ j, j < nkT k2 → σ'.1 92 j = (tb k2 j : Int) ∧ ∀ s, s < 6 → σ'.1 93 (6 * j + s) = (dg (tb k2 j) s : Int)) ∧ σ'.1 76 31 = 0) := by
          intro μ
          induction μ with
          | zero => intro i σ2 hμ; exact absurd hμ (Nat.not_lt_zero _)
          | succ μ ih5 =>
            intro i σ2 hμ hF_σ2 hi2 h84
            have hW_σ2 := Fr.wd hF_σ2 hW_σ1
            refine tt_ar rfl ?_
            refine tt_ar rfl ?_
            refine tt_icge (fun h5_2 => ?_) (fun h5_2 => ?_)
            · refine tt_ar rfl ?_
              refine tt_ar rfl ?_
              refine tt_nop ?_
              have lp7_3 : ∀ (μ : Nat) (i : Nat) (σ3 : am_S), 5 - i < μ → Fr [86] σ2 σ3 → (i ≤ 5) → (∀ j, j < i → σ3.1 86 j = W 10 j) → TT am_b174 (am_b174.getD 7 []) [(0, vR 76), (1, vI (((i : Nat) : Int)))] [] σ3 (fun r σ' => r = none ∧ Fr [76, 83, 84, 85, 86, 92, 93] σ σ' ∧ (∀ j, j ≠ 11 → j ≠ 15 → j ≠ 25 → j ≠ 43 → j ≠ 27 → j ≠ 31 → σ'.1 76 j = σ.1 76 j) ∧ σ'.1 76 11 = (k2 : Int) ∧ σ'.1 76 15 = W 6 1 ∧ (∀ i, i < 6 → i < k2 → σ'.1 83 i = p_grow W 7 i) ∧ (∀ i, i < 48 → σ'.1 84 i = W 8 i ∧ σ'.1 85 i = W 9 i) ∧ (∀ i, i < 5 → σ'.1 86 i = W 10 i) ∧ σ'.1 76 25 = 0 ∧ σ'.1 76 43 = 0 ∧ σ'.1 76 27 = (nkT k2 : Int) ∧ (∀ j, j < nkT k2 → σ'.1 92 j = (tb k2 j : Int) ∧ ∀ s, s < 6 → σ'.1 93 (6 * j + s) = (dg (tb k2 j) s : Int)) ∧ σ'.1 76 31 = 0) := by
                intro μ
                induction μ with
                | zero => intro i σ3 hμ; exact absurd hμ (Nat.not_lt_zero _)
                | succ μ ih7 =>
                  intro i σ3 hμ hF_σ3 hi3 h86
                  have hW_σ3 := Fr.wd hF_σ3 hW_σ2
                  refine tt_ar rfl ?_
                  refine tt_ar rfl ?_
                  refine tt_icge (fun h7_2 => ?_) (fun h7_2 => ?_)
                  · refine tt_ar rfl ?_
                    refine tt_ar rfl ?_
                    refine tt_putI (wo_76 hW_σ3) rfl ?_
                    refine tt_ar rfl ?_
                    refine tt_ar rfl ?_
                    refine tt_putI (wo_76 hW_σ3) rfl ?_
                    refine tt_ar rfl ?_
                    have h11z : (am_set (am_set σ3 76 (25) (0)) 76 (43) (0)).1 76 11 = (k2 : Int) := ((hF_σ3.2 76 (by decide) (11)).trans ((hF_σ2.2 76 (by decide) (11)).trans ((hF_σ1.2 76 (by decide) (11)).trans (@am_set_rd σ 76 (11) (((k2 : Nat) : Int))))))
                    refine tt_cv1 1 rfl (wo_76 hW_σ3) (c176 (am_set (am_set σ3 76 (25) (0)) 76 (43) (0)) k2 hW_σ3 hk26 h11z) ?_
                    intro r0 σ4 hq0
                    obtain ⟨rfl, hF4, hKz, h27z, hCz⟩ := hq0
                    have hW4 := Fr.wd hF4 hW_σ3
                    refine tt_ar rfl ?_
                    refine tt_ar rfl ?_
                    refine tt_putZ (wo_76 hW4) rfl (by omega) ?_
                    refine tt_vret ?_
                    refine ⟨rfl, (Fr.put (Fr.tr (Fr.put (Fr.put (Fr.tr (Fr.tr (Fr.tr (Fr.put (Fr.put Fr.rf (by decide)) (by decide)) hF_σ1 (by decide)) hF_σ2 (by decide)) hF_σ3 (by decide)) (by decide)) (by decide)) hF4 (by decide)) (by decide)), (fun j h1 h2 h3 h4 h5 h6 => ?_), ((am_set_at).trans ((if_neg (by decide)).trans ((hKz 11 (by decide)).trans ((hF_σ3.2 76 (by decide) (11)).trans ((hF_σ2.2 76 (by decide) (11)).trans ((hF_σ1.2 76 (by decide) (11)).trans (@am_set_rd σ 76 (11) (((k2 : Nat) : Int))))))))), ((am_set_at).trans ((if_neg (by decide)).trans ((hKz 15 (by decide)).trans ((hF_σ3.2 76 (by decide) (15)).trans ((hF_σ2.2 76 (by decide) (15)).trans ((hF_σ1.2 76 (by decide) (15)).trans (@am_set_rd (am_set σ 76 (11) (((k2 : Nat) : Int))) 76 (15) (W 6 1)))))))), ?_, ?_, ?_, ((am_set_at).trans ((if_neg (by decide)).trans ((hKz 25 (by decide)).trans (@am_set_rd σ3 76 (25) (0))))), ((am_set_at).trans ((if_neg (by decide)).trans ((hKz 43 (by decide)).trans (@am_set_rd (am_set σ3 76 (25) (0)) 76 (43) (0))))), h27z, hCz, rfl⟩
                    · refine (am_set_at).trans ((if_neg h6).trans ((hKz j h5).trans ?_))
                      rw [am_set_at, if_neg h4, am_set_at, if_neg h3, hF_σ3.2 76 (by decide), hF_σ2.2 76 (by decide), hF_σ1.2 76 (by decide), am_set_at, if_neg h2, am_set_at, if_neg h1]
                    · intro i h1 h2
                      rw [show (am_set σ4 76 (31) (0)).1 83 i = σ1.1 83 i from ((hF4.2 83 (by decide) (i)).trans ((hF_σ3.2 83 (by decide) (i)).trans (hF_σ2.2 83 (by decide) (i))))]
                      exact h83 i (by omega)
                    · intro i hi
                      rw [show (am_set σ4 76 (31) (0)).1 84 i = σ2.1 84 i from ((hF4.2 84 (by decide) (i)).trans (hF_σ3.2 84 (by decide) (i))), show (am_set σ4 76 (31) (0)).1 85 i = σ2.1 85 i from ((hF4.2 85 (by decide) (i)).trans (hF_σ3.2 85 (by decide) (i)))]
                      exact h84 i (by omega)
                    · intro i hi
                      rw [show (am_set σ4 76 (31) (0)).1 86 i = σ3.1 86 i from (hF4.2 86 (by decide) (i))]
                      exact h86 i (by omega)
                  · refine tt_ar rfl ?_
                    refine tt_getR (wo_76 hW_σ3) rfl (wr_76_16 hW_σ3) ?_
                    refine tt_ar rfl ?_
                    refine tt_ar rfl ?_
                    refine tt_getR (wo_76 hW_σ3) rfl (wr_76_22 hW_σ3) ?_
                    refine tt_ar rfl ?_
                    refine tt_iald (i) (x := W 10 i) (wa_90 hW_σ3) rfl (by omega) (((hF_σ3.2 90 (by decide) (i)).trans ((hF_σ2.2 90 (by decide) (i)).trans (hF_σ1.2 90 (by decide) (i)))).trans (hP.2.2.2.2.2 i (by omega))) ?_
                    refine tt_iast (i) (wa_86 hW_σ3) (by omega) rfl (by omega) ?_
                    refine tt_iinc (y := ((i + 1 : Nat) : Int)) rfl (iinc_fit (by omega) (by omega) (by omega)) ?_
                    refine tt_goto ?_
                    refine tt_loc [(0, vR 76), (1, vI (((i + 1 : Nat) : Int)))] rfl rfl ⟨rfl, rfl, trivial⟩ ?_
                    exact ih7 (i + 1) _ (by omega) (Fr.put (Fr.tr Fr.rf hF_σ3 (by decide)) (by decide)) (by omega) (fun j hj => by rw [am_set_at]; by_cases e : j = i; (rw [if_pos e, e]); (rw [if_neg e]; exact h86 j (by omega)))
              refine tt_loc [(0, vR 76), (1, vI (((0 : Nat) : Int)))] rfl rfl ⟨rfl, lv_to rfl (by omega), trivial⟩ ?_
              exact lp7_3 _ (0) σ2 (Nat.lt_succ_self _) Fr.rf (by omega) (fun j hj => absurd hj (Nat.not_lt_zero j))
            · refine tt_ar rfl ?_
              refine tt_getR (wo_76 hW_σ2) rfl (wr_76_13 hW_σ2) ?_
              refine tt_ar rfl ?_
              refine tt_ar rfl ?_
              refine tt_getR (wo_76 hW_σ2) rfl (wr_76_19 hW_σ2) ?_
              refine tt_ar rfl ?_
              refine tt_iald (i) (x := W 8 i) (wa_88 hW_σ2) rfl (by omega) (((hF_σ2.2 88 (by decide) (i)).trans (hF_σ1.2 88 (by decide) (i))).trans (hP.2.2.2.1 i (by omega))) ?_
              refine tt_iast (i) (wa_84 hW_σ2) (by omega) rfl (by omega) ?_
              refine tt_ar rfl ?_
              refine tt_getR (wo_76 hW_σ2) rfl (wr_76_14 hW_σ2) ?_
              refine tt_ar rfl ?_
              refine tt_ar rfl ?_
              refine tt_getR (wo_76 hW_σ2) rfl (wr_76_20 hW_σ2) ?_
              refine tt_ar rfl ?_
              refine tt_iald (i) (x := W 9 i) (wa_89 hW_σ2) rfl (by omega) (((hF_σ2.2 89 (by decide) (i)).trans (hF_σ1.2 89 (by decide) (i))).trans (hP.2.2.2.2.1 i (by omega))) ?_
              refine tt_iast (i) (wa_85 hW_σ2) (by omega) rfl (by omega) ?_
              refine tt_iinc (y := ((i + 1 : Nat) : Int)) rfl (iinc_fit (by omega) (by omega) (by omega)) ?_
              refine tt_goto ?_
              refine tt_loc [(0, vR 76), (1, vI (((i + 1 : Nat) : Int)))] rfl rfl ⟨rfl, rfl, trivial⟩ ?_
              exact ih5 (i + 1) _ (by omega) (Fr.put (Fr.put (Fr.tr Fr.rf hF_σ2 (by decide)) (by decide)) (by decide)) (by omega) (fun j hj => by rw [am_set_nb (by decide), am_set_at, am_set_at]; by_cases e : j = i; (rw [if_pos e, if_pos e, e]; exact ⟨rfl, rfl⟩); (rw [if_neg e, if_neg e]; exact h84 j (by omega)))
        refine tt_loc [(0, vR 76), (1, vI (((0 : Nat) : Int)))] rfl rfl ⟨rfl, lv_to rfl (by omega), trivial⟩ ?_
        exact lp5_2 _ (0) σ1 (Nat.lt_succ_self _) Fr.rf (by omega) (fun j hj => absurd hj (Nat.not_lt_zero j))
      · refine tt_ar rfl ?_
        refine tt_getR (wo_76 hW_σ1) rfl (wr_76_12 hW_σ1) ?_
        refine tt_ar rfl ?_
        refine tt_ar rfl ?_
        refine tt_getR (wo_76 hW_σ1) rfl (wr_76_18 hW_σ1) ?_
        refine tt_ar rfl ?_
        refine tt_iald (i) (x := W 7 i) (wa_87 hW_σ1) rfl (by omega) ((hF_σ1.2 87 (by decide) (i)).trans (hP.2.2.1 i (by omega))) ?_
        have hwj := hwi (by omega)
        refine tt_ar rfl ?_
        refine tt_ar rfl ?_
        refine tt_getI (x := ((k2 : Nat) : Int)) (wo_76 hW_σ1) rfl ((hF_σ1.2 76 (by decide) (11)).trans (@am_set_rd σ 76 (11) (((k2 : Nat) : Int)))) ?_
        refine tt_ar rfl ?_
        refine tt_isub (by omega) (by omega) ?_
        refine tt_cs3 3 rfl (c175 _ _ _ _) (kb (fun h1_16 => ?_) (fun h1_16 => ?_))
        · refine tt_ifeqF (by decide) ?_
          refine tt_ar rfl ?_
          refine tt_getR (wo_76 hW_σ1) rfl (wr_76_18 hW_σ1) ?_
          refine tt_ar rfl ?_
          refine tt_iald (i) (x := W 7 i) (wa_87 hW_σ1) rfl (by omega) ((hF_σ1.2 87 (by decide) (i)).trans (hP.2.2.1 i (by omega))) ?_
          have hwj := hwi (by omega)
          refine tt_goto ?_
          refine tt_iast (i) (wa_83 hW_σ1) (by omega) rfl (by omega) ?_
          refine tt_iinc (y := ((i + 1 : Nat) : Int)) rfl (iinc_fit (by omega) (by omega) (by omega)) ?_
          refine tt_goto ?_
          refine tt_loc [(0, vR 76), (1, vI (((i + 1 : Nat) : Int)))] rfl rfl ⟨rfl, rfl, trivial⟩ ?_
          exact ih1 (i + 1) _ (by omega) (Fr.put (Fr.tr Fr.rf hF_σ1 (by decide)) (by decide)) (by omega) (fun j hj => by rw [am_set_at]; by_cases e : j = i; (rw [if_pos e, e]; first | exact (grow_in hk2 h1_16).symm | exact (grow_out hk2 h1_16 hwj.2.2).symm); (rw [if_neg e]; exact h83 j (by omega)))
        · refine tt_ifeqT (by decide) ?_
          refine tt_ar rfl ?_
          refine tt_nop ?_
          refine tt_iast (i) (wa_83 hW_σ1) (by omega) rfl (by omega) ?_
          refine tt_iinc (y := ((i + 1 : Nat) : Int)) rfl (iinc_fit (by omega) (by omega) (by omega)) ?_
          refine tt_goto ?_
          refine tt_loc [(0, vR 76), (1, vI (((i + 1 : Nat) : Int)))] rfl rfl ⟨rfl, rfl, trivial⟩ ?_
          exact ih1 (i + 1) _ (by omega) (Fr.put (Fr.tr Fr.rf hF_σ1 (by decide)) (by decide)) (by omega) (fun j hj => by rw [am_set_at]; by_cases e : j = i; (rw [if_pos e, e]; first | exact (grow_in hk2 h1_16).symm | exact (grow_out hk2 h1_16 hwj.2.2).symm); (rw [if_neg e]; exact h83 j (by omega)))
  refine tt_loc [(0, vR 76), (1, vI (((0 : Nat) : Int)))] rfl rfl ⟨rfl, lv_to rfl (by omega), trivial⟩ ?_
  exact lp1_1 _ (0) _ (Nat.lt_succ_self _) Fr.rf (by omega) (fun j hj => absurd hj (Nat.not_lt_zero j))

theorem c200 (A σ : am_S) (k nm ns : Nat) (D : Nat → Nat → Int) (hA : CI k nm ns D A) (hW : Wd σ) (hR : RRb k nm ns D A σ) (u : Int) : CC 200 [vR 76, vI (u)] σ (fun r σ' => PMd A σ (x_world A u) r σ') := by
  show TT am_b200 (am_b200.getD 0 []) [(0, vR 76), (1, vI (u))] [] σ _
  refine tt_ar rfl ?_
  refine tt_ar rfl ?_
  refine tt_cv2 2 rfl (wo_76 hW) (c191 A σ k nm ns D hA hW hR (u)) (kor (kand fun hx => ks ?_) (kor (kand fun hx => ks ?_) (kand fun hx => ks ?_)))
  · refine tt_ar rfl ?_
    refine tt_ar rfl ?_
    refine tt_ifgeF (by decide) ?_
    refine tt_ar rfl ?_
    refine tt_iret ?_
    exact pm_same hR (by unfold x_world; rw [if_neg hx]) QR.rf
  · refine tt_ar rfl ?_
    refine tt_ar rfl ?_
    refine tt_ifgeF (by decide) ?_
    refine tt_ar rfl ?_
    refine tt_iret ?_
    exact pm_mt (f := 1) hR (by decide) (by unfold x_world; rw [if_pos hx.1, if_pos hx.2]) QR.rf
  · refine tt_ar rfl ?_
    refine tt_ar rfl ?_
    refine tt_ifgeT (by decide) ?_
    obtain ⟨un, rfl⟩ : ∃ un : Nat, u = (un : Int) := ⟨u.toNat, by omega⟩
    have hx2 : 0 ≤ A.1 (68 + 2 * un) 1 := hx.2
    refine tt_ar rfl ?_
    refine tt_ar rfl ?_
    obtain ⟨zn, hzn⟩ : ∃ zn : Nat, A.1 (68 + 2 * un) 1 = (zn : Int) := ⟨_, (Int.toNat_of_nonneg hx2).symm⟩
    have hzt : (A.1 (68 + 2 * un) 1).toNat = zn := by rw [hzn]; rfl
    refine tt_cv2 2 rfl (wo_76 hW) (c193 (A.1 (69 + 2 * un)) un zn σ hW (hR.tq hA (by omega) hzn)) ?_
    intro r0 σn hq0
    rcases hq0 with ⟨q, W1, hr, rfl, hF, hK, hP, hok⟩ | ⟨q, hr, rfl, hF, hK⟩
    · refine tt_ar rfl ?_
      refine tt_iceq (fun _ => ?_) (fun h => absurd h (by omega))
      refine tt_ar rfl ?_
      obtain ⟨k2, hk2⟩ : ∃ k : Nat, W1 6 0 = (k : Int) := ⟨_, (Int.toNat_of_nonneg hok.1.1).symm⟩
      refine tt_cv1 1 rfl (wo_76 (hF.wd hW)) (c174 W1 k2 σn (hF.wd hW) hP hok hk2) ?_
      intro r0 σ5 hq0
      obtain ⟨rfl, hF5, t1, t2, t3, t4, t5, t6, t7, t8, t9, t10, t11⟩ := hq0
      have hW1 := Fr.wd hF5 (hF.wd hW)
      refine tt_ar rfl ?_
      refine tt_getI (x := ((k2 : Nat) : Int)) (wo_76 hW1) rfl t2 ?_
      refine tt_iret ?_
      have hRn := hR.rq hF hK
      have gg : ∀ a j, a ≠ 7 → p_grow W1 a j = W1 a j := fun a j e => if_neg (fun z => e z.1)
      have h5 := hRn.wld (W := p_grow W1) (k2 := k2) (D2 := D) ((gg 6 0 (by decide)).trans hk2) hF5 (fun j hj => t1 j (by omega) (by omega) (by omega) (by omega) (by omega) (by omega)) t2 (t3.trans (gg 6 1 (by decide)).symm) t4 (fun i hi => ⟨((t5 i hi).1).trans (gg 8 i (by decide)).symm, ((t5 i hi).2).trans (gg 9 i (by decide)).symm⟩) (fun i hi => (t6 i hi).trans (gg 10 i (by decide)).symm) t7 t8 t9 t10 t11
      exact pm_any h5 (show x_world A un = (vI ((k2 : Nat) : Int), upW (p_grow W1) A) by unfold x_world rdT; (try simp only [Int.toNat_natCast]); rw [if_pos (by omega), if_neg (by omega), hzt, hr]; show (vI (W1 6 0), upW (p_grow W1) A) = _; rw [hk2]) (QR.of (Fr.tr (Fr.mono hF (by decide) : Fr [76, 83, 84, 85, 86, 87, 88, 89, 90, 92, 93] σ σn) hF5 (by decide)) (by decide))
    · refine tt_ar rfl ?_
      refine tt_iceq (fun h => absurd h (by omega)) (fun _ => ?_)
      refine tt_ar rfl ?_
      refine tt_iret ?_
      exact pm_same (hR.rq hF hK) (show x_world A un = (vI (-4), A) by unfold x_world rdT; (try simp only [Int.toNat_natCast]); rw [if_pos (by omega), if_neg (by omega), hzt, hr]; rfl) (QR.of hF (by decide))

theorem c201 (A σ : am_S) (k nm ns : Nat) (D : Nat → Nat → Int) (hA : CI k nm ns D A) (hW : Wd σ) (hR : RRb k nm ns D A σ) (u x : Int) : CC 201 [vR 76, vI (u), vI (x)] σ (fun r σ' => PMd A σ (x_wears A u x) r σ') := by
  show TT am_b201 (am_b201.getD 0 []) [(0, vR 76), (1, vI (u)), (2, vI (x))] [] σ _
  have hk5 := hR.aa.1
  have hl27 := hR.aa.2.1
  have hs47 := hR.aa.2.2
  have hk6 := hA.x.1.2.1
  have hm12 := hA.x.2.2.1.2.1
  have hs16 := hA.st.2
  refine tt_ar rfl ?_
  refine tt_ar rfl ?_
  refine tt_cv2 2 rfl (wo_76 hW) (c202 A σ k nm ns D hA hW hR _) (kb (fun h0_2 => ?_) (fun h0_2 => ?_))
  · refine tt_ifeqF (by decide) ?_
    refine tt_ar rfl ?_
    refine tt_cs1 1 rfl (c203 _ _) (kb (fun h0_5 => ?_) (fun h0_5 => ?_))
    · refine tt_ifeqF (by decide) ?_
      obtain ⟨un, rfl⟩ : ∃ un : Nat, u = (un : Int) := ⟨u.toNat, by omega⟩
      obtain ⟨xn, rfl⟩ : ∃ xn : Nat, x = (xn : Int) := ⟨x.toNat, by omega⟩
      refine tt_ar rfl ?_
      refine tt_ar rfl ?_
      refine tt_getR (wo_76 hW) rfl (wr_76_14 hW) ?_
      refine tt_ar rfl ?_
      refine tt_ar rfl ?_
      refine tt_imul (by omega) (by omega) ?_
      refine tt_ar rfl ?_
      refine tt_iadd (by omega) (by omega) ?_
      refine tt_iald (((8 * un) + xn)) (x := A.1 8 (un * 8 + xn)) (wa_85 hW) (by omega) (by omega) ((hR.wl.2.2.2.1 (8 * un + xn) (by omega)).2.trans (by rw [Nat.mul_comm])) ?_
      refine tt_ar rfl ?_
      refine tt_getR (wo_76 hW) rfl (wr_76_13 hW) ?_
      refine tt_ar rfl ?_
      refine tt_ar rfl ?_
      refine tt_imul (by omega) (by omega) ?_
      refine tt_ar rfl ?_
      refine tt_iadd (by omega) (by omega) ?_
      refine tt_iald (((8 * un) + xn)) (x := A.1 7 (un * 8 + xn)) (wa_84 hW) (by omega) (by omega) ((hR.wl.2.2.2.1 (8 * un + xn) (by omega)).1.trans (by rw [Nat.mul_comm])) ?_
      refine tt_cv3 3 rfl (wo_76 hW) (c183 σ _ _ hW) (ks ?_)
      refine tt_goto ?_
      refine tt_iret ?_
      exact pm_ak (x := A.1 8 (un * 8 + xn)) (M := A) hR (show x_wears A (un : Int) (xn : Int) = (vI (A.1 7 (un * 8 + xn)), upA (A.1 8 (un * 8 + xn)) (A)) by unfold x_wears; (try simp only [Int.toNat_natCast, hk5]); (repeat (first | rw [if_pos (by omega)] | rw [if_neg (by omega)])); (first | done | rfl)) QR.rf
    · refine tt_ifeqT (by decide) ?_
      refine tt_ar rfl ?_
      refine tt_nop ?_
      refine tt_iret ?_
      exact pm_any (M := A) hR (show x_wears A u x = (vI (-1), A) by unfold x_wears; (try simp only [Int.toNat_natCast, hk5]); (repeat (first | rw [if_pos (by omega)] | rw [if_neg (by omega)])); (first | done | rfl)) QR.rf
  · refine tt_ifeqT (by decide) ?_
    refine tt_ar rfl ?_
    refine tt_nop ?_
    refine tt_iret ?_
    exact pm_any (M := A) hR (show x_wears A u x = (vI (-1), A) by unfold x_wears; (try simp only [Int.toNat_natCast, hk5]); (repeat (first | rw [if_pos (by omega)] | rw [if_neg (by omega)])); (first | done | rfl)) QR.rf

theorem c204 (A σ : am_S) (k nm ns : Nat) (D : Nat → Nat → Int) (hA : CI k nm ns D A) (hW : Wd σ) (hR : RRb k nm ns D A σ) (u : Int) : CC 204 [vR 76, vI (u)] σ (fun r σ' => PMd A σ (x_grows A u) r σ') := by
  show TT am_b204 (am_b204.getD 0 []) [(0, vR 76), (1, vI (u))] [] σ _
  have hk5 := hR.aa.1
  have hl27 := hR.aa.2.1
  have hs47 := hR.aa.2.2
  have hk6 := hA.x.1.2.1
  have hm12 := hA.x.2.2.1.2.1
  have hs16 := hA.st.2
  refine tt_ar rfl ?_
  refine tt_ar rfl ?_
  refine tt_cv2 2 rfl (wo_76 hW) (c202 A σ k nm ns D hA hW hR _) (kb (fun h0_2 => ?_) (fun h0_2 => ?_))
  · refine tt_ifeqF (by decide) ?_
    obtain ⟨un, rfl⟩ : ∃ un : Nat, u = (un : Int) := ⟨u.toNat, by omega⟩
    refine tt_ar rfl ?_
    refine tt_getR (wo_76 hW) rfl (wr_76_12 hW) ?_
    refine tt_ar rfl ?_
    refine tt_iald (un) (x := A.1 6 un) (wa_83 hW) rfl (by omega) (hR.wl.2.2.1 un (by omega) (by omega)) ?_
    refine tt_goto ?_
    refine tt_iret ?_
    exact pm_any (M := A) hR (show x_grows A (un : Int) = (vI (A.1 6 un), A) by unfold x_grows; (try simp only [Int.toNat_natCast, hk5]); (repeat (first | rw [if_pos (by omega)] | rw [if_neg (by omega)])); (first | done | rfl)) QR.rf
  · refine tt_ifeqT (by decide) ?_
    refine tt_ar rfl ?_
    refine tt_nop ?_
    refine tt_iret ?_
    exact pm_any (M := A) hR (show x_grows A u = (vI (-1), A) by unfold x_grows; (try simp only [Int.toNat_natCast, hk5]); (repeat (first | rw [if_pos (by omega)] | rw [if_neg (by omega)])); (first | done | rfl)) QR.rf

theorem c205 (A σ : am_S) (k nm ns : Nat) (D : Nat → Nat → Int) (hA : CI k nm ns D A) (hW : Wd σ) (hR : RRb k nm ns D A σ) : CC 205 [vR 76] σ (fun r σ' => PMd A σ (x_indoors A ) r σ') := by
  show TT am_b205 (am_b205.getD 0 []) [(0, vR 76)] [] σ _
  refine tt_ar rfl ?_
  refine tt_getI (x := A.1 5 4) (wo_76 hW) rfl hR.wl.2.1 ?_
  refine tt_iret ?_
  exact pm_any (M := A) hR (show x_indoors A  = (vI (A.1 5 4), A) by rfl) QR.rf

theorem c206 (A σ : am_S) (k nm ns : Nat) (D : Nat → Nat → Int) (hA : CI k nm ns D A) (hW : Wd σ) (hR : RRb k nm ns D A σ) (u v : Int) : CC 206 [vR 76, vI (u), vI (v)] σ (fun r σ' => PMd A σ (x_price A u v) r σ') := by
  show TT am_b206 (am_b206.getD 0 []) [(0, vR 76), (1, vI (u)), (2, vI (v))] [] σ _
  have hk5 := hR.aa.1
  have hl27 := hR.aa.2.1
  have hs47 := hR.aa.2.2
  have hk6 := hA.x.1.2.1
  have hm12 := hA.x.2.2.1.2.1
  have hs16 := hA.st.2
  refine tt_ar rfl ?_
  refine tt_ar rfl ?_
  refine tt_ar rfl ?_
  refine tt_cs3 3 rfl (c175 _ _ _ _) (kb (fun h0_3 => ?_) (fun h0_3 => ?_))
  · refine tt_ifeqF (by decide) ?_
    refine tt_ar rfl ?_
    refine tt_ar rfl ?_
    refine tt_iceq (fun h0_7 => ?_) (fun h0_7 => ?_)
    · obtain ⟨un, rfl⟩ : ∃ un : Nat, u = (un : Int) := ⟨u.toNat, by omega⟩
      refine tt_ar rfl ?_
      refine tt_getR (wo_76 hW) rfl (wr_76_16 hW) ?_
      refine tt_ar rfl ?_
      refine tt_iald (un) (x := A.1 9 un) (wa_86 hW) rfl (by omega) (hR.wl.2.2.2.2 un (by omega)) ?_
      refine tt_ar rfl ?_
      refine tt_ar rfl ?_
      refine tt_iflt (fun h2_6 => ?_) (fun h2_6 => ?_)
      · refine tt_ar rfl ?_
        refine tt_iret ?_
        exact pm_same hR (show x_price A un v = (_, A) by unfold x_price; rw [if_pos (by omega), if_pos (by omega)]; rfl) QR.rf
      · refine tt_ar rfl ?_
        refine tt_getR (wo_76 hW) rfl (wr_76_16 hW) ?_
        refine tt_ar rfl ?_
        refine tt_ar rfl ?_
        refine tt_iast (un) (wa_86 hW) (by omega) rfl (by omega) ?_
        refine tt_ar rfl ?_
        refine tt_ar rfl ?_
        refine tt_putZ (wo_76 hW) rfl (by omega) ?_
        refine tt_nop ?_
        refine tt_ar rfl ?_
        refine tt_iret ?_
        have h2 := hR.pri (A' := am_set A 9 un v) (fun a ha => am_set_c ha) (show Fr [76, 86] σ (am_set (am_set σ 86 (un) (v)) 76 (31) (0)) from (Fr.put (Fr.put Fr.rf (by decide)) (by decide))) (fun j hj => by rw [am_set_at, if_neg hj]; exact am_set_nb (by decide)) (fun i hi => by rw [am_set_nb (by decide), am_set_at, am_set_at]; split; rfl; exact hR.wl.2.2.2.2 i hi) am_set_rd
        exact pm_any h2 (show x_price A un v = (_, am_set A 9 un v) by unfold x_price; rw [if_pos (by omega), if_neg (by omega)]; rfl) (QR.of ((Fr.put (Fr.put Fr.rf (by decide)) (by decide)) : Fr [76, 86] σ (am_set (am_set σ 86 (un) (v)) 76 (31) (0))) (by decide))
    · refine tt_ar rfl ?_
      refine tt_ar rfl ?_
      refine tt_ar rfl ?_
      refine tt_cs3 3 rfl (c175 _ _ _ _) (kb (fun h0_11 => ?_) (fun h0_11 => ?_))
      · refine tt_ifneT (by decide) ?_
        obtain ⟨un, rfl⟩ : ∃ un : Nat, u = (un : Int) := ⟨u.toNat, by omega⟩
        refine tt_ar rfl ?_
        refine tt_getR (wo_76 hW) rfl (wr_76_16 hW) ?_
        refine tt_ar rfl ?_
        refine tt_iald (un) (x := A.1 9 un) (wa_86 hW) rfl (by omega) (hR.wl.2.2.2.2 un (by omega)) ?_
        refine tt_ar rfl ?_
        refine tt_ar rfl ?_
        refine tt_iflt (fun h2_6 => ?_) (fun h2_6 => ?_)
        · refine tt_ar rfl ?_
          refine tt_iret ?_
          exact pm_same hR (show x_price A un v = (_, A) by unfold x_price; rw [if_pos (by omega), if_pos (by omega)]; rfl) QR.rf
        · refine tt_ar rfl ?_
          refine tt_getR (wo_76 hW) rfl (wr_76_16 hW) ?_
          refine tt_ar rfl ?_
          refine tt_ar rfl ?_
          refine tt_iast (un) (wa_86 hW) (by omega) rfl (by omega) ?_
          refine tt_ar rfl ?_
          refine tt_ar rfl ?_
          refine tt_putZ (wo_76 hW) rfl (by omega) ?_
          refine tt_nop ?_
          refine tt_ar rfl ?_
          refine tt_iret ?_
          have h2 := hR.pri (A' := am_set A 9 un v) (fun a ha => am_set_c ha) (show Fr [76, 86] σ (am_set (am_set σ 86 (un) (v)) 76 (31) (0)) from (Fr.put (Fr.put Fr.rf (by decide)) (by decide))) (fun j hj => by rw [am_set_at, if_neg hj]; exact am_set_nb (by decide)) (fun i hi => by rw [am_set_nb (by decide), am_set_at, am_set_at]; split; rfl; exact hR.wl.2.2.2.2 i hi) am_set_rd
          exact pm_any h2 (show x_price A un v = (_, am_set A 9 un v) by unfold x_price; rw [if_pos (by omega), if_neg (by omega)]; rfl) (QR.of ((Fr.put (Fr.put Fr.rf (by decide)) (by decide)) : Fr [76, 86] σ (am_set (am_set σ 86 (un) (v)) 76 (31) (0))) (by decide))
      · refine tt_ifneF (by decide) ?_
        refine tt_nop ?_
        refine tt_ar rfl ?_
        refine tt_iret ?_
        exact pm_any (M := A) hR (show x_price A u v = (vI (-1), A) by unfold x_price; (try simp only [Int.toNat_natCast]); (repeat (first | rw [if_pos (by omega)] | rw [if_neg (by omega)])); (first | done | rfl)) QR.rf
  · refine tt_ifeqT (by decide) ?_
    refine tt_ar rfl ?_
    refine tt_iret ?_
    exact pm_any (M := A) hR (show x_price A u v = (vI (-1), A) by unfold x_price; (try simp only [Int.toNat_natCast]); (repeat (first | rw [if_pos (by omega)] | rw [if_neg (by omega)])); (first | done | rfl)) QR.rf

theorem c208 (A σ : am_S) (k nm ns : Nat) (D : Nat → Nat → Int) (hA : CI k nm ns D A) (hW : Wd σ) (hR : RRb k nm ns D A σ) (u x n : Int) : CC 208 [vR 76, vI (u), vI (x), vI (n)] σ (fun r σ' => PMd A σ (x_hung A u x n) r σ') := by
  show TT am_b208 (am_b208.getD 0 []) [(0, vR 76), (1, vI (u)), (2, vI (x)), (3, vI (n))] [] σ _
  have hk5 := hR.aa.1
  have hl27 := hR.aa.2.1
  have hs47 := hR.aa.2.2
  have hk6 := hA.x.1.2.1
  have hm12 := hA.x.2.2.1.2.1
  have hs16 := hA.st.2
  refine tt_ar rfl ?_
  refine tt_ar rfl ?_
  refine tt_cv2 2 rfl (wo_76 hW) (c209 A σ k nm ns D hA hW hR _) (kb (fun h0_2 => ?_) (fun h0_2 => ?_))
  · refine tt_ifeqF (by decide) ?_
    refine tt_ar rfl ?_
    refine tt_cs1 1 rfl (c203 _ _) (kb (fun h0_5 => ?_) (fun h0_5 => ?_))
    · refine tt_ifeqF (by decide) ?_
      refine tt_ar rfl ?_
      refine tt_ar rfl ?_
      refine tt_ar rfl ?_
      refine tt_cs3 3 rfl (c175 _ _ _ _) (kb (fun h0_10 => ?_) (fun h0_10 => ?_))
      · refine tt_ifneT (by decide) ?_
        obtain ⟨un, rfl⟩ : ∃ un : Nat, u = (un : Int) := ⟨u.toNat, by omega⟩
        obtain ⟨xn, rfl⟩ : ∃ xn : Nat, x = (xn : Int) := ⟨x.toNat, by omega⟩
        refine tt_ar rfl ?_
        refine tt_ar rfl ?_
        refine tt_ar rfl ?_
        refine tt_ar rfl ?_
        refine tt_iadd (by omega) (by omega) ?_
        refine tt_cv3 3 rfl (wo_76 hW) (c210 A σ k nm ns D hA hW hR un ((2 + xn)) (by omega) (by omega)) (kp ?_)
        refine tt_ar rfl ?_
        refine tt_ar rfl ?_
        refine tt_getR (wo_76 hW) rfl (wr_76_26 hW) ?_
        refine tt_ar rfl ?_
        refine tt_ar rfl ?_
        refine tt_imul (by omega) (by omega) ?_
        refine tt_ar rfl ?_
        refine tt_iadd (by omega) (by omega) ?_
        refine tt_ar rfl ?_
        refine tt_iadd (by omega) (by omega) ?_
        refine tt_ar rfl ?_
        refine tt_iast ((((10 * un) + 2) + xn)) (wa_91 hW) (by omega) (by omega) (by omega) ?_
        refine tt_ar rfl ?_
        refine tt_iret ?_
        have h2 := hR.lin (A' := am_set A 30 (un * 8 + xn) n) (fun a ha => am_set_c (by omega)) (show Fr [76, 91] σ (am_set σ 91 ((((10 * un) + 2) + xn)) (n)) from (Fr.put Fr.rf (by decide))) (fun j hj => am_set_nb (by decide)) ((am_set_nb (by decide)).trans hl27) hR.ln.1 (fun m hm w hw => by rw [am_set_at, lnD_30]; have q := hR.ln.2 m hm w hw; unfold lnD at q; by_cases e : 10 * m + w = 10 * un + 2 + xn; (rw [if_pos e, if_neg (by omega), if_neg (by omega), if_pos (by omega)]); (rw [if_neg e, q]; by_cases e0 : w = 0; (rw [if_pos e0, if_pos e0]); (rw [if_neg e0, if_neg e0]; by_cases e1 : w = 1; (rw [if_pos e1, if_pos e1]); (rw [if_neg e1, if_neg e1, if_neg (by omega)]))))
        exact pm_any h2 (show x_hung A un xn n = (vI (lnD A un (2 + xn)), am_set A 30 (un * 8 + xn) n) by unfold x_hung lnD; (try simp only [Int.toNat_natCast, hl27]); rw [if_pos (by omega), if_neg (by omega), if_neg (by omega), show un * 8 + (2 + xn) - 2 = un * 8 + xn by omega]) (QR.of ((Fr.put Fr.rf (by decide)) : Fr [76, 91] σ (am_set σ 91 ((((10 * un) + 2) + xn)) (n))) (by decide))
      · refine tt_ifneF (by decide) ?_
        refine tt_nop ?_
        refine tt_ar rfl ?_
        refine tt_iret ?_
        exact pm_any (M := A) hR (show x_hung A u x n = (vI (-1), A) by unfold x_hung; (try simp only [Int.toNat_natCast, hl27]); (repeat (first | rw [if_pos (by omega)] | rw [if_neg (by omega)])); (first | done | rfl)) QR.rf
    · refine tt_ifeqT (by decide) ?_
      refine tt_ar rfl ?_
      refine tt_iret ?_
      exact pm_any (M := A) hR (show x_hung A u x n = (vI (-1), A) by unfold x_hung; (try simp only [Int.toNat_natCast, hl27]); (repeat (first | rw [if_pos (by omega)] | rw [if_neg (by omega)])); (first | done | rfl)) QR.rf
  · refine tt_ifeqT (by decide) ?_
    refine tt_ar rfl ?_
    refine tt_iret ?_
    exact pm_any (M := A) hR (show x_hung A u x n = (vI (-1), A) by unfold x_hung; (try simp only [Int.toNat_natCast, hl27]); (repeat (first | rw [if_pos (by omega)] | rw [if_neg (by omega)])); (first | done | rfl)) QR.rf

theorem c211 (A σ : am_S) (k nm ns : Nat) (D : Nat → Nat → Int) (hA : CI k nm ns D A) (hW : Wd σ) (hR : RRb k nm ns D A σ) (u w : Int) : CC 211 [vR 76, vI (u), vI (w)] σ (fun r σ' => PMd A σ (x_told A u w) r σ') := by
  show TT am_b211 (am_b211.getD 0 []) [(0, vR 76), (1, vI (u)), (2, vI (w))] [] σ _
  have hk5 := hR.aa.1
  have hl27 := hR.aa.2.1
  have hs47 := hR.aa.2.2
  have hk6 := hA.x.1.2.1
  have hm12 := hA.x.2.2.1.2.1
  have hs16 := hA.st.2
  refine tt_ar rfl ?_
  refine tt_ar rfl ?_
  refine tt_cv2 2 rfl (wo_76 hW) (c209 A σ k nm ns D hA hW hR _) (kb (fun h0_2 => ?_) (fun h0_2 => ?_))
  · refine tt_ifeqF (by decide) ?_
    refine tt_ar rfl ?_
    refine tt_ar rfl ?_
    refine tt_ar rfl ?_
    refine tt_cs3 3 rfl (c175 _ _ _ _) (kb (fun h0_7 => ?_) (fun h0_7 => ?_))
    · refine tt_ifeqF (by decide) ?_
      obtain ⟨un, rfl⟩ : ∃ un : Nat, u = (un : Int) := ⟨u.toNat, by omega⟩
      obtain ⟨wn, rfl⟩ : ∃ wn : Nat, w = (wn : Int) := ⟨w.toNat, by omega⟩
      refine tt_ar rfl ?_
      refine tt_ar rfl ?_
      refine tt_ar rfl ?_
      refine tt_ar rfl ?_
      refine tt_cv3 3 rfl (wo_76 hW) (c210 A σ k nm ns D hA hW hR un wn (by omega) (by omega)) (kp ?_)
      refine tt_ar rfl ?_
      refine tt_cv3 3 rfl (wo_76 hW) (c183 σ _ _ hW) (ks ?_)
      refine tt_goto ?_
      refine tt_iret ?_
      exact pm_ak (x := lnD A un wn) (M := A) hR (show x_told A (un : Int) (wn : Int) = (vI 1, upA (lnD A un wn) (A)) by unfold x_told; (try simp only [Int.toNat_natCast, hl27]); (repeat (first | rw [if_pos (by omega)] | rw [if_neg (by omega)])); (first | done | rfl)) QR.rf
    · refine tt_ifeqT (by decide) ?_
      refine tt_ar rfl ?_
      refine tt_nop ?_
      refine tt_iret ?_
      exact pm_any (M := A) hR (show x_told A u w = (vI (-1), A) by unfold x_told; (try simp only [Int.toNat_natCast, hl27]); (repeat (first | rw [if_pos (by omega)] | rw [if_neg (by omega)])); (first | done | rfl)) QR.rf
  · refine tt_ifeqT (by decide) ?_
    refine tt_ar rfl ?_
    refine tt_nop ?_
    refine tt_iret ?_
    exact pm_any (M := A) hR (show x_told A u w = (vI (-1), A) by unfold x_told; (try simp only [Int.toNat_natCast, hl27]); (repeat (first | rw [if_pos (by omega)] | rw [if_neg (by omega)])); (first | done | rfl)) QR.rf

theorem c212 (A σ : am_S) (k nm ns : Nat) (D : Nat → Nat → Int) (hA : CI k nm ns D A) (hW : Wd σ) (hR : RRb k nm ns D A σ) (n : Int) : CC 212 [vR 76, vI (n)] σ (fun r σ' => PMd A σ (x_back A n) r σ') := by
  show TT am_b212 (am_b212.getD 0 []) [(0, vR 76), (1, vI (n))] [] σ _
  have hk5 := hR.aa.1
  have hl27 := hR.aa.2.1
  have hs47 := hR.aa.2.2
  have hk6 := hA.x.1.2.1
  have hm12 := hA.x.2.2.1.2.1
  have hs16 := hA.st.2
  refine tt_ar rfl ?_
  refine tt_ar rfl ?_
  refine tt_ar rfl ?_
  refine tt_getI (x := ((nm : Nat) : Int)) (wo_76 hW) rfl hR.ln.1 ?_
  refine tt_cs3 3 rfl (c175 _ _ _ _) (kb (fun h0_4 => ?_) (fun h0_4 => ?_))
  · refine tt_ifneT (by decide) ?_
    obtain ⟨nn, rfl⟩ : ∃ nn : Nat, n = (nn : Int) := ⟨n.toNat, by omega⟩
    refine tt_ar rfl ?_
    refine tt_getI (x := ((nm : Nat) : Int)) (wo_76 hW) rfl hR.ln.1 ?_
    refine tt_ar rfl ?_
    refine tt_isub (by omega) (by omega) ?_
    refine tt_ar rfl ?_
    refine tt_ar rfl ?_
    refine tt_ar rfl ?_
    refine tt_putI (wo_76 hW) rfl ?_
    refine tt_ar rfl ?_
    refine tt_iret ?_
    have h2 := hR.lin (nm' := nn) (A' := am_set A 27 0 (nn : Int)) (fun a ha => am_set_c (by omega)) (show Fr [76, 91] σ (am_set σ 76 (25) (((nn : Nat) : Int))) from (Fr.put Fr.rf (by decide))) (fun j hj => (am_set_at).trans (if_neg hj)) am_set_rd am_set_rd (fun m hm w hw => (am_set_nb (by decide)).trans ((hR.ln.2 m (by omega) w hw).trans rfl))
    exact pm_any h2 (show x_back A nn = (vI ((((nm : Nat) : Int) - ((nn : Nat) : Int))), am_set A 27 0 nn) by unfold x_back; (try simp only [Int.toNat_natCast, hl27]); (repeat (first | rw [if_pos (by omega)] | rw [if_neg (by omega)])); (first | done | rfl)) (QR.of ((Fr.put Fr.rf (by decide)) : Fr [76, 91] σ (am_set σ 76 (25) (((nn : Nat) : Int)))) (by decide))
  · refine tt_ifneF (by decide) ?_
    refine tt_ar rfl ?_
    refine tt_iret ?_
    exact pm_any (M := A) hR (show x_back A n = (vI (-1), A) by unfold x_back; (try simp only [Int.toNat_natCast, hl27]); (repeat (first | rw [if_pos (by omega)] | rw [if_neg (by omega)])); (first | done | rfl)) QR.rf

theorem c182z (σ : am_S) (hW : Wd σ) (u i : Nat) {v : Int} (hu : u < 6) (hi : i < 40) (hv : σ.1 79 (40 * u + i) = v) : CC 182 [vR 76, vI (((u : Nat) : Int)), vI (((i : Nat) : Int))] σ (fun r σ' => r = some (vI v) ∧ σ' = σ) := by
  show TT am_b182 (am_b182.getD 0 []) [(0, vR 76), (1, vI (((u : Nat) : Int))), (2, vI (((i : Nat) : Int)))] [] σ _
  refine tt_ar rfl ?_
  refine tt_getR (wo_76 hW) rfl (wr_76_7 hW) ?_
  refine tt_ar rfl ?_
  refine tt_ar rfl ?_
  refine tt_imul (by omega) (by omega) ?_
  refine tt_ar rfl ?_
  refine tt_iadd (by omega) (by omega) ?_
  refine tt_iald (((40 * u) + i)) (x := σ.1 79 (((40 * u) + i))) (wa_79 hW) (by omega) (by omega) rfl ?_
  refine tt_iret ?_
  exact ⟨rv hv, rfl⟩

theorem c207 (A σ : am_S) (k nm ns : Nat) (D : Nat → Nat → Int) (hA : CI k nm ns D A) (hW : Wd σ) (hR : RRb k nm ns D A σ) (w u d : Int) : CC 207 [vR 76, vI (w), vI (u), vI (d)] σ (fun r σ' => PMd A σ (x_monday A w u d) r σ') := by
  show TT am_b207 (am_b207.getD 0 []) [(0, vR 76), (1, vI (w)), (2, vI (u)), (3, vI (d))] [] σ _
  have hk5 := hR.aa.1
  have hl27 := hR.aa.2.1
  have hs47 := hR.aa.2.2
  have hk6 := hA.x.1.2.1
  have hm12 := hA.x.2.2.1.2.1
  have hs16 := hA.st.2
  refine tt_ar rfl ?_
  refine tt_ar rfl ?_
  refine tt_ar rfl ?_
  refine tt_cs3 3 rfl (c175 _ _ _ _) (kb (fun h0_3 => ?_) (fun h0_3 => ?_))
  · refine tt_ifeqF (by decide) ?_
    refine tt_ar rfl ?_
    refine tt_ar rfl ?_
    refine tt_ar rfl ?_
    refine tt_cs3 3 rfl (c175 _ _ _ _) (kb (fun h0_8 => ?_) (fun h0_8 => ?_))
    · refine tt_ifneT (by decide) ?_
      refine tt_ar rfl ?_
      refine tt_ar rfl ?_
      refine tt_cv2 2 rfl (wo_76 hW) (c181 A σ k nm ns D hA hW hR (u)) (kor (kand fun hx => ks ?_) (kor (kand fun hx => ks ?_) (kand fun hx => ks ?_)))
      · refine tt_ar rfl ?_
        refine tt_ar rfl ?_
        refine tt_ifgeF (by decide) ?_
        refine tt_ar rfl ?_
        refine tt_iret ?_
        exact pm_same hR (show x_monday A w u d = (vI (-1), A) by unfold x_monday; rw [if_neg (by omega)]) QR.rf
      · refine tt_ar rfl ?_
        refine tt_ar rfl ?_
        refine tt_ifgeF (by decide) ?_
        refine tt_ar rfl ?_
        refine tt_iret ?_
        exact pm_mt (f := 1) hR (by decide) (show x_monday A w u d = (vI (-3), upF 1 A) by unfold x_monday; rw [if_pos ⟨h0_3, hx.1, h0_8⟩, if_pos hx.2]) QR.rf
      · refine tt_ar rfl ?_
        refine tt_ar rfl ?_
        refine tt_ifgeT (by decide) ?_
        obtain ⟨un, rfl⟩ : ∃ un : Nat, u = (un : Int) := ⟨u.toNat, by omega⟩
        have hx2 : 0 ≤ A.1 (56 + 2 * un) 1 := hx.2
        have hx1 : 0 ≤ (un : Int) ∧ (un : Int) ≤ 5 := hx.1
        have hrwun := hA.row un (by omega)
        have hszun := szR_c (A.1 (56 + 2 * un) 1)
        have h78un := (hR.rw un (by omega)).1
        obtain ⟨zn, hzn⟩ : ∃ zn : Nat, A.1 (56 + 2 * un) 1 = (zn : Int) := ⟨_, (Int.toNat_of_nonneg (by omega)).symm⟩
        have h78zn : σ.1 78 un = (zn : Int) := by omega
        refine tt_ar rfl ?_
        refine tt_getR (wo_76 hW) rfl (wr_76_6 hW) ?_
        refine tt_ar rfl ?_
        refine tt_iald (un) (x := ((zn : Nat) : Int)) (wa_78 hW) rfl (by omega) h78zn ?_
        refine tt_ar rfl ?_
        refine tt_iceq (fun h3_5 => ?_) (fun h3_5 => ?_)
        · refine tt_ar rfl ?_
          refine tt_ar rfl ?_
          refine tt_ar rfl ?_
          refine tt_ar rfl ?_
          refine tt_nop ?_
          have lp5_1 : ∀ (μ : Nat) (g : Int) (i : Nat), 8 - i < μ → (i ≤ 8) → ((g = 1 ∧ ∀ j, j < i → 0 ≤ A.1 (57 + 2 * un) j ∧ A.1 (57 + 2 * un) j ≤ 40) ∨ (g = 0 ∧ ¬ (∀ j, j < 8 → 0 ≤ A.1 (57 + 2 * un) j ∧ A.1 (57 + 2 * un) j ≤ 40))) → TT am_b207 (am_b207.getD 5 []) [(0, vR 76), (1, vI (w)), (2, vI (((un : Nat) : Int))), (3, vI (d)), (5, vI (g)), (6, vI (((i : Nat) : Int)))] [] σ (fun r σ' => PMd A σ (x_monday A w (un : Int) d) r σ') := by
            intro μ
            induction μ with
            | zero => intro g i hμ; exact absurd hμ (Nat.not_lt_zero _)
            | succ μ ih5 =>
              intro g i hμ hi hg
              refine tt_ar rfl ?_
              refine tt_ar rfl ?_
              refine tt_icge (fun h5_2 => ?_) (fun h5_2 => ?_)
              · refine tt_ar rfl ?_
                refine tt_ifne (fun h8_1 => ?_) (fun h8_1 => ?_)
                · have e8 : i = 8 := by omega
                  have hg1 : ∀ j, j < 8 → 0 ≤ A.1 (57 + 2 * un) j ∧ A.1 (57 + 2 * un) j ≤ 40 := by rcases hg with ⟨z1, z2⟩ | ⟨z1, z2⟩; (rw [e8] at z2; exact z2); (exfalso; omega)
                  refine tt_ar rfl ?_
                  refine tt_getI (x := ((nm : Nat) : Int)) (wo_76 hW) rfl hR.ln.1 ?_
                  refine tt_ar rfl ?_
                  refine tt_icne (fun h9_3 => ?_) (fun h9_3 => ?_)
                  · refine tt_ar rfl ?_
                    refine tt_getR (wo_76 hW) rfl (wr_76_26 hW) ?_
                    refine tt_ar rfl ?_
                    refine tt_ar rfl ?_
                    refine tt_getI (x := ((nm : Nat) : Int)) (wo_76 hW) rfl hR.ln.1 ?_
                    refine tt_imul (by omega) (by omega) ?_
                    refine tt_ar rfl ?_
                    refine tt_iast ((10 * nm)) (wa_91 hW) (by omega) (by omega) (by omega) ?_
                    refine tt_ar rfl ?_
                    refine tt_getR (wo_76 hW) rfl (wr_76_26 hW) ?_
                    refine tt_ar rfl ?_
                    refine tt_ar rfl ?_
                    refine tt_getI (x := ((nm : Nat) : Int)) (wo_76 hW) rfl hR.ln.1 ?_
                    refine tt_imul (by omega) (by omega) ?_
                    refine tt_ar rfl ?_
                    refine tt_iadd (by omega) (by omega) ?_
                    refine tt_ar rfl ?_
                    refine tt_iast (((10 * nm) + 1)) (wa_91 hW) (by omega) (by omega) (by omega) ?_
                    refine tt_ar rfl ?_
                    refine tt_ar rfl ?_
                    refine tt_nop ?_
                    have lp11_2 : ∀ (μ : Nat) (i : Nat) (σ2 : am_S), 8 - i < μ → Fr [91] (am_set (am_set σ 91 ((10 * nm)) (w)) 91 (((10 * nm) + 1)) (d)) σ2 → (i ≤ 8) → (σ2.1 91 (10 * nm) = w) → (σ2.1 91 (10 * nm + 1) = d) → (∀ y, y < i → σ2.1 91 (10 * nm + 2 + y) = A.1 (57 + 2 * un) y) → (∀ z, z < 10 * nm → σ2.1 91 z = σ.1 91 z) → TT am_b207 (am_b207.getD 11 []) [(0, vR 76), (2, vI (((un : Nat) : Int))), (6, vI (((i : Nat) : Int)))] [] σ2 (fun r σ' => PMd A σ (x_monday A w (un : Int) d) r σ') := by
                      intro μ
                      induction μ with
                      | zero => intro i σ2 hμ; exact absurd hμ (Nat.not_lt_zero _)
                      | succ μ ih11 =>
                        intro i σ2 hμ hF_σ2 hi2 hw0 hw1 hw2 hwo
                        have hW_σ2 := Fr.wd hF_σ2 hW
                        refine tt_ar rfl ?_
                        refine tt_ar rfl ?_
                        refine tt_icge (fun h11_2 => ?_) (fun h11_2 => ?_)
                        · refine tt_ar rfl ?_
                          refine tt_ar rfl ?_
                          refine tt_getI (x := ((nm : Nat) : Int)) (wo_76 hW_σ2) rfl ((hF_σ2.2 76 (by decide) (25)).trans hR.ln.1) ?_
                          refine tt_ar rfl ?_
                          refine tt_iadd (by omega) (by omega) ?_
                          refine tt_putI (wo_76 hW_σ2) rfl ?_
                          refine tt_ar rfl ?_
                          refine tt_getI (x := (((nm : Nat) : Int) + 1)) (wo_76 hW_σ2) rfl (@am_set_rd σ2 76 (25) ((((nm : Nat) : Int) + 1))) ?_
                          refine tt_ar rfl ?_
                          refine tt_isub (by omega) (by omega) ?_
                          refine tt_iret ?_
                          have e8 : i = 8 := by omega
                          subst e8
                          have h2 := hR.lin (nm' := nm + 1) (A' := upM w d (57 + 2 * un) A) (fun a ha => by funext j; unfold upM; simp only [show ¬ a = 27 by omega, show ¬ a = 28 by omega, show ¬ a = 29 by omega, show ¬ a = 30 by omega, false_and, if_false]) (show Fr [76, 91] σ (am_set σ2 76 (25) ((((nm : Nat) : Int) + 1))) from (Fr.put (Fr.tr (Fr.put (Fr.put Fr.rf (by decide)) (by decide)) hF_σ2 (by decide)) (by decide))) (fun j hj => by rw [am_set_at, if_neg hj]; exact (hF_σ2.2 76 (by decide) j)) (show A.1 27 0 + 1 = ((nm + 1 : Nat) : Int) by omega) (am_set_rd.trans (by omega)) (fun m hm v hv => by rw [am_set_nb (by decide), lnD_upM hl27 hv]; by_cases e : m = nm; (rw [if_pos e, e]; by_cases e0 : v = 0; (rw [if_pos e0, e0]; exact hw0); (rw [if_neg e0]; by_cases e1 : v = 1; (rw [if_pos e1, e1]; exact hw1); (rw [if_neg e1, show 10 * nm + v = 10 * nm + 2 + (v - 2) by omega]; exact hw2 (v - 2) (by omega)))); (rw [if_neg e]; exact (hwo _ (by omega)).trans (hR.ln.2 m (by omega) v hv)))
                          exact pm_any h2 (show x_monday A w un d = (vI (((((nm : Nat) : Int) + 1) - 1)), upM w d (57 + 2 * un) A) by unfold x_monday; (try simp only [Int.toNat_natCast, hl27]); rw [if_pos (by omega), if_neg (by omega), if_pos (by omega), if_pos hg1, if_pos (by omega)]; (first | done | (congr 2; omega))) (QR.of ((Fr.put (Fr.tr (Fr.put (Fr.put Fr.rf (by decide)) (by decide)) hF_σ2 (by decide)) (by decide)) : Fr [76, 91] σ (am_set σ2 76 (25) ((((nm : Nat) : Int) + 1)))) (by decide))
                        · have hF2z : Fr [91] σ σ2 := (Fr.tr (Fr.put (Fr.put Fr.rf (by decide)) (by decide)) hF_σ2 (by decide))
                          refine tt_ar rfl ?_
                          refine tt_getR (wo_76 hW_σ2) rfl (wr_76_26 hW_σ2) ?_
                          refine tt_ar rfl ?_
                          refine tt_ar rfl ?_
                          refine tt_getI (x := ((nm : Nat) : Int)) (wo_76 hW_σ2) rfl ((hF_σ2.2 76 (by decide) (25)).trans hR.ln.1) ?_
                          refine tt_imul (by omega) (by omega) ?_
                          refine tt_ar rfl ?_
                          refine tt_iadd (by omega) (by omega) ?_
                          refine tt_ar rfl ?_
                          refine tt_iadd (by omega) (by omega) ?_
                          refine tt_ar rfl ?_
                          refine tt_ar rfl ?_
                          refine tt_ar rfl ?_
                          have hc182 := c182z σ2 hW_σ2 un i (by omega) (by omega) ((hF2z.2 79 (by decide) (40 * un + i)).trans ((hR.rw un (by omega)).2 i (by omega)))
                          refine tt_cv3 3 rfl (wo_76 hW_σ2) hc182 (kp ?_)
                          refine tt_iast ((((10 * nm) + 2) + i)) (wa_91 hW_σ2) (by omega) (by omega) (by omega) ?_
                          refine tt_iinc (y := ((i + 1 : Nat) : Int)) rfl (iinc_fit (by omega) (by omega) (by omega)) ?_
                          refine tt_goto ?_
                          refine tt_loc [(0, vR 76), (2, vI (((un : Nat) : Int))), (6, vI (((i + 1 : Nat) : Int)))] rfl rfl ⟨rfl, rfl, rfl, trivial⟩ ?_
                          exact ih11 (i + 1) _ (by omega) (Fr.put (Fr.tr Fr.rf hF_σ2 (by decide)) (by decide)) (by omega) (by rw [am_set_at, if_neg (by omega)]; exact hw0) (by rw [am_set_at, if_neg (by omega)]; exact hw1) (fun y hy => by rw [am_set_at]; by_cases e : y = i; (rw [if_pos (by omega), e]); (rw [if_neg (by omega)]; exact hw2 y (by omega))) (fun z hz => by rw [am_set_at, if_neg (by omega)]; exact hwo z hz)
                    refine tt_loc [(0, vR 76), (2, vI (((un : Nat) : Int))), (6, vI (((0 : Nat) : Int)))] rfl rfl ⟨rfl, rfl, lv_to rfl (by omega), trivial⟩ ?_
                    exact lp11_2 _ (0) _ (Nat.lt_succ_self _) Fr.rf (by omega) (by rw [am_set_at, if_neg (by omega)]; exact am_set_rd) am_set_rd (fun y hy => absurd hy (Nat.not_lt_zero y)) (fun z hz => by rw [am_set_at, if_neg (by omega), am_set_at, if_neg (by omega)])
                  · refine tt_ar rfl ?_
                    refine tt_iret ?_
                    exact pm_same hR (show x_monday A w un d = (vI (-2), A) by unfold x_monday; (try simp only [Int.toNat_natCast, hl27]); rw [if_pos (by omega), if_neg (by omega), if_pos (by omega), if_pos hg1, if_neg (by omega)]) QR.rf
                · refine tt_ar rfl ?_
                  refine tt_ar rfl ?_
                  refine tt_cv2 2 rfl (wo_76 hW) (c179 σ 3 hW (by omega)) (ks ?_)
                  refine tt_iret ?_
                  have hg0 : ¬ (∀ j, j < 8 → 0 ≤ A.1 (57 + 2 * un) j ∧ A.1 (57 + 2 * un) j ≤ 40) := by rcases hg with ⟨z1, z2⟩ | ⟨z1, z2⟩; (exfalso; omega); exact z2
                  exact pm_mt (f := 3) hR (by decide) (show x_monday A w un d = (vI (-3), upF 3 A) by unfold x_monday; (try simp only [Int.toNat_natCast, hl27]); rw [if_pos (by omega), if_neg (by omega), if_pos (by omega), if_neg hg0]) QR.rf
              · refine tt_ar rfl ?_
                refine tt_ifeq (fun h5_4 => ?_) (fun h5_4 => ?_)
                · refine tt_ar rfl ?_
                  refine tt_nop ?_
                  refine tt_ar rfl ?_
                  refine tt_iinc (y := ((i + 1 : Nat) : Int)) rfl (iinc_fit (by omega) (by omega) (by omega)) ?_
                  refine tt_goto ?_
                  refine tt_loc [(0, vR 76), (1, vI (w)), (2, vI (((un : Nat) : Int))), (3, vI (d)), (5, vI (0)), (6, vI (((i + 1 : Nat) : Int)))] rfl rfl ⟨rfl, rfl, rfl, rfl, rfl, rfl, trivial⟩ ?_
                  exact ih5 (0) (i + 1) (by omega) (by omega) (by rcases hg with ⟨z1, z2⟩ | ⟨z1, z2⟩ <;> first | (exfalso; omega) | exact Or.inr ⟨rfl, z2⟩ | exact Or.inl ⟨rfl, fun j hj => by by_cases e : j = i; (rw [e]; exact h5_11); exact z2 j (by omega)⟩ | exact Or.inr ⟨rfl, fun q => h5_11 (q i (by omega))⟩)
                · refine tt_ar rfl ?_
                  refine tt_ar rfl ?_
                  refine tt_ar rfl ?_
                  refine tt_cv3 3 rfl (wo_76 hW) (c182 A σ k nm ns D hA hW hR un i (by omega) (by omega)) (kp ?_)
                  refine tt_ar rfl ?_
                  refine tt_ar rfl ?_
                  refine tt_cs3 3 rfl (c175 _ _ _ _) (kb (fun h5_11 => ?_) (fun h5_11 => ?_))
                  · refine tt_ifeqF (by decide) ?_
                    refine tt_ar rfl ?_
                    refine tt_goto ?_
                    refine tt_ar rfl ?_
                    refine tt_iinc (y := ((i + 1 : Nat) : Int)) rfl (iinc_fit (by omega) (by omega) (by omega)) ?_
                    refine tt_goto ?_
                    refine tt_loc [(0, vR 76), (1, vI (w)), (2, vI (((un : Nat) : Int))), (3, vI (d)), (5, vI (1)), (6, vI (((i + 1 : Nat) : Int)))] rfl rfl ⟨rfl, rfl, rfl, rfl, rfl, rfl, trivial⟩ ?_
                    exact ih5 (1) (i + 1) (by omega) (by omega) (by rcases hg with ⟨z1, z2⟩ | ⟨z1, z2⟩ <;> first | (exfalso; omega) | exact Or.inr ⟨rfl, z2⟩ | exact Or.inl ⟨rfl, fun j hj => by by_cases e : j = i; (rw [e]; exact h5_11); exact z2 j (by omega)⟩ | exact Or.inr ⟨rfl, fun q => h5_11 (q i (by omega))⟩)
                  · refine tt_ifeqT (by decide) ?_
                    refine tt_ar rfl ?_
                    refine tt_nop ?_
                    refine tt_ar rfl ?_
                    refine tt_iinc (y := ((i + 1 : Nat) : Int)) rfl (iinc_fit (by omega) (by omega) (by omega)) ?_
                    refine tt_goto ?_
                    refine tt_loc [(0, vR 76), (1, vI (w)), (2, vI (((un : Nat) : Int))), (3, vI (d)), (5, vI (0)), (6, vI (((i + 1 : Nat) : Int)))] rfl rfl ⟨rfl, rfl, rfl, rfl, rfl, rfl, trivial⟩ ?_
                    exact ih5 (0) (i + 1) (by omega) (by omega) (by rcases hg with ⟨z1, z2⟩ | ⟨z1, z2⟩ <;> first | (exfalso; omega) | exact Or.inr ⟨rfl, z2⟩ | exact Or.inl ⟨rfl, fun j hj => by by_cases e : j = i; (rw [e]; exact h5_11); exact z2 j (by omega)⟩ | exact Or.inr ⟨rfl, fun q => h5_11 (q i (by omega))⟩)
          refine tt_loc [(0, vR 76), (1, vI (w)), (2, vI (((un : Nat) : Int))), (3, vI (d)), (5, vI (1)), (6, vI (((0 : Nat) : Int)))] rfl rfl ⟨rfl, rfl, rfl, rfl, rfl, lv_to rfl (by omega), trivial⟩ ?_
          exact lp5_1 _ (1) (0) (Nat.lt_succ_self _) (by omega) (Or.inl ⟨rfl, fun j hj => absurd hj (Nat.not_lt_zero j)⟩)
        · refine tt_ar rfl ?_
          refine tt_ar rfl ?_
          refine tt_cv2 2 rfl (wo_76 hW) (c179 σ 5 hW (by omega)) (ks ?_)
          refine tt_iret ?_
          exact pm_mt (f := 5) hR (by decide) (show x_monday A w un d = (vI (-3), upF 5 A) by unfold x_monday; (try simp only [Int.toNat_natCast, hl27]); rw [if_pos (by omega), if_neg (by omega), if_neg (by omega)]) QR.rf
    · refine tt_ifneF (by decide) ?_
      refine tt_nop ?_
      refine tt_ar rfl ?_
      refine tt_iret ?_
      exact pm_same hR (show x_monday A w u d = (vI (-1), A) by unfold x_monday; rw [if_neg (by omega)]) QR.rf
  · refine tt_ifeqT (by decide) ?_
    refine tt_ar rfl ?_
    refine tt_iret ?_
    exact pm_same hR (show x_monday A w u d = (vI (-1), A) by unfold x_monday; rw [if_neg (by omega)]) QR.rf

