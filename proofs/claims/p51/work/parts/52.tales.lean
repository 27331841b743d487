/-! THE CLASS'S CALLS: TALES -/
def exA (k : Nat) (A : am_S) : Nat → Nat → Int := fun m h => cPr A k m h
/-- how many tales there are, as it is told -/
def tlA (k nm : Nat) (D : Nat → Nat → Int) (A : am_S) : Int := if bsN 1000000 (nkT k) nm D (exA k A) < 1000000 then cpM 1000000000000001 (wyM 1000000 (nkT k) nm D (exA k A)) else 0
def x_plain (k nm : Nat) (D : Nat → Nat → Int) (A : am_S) : am_V × am_S := if bsN 1000000 (nkT k) nm D (exA k A) < 1000000 then (vI (bsN 1000000 (nkT k) nm D (exA k A)), A) else (vI (-9), A)
def x_tale (k nm : Nat) (D : Nat → Nat → Int) (A : am_S) (u : Int) : am_V × am_S := if 0 ≤ u ∧ u ≤ 5 then (if bsN 1000000 (nkT k) nm D (exA k A) < 1000000 then (vI (nm : Int), upS (56 + 2 * u.toNat) 40 (fun j => if j < nm then ((tb k (frM 1000000 (nkT k) nm D (exA k A) j) : Nat) : Int) else 0) (nm : Int) A) else (vI (-3), upF 4 A)) else (vI (-1), A)
def x_ways (k nm : Nat) (D : Nat → Nat → Int) (A : am_S) : am_V × am_S := if 1000000000000000 < tlA k nm D A then (vI (-6), A) else (vI (if 0 < tlA k nm D A then 1 else 0), am_set A 2 13 (tlA k nm D A))
def x_sure (k nm : Nat) (D : Nat → Nat → Int) (A : am_S) (u s : Int) : am_V × am_S := if (0 ≤ u ∧ u < A.1 27 0) ∧ 0 ≤ s ∧ s < A.1 5 0 then (if bsN 1000000 (nkT k) nm D (exA k A) < 1000000 then (vI (foQ mnS 5 (plM 1000000 (nkT k) nm D (exA k A) u.toNat) (nkT k) (fun h => ((dg (tb k h) s.toNat : Nat) : Int))), upA (foQ mxS 0 (plM 1000000 (nkT k) nm D (exA k A) u.toNat) (nkT k) (fun h => ((dg (tb k h) s.toNat : Nat) : Int))) A) else (vI (-3), upF 4 A)) else (vI (-1), A)
def upG (a b : Int) (A : am_S) : am_S := am_set (am_set A 2 14 ((a.toNat / Nat.gcd a.toNat b.toNat : Nat) : Int)) 2 15 ((b.toNat / Nat.gcd a.toNat b.toNat : Nat) : Int)
def x_share (k nm : Nat) (D : Nat → Nat → Int) (A : am_S) (u s w : Int) : am_V × am_S := if (0 ≤ u ∧ u < A.1 27 0) ∧ (0 ≤ s ∧ s < A.1 5 0) ∧ 0 ≤ w ∧ w ≤ 5 then (if bsN 1000000 (nkT k) nm D (exA k A) < 1000000 then (if 1000000000000000 < tlA k nm D A then (vI (-6), A) else (vI 1, upG (hvM k nm u.toNat s.toNat D (exA k A) w) (wyM 1000000 (nkT k) nm D (exA k A)) A)) else (vI (-3), upF 4 A)) else (vI (-1), A)
def x_through (k nm : Nat) (D : Nat → Nat → Int) (A : am_S) (u v : Int) : am_V × am_S := if 0 ≤ ix k v ∧ 0 ≤ u ∧ u < A.1 27 0 then (vI (if (if bsN 1000000 (nkT k) nm D (exA k A) < 1000000 then ctM 1000000 (nkT k) nm D (exA k A) u.toNat (ix k v).toNat else 1000000) < 1000000 then (if bsN 1000000 (nkT k) nm D (exA k A) < 1000000 then ctM 1000000 (nkT k) nm D (exA k A) u.toNat (ix k v).toNat else 1000000) else -9), A) else (vI (-1), A)
def rvA (k nm : Nat) (D : Nat → Nat → Int) (A : am_S) (m : Nat) : Int := rvI 1000000 (frM 1000000 (nkT k) nm D (exA k A) m) (ctM 1000000 (nkT k) nm D (exA k A) m) (nkT k)
def x_rival (k nm : Nat) (D : Nat → Nat → Int) (A : am_S) (u : Int) : am_V × am_S := if 0 ≤ u ∧ u < A.1 27 0 then (if bsN 1000000 (nkT k) nm D (exA k A) < 1000000 then (if rvA k nm D A u.toNat < 0 then (vI (-9), A) else (vI (ctM 1000000 (nkT k) nm D (exA k A) u.toNat (rvA k nm D A u.toNat).toNat), upA ((tb k (rvA k nm D A u.toNat).toNat : Nat) : Int) A)) else (vI (-3), upF 4 A)) else (vI (-1), A)
theorem wy_pos {F : Int} {N n : Nat} {D ex : Nat → Nat → Int} (T : TH F N n D ex) : 1 ≤ wyM F N n D ex := by
  by_cases hn : n = 0
  · unfold wyM
    rw [if_pos hn]
    omega
  · obtain ⟨h1, h2⟩ := frM_ok T.1 T.2.1 T.2.2.1 T.2.2.2.1 T.2.2.2.2 (show 0 < n by omega)
    exact Int.le_trans (to_pos T (show 0 < n by omega) h1 h2) (to_le T (by omega) h1)
section WX
variable {k nm ns : Nat} {D ex : Nat → Nat → Int} {σ σ' : am_S}
theorem CI.wz {W : List Nat} (h : CI k nm ns D σ) (hF : FZ W σ σ') (hw : ∀ a ∈ W, (33 ≤ a ∧ a ≤ 37) ∨ (39 ≤ a ∧ a ≤ 45)) (hk : KNs k D σ') (h4 : σ'.1 36 4 = 0 ∨ σ'.1 36 4 = 1 ∧ WG k nm D (fun m h => cPr σ k m h) σ') (h5 : σ'.1 36 5 = 0 ∨ σ'.1 36 5 = 1 ∧ CK k nm D (fun m h => cPr σ k m h) σ') : CI k nm ns D σ' ∧ ∀ m h, cPr σ' k m h = cPr σ k m h := by
  have m : ∀ a, ¬ ((33 ≤ a ∧ a ≤ 37) ∨ (39 ≤ a ∧ a ≤ 45)) → a < 76 → σ'.1 a = σ.1 a := fun a ha hb => funext (hF.2 a ⟨fun z => ha (hw a z), Or.inl hb⟩)
  have ecq : ∀ q x, cPr σ' k q x = cPr σ k q x := fun q x => by
    unfold cPr
    rw [cEx_eq (σ := σ) (σ' := σ') (m 5 (by omega) (by omega)) (m 7 (by omega) (by omega)) (m 8 (by omega) (by omega)) (m 21 (by omega) (by omega)) (m 25 (by omega) (by omega)) (m 26 (by omega) (by omega)) (m 28 (by omega) (by omega)) (m 29 (by omega) (by omega)) (m 30 (by omega) (by omega)), m 9 (by omega) (by omega)]
  have ecp : (fun m h => cPr σ' k m h) = (fun m h => cPr σ k m h) := by
    funext q x
    exact ecq q x
  refine ⟨⟨hF.wd h.w, fun j hj => by rw [m 0 (by omega) (by omega)]; exact h.wr j hj, WX.fz hF (fun a ha => by have := hw a ha; omega) h.x, ⟨by rw [m 47 (by omega) (by omega)]; exact h.st.1, h.st.2⟩, by rw [m 48 (by omega) (by omega), m 49 (by omega) (by omega), m 50 (by omega) (by omega), m 51 (by omega) (by omega)]; exact h.sh, hk, fun r hr => by rw [m _ (by omega) (by omega)]; exact h.row r hr, fun t ht => by rw [m (68 + 2 * t) (by omega) (by omega), m (69 + 2 * t) (by omega) (by omega)]; exact h.txt t ht, ?_, ?_⟩, ecq⟩
  · rw [ecp]
    exact h4
  · rw [ecp]
    exact h5
theorem c102x (hCI : CI k nm ns D σ) (hE : ∀ m h, cPr σ k m h = ex m h) : CC 102 [vR 36] σ (fun r σ' => r = none ∧ FZ [33, 34, 35, 36, 37, 38, 39, 40, 41, 42, 43] σ σ' ∧ CI k nm ns D σ' ∧ (∀ m h, cPr σ' k m h = ex m h) ∧ σ'.1 36 4 = 1 ∧ WG k nm D ex σ') := by
  have e : (fun m h => cPr σ k m h) = ex := funext fun m => funext fun h => hE m h
  have hex : ∀ m h, h < nkT k → 0 ≤ ex m h ∧ ex m h ≤ 1000000 := fun m h _ => by rw [← hE]; exact cPr_bd hCI.x.1
  refine CC.mono (c102 σ k nm hCI.w D ex hCI.x hex hCI.kn hE (by have := hCI.m4; rw [e] at this; exact this)) ?_
  rintro r σ' ⟨rfl, hk, hF, h4, h36, hg⟩
  have m : ∀ a, (a = 44 ∨ a = 45) → ∀ j, σ'.1 a j = σ.1 a j := fun a ha => hF.2 a ⟨by simp only [List.mem_cons, List.not_mem_nil, or_false, not_or]; omega, Or.inl (by omega)⟩
  have hz : CI k nm ns D σ' ∧ ∀ m h, cPr σ' k m h = cPr σ k m h := by
    have mm : ∀ a, ¬ (33 ≤ a ∧ a ≤ 43) → a < 76 → σ'.1 a = σ.1 a := fun a ha hb => funext (hF.2 a ⟨by simp only [List.mem_cons, List.not_mem_nil, or_false, not_or]; omega, Or.inl hb⟩)
    have ecq : ∀ q x, cPr σ' k q x = cPr σ k q x := fun q x => by
      unfold cPr
      rw [cEx_eq (σ := σ) (σ' := σ') (mm 5 (by omega) (by omega)) (mm 7 (by omega) (by omega)) (mm 8 (by omega) (by omega)) (mm 21 (by omega) (by omega)) (mm 25 (by omega) (by omega)) (mm 26 (by omega) (by omega)) (mm 28 (by omega) (by omega)) (mm 29 (by omega) (by omega)) (mm 30 (by omega) (by omega)), mm 9 (by omega) (by omega)]
    have ecp : (fun m h => cPr σ' k m h) = ex := funext fun q => funext fun x => (ecq q x).trans (hE q x)
    refine ⟨⟨hF.wd hCI.w, fun j hj => by rw [mm 0 (by omega) (by omega)]; exact hCI.wr j hj, WX.fz hF (by decide) hCI.x, ⟨by rw [mm 47 (by omega) (by omega)]; exact hCI.st.1, hCI.st.2⟩, by rw [mm 48 (by omega) (by omega), mm 49 (by omega) (by omega), mm 50 (by omega) (by omega), mm 51 (by omega) (by omega)]; exact hCI.sh, hk, fun r hr => by rw [mm _ (by omega) (by omega)]; exact hCI.row r hr, fun t ht => by rw [mm (68 + 2 * t) (by omega) (by omega), mm (69 + 2 * t) (by omega) (by omega)]; exact hCI.txt t ht, Or.inr ⟨h4, by rw [ecp]; exact hg⟩, ?_⟩, ecq⟩
    rw [ecp, h36 5 (by decide) (by decide)]
    have h5 := hCI.m5
    rw [e] at h5
    rcases h5 with z | ⟨z1, z2, z3⟩
    · exact Or.inl z
    · exact Or.inr ⟨z1, by rw [h36 7 (by decide) (by decide)]; exact z2, fun t1 t2 q hq x hx hp => by rw [m 44 (by omega), m 45 (by omega)]; exact z3 t1 t2 q hq x hx hp⟩
  exact ⟨rfl, hF, hz.1, fun q x => (hz.2 q x).trans (hE q x), h4, hg⟩
theorem c116x (hCI : CI k nm ns D σ) (hE : ∀ m h, cPr σ k m h = ex m h) (h4 : σ.1 36 4 = 1) (hg : WG k nm D ex σ) : CC 116 [vR 36] σ (fun r σ' => r = none ∧ FZ [33, 34, 35, 36, 44, 45] σ σ' ∧ CI k nm ns D σ' ∧ (∀ m h, cPr σ' k m h = ex m h) ∧ CK k nm D ex σ' ∧ WG k nm D ex σ') := by
  have e : (fun m h => cPr σ k m h) = ex := funext fun m => funext fun h => hE m h
  have hex : ∀ m h, h < nkT k → 0 ≤ ex m h ∧ ex m h ≤ 1000000 := fun m h _ => by rw [← hE]; exact cPr_bd hCI.x.1
  refine CC.mono (c116 σ k nm hCI.w D ex hCI.x hex hg.1 hCI.kn (fun t => (hg.2 t).1) (by have := hCI.m5; rw [e] at this; exact this)) ?_
  rintro r σ' ⟨rfl, hk, hF, h5, h36, hc⟩
  have hg' : WG k nm D ex σ' := ⟨WK.fzs hF (by decide) (h36 6 (by decide) (by decide)) hg.1, fun t => ⟨LQ.fz hF (by decide) (hg.2 t).1, fun q hq => (hF.2 37 ⟨by decide, Or.inl (by decide)⟩ q).trans ((hg.2 t).2 q hq)⟩⟩
  obtain ⟨z1, z2⟩ := hCI.wz hF (by decide) hk (Or.inr ⟨(h36 4 (by decide) (by decide)).trans h4, by rw [e]; exact hg'⟩) (Or.inr ⟨h5, by rw [e]; exact hc⟩)
  exact ⟨rfl, hF, z1, fun q x => (z2 q x).trans (hE q x), hc, hg'⟩
end WX
theorem c101 (σ : am_S) (k nm ns : Nat) (D : Nat → Nat → Int) (hCI : CI k nm ns D σ) : CC 101 [vR 2] σ (fun r σ' => PKc k nm ns D σ (x_plain k nm D σ ) r σ') := by
  show TT am_b101 (am_b101.getD 0 []) [(0, vR 2)] [] σ _
  have hW := hCI.w
  have hk5 := hCI.x.1.1
  have hl27 := hCI.x.2.2.1.1
  have hk6 := hCI.x.1.2.1
  have hm12 := hCI.x.2.2.1.2.1
  have hD := hCI.x.1
  have hHT := hCI.x.2.1
  have hnb := nkT_bd k
  obtain ⟨ex, hE⟩ : ∃ ex : Nat → Nat → Int, ∀ m h, cPr σ k m h = ex m h := ⟨_, fun _ _ => rfl⟩
  have hxA : exA k σ = ex := funext fun m => funext fun h => hE m h
  refine tt_ar rfl ?_
  refine tt_getR (wo_2 hW) rfl (wr_2_8 hW) ?_
  refine tt_cv1 1 rfl (wo_36 hW) (c102x hCI hE) ?_
  intro r0 σ1 hq0
  obtain ⟨rfl, hF1, hci, hE1, h41, hwg⟩ := hq0
  have hW1 := FZ.wd hF1 hW
  have hex : ∀ m h, h < nkT k → 0 ≤ ex m h ∧ ex m h ≤ 1000000 := fun m h _ => by rw [← hE]; exact cPr_bd hCI.x.1
  have hbz : σ1.1 36 6 = bsN 1000000 (nkT k) nm D ex := hwg.1.1
  refine tt_ar rfl ?_
  refine tt_getR (wo_2 hW1) rfl (wr_2_8 hW1) ?_
  refine tt_cv1 1 rfl (wo_36 hW1) (c106 σ1 hW1) (kb (fun h0_5 => ?_) (fun h0_5 => ?_))
  · rw [hwg.1.1] at h0_5
    refine tt_ifeqF (by decide) ?_
    refine tt_ar rfl ?_
    refine tt_getR (wo_2 hW1) rfl (wr_2_8 hW1) ?_
    refine tt_getI (x := bsN 1000000 (nkT k) nm D ex) (wo_36 hW1) rfl hbz ?_
    refine tt_goto ?_
    refine tt_iret ?_
    exact pk_any (M := σ) hci (show x_plain k nm D σ  = (vI (bsN 1000000 (nkT k) nm D ex), σ) by unfold x_plain; (try simp only [Int.toNat_natCast, hl27, hk5]); (try rw [hxA]); (repeat (first | rw [if_pos (by omega)] | rw [if_neg (by omega)])); (first | done | rfl)) (EqB.ofZ hF1 (by decide)) (QC.ofZ hF1 (by decide))
  · rw [hwg.1.1] at h0_5
    refine tt_ifeqT (by decide) ?_
    refine tt_ar rfl ?_
    refine tt_nop ?_
    refine tt_iret ?_
    exact pk_any (M := σ) hci (show x_plain k nm D σ  = (vI (-9), σ) by unfold x_plain; (try simp only [Int.toNat_natCast, hl27, hk5]); (try rw [hxA]); (repeat (first | rw [if_pos (by omega)] | rw [if_neg (by omega)])); (first | done | rfl)) (EqB.ofZ hF1 (by decide)) (QC.ofZ hF1 (by decide))

theorem c114 (σ : am_S) (k nm ns : Nat) (D : Nat → Nat → Int) (hCI : CI k nm ns D σ) (u : Int) : CC 114 [vR 2, vI (u)] σ (fun r σ' => PKc k nm ns D σ (x_tale k nm D σ u) r σ') := by
  show TT am_b114 (am_b114.getD 0 []) [(0, vR 2), (1, vI (u))] [] σ _
  have hW := hCI.w
  have hk5 := hCI.x.1.1
  have hl27 := hCI.x.2.2.1.1
  have hk6 := hCI.x.1.2.1
  have hm12 := hCI.x.2.2.1.2.1
  have hD := hCI.x.1
  have hHT := hCI.x.2.1
  have hnb := nkT_bd k
  obtain ⟨ex, hE⟩ : ∃ ex : Nat → Nat → Int, ∀ m h, cPr σ k m h = ex m h := ⟨_, fun _ _ => rfl⟩
  have hxA : exA k σ = ex := funext fun m => funext fun h => hE m h
  have hpr := hD.2.2.2.1
  have hDb : ∀ a b, a < nkT k → b < nkT k → 0 ≤ D a b := fun a b ha hb => (DI.bd hk6 hpr hCI.x.2.2.2 ha hb).1
  refine tt_ar rfl ?_
  refine tt_cs1 1 rfl (c22 _ _) (kb (fun h0_1 => ?_) (fun h0_1 => ?_))
  · refine tt_ifneT (by decide) ?_
    obtain ⟨un, rfl⟩ : ∃ un : Nat, u = (un : Int) := ⟨u.toNat, by omega⟩
    refine tt_ar rfl ?_
    refine tt_getR (wo_2 hW) rfl (wr_2_8 hW) ?_
    refine tt_cv1 1 rfl (wo_36 hW) (c102x hCI hE) ?_
    intro r0 σ1 hq0
    obtain ⟨rfl, hF1, hci, hE1, h41, hwg⟩ := hq0
    have hW1 := FZ.wd hF1 hW
    have hex : ∀ m h, h < nkT k → 0 ≤ ex m h ∧ ex m h ≤ 1000000 := fun m h _ => by rw [← hE]; exact cPr_bd hCI.x.1
    have hbz : σ1.1 36 6 = bsN 1000000 (nkT k) nm D ex := hwg.1.1
    refine tt_ar rfl ?_
    refine tt_getR (wo_2 hW1) rfl (wr_2_8 hW1) ?_
    refine tt_cv1 1 rfl (wo_36 hW1) (c106 σ1 hW1) (kb (fun h1_5 => ?_) (fun h1_5 => ?_))
    · rw [hwg.1.1] at h1_5
      refine tt_ifneT (by decide) ?_
      refine tt_ar rfl ?_
      refine tt_getR (wo_2 hW1) rfl (wr_2_0 hW1) ?_
      refine tt_ar rfl ?_
      refine tt_aald (un) (wa_3 hW1) rfl (by omega) (wr_rows hW1 (un) (by omega)) ?_
      refine tt_ar rfl ?_
      refine tt_getR (wo_2 hW1) rfl (wr_2_5 hW1) ?_
      refine tt_getI (x := (nm : Int)) (wo_27 hW1) rfl ((hF1.2 27 ⟨(by decide), Or.inl (by decide)⟩ (0)).trans hl27) ?_
      refine tt_ar rfl ?_
      refine tt_cv3 3 rfl (wo_row hW1 (un) (by omega)) (c25 σ1 (56 + 2 * un) (57 + 2 * un) 40 _ _ (wo_row hW1 un (by omega)) (wr_row hW1 un (by omega)) (wa_row hW1 un (by omega)) (by omega) (by rfl) (by omega)) ?_
      intro r0 σ2 hq0
      obtain ⟨rfl, hFb, hz, hC⟩ := hq0
      have hW2 := Fr.wd hFb hW1
      refine tt_ar rfl ?_
      refine tt_ar rfl ?_
      refine tt_nop ?_
      have lp3_3 : ∀ (μ : Nat) (m : Nat) (σ3 : am_S), nm - m < μ → Fr [(57 + 2 * un)] σ2 σ3 → (m ≤ nm) → (∀ j, σ3.1 (57 + 2 * un) j = if j < 40 then (if j < m then ((tb k (frM 1000000 (nkT k) nm D ex j) : Nat) : Int) else 0) else σ1.1 (57 + 2 * un) j) → TT am_b114 (am_b114.getD 3 []) [(0, vR 2), (1, vI (((un : Nat) : Int))), (2, vI (((m : Nat) : Int)))] [] σ3 (fun r σ' => PKc k nm ns D σ (x_tale k nm D σ (un : Int)) r σ') := by
        intro μ
        induction μ with
        | zero => intro m σ3 hμ; exact absurd hμ (Nat.not_lt_zero _)
        | succ μ ih3 =>
          intro m σ3 hμ hF_σ3 hm hC3
          have hW_σ3 := Fr.wd hF_σ3 hW2
          refine tt_ar rfl ?_
          refine tt_ar rfl ?_
          refine tt_getR (wo_2 hW_σ3) rfl (wr_2_5 hW_σ3) ?_
          refine tt_getI (x := (nm : Int)) (wo_27 hW_σ3) rfl (((hF_σ3.2 27 (by simp only [List.mem_cons, List.not_mem_nil, or_false, not_or]; omega) (0)).trans ((hFb.2 27 (by simp only [List.mem_cons, List.not_mem_nil, or_false, not_or]; omega) (0)).trans (hF1.2 27 ⟨(by decide), Or.inl (by decide)⟩ (0)))).trans hl27) ?_
          refine tt_icge (fun h3_4 => ?_) (fun h3_4 => ?_)
          · refine tt_ar rfl ?_
            refine tt_getR (wo_2 hW_σ3) rfl (wr_2_5 hW_σ3) ?_
            refine tt_getI (x := (nm : Int)) (wo_27 hW_σ3) rfl (((hF_σ3.2 27 (by simp only [List.mem_cons, List.not_mem_nil, or_false, not_or]; omega) (0)).trans ((hFb.2 27 (by simp only [List.mem_cons, List.not_mem_nil, or_false, not_or]; omega) (0)).trans (hF1.2 27 ⟨(by decide), Or.inl (by decide)⟩ (0)))).trans hl27) ?_
            refine tt_iret ?_
            have e9 : m = nm := by omega
            subst e9
            have hFs : Fr [56 + 2 * un, 57 + 2 * un] σ1 σ3 := Fr.tr (Fr.mono hFb (fun _ q => q)) hF_σ3 (by simp)
            have hz3 : σ3.1 (56 + 2 * un) 1 = (m : Int) := (hF_σ3.2 (56 + 2 * un) (by simp) 1).trans hz
            exact pk_any (hci.putR (by omega) hFs (by rw [hz3]; omega)) (show x_tale k m D σ un = (vI (m : Int), upS (56 + 2 * un) 40 (fun j => if j < m then ((tb k (frM 1000000 (nkT k) m D ex j) : Nat) : Int) else 0) (m : Int) σ) by unfold x_tale; (try simp only [Int.toNat_natCast, hl27, hk5]); (try rw [hxA]); (repeat (first | rw [if_pos (by omega)] | rw [if_neg (by omega)])); (first | done | rfl)) (EqB_upS (EqB.ofZ hF1 (by decide)) (by omega) (by rw [show 56 + 2 * un + 1 = 57 + 2 * un by omega]; exact hFs) hz3 (by rw [show 56 + 2 * un + 1 = 57 + 2 * un by omega]; exact hC3)) ((QC.ofZ hF1 (by decide)).tr (QC.put2 hFs (by omega) (by omega)))
          · have hfr := (hwg.2 h1_5).2 m (by omega)
            have hfo := frM_ok (F := 1000000) (N := nkT k) (n := nm) (D := D) (ex := ex) (by omega) (by omega) hDb (fun m h hh => (hex m h hh).1) h1_5 (show m < nm by omega)
            refine tt_ar rfl ?_
            refine tt_getR (wo_2 hW_σ3) rfl (wr_2_0 hW_σ3) ?_
            refine tt_ar rfl ?_
            refine tt_aald (un) (wa_3 hW_σ3) rfl (by omega) (wr_rows hW_σ3 (un) (by omega)) ?_
            refine tt_getR (wo_row hW_σ3 (un) (by omega)) rfl (wr_row hW_σ3 (un) (by omega)) ?_
            refine tt_ar rfl ?_
            refine tt_ar rfl ?_
            refine tt_getR (wo_2 hW_σ3) rfl (wr_2_4 hW_σ3) ?_
            refine tt_getR (wo_18 hW_σ3) rfl (wr_18_2 hW_σ3) ?_
            refine tt_ar rfl ?_
            refine tt_getR (wo_2 hW_σ3) rfl (wr_2_8 hW_σ3) ?_
            refine tt_getR (wo_36 hW_σ3) rfl (wr_36_8 hW_σ3) ?_
            refine tt_ar rfl ?_
            refine tt_iald (m) (x := ((frM 1000000 (nkT k) nm D ex m : Nat) : Int)) (wa_37 hW_σ3) rfl (by omega) (((hF_σ3.2 37 (by simp only [List.mem_cons, List.not_mem_nil, or_false, not_or]; omega) (m)).trans (hFb.2 37 (by simp only [List.mem_cons, List.not_mem_nil, or_false, not_or]; omega) (m))).trans hfr) ?_
            refine tt_iald (frM 1000000 (nkT k) nm D ex m) (x := ((tb k (frM 1000000 (nkT k) nm D ex m) : Nat) : Int)) (wa_19 hW_σ3) rfl (by omega) (((hF_σ3.2 19 (by simp only [List.mem_cons, List.not_mem_nil, or_false, not_or]; omega) (frM 1000000 (nkT k) nm D ex m)).trans ((hFb.2 19 (by simp only [List.mem_cons, List.not_mem_nil, or_false, not_or]; omega) (frM 1000000 (nkT k) nm D ex m)).trans (hF1.2 19 ⟨(by decide), Or.inl (by decide)⟩ (frM 1000000 (nkT k) nm D ex m)))).trans (hHT.2.1 _ hfo.1).1) ?_
            refine tt_iast (m) (wa_row hW_σ3 (un) (by omega)) (by omega) rfl (by omega) ?_
            refine tt_iinc (y := ((m + 1 : Nat) : Int)) rfl (iinc_fit (by omega) (by omega) (by omega)) ?_
            refine tt_goto ?_
            refine tt_loc [(0, vR 2), (1, vI (((un : Nat) : Int))), (2, vI (((m + 1 : Nat) : Int)))] rfl rfl ⟨rfl, rfl, rfl, trivial⟩ ?_
            exact ih3 (m + 1) _ (by omega) (Fr.put (Fr.tr Fr.rf hF_σ3 (by simp)) (by simp)) (by omega) (fun j => by rw [am_set_at, hC3 j]; by_cases e : j = m; (subst e; rw [if_pos rfl, if_pos (by omega), if_pos (by omega)]); (rw [if_neg e]; by_cases e2 : j < m; (rw [if_pos e2, if_pos (show j < m + 1 by omega)]); (rw [if_neg e2, if_neg (show ¬ j < m + 1 by omega)])))
      refine tt_loc [(0, vR 2), (1, vI (((un : Nat) : Int))), (2, vI (((0 : Nat) : Int)))] rfl rfl ⟨rfl, rfl, lv_to rfl (by omega), trivial⟩ ?_
      exact lp3_3 _ (0) σ2 (Nat.lt_succ_self _) Fr.rf (by omega) (fun j => by rw [hC j]; by_cases e : j < 40; (rw [if_pos e, if_pos e, if_neg (Nat.not_lt_zero j)]); (rw [if_neg e, if_neg e]))
    · rw [hwg.1.1] at h1_5
      refine tt_ifneF (by decide) ?_
      refine tt_ar rfl ?_
      refine tt_ar rfl ?_
      refine tt_cv2 2 rfl (wo_2 hW1) (c24 σ1 4 hW1 (by omega)) (ks ?_)
      refine tt_iret ?_
      exact pk_fF (f := 4) hci (by decide) (show x_tale k nm D σ (un : Int) = (vI (-3), upF 4 σ) by unfold x_tale; (try simp only [Int.toNat_natCast, hl27, hk5]); (try rw [hxA]); (repeat (first | rw [if_pos (by omega)] | rw [if_neg (by omega)])); (first | done | rfl)) (EqB.ofZ hF1 (by decide)) (QC.ofZ hF1 (by decide))
  · refine tt_ifneF (by decide) ?_
    refine tt_ar rfl ?_
    refine tt_iret ?_
    exact pk_same hCI (show x_tale k nm D σ u = (vI (-1), σ) by unfold x_tale; (try simp only [Int.toNat_natCast, hl27, hk5]); (try rw [hxA]); (repeat (first | rw [if_pos (by omega)] | rw [if_neg (by omega)])); (first | done | rfl))

theorem c115 (σ : am_S) (k nm ns : Nat) (D : Nat → Nat → Int) (hCI : CI k nm ns D σ) : CC 115 [vR 2] σ (fun r σ' => PKc k nm ns D σ (x_ways k nm D σ ) r σ') := by
  show TT am_b115 (am_b115.getD 0 []) [(0, vR 2)] [] σ _
  have hW := hCI.w
  have hk5 := hCI.x.1.1
  have hl27 := hCI.x.2.2.1.1
  have hk6 := hCI.x.1.2.1
  have hm12 := hCI.x.2.2.1.2.1
  have hD := hCI.x.1
  have hHT := hCI.x.2.1
  have hnb := nkT_bd k
  obtain ⟨ex, hE⟩ : ∃ ex : Nat → Nat → Int, ∀ m h, cPr σ k m h = ex m h := ⟨_, fun _ _ => rfl⟩
  have hxA : exA k σ = ex := funext fun m => funext fun h => hE m h
  refine tt_ar rfl ?_
  refine tt_getR (wo_2 hW) rfl (wr_2_8 hW) ?_
  refine tt_cv1 1 rfl (wo_36 hW) (c102x hCI hE) ?_
  intro r0 σ1 hq0
  obtain ⟨rfl, hF1, hci, hE1, h41, hwg⟩ := hq0
  have hW1 := FZ.wd hF1 hW
  have hex : ∀ m h, h < nkT k → 0 ≤ ex m h ∧ ex m h ≤ 1000000 := fun m h _ => by rw [← hE]; exact cPr_bd hCI.x.1
  have hbz : σ1.1 36 6 = bsN 1000000 (nkT k) nm D ex := hwg.1.1
  refine tt_ar rfl ?_
  refine tt_getR (wo_2 hW1) rfl (wr_2_8 hW1) ?_
  refine tt_cv1 1 rfl (wo_36 hW1) (c116x hci hE1 h41 hwg) ?_
  intro r0 σ2 hq0
  obtain ⟨rfl, hF2, hci2, hE2, hck, hwg2⟩ := hq0
  have hW2 := FZ.wd hF2 hW1
  have h7 : σ2.1 36 7 = tlA k nm D σ := by unfold tlA; rw [hxA]; exact hck.1
  refine tt_ar rfl ?_
  refine tt_getR (wo_2 hW2) rfl (wr_2_8 hW2) ?_
  refine tt_getL (x := tlA k nm D σ) (wo_36 hW2) rfl h7 ?_
  refine tt_ar rfl ?_
  refine tt_lcmp (fun h3 => ?_) (fun h4 => ?_) (fun h5 => ?_)
  ·
    refine tt_ifleT (by decide) ?_
    refine tt_ar rfl ?_
    refine tt_ar rfl ?_
    refine tt_getR (wo_2 hW2) rfl (wr_2_8 hW2) ?_
    refine tt_getL (x := tlA k nm D σ) (wo_36 hW2) rfl h7 ?_
    refine tt_putL (wo_2 hW2) rfl ?_
    refine tt_ar rfl ?_
    refine tt_getR (wo_2 hW2) rfl (wr_2_8 hW2) ?_
    refine tt_getL (x := tlA k nm D σ) (wo_36 hW2) rfl h7 ?_
    refine tt_ar rfl ?_
    refine tt_lcmp (fun h6 => ?_) (fun h7 => ?_) (fun h8 => ?_)
    ·
      refine tt_ifleT (by decide) ?_
      refine tt_ar rfl ?_
      refine tt_nop ?_
      refine tt_iret ?_
      exact pk_any (hci2.fr (Fr.put Fr.rf (by decide) : Fr [2] σ2 (am_set σ2 2 (13) (tlA k nm D σ))) (by decide)) (show x_ways k nm D σ = (vI 0, am_set σ 2 13 (tlA k nm D σ)) by unfold x_ways; rw [if_neg (by omega)]; rw [if_neg (by omega)]) (((EqB.ofZ hF1 (by decide)).tr (EqB.ofZ hF2 (by decide))).set) (((QC.ofZ hF1 (by decide)).tr (QC.ofZ hF2 (by decide))).tr (QC.of (Fr.put Fr.rf (by decide) : Fr [2] σ2 (am_set σ2 2 (13) (tlA k nm D σ))) (by decide)))
    ·
      refine tt_ifleT (by decide) ?_
      refine tt_ar rfl ?_
      refine tt_nop ?_
      refine tt_iret ?_
      exact pk_any (hci2.fr (Fr.put Fr.rf (by decide) : Fr [2] σ2 (am_set σ2 2 (13) (tlA k nm D σ))) (by decide)) (show x_ways k nm D σ = (vI 0, am_set σ 2 13 (tlA k nm D σ)) by unfold x_ways; rw [if_neg (by omega)]; rw [if_neg (by omega)]) (((EqB.ofZ hF1 (by decide)).tr (EqB.ofZ hF2 (by decide))).set) (((QC.ofZ hF1 (by decide)).tr (QC.ofZ hF2 (by decide))).tr (QC.of (Fr.put Fr.rf (by decide) : Fr [2] σ2 (am_set σ2 2 (13) (tlA k nm D σ))) (by decide)))
    ·
      refine tt_ifleF (by decide) ?_
      refine tt_ar rfl ?_
      refine tt_goto ?_
      refine tt_iret ?_
      exact pk_any (hci2.fr (Fr.put Fr.rf (by decide) : Fr [2] σ2 (am_set σ2 2 (13) (tlA k nm D σ))) (by decide)) (show x_ways k nm D σ = (vI 1, am_set σ 2 13 (tlA k nm D σ)) by unfold x_ways; rw [if_neg (by omega)]; rw [if_pos (by omega)]) (((EqB.ofZ hF1 (by decide)).tr (EqB.ofZ hF2 (by decide))).set) (((QC.ofZ hF1 (by decide)).tr (QC.ofZ hF2 (by decide))).tr (QC.of (Fr.put Fr.rf (by decide) : Fr [2] σ2 (am_set σ2 2 (13) (tlA k nm D σ))) (by decide)))
  ·
    refine tt_ifleT (by decide) ?_
    refine tt_ar rfl ?_
    refine tt_ar rfl ?_
    refine tt_getR (wo_2 hW2) rfl (wr_2_8 hW2) ?_
    refine tt_getL (x := tlA k nm D σ) (wo_36 hW2) rfl h7 ?_
    refine tt_putL (wo_2 hW2) rfl ?_
    refine tt_ar rfl ?_
    refine tt_getR (wo_2 hW2) rfl (wr_2_8 hW2) ?_
    refine tt_getL (x := tlA k nm D σ) (wo_36 hW2) rfl h7 ?_
    refine tt_ar rfl ?_
    refine tt_lcmp (fun h9 => ?_) (fun h10 => ?_) (fun h11 => ?_)
    ·
      refine tt_ifleT (by decide) ?_
      refine tt_ar rfl ?_
      refine tt_nop ?_
      refine tt_iret ?_
      exact pk_any (hci2.fr (Fr.put Fr.rf (by decide) : Fr [2] σ2 (am_set σ2 2 (13) (tlA k nm D σ))) (by decide)) (show x_ways k nm D σ = (vI 0, am_set σ 2 13 (tlA k nm D σ)) by unfold x_ways; rw [if_neg (by omega)]; rw [if_neg (by omega)]) (((EqB.ofZ hF1 (by decide)).tr (EqB.ofZ hF2 (by decide))).set) (((QC.ofZ hF1 (by decide)).tr (QC.ofZ hF2 (by decide))).tr (QC.of (Fr.put Fr.rf (by decide) : Fr [2] σ2 (am_set σ2 2 (13) (tlA k nm D σ))) (by decide)))
    ·
      refine tt_ifleT (by decide) ?_
      refine tt_ar rfl ?_
      refine tt_nop ?_
      refine tt_iret ?_
      exact pk_any (hci2.fr (Fr.put Fr.rf (by decide) : Fr [2] σ2 (am_set σ2 2 (13) (tlA k nm D σ))) (by decide)) (show x_ways k nm D σ = (vI 0, am_set σ 2 13 (tlA k nm D σ)) by unfold x_ways; rw [if_neg (by omega)]; rw [if_neg (by omega)]) (((EqB.ofZ hF1 (by decide)).tr (EqB.ofZ hF2 (by decide))).set) (((QC.ofZ hF1 (by decide)).tr (QC.ofZ hF2 (by decide))).tr (QC.of (Fr.put Fr.rf (by decide) : Fr [2] σ2 (am_set σ2 2 (13) (tlA k nm D σ))) (by decide)))
    ·
      refine tt_ifleF (by decide) ?_
      refine tt_ar rfl ?_
      refine tt_goto ?_
      refine tt_iret ?_
      exact pk_any (hci2.fr (Fr.put Fr.rf (by decide) : Fr [2] σ2 (am_set σ2 2 (13) (tlA k nm D σ))) (by decide)) (show x_ways k nm D σ = (vI 1, am_set σ 2 13 (tlA k nm D σ)) by unfold x_ways; rw [if_neg (by omega)]; rw [if_pos (by omega)]) (((EqB.ofZ hF1 (by decide)).tr (EqB.ofZ hF2 (by decide))).set) (((QC.ofZ hF1 (by decide)).tr (QC.ofZ hF2 (by decide))).tr (QC.of (Fr.put Fr.rf (by decide) : Fr [2] σ2 (am_set σ2 2 (13) (tlA k nm D σ))) (by decide)))
  ·
    refine tt_ifleF (by decide) ?_
    refine tt_ar rfl ?_
    refine tt_iret ?_
    exact pk_any (M := σ) hci2 (show x_ways k nm D σ = (vI (-6), σ) by unfold x_ways; rw [if_pos (by omega)]) ((EqB.ofZ hF1 (by decide)).tr (EqB.ofZ hF2 (by decide))) ((QC.ofZ hF1 (by decide)).tr (QC.ofZ hF2 (by decide)))

theorem c120 (σ : am_S) (k nm ns : Nat) (D : Nat → Nat → Int) (hCI : CI k nm ns D σ) (u s : Int) : CC 120 [vR 2, vI (u), vI (s)] σ (fun r σ' => PKc k nm ns D σ (x_sure k nm D σ u s) r σ') := by
  show TT am_b120 (am_b120.getD 0 []) [(0, vR 2), (1, vI (u)), (2, vI (s))] [] σ _
  have hW := hCI.w
  have hk5 := hCI.x.1.1
  have hl27 := hCI.x.2.2.1.1
  have hk6 := hCI.x.1.2.1
  have hm12 := hCI.x.2.2.1.2.1
  have hD := hCI.x.1
  have hHT := hCI.x.2.1
  have hnb := nkT_bd k
  obtain ⟨ex, hE⟩ : ∃ ex : Nat → Nat → Int, ∀ m h, cPr σ k m h = ex m h := ⟨_, fun _ _ => rfl⟩
  have hxA : exA k σ = ex := funext fun m => funext fun h => hE m h
  refine tt_ar rfl ?_
  refine tt_ar rfl ?_
  refine tt_cv2 2 rfl (wo_2 hW) (c66 σ _ nm hW hl27 (by omega) (by have := hCI.x.2.2.1.2.1; omega)) (kb (fun h0_2 => ?_) (fun h0_2 => ?_))
  · refine tt_ifeqF (by decide) ?_
    refine tt_ar rfl ?_
    refine tt_ar rfl ?_
    refine tt_cv2 2 rfl (wo_2 hW) (c56 σ _ k hW hk5 (by omega) (by have := hCI.x.1.2.1; omega)) (kb (fun h0_6 => ?_) (fun h0_6 => ?_))
    · refine tt_ifneT (by decide) ?_
      obtain ⟨un, rfl⟩ : ∃ un : Nat, u = (un : Int) := ⟨u.toNat, by omega⟩
      obtain ⟨sn, rfl⟩ : ∃ sn : Nat, s = (sn : Int) := ⟨s.toNat, by omega⟩
      refine tt_ar rfl ?_
      refine tt_getR (wo_2 hW) rfl (wr_2_8 hW) ?_
      refine tt_cv1 1 rfl (wo_36 hW) (c102x hCI hE) ?_
      intro r0 σ1 hq0
      obtain ⟨rfl, hF1, hci, hE1, h41, hwg⟩ := hq0
      have hW1 := FZ.wd hF1 hW
      have hex : ∀ m h, h < nkT k → 0 ≤ ex m h ∧ ex m h ≤ 1000000 := fun m h _ => by rw [← hE]; exact cPr_bd hCI.x.1
      have hbz : σ1.1 36 6 = bsN 1000000 (nkT k) nm D ex := hwg.1.1
      refine tt_ar rfl ?_
      refine tt_getR (wo_2 hW1) rfl (wr_2_8 hW1) ?_
      refine tt_cv1 1 rfl (wo_36 hW1) (c106 σ1 hW1) (kb (fun h2_5 => ?_) (fun h2_5 => ?_))
      · rw [hwg.1.1] at h2_5
        refine tt_ifneT (by decide) ?_
        refine tt_ar rfl ?_
        refine tt_ar rfl ?_
        refine tt_getR (wo_2 hW1) rfl (wr_2_8 hW1) ?_
        refine tt_ar rfl ?_
        refine tt_ar rfl ?_
        refine tt_cv3 3 rfl (wo_36 hW1) (c121 σ1 k nm hW1 D ex hci.x hex (hwg.2 h2_5).1 un sn (by omega) (by omega)) (kp ?_)
        refine tt_ar rfl ?_
        refine tt_getR (wo_2 hW1) rfl (wr_2_8 hW1) ?_
        refine tt_ar rfl ?_
        refine tt_ar rfl ?_
        refine tt_cv3 3 rfl (wo_36 hW1) (c122 σ1 k nm hW1 D ex hci.x hex (hwg.2 h2_5).1 un sn (by omega) (by omega)) (kp ?_)
        refine tt_cv3 3 rfl (wo_2 hW1) (c30 σ1 _ _ hW1) (ks ?_)
        refine tt_iret ?_
        exact pk_fT (x := foQ mxS 0 (plM 1000000 (nkT k) nm D ex un) (nkT k) (fun h => ((dg (tb k h) sn : Nat) : Int))) (M := σ) hci (show x_sure k nm D σ (un : Int) (sn : Int) = (vI (foQ mnS 5 (plM 1000000 (nkT k) nm D ex un) (nkT k) (fun h => ((dg (tb k h) sn : Nat) : Int))), upA (foQ mxS 0 (plM 1000000 (nkT k) nm D ex un) (nkT k) (fun h => ((dg (tb k h) sn : Nat) : Int))) (σ)) by unfold x_sure; (try simp only [Int.toNat_natCast, hl27, hk5]); (try rw [hxA]); (repeat (first | rw [if_pos (by omega)] | rw [if_neg (by omega)])); (first | done | rfl)) (EqB.ofZ hF1 (by decide)) (QC.ofZ hF1 (by decide))
      · rw [hwg.1.1] at h2_5
        refine tt_ifneF (by decide) ?_
        refine tt_ar rfl ?_
        refine tt_ar rfl ?_
        refine tt_cv2 2 rfl (wo_2 hW1) (c24 σ1 4 hW1 (by omega)) (ks ?_)
        refine tt_iret ?_
        exact pk_fF (f := 4) hci (by decide) (show x_sure k nm D σ (un : Int) (sn : Int) = (vI (-3), upF 4 σ) by unfold x_sure; (try simp only [Int.toNat_natCast, hl27, hk5]); (try rw [hxA]); (repeat (first | rw [if_pos (by omega)] | rw [if_neg (by omega)])); (first | done | rfl)) (EqB.ofZ hF1 (by decide)) (QC.ofZ hF1 (by decide))
    · refine tt_ifneF (by decide) ?_
      refine tt_nop ?_
      refine tt_ar rfl ?_
      refine tt_iret ?_
      exact pk_same hCI (show x_sure k nm D σ u s = (vI (-1), σ) by unfold x_sure; (try simp only [Int.toNat_natCast, hl27, hk5]); (try rw [hxA]); (repeat (first | rw [if_pos (by omega)] | rw [if_neg (by omega)])); (first | done | rfl))
  · refine tt_ifeqT (by decide) ?_
    refine tt_ar rfl ?_
    refine tt_iret ?_
    exact pk_same hCI (show x_sure k nm D σ u s = (vI (-1), σ) by unfold x_sure; (try simp only [Int.toNat_natCast, hl27, hk5]); (try rw [hxA]); (repeat (first | rw [if_pos (by omega)] | rw [if_neg (by omega)])); (first | done | rfl))

theorem EqB_upG {ga gb : Nat} {σ σ2 σ3 : am_S} (hE : EqB σ σ2) (hF : Fr [2] σ2 σ3) (h14 : σ3.1 2 14 = ((ga / Nat.gcd ga gb : Nat) : Int)) (h15 : σ3.1 2 15 = ((gb / Nat.gcd ga gb : Nat) : Int)) (h2 : ∀ j, j ≠ 14 → j ≠ 15 → σ3.1 2 j = σ2.1 2 j) : EqB (upG (ga : Int) (gb : Int) σ) σ3 := by
  intro a j q
  unfold upG
  by_cases e : a = 2
  · subst e
    rw [am_set_at, am_set_at, Int.toNat_natCast, Int.toNat_natCast]
    by_cases e1 : j = 15
    · rw [if_pos e1, e1]
      exact h15
    · rw [if_neg e1]
      by_cases e2 : j = 14
      · rw [if_pos e2, e2]
        exact h14
      · rw [if_neg e2, h2 j e2 e1]
        exact hE 2 j q
  · rw [am_set_nb e, am_set_nb e, hF.2 a (by simpa using e) j]
    exact hE a j q
theorem c123 (σ : am_S) (k nm ns : Nat) (D : Nat → Nat → Int) (hCI : CI k nm ns D σ) (u s w : Int) : CC 123 [vR 2, vI (u), vI (s), vI (w)] σ (fun r σ' => PKc k nm ns D σ (x_share k nm D σ u s w) r σ') := by
  show TT am_b123 (am_b123.getD 0 []) [(0, vR 2), (1, vI (u)), (2, vI (s)), (3, vI (w))] [] σ _
  have hW := hCI.w
  have hk5 := hCI.x.1.1
  have hl27 := hCI.x.2.2.1.1
  have hk6 := hCI.x.1.2.1
  have hm12 := hCI.x.2.2.1.2.1
  have hD := hCI.x.1
  have hHT := hCI.x.2.1
  have hnb := nkT_bd k
  obtain ⟨ex, hE⟩ : ∃ ex : Nat → Nat → Int, ∀ m h, cPr σ k m h = ex m h := ⟨_, fun _ _ => rfl⟩
  have hxA : exA k σ = ex := funext fun m => funext fun h => hE m h
  have hpr := hD.2.2.2.1
  have hDb : ∀ a b, a < nkT k → b < nkT k → 0 ≤ D a b := fun a b ha hb => (DI.bd hk6 hpr hCI.x.2.2.2 ha hb).1
  refine tt_ar rfl ?_
  refine tt_ar rfl ?_
  refine tt_cv2 2 rfl (wo_2 hW) (c66 σ _ nm hW hl27 (by omega) (by have := hCI.x.2.2.1.2.1; omega)) (kb (fun h0_2 => ?_) (fun h0_2 => ?_))
  · refine tt_ifeqF (by decide) ?_
    refine tt_ar rfl ?_
    refine tt_ar rfl ?_
    refine tt_cv2 2 rfl (wo_2 hW) (c56 σ _ k hW hk5 (by omega) (by have := hCI.x.1.2.1; omega)) (kb (fun h0_6 => ?_) (fun h0_6 => ?_))
    · refine tt_ifeqF (by decide) ?_
      refine tt_ar rfl ?_
      refine tt_ar rfl ?_
      refine tt_cs2 2 rfl (c23 _ _ _) (kb (fun h0_10 => ?_) (fun h0_10 => ?_))
      · refine tt_ifneT (by decide) ?_
        obtain ⟨un, rfl⟩ : ∃ un : Nat, u = (un : Int) := ⟨u.toNat, by omega⟩
        obtain ⟨sn, rfl⟩ : ∃ sn : Nat, s = (sn : Int) := ⟨s.toNat, by omega⟩
        refine tt_ar rfl ?_
        refine tt_getR (wo_2 hW) rfl (wr_2_8 hW) ?_
        refine tt_cv1 1 rfl (wo_36 hW) (c102x hCI hE) ?_
        intro r0 σ1 hq0
        obtain ⟨rfl, hF1, hci, hE1, h41, hwg⟩ := hq0
        have hW1 := FZ.wd hF1 hW
        have hex : ∀ m h, h < nkT k → 0 ≤ ex m h ∧ ex m h ≤ 1000000 := fun m h _ => by rw [← hE]; exact cPr_bd hCI.x.1
        have hbz : σ1.1 36 6 = bsN 1000000 (nkT k) nm D ex := hwg.1.1
        refine tt_ar rfl ?_
        refine tt_getR (wo_2 hW1) rfl (wr_2_8 hW1) ?_
        refine tt_cv1 1 rfl (wo_36 hW1) (c106 σ1 hW1) (kb (fun h2_5 => ?_) (fun h2_5 => ?_))
        · rw [hwg.1.1] at h2_5
          refine tt_ifneT (by decide) ?_
          refine tt_ar rfl ?_
          refine tt_getR (wo_2 hW1) rfl (wr_2_8 hW1) ?_
          refine tt_cv1 1 rfl (wo_36 hW1) (c116x hci hE1 h41 hwg) ?_
          intro r0 σ2 hq0
          obtain ⟨rfl, hF2, hci2, hE2, hck, hwg2⟩ := hq0
          have hW2 := FZ.wd hF2 hW1
          have h7 : σ2.1 36 7 = tlA k nm D σ := by unfold tlA; rw [hxA]; exact hck.1
          refine tt_ar rfl ?_
          refine tt_getR (wo_2 hW2) rfl (wr_2_8 hW2) ?_
          refine tt_getL (x := tlA k nm D σ) (wo_36 hW2) rfl h7 ?_
          refine tt_ar rfl ?_
          refine tt_lcmp (fun h3 => ?_) (fun h4 => ?_) (fun h5 => ?_)
          ·
            refine tt_ifleT (by decide) ?_
            refine tt_ar rfl ?_
            refine tt_ar rfl ?_
            refine tt_getR (wo_2 hW2) rfl (wr_2_8 hW2) ?_
            refine tt_ar rfl ?_
            refine tt_ar rfl ?_
            refine tt_ar rfl ?_
            have htw : tlA k nm D σ = wyM 1000000 (nkT k) nm D ex := by unfold tlA; rw [hxA, if_pos h2_5]; unfold cpM; have q : ¬ (1000000000000000 < tlA k nm D σ) := (by omega); unfold tlA at q; rw [hxA, if_pos h2_5] at q; unfold cpM at q; split at q; omega; rw [if_neg (by assumption)]
            have hw1 : wyM 1000000 (nkT k) nm D ex ≤ 1000000000000000 := by omega
            refine tt_cv4 4 rfl (wo_36 hW2) (c124 σ2 k nm hW2 D ex hci2.x hex (hwg2.2 h2_5).1 hw1 (hck.2 h2_5 hw1) un sn w (by omega) (by omega)) (kp ?_)
            refine tt_ar rfl ?_
            refine tt_getR (wo_2 hW2) rfl (wr_2_8 hW2) ?_
            refine tt_getL (x := tlA k nm D σ) (wo_36 hW2) rfl h7 ?_
            have hwp : 1 ≤ wyM 1000000 (nkT k) nm D ex := wy_pos ⟨by omega, by omega, hDb, fun m h hh => (hex m h hh).1, h2_5⟩
            have hvl := hv_le (k := k) (nm := nm) (m := un) (s := sn) (D := D) (ex := ex) (w := w) (by omega)
            have hvn : 0 ≤ hvM k nm un sn D ex w := sumN_nn (fun h _ => by split; exact Int.mul_nonneg (to_nn _) (on_nn _); omega)
            obtain ⟨ga, hga⟩ : ∃ a : Nat, hvM k nm un sn D ex w = (a : Int) := ⟨_, (Int.toNat_of_nonneg hvn).symm⟩
            obtain ⟨gb, hgb⟩ : ∃ b : Nat, tlA k nm D σ = (b : Int) := ⟨_, (Int.toNat_of_nonneg (by omega)).symm⟩
            have hc125 := c125 σ2 ga gb hW2 (by omega) (by omega) (by omega)
            rw [← hga, ← hgb] at hc125
            refine tt_cv3 5 rfl (wo_2 hW2) hc125 ?_
            intro r0 σ3 hq0
            obtain ⟨rfl, hF3, hg14, hg15, hg2⟩ := hq0
            have hW6 := Fr.wd hF3 hW2
            refine tt_ar rfl ?_
            refine tt_iret ?_
            have hwb : wyM 1000000 (nkT k) nm D ex = (gb : Int) := htw.symm.trans hgb
            exact pk_any (hci2.fr hF3 (by decide)) (show x_share k nm D σ un sn w = (vI 1, upG ga gb σ) by unfold x_share; simp only [Int.toNat_natCast, hl27, hk5]; rw [hxA, if_pos (by omega), if_pos h2_5, if_neg (by omega), hga, hwb]) (EqB_upG ((EqB.ofZ hF1 (by decide)).tr (EqB.ofZ hF2 (by decide))) hF3 hg14 hg15 hg2) (((QC.ofZ hF1 (by decide)).tr (QC.ofZ hF2 (by decide))).tr (QC.of hF3 (by decide)))
          ·
            refine tt_ifleT (by decide) ?_
            refine tt_ar rfl ?_
            refine tt_ar rfl ?_
            refine tt_getR (wo_2 hW2) rfl (wr_2_8 hW2) ?_
            refine tt_ar rfl ?_
            refine tt_ar rfl ?_
            refine tt_ar rfl ?_
            have htw : tlA k nm D σ = wyM 1000000 (nkT k) nm D ex := by unfold tlA; rw [hxA, if_pos h2_5]; unfold cpM; have q : ¬ (1000000000000000 < tlA k nm D σ) := (by omega); unfold tlA at q; rw [hxA, if_pos h2_5] at q; unfold cpM at q; split at q; omega; rw [if_neg (by assumption)]
            have hw1 : wyM 1000000 (nkT k) nm D ex ≤ 1000000000000000 := by omega
            refine tt_cv4 4 rfl (wo_36 hW2) (c124 σ2 k nm hW2 D ex hci2.x hex (hwg2.2 h2_5).1 hw1 (hck.2 h2_5 hw1) un sn w (by omega) (by omega)) (kp ?_)
            refine tt_ar rfl ?_
            refine tt_getR (wo_2 hW2) rfl (wr_2_8 hW2) ?_
            refine tt_getL (x := tlA k nm D σ) (wo_36 hW2) rfl h7 ?_
            have hwp : 1 ≤ wyM 1000000 (nkT k) nm D ex := wy_pos ⟨by omega, by omega, hDb, fun m h hh => (hex m h hh).1, h2_5⟩
            have hvl := hv_le (k := k) (nm := nm) (m := un) (s := sn) (D := D) (ex := ex) (w := w) (by omega)
            have hvn : 0 ≤ hvM k nm un sn D ex w := sumN_nn (fun h _ => by split; exact Int.mul_nonneg (to_nn _) (on_nn _); omega)
            obtain ⟨ga, hga⟩ : ∃ a : Nat, hvM k nm un sn D ex w = (a : Int) := ⟨_, (Int.toNat_of_nonneg hvn).symm⟩
            obtain ⟨gb, hgb⟩ : ∃ b : Nat, tlA k nm D σ = (b : Int) := ⟨_, (Int.toNat_of_nonneg (by omega)).symm⟩
            have hc125 := c125 σ2 ga gb hW2 (by omega) (by omega) (by omega)
            rw [← hga, ← hgb] at hc125
            refine tt_cv3 5 rfl (wo_2 hW2) hc125 ?_
            intro r0 σ3 hq0
            obtain ⟨rfl, hF3, hg14, hg15, hg2⟩ := hq0
            have hW7 := Fr.wd hF3 hW2
            refine tt_ar rfl ?_
            refine tt_iret ?_
            have hwb : wyM 1000000 (nkT k) nm D ex = (gb : Int) := htw.symm.trans hgb
            exact pk_any (hci2.fr hF3 (by decide)) (show x_share k nm D σ un sn w = (vI 1, upG ga gb σ) by unfold x_share; simp only [Int.toNat_natCast, hl27, hk5]; rw [hxA, if_pos (by omega), if_pos h2_5, if_neg (by omega), hga, hwb]) (EqB_upG ((EqB.ofZ hF1 (by decide)).tr (EqB.ofZ hF2 (by decide))) hF3 hg14 hg15 hg2) (((QC.ofZ hF1 (by decide)).tr (QC.ofZ hF2 (by decide))).tr (QC.of hF3 (by decide)))
          ·
            refine tt_ifleF (by decide) ?_
            refine tt_ar rfl ?_
            refine tt_iret ?_
            exact pk_any (M := σ) hci2 (show x_share k nm D σ un sn w = (vI (-6), σ) by unfold x_share; simp only [Int.toNat_natCast, hl27, hk5]; rw [hxA, if_pos (by omega), if_pos h2_5, if_pos (by omega)]) ((EqB.ofZ hF1 (by decide)).tr (EqB.ofZ hF2 (by decide))) ((QC.ofZ hF1 (by decide)).tr (QC.ofZ hF2 (by decide)))
        · rw [hwg.1.1] at h2_5
          refine tt_ifneF (by decide) ?_
          refine tt_ar rfl ?_
          refine tt_ar rfl ?_
          refine tt_cv2 2 rfl (wo_2 hW1) (c24 σ1 4 hW1 (by omega)) (ks ?_)
          refine tt_iret ?_
          exact pk_fF (f := 4) hci (by decide) (show x_share k nm D σ (un : Int) (sn : Int) w = (vI (-3), upF 4 σ) by unfold x_share; (try simp only [Int.toNat_natCast, hl27, hk5]); (try rw [hxA]); (repeat (first | rw [if_pos (by omega)] | rw [if_neg (by omega)])); (first | done | rfl)) (EqB.ofZ hF1 (by decide)) (QC.ofZ hF1 (by decide))
      · refine tt_ifneF (by decide) ?_
        refine tt_nop ?_
        refine tt_ar rfl ?_
        refine tt_iret ?_
        exact pk_same hCI (show x_share k nm D σ u s w = (vI (-1), σ) by unfold x_share; (try simp only [Int.toNat_natCast, hl27, hk5]); (try rw [hxA]); (repeat (first | rw [if_pos (by omega)] | rw [if_neg (by omega)])); (first | done | rfl))
    · refine tt_ifeqT (by decide) ?_
      refine tt_ar rfl ?_
      refine tt_iret ?_
      exact pk_same hCI (show x_share k nm D σ u s w = (vI (-1), σ) by unfold x_share; (try simp only [Int.toNat_natCast, hl27, hk5]); (try rw [hxA]); (repeat (first | rw [if_pos (by omega)] | rw [if_neg (by omega)])); (first | done | rfl))
  · refine tt_ifeqT (by decide) ?_
    refine tt_ar rfl ?_
    refine tt_iret ?_
    exact pk_same hCI (show x_share k nm D σ u s w = (vI (-1), σ) by unfold x_share; (try simp only [Int.toNat_natCast, hl27, hk5]); (try rw [hxA]); (repeat (first | rw [if_pos (by omega)] | rw [if_neg (by omega)])); (first | done | rfl))

theorem c127 (σ : am_S) (k nm ns : Nat) (D : Nat → Nat → Int) (hCI : CI k nm ns D σ) (u v : Int) : CC 127 [vR 2, vI (u), vI (v)] σ (fun r σ' => PKc k nm ns D σ (x_through k nm D σ u v) r σ') := by
  show TT am_b127 (am_b127.getD 0 []) [(0, vR 2), (1, vI (u)), (2, vI (v))] [] σ _
  have hW := hCI.w
  have hk5 := hCI.x.1.1
  have hl27 := hCI.x.2.2.1.1
  have hk6 := hCI.x.1.2.1
  have hm12 := hCI.x.2.2.1.2.1
  have hD := hCI.x.1
  have hHT := hCI.x.2.1
  have hnb := nkT_bd k
  obtain ⟨ex, hE⟩ : ∃ ex : Nat → Nat → Int, ∀ m h, cPr σ k m h = ex m h := ⟨_, fun _ _ => rfl⟩
  have hxA : exA k σ = ex := funext fun m => funext fun h => hE m h
  refine tt_ar rfl ?_
  refine tt_getR (wo_2 hW) rfl (wr_2_4 hW) ?_
  refine tt_ar rfl ?_
  refine tt_cv2 2 rfl (wo_18 hW) (c13 σ k hW hk6 hHT.1 (fun h hh => (hHT.2.1 h hh).1) (v)) (kp ?_)
  refine tt_ar rfl ?_
  refine tt_ar rfl ?_
  refine tt_iflt (fun h0_6 => ?_) (fun h0_6 => ?_)
  · refine tt_ar rfl ?_
    refine tt_iret ?_
    exact pk_same hCI (show x_through k nm D σ u v = (vI (-1), σ) by unfold x_through; (try simp only [Int.toNat_natCast, hl27, hk5]); (try rw [hxA]); (repeat (first | rw [if_pos (by omega)] | rw [if_neg (by omega)])); (first | done | rfl))
  · refine tt_ar rfl ?_
    refine tt_ar rfl ?_
    refine tt_cv2 2 rfl (wo_2 hW) (c66 σ _ nm hW hl27 (by omega) (by have := hCI.x.2.2.1.2.1; omega)) (kb (fun h0_9 => ?_) (fun h0_9 => ?_))
    · refine tt_ifneT (by decide) ?_
      obtain ⟨un, rfl⟩ : ∃ un : Nat, u = (un : Int) := ⟨u.toNat, by omega⟩
      obtain ⟨hn, hhn⟩ : ∃ hn : Nat, ix k v = (hn : Int) := ⟨_, (Int.toNat_of_nonneg (by omega)).symm⟩
      have bhn : hn < nkT k := by have := ix_bd hk6 v; omega
      refine tt_loc [(0, vR 2), (1, vI (((un : Nat) : Int))), (3, vI (((hn : Nat) : Int)))] rfl rfl ⟨rfl, rfl, lv_to rfl hhn, trivial⟩ ?_
      refine tt_ar rfl ?_
      refine tt_getR (wo_2 hW) rfl (wr_2_8 hW) ?_
      refine tt_cv1 1 rfl (wo_36 hW) (c102x hCI hE) ?_
      intro r0 σ1 hq0
      obtain ⟨rfl, hF1, hci, hE1, h41, hwg⟩ := hq0
      have hW1 := FZ.wd hF1 hW
      have hex : ∀ m h, h < nkT k → 0 ≤ ex m h ∧ ex m h ≤ 1000000 := fun m h _ => by rw [← hE]; exact cPr_bd hCI.x.1
      have hbz : σ1.1 36 6 = bsN 1000000 (nkT k) nm D ex := hwg.1.1
      refine tt_ar rfl ?_
      refine tt_getR (wo_2 hW1) rfl (wr_2_8 hW1) ?_
      refine tt_ar rfl ?_
      refine tt_ar rfl ?_
      obtain ⟨ct, hct⟩ : ∃ c : Int, (if bsN 1000000 (nkT k) nm D ex < 1000000 then ctM 1000000 (nkT k) nm D ex un hn else 1000000) = c := ⟨_, rfl⟩
      have hc111 := c111 σ1 k nm hW1 hci.x.1 hci.x.2.1 hci.x.2.2.1 un hn (by omega) (by omega) D ex hci.x.2.2.2 hex hwg.1
      rw [hct] at hc111
      refine tt_cv3 3 rfl (wo_36 hW1) hc111 (kp ?_)
      refine tt_ar rfl ?_
      refine tt_ar rfl ?_
      refine tt_ar rfl ?_
      refine tt_icge (fun h2_11 => ?_) (fun h2_11 => ?_)
      · refine tt_ar rfl ?_
        refine tt_nop ?_
        refine tt_iret ?_
        exact pk_any (M := σ) hci (show x_through k nm D σ (un : Int) v = (vI (-9), σ) by unfold x_through; simp only [Int.toNat_natCast, hl27, hhn]; rw [hxA, hct]; (repeat (first | rw [if_pos (by omega)] | rw [if_neg (by omega)])); (first | done | rfl)) (EqB.ofZ hF1 (by decide)) (QC.ofZ hF1 (by decide))
      · refine tt_ar rfl ?_
        refine tt_goto ?_
        refine tt_iret ?_
        exact pk_any (M := σ) hci (show x_through k nm D σ (un : Int) v = (vI (ct), σ) by unfold x_through; simp only [Int.toNat_natCast, hl27, hhn]; rw [hxA, hct]; (repeat (first | rw [if_pos (by omega)] | rw [if_neg (by omega)])); (first | done | rfl)) (EqB.ofZ hF1 (by decide)) (QC.ofZ hF1 (by decide))
    · refine tt_ifneF (by decide) ?_
      refine tt_nop ?_
      refine tt_ar rfl ?_
      refine tt_iret ?_
      exact pk_same hCI (show x_through k nm D σ u v = (vI (-1), σ) by unfold x_through; (try simp only [Int.toNat_natCast, hl27, hk5]); (try rw [hxA]); (repeat (first | rw [if_pos (by omega)] | rw [if_neg (by omega)])); (first | done | rfl))

theorem c128 (σ : am_S) (k nm ns : Nat) (D : Nat → Nat → Int) (hCI : CI k nm ns D σ) (u : Int) : CC 128 [vR 2, vI (u)] σ (fun r σ' => PKc k nm ns D σ (x_rival k nm D σ u) r σ') := by
  show TT am_b128 (am_b128.getD 0 []) [(0, vR 2), (1, vI (u))] [] σ _
  have hW := hCI.w
  have hk5 := hCI.x.1.1
  have hl27 := hCI.x.2.2.1.1
  have hk6 := hCI.x.1.2.1
  have hm12 := hCI.x.2.2.1.2.1
  have hD := hCI.x.1
  have hHT := hCI.x.2.1
  have hnb := nkT_bd k
  obtain ⟨ex, hE⟩ : ∃ ex : Nat → Nat → Int, ∀ m h, cPr σ k m h = ex m h := ⟨_, fun _ _ => rfl⟩
  have hxA : exA k σ = ex := funext fun m => funext fun h => hE m h
  refine tt_ar rfl ?_
  refine tt_ar rfl ?_
  refine tt_cv2 2 rfl (wo_2 hW) (c66 σ _ nm hW hl27 (by omega) (by have := hCI.x.2.2.1.2.1; omega)) (kb (fun h0_2 => ?_) (fun h0_2 => ?_))
  · refine tt_ifneT (by decide) ?_
    obtain ⟨un, rfl⟩ : ∃ un : Nat, u = (un : Int) := ⟨u.toNat, by omega⟩
    refine tt_ar rfl ?_
    refine tt_getR (wo_2 hW) rfl (wr_2_8 hW) ?_
    refine tt_cv1 1 rfl (wo_36 hW) (c102x hCI hE) ?_
    intro r0 σ1 hq0
    obtain ⟨rfl, hF1, hci, hE1, h41, hwg⟩ := hq0
    have hW1 := FZ.wd hF1 hW
    have hex : ∀ m h, h < nkT k → 0 ≤ ex m h ∧ ex m h ≤ 1000000 := fun m h _ => by rw [← hE]; exact cPr_bd hCI.x.1
    have hbz : σ1.1 36 6 = bsN 1000000 (nkT k) nm D ex := hwg.1.1
    refine tt_ar rfl ?_
    refine tt_getR (wo_2 hW1) rfl (wr_2_8 hW1) ?_
    refine tt_cv1 1 rfl (wo_36 hW1) (c106 σ1 hW1) (kb (fun h1_5 => ?_) (fun h1_5 => ?_))
    · rw [hwg.1.1] at h1_5
      refine tt_ifneT (by decide) ?_
      refine tt_ar rfl ?_
      refine tt_getR (wo_2 hW1) rfl (wr_2_8 hW1) ?_
      refine tt_ar rfl ?_
      refine tt_cv2 2 rfl (wo_36 hW1) (c129 σ1 k nm hW1 D ex hci.x hex hwg.1 h1_5 (hwg.2 h1_5).2 un (by omega)) (kp ?_)
      refine tt_ar rfl ?_
      refine tt_ar rfl ?_
      refine tt_ifge (fun h2_6 => ?_) (fun h2_6 => ?_)
      · obtain ⟨vn, hvn⟩ : ∃ vn : Nat, rvI 1000000 (frM 1000000 (nkT k) nm D ex un) (ctM 1000000 (nkT k) nm D ex un) (nkT k) = (vn : Int) := ⟨_, (Int.toNat_of_nonneg (by omega)).symm⟩
        have bvn : vn < nkT k := by rcases rv_is (F := 1000000) (sk := frM 1000000 (nkT k) nm D ex un) (f := ctM 1000000 (nkT k) nm D ex un) (nkT k) with z | ⟨h, z1, z2, z3⟩ <;> omega
        refine tt_loc [(0, vR 2), (1, vI (((un : Nat) : Int))), (2, vI (((vn : Nat) : Int)))] rfl rfl ⟨rfl, rfl, lv_to rfl hvn, trivial⟩ ?_
        refine tt_ar rfl ?_
        refine tt_ar rfl ?_
        refine tt_getR (wo_2 hW1) rfl (wr_2_4 hW1) ?_
        refine tt_getR (wo_18 hW1) rfl (wr_18_2 hW1) ?_
        refine tt_ar rfl ?_
        refine tt_iald (vn) (x := ((tb k vn : Nat) : Int)) (wa_19 hW1) rfl (by omega) ((hF1.2 19 ⟨(by decide), Or.inl (by decide)⟩ (vn)).trans (hHT.2.1 vn (by omega)).1) ?_
        refine tt_ar rfl ?_
        refine tt_getR (wo_2 hW1) rfl (wr_2_8 hW1) ?_
        refine tt_ar rfl ?_
        refine tt_ar rfl ?_
        refine tt_cv3 3 rfl (wo_36 hW1) (c111t σ1 k nm hW1 D ex hci.x hex hwg.1 h1_5 un vn (by omega) (by omega)) (kp ?_)
        refine tt_cv3 3 rfl (wo_2 hW1) (c30 σ1 _ _ hW1) (ks ?_)
        refine tt_nop ?_
        refine tt_iret ?_
        exact pk_fT (x := ((tb k vn : Nat) : Int)) (M := σ) hci (show x_rival k nm D σ (un : Int) = (vI (ctM 1000000 (nkT k) nm D ex un vn), upA (((tb k vn : Nat) : Int)) (σ)) by unfold x_rival rvA; simp only [Int.toNat_natCast, hl27]; rw [hxA, if_pos (by omega), if_pos h1_5, hvn, if_neg (by omega)]; (first | done | rfl)) (EqB.ofZ hF1 (by decide)) (QC.ofZ hF1 (by decide))
      · refine tt_ar rfl ?_
        refine tt_goto ?_
        refine tt_iret ?_
        exact pk_any (M := σ) hci (show x_rival k nm D σ (un : Int) = (vI (-9), σ) by unfold x_rival rvA; (try simp only [Int.toNat_natCast, hl27]); (try rw [hxA]); (repeat (first | rw [if_pos (by omega)] | rw [if_neg (by omega)])); (first | done | rfl)) (EqB.ofZ hF1 (by decide)) (QC.ofZ hF1 (by decide))
    · rw [hwg.1.1] at h1_5
      refine tt_ifneF (by decide) ?_
      refine tt_ar rfl ?_
      refine tt_ar rfl ?_
      refine tt_cv2 2 rfl (wo_2 hW1) (c24 σ1 4 hW1 (by omega)) (ks ?_)
      refine tt_iret ?_
      exact pk_fF (f := 4) hci (by decide) (show x_rival k nm D σ (un : Int) = (vI (-3), upF 4 σ) by unfold x_rival rvA; (try simp only [Int.toNat_natCast, hl27]); (try rw [hxA]); (repeat (first | rw [if_pos (by omega)] | rw [if_neg (by omega)])); (first | done | rfl)) (EqB.ofZ hF1 (by decide)) (QC.ofZ hF1 (by decide))
  · refine tt_ifneF (by decide) ?_
    refine tt_ar rfl ?_
    refine tt_iret ?_
    exact pk_same hCI (show x_rival k nm D σ u = (vI (-1), σ) by unfold x_rival rvA; (try simp only [Int.toNat_natCast, hl27]); (try rw [hxA]); (repeat (first | rw [if_pos (by omega)] | rw [if_neg (by omega)])); (first | done | rfl))

