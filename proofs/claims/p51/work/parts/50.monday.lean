/-! THE CLASS'S CALLS: WORLD, PRICES, MONDAYS -/
def upW (W : Nat → Nat → Int) (A : am_S) : am_S := (fun a j => if a = 5 ∧ j = 0 then W 6 0 else if a = 5 ∧ j = 4 then W 6 1 else if a = 6 ∧ j < 6 then W 7 j else if a = 7 ∧ j < 48 then W 8 j else if a = 8 ∧ j < 48 then W 9 j else if a = 9 ∧ j < 5 then W 10 j else if a = 27 ∧ j = 0 then 0 else if a = 47 ∧ j = 2 then 0 else A.1 a j, A.2)
def upM (w d : Int) (p : Nat) (A : am_S) : am_S := (fun a j => if a = 27 ∧ j = 0 then A.1 27 0 + 1 else if a = 28 ∧ j = (A.1 27 0).toNat then w else if a = 29 ∧ j = (A.1 27 0).toNat then d else if a = 30 ∧ (A.1 27 0).toNat * 8 ≤ j ∧ j < (A.1 27 0).toNat * 8 + 8 then A.1 p (j - (A.1 27 0).toNat * 8) else A.1 a j, A.2)
def wOf (A : am_S) : Option (Nat → Nat → Int) → am_V × am_S
  | some W => (vI (W 6 0), upW (p_grow W) A)
  | none => (vI (-4), A)
def x_world (A : am_S) (u : Int) : am_V × am_S := if 0 ≤ u ∧ u ≤ 3 then (if A.1 (68 + 2 * u.toNat) 1 < 0 then (vI (-3), upF 1 A) else wOf A (rdT A u.toNat).2) else (vI (-1), A)
def x_wears (A : am_S) (u x : Int) : am_V × am_S := if (0 ≤ u ∧ u < A.1 5 0) ∧ 0 ≤ x ∧ x ≤ 7 then (vI (A.1 7 (u.toNat * 8 + x.toNat)), upA (A.1 8 (u.toNat * 8 + x.toNat)) A) else (vI (-1), A)
def x_grows (A : am_S) (u : Int) : am_V × am_S := if 0 ≤ u ∧ u < A.1 5 0 then (vI (A.1 6 u.toNat), A) else (vI (-1), A)
def x_indoors (A : am_S) : am_V × am_S := (vI (A.1 5 4), A)
def x_price (A : am_S) (u v : Int) : am_V × am_S := if (0 ≤ u ∧ u ≤ 4) ∧ (v = -9 ∨ 0 ≤ v ∧ v ≤ 9) then (vI (A.1 9 u.toNat), if v = -9 then A else am_set A 9 u.toNat v) else (vI (-1), A)
def x_monday (A : am_S) (w u d : Int) : am_V × am_S := if (0 ≤ w ∧ w ≤ 1) ∧ (0 ≤ u ∧ u ≤ 5) ∧ 0 ≤ d ∧ d ≤ 9 then (if A.1 (56 + 2 * u.toNat) 1 < 0 then (vI (-3), upF 1 A) else if A.1 (56 + 2 * u.toNat) 1 = 8 then (if ∀ j, j < 8 → 0 ≤ A.1 (57 + 2 * u.toNat) j ∧ A.1 (57 + 2 * u.toNat) j ≤ 40 then (if A.1 27 0 < 12 then (vI (A.1 27 0), upM w d (57 + 2 * u.toNat) A) else (vI (-2), A)) else (vI (-3), upF 3 A)) else (vI (-3), upF 5 A)) else (vI (-1), A)
def x_hung (A : am_S) (u x n : Int) : am_V × am_S := if (0 ≤ u ∧ u < A.1 27 0) ∧ (0 ≤ x ∧ x ≤ 7) ∧ 0 ≤ n ∧ n ≤ 40 then (vI (A.1 30 (u.toNat * 8 + x.toNat)), am_set A 30 (u.toNat * 8 + x.toNat) n) else (vI (-1), A)
def x_told (A : am_S) (u w : Int) : am_V × am_S := if (0 ≤ u ∧ u < A.1 27 0) ∧ 0 ≤ w ∧ w ≤ 9 then (vI 1, upA (lnD A u.toNat w.toNat) A) else (vI (-1), A)
theorem CI.chL {W : List Nat} {k nm nm' ns : Nat} {D : Nat → Nat → Int} {σ σ' : am_S} (h : CI k nm ns D σ) (hF : Fr W σ σ') (hw : ∀ a ∈ W, a = 2 ∨ (27 ≤ a ∧ a ≤ 30) ∨ a = 36) (hL : LN nm' σ') (h4 : σ'.1 36 4 = 0) (h5 : σ'.1 36 5 = 0) : CI k nm' ns D σ' := by
  refine h.chg hF (fun a ha => by have := hw a ha; omega) (LD.fr hF (fun a ha => by have := hw a ha; omega) h.x.1) hL ?_ (KNs.fr hF (fun a ha => by have := hw a ha; omega) h.kn) h4 h5
  rw [show σ'.1 6 = σ.1 6 from funext (hF.2 6 (fun z => by have := hw _ z; omega)), show σ'.1 9 = σ.1 9 from funext (hF.2 9 (fun z => by have := hw _ z; omega))]
  exact h.x.2.2.2
theorem CI.chP {W : List Nat} {k nm ns : Nat} {D : Nat → Nat → Int} {σ σ' : am_S} (h : CI k nm ns D σ) (hF : Fr W σ σ') (hw : ∀ a ∈ W, a = 9 ∨ a = 35 ∨ a = 36) (h9 : ∀ i, i < 5 → 0 ≤ σ'.1 9 i ∧ σ'.1 9 i ≤ 9) (h0 : ∀ j, j < 462 → σ'.1 35 j = 0) (h4 : σ'.1 36 4 = 0) (h5 : σ'.1 36 5 = 0) : ∃ D', CI k nm ns D' σ' := by
  have m : ∀ a, a ≠ 9 → a ≠ 35 → a ≠ 36 → σ'.1 a = σ.1 a := fun a h1 h2 h3 => funext (hF.2 a (fun z => by have := hw a z; omega))
  have hD : LD k σ' := by
    obtain ⟨g1, g2, g3, g4, g5⟩ := h.x.1
    exact ⟨by rw [m 5 (by omega) (by omega) (by omega)]; exact g1, g2, fun i hi => by rw [m 7 (by omega) (by omega) (by omega), m 8 (by omega) (by omega) (by omega)]; exact g3 i hi, h9, fun i hi => by rw [m 6 (by omega) (by omega) (by omega)]; exact g5 i hi⟩
  have hH : HT k σ' := HT.eq h.x.2.1 (fun a ha j => by rw [m a (by omega) (by omega) (by omega)])
  obtain ⟨D', hI⟩ := DI_ex (hF.wd h.w) hD hH
  exact ⟨D', h.chg hF (fun a ha => by have := hw a ha; omega) hD (LN.fr hF (fun a ha => by have := hw a ha; omega) h.x.2.2.1) hI (KNs.zero h.kn hF hD.2.1 h0) h4 h5⟩
theorem EqB_upM {w d : Int} {p n : Nat} {σ σ' : am_S} (hn : σ.1 27 0 = (n : Int)) (hF : Fr [27, 28, 29, 30, 36] σ σ') (h27 : σ'.1 27 0 = ((n + 1 : Nat) : Int)) (h28 : ∀ j, σ'.1 28 j = if j = n then w else σ.1 28 j) (h29 : ∀ j, σ'.1 29 j = if j = n then d else σ.1 29 j) (h30 : ∀ j, σ'.1 30 j = if n * 8 ≤ j ∧ j < n * 8 + 8 then σ.1 p (j - n * 8) else σ.1 30 j) : EqB (upM w d p σ) σ' := by
  have e : (σ.1 27 0).toNat = n := by rw [hn]; rfl
  refine EqB.upd hF (fun a ha j => ?_) (fun a ha j q => ?_)
  · simp only [List.mem_cons, List.not_mem_nil, or_false, not_or] at ha
    unfold upM
    simp only [ha.1, ha.2.1, ha.2.2.1, ha.2.2.2.1, false_and, if_false]
  · simp only [List.mem_cons, List.not_mem_nil, or_false] at ha
    have e1 : (a = 27 ∧ j = 0) ∨ a = 28 ∨ a = 29 ∨ a = 30 := by unfold bcP at q; omega
    unfold upM
    rw [e]
    rcases e1 with ⟨e1, e2⟩ | e1 | e1 | e1
    · subst e1
      subst e2
      rw [h27]
      show ((n + 1 : Nat) : Int) = σ.1 27 0 + 1
      omega
    · subst e1
      rw [h28]
      simp
    · subst e1
      rw [h29]
      simp
    · subst e1
      rw [h30]
      simp
theorem LW.fr {L : List Nat} {W : Nat → Nat → Int} {σ σ' : am_S} (h : Fr L σ σ') (hw : ∀ a ∈ L, a < 5 ∨ 9 < a) (R : LW W σ) : LW W σ' := by
  have q : ∀ a, 5 ≤ a → a ≤ 9 → ∀ j, σ'.1 a j = σ.1 a j := fun a h1 h2 j => h.2 a (fun e => by have := hw a e; omega) j
  obtain ⟨h1, h2, h3, h4, h5, h6⟩ := R
  exact ⟨by rw [q 5 (by omega) (by omega)]; exact h1, by rw [q 5 (by omega) (by omega)]; exact h2, fun i hi => by rw [q 6 (by omega) (by omega)]; exact h3 i hi, fun i hi => by rw [q 7 (by omega) (by omega)]; exact h4 i hi, fun i hi => by rw [q 8 (by omega) (by omega)]; exact h5 i hi, fun i hi => by rw [q 9 (by omega) (by omega)]; exact h6 i hi⟩
theorem CI.wld {L : List Nat} {k nm ns k' : Nat} {D : Nat → Nat → Int} {σ σ' : am_S} (h : CI k nm ns D σ) (hF : Fr L σ σ') (hw : ∀ a ∈ L, (5 ≤ a ∧ a ≤ 9) ∨ (18 ≤ a ∧ a ≤ 27) ∨ a = 47 ∨ a = 35 ∨ a = 36) (hD : LD k' σ') (hH : HT k' σ') (h27 : σ'.1 27 0 = 0) (h47 : σ'.1 47 2 = 0) (h0 : ∀ j, j < 462 → σ'.1 35 j = 0) (h4 : σ'.1 36 4 = 0) (h5 : σ'.1 36 5 = 0) : ∃ D', CI k' 0 0 D' σ' := by
  have m : ∀ a, ¬ ((5 ≤ a ∧ a ≤ 9) ∨ (18 ≤ a ∧ a ≤ 27) ∨ a = 47 ∨ a = 35 ∨ a = 36) → σ'.1 a = σ.1 a := fun a ha => funext (hF.2 a (fun z => ha (hw a z)))
  obtain ⟨D', hI⟩ := DI_ex (hF.wd h.w) hD hH
  obtain ⟨q1, q2, q3, q4⟩ := h.x.2.2.1
  exact ⟨D', hF.wd h.w, fun j hj => by rw [m 0 (by omega)]; exact h.wr j hj, ⟨hD, hH, ⟨h27, by omega, fun i hi => by rw [m 28 (by omega), m 29 (by omega)]; exact q3 i hi, fun i hi => by rw [m 30 (by omega)]; exact q4 i hi⟩, hI⟩, ⟨h47, by omega⟩, ⟨by omega, fun e he => absurd he (Nat.not_lt_zero e)⟩, KNs.zero h.kn hF hD.2.1 h0, fun r hr => by rw [m _ (by omega)]; exact h.row r hr, fun t ht => by rw [m (68 + 2 * t) (by omega), m (69 + 2 * t) (by omega)]; exact h.txt t ht, Or.inl h4, Or.inl h5⟩
theorem EqB_upW {L : List Nat} {W : Nat → Nat → Int} {σ σn σ' : am_S} (hE : EqB σ σn) (hF : Fr L σn σ') (hw : ∀ a ∈ L, (5 ≤ a ∧ a ≤ 9) ∨ (18 ≤ a ∧ a ≤ 27) ∨ a = 47 ∨ a = 35 ∨ a = 36) (hL : LW W σ') (h27 : σ'.1 27 0 = 0) (h47 : σ'.1 47 2 = 0) : EqB (upW W σ) σ' := by
  obtain ⟨h1, h2, h3, h4, h5, h6⟩ := hL
  intro a j q
  unfold upW
  show σ'.1 a j = if a = 5 ∧ j = 0 then W 6 0 else if a = 5 ∧ j = 4 then W 6 1 else if a = 6 ∧ j < 6 then W 7 j else if a = 7 ∧ j < 48 then W 8 j else if a = 8 ∧ j < 48 then W 9 j else if a = 9 ∧ j < 5 then W 10 j else if a = 27 ∧ j = 0 then 0 else if a = 47 ∧ j = 2 then 0 else σ.1 a j
  by_cases e1 : a = 5 ∧ j = 0
  · rw [if_pos e1, e1.1, e1.2]
    exact h1
  rw [if_neg e1]
  by_cases e2 : a = 5 ∧ j = 4
  · rw [if_pos e2, e2.1, e2.2]
    exact h2
  rw [if_neg e2]
  by_cases e3 : a = 6 ∧ j < 6
  · rw [if_pos e3, e3.1]
    exact h3 j e3.2
  rw [if_neg e3]
  by_cases e4 : a = 7 ∧ j < 48
  · rw [if_pos e4, e4.1]
    exact h4 j e4.2
  rw [if_neg e4]
  by_cases e5 : a = 8 ∧ j < 48
  · rw [if_pos e5, e5.1]
    exact h5 j e5.2
  rw [if_neg e5]
  by_cases e6 : a = 9 ∧ j < 5
  · rw [if_pos e6, e6.1]
    exact h6 j e6.2
  rw [if_neg e6]
  by_cases e7 : a = 27 ∧ j = 0
  · rw [if_pos e7, e7.1, e7.2]
    exact h27
  rw [if_neg e7]
  by_cases e8 : a = 47 ∧ j = 2
  · rw [if_pos e8, e8.1, e8.2]
    exact h47
  rw [if_neg e8]
  have hn : a ∉ L := fun z => by
    have := hw a z
    unfold bcP at q
    omega
  rw [hF.2 a hn j]
  exact hE a j q
def x_back (A : am_S) (n : Int) : am_V × am_S := if 0 ≤ n ∧ n ≤ A.1 27 0 then (vI (A.1 27 0 - n), am_set A 27 0 n) else (vI (-1), A)
theorem c59 (σ : am_S) (k nm ns : Nat) (D : Nat → Nat → Int) (hCI : CI k nm ns D σ) : CC 59 [vR 2] σ (fun r σ' => PKc k nm ns D σ (x_indoors σ ) r σ') := by
  show TT am_b59 (am_b59.getD 0 []) [(0, vR 2)] [] σ _
  have hW := hCI.w
  have hk5 := hCI.x.1.1
  have hl27 := hCI.x.2.2.1.1
  have hk6 := hCI.x.1.2.1
  have hm12 := hCI.x.2.2.1.2.1
  refine tt_ar rfl ?_
  refine tt_getR (wo_2 hW) rfl (wr_2_2 hW) ?_
  refine tt_getI (x := σ.1 5 (4)) (wo_5 hW) rfl rfl ?_
  refine tt_iret ?_
  exact pk_same hCI (show x_indoors σ  = (vI (σ.1 5 (4)), σ) by unfold x_indoors; (try simp only [Int.toNat_natCast]); (repeat (first | rw [if_pos (by omega)] | rw [if_neg (by omega)])); (first | done | rfl))

theorem c69 (σ : am_S) (k nm ns : Nat) (D : Nat → Nat → Int) (hCI : CI k nm ns D σ) (n : Int) : CC 69 [vR 2, vI (n)] σ (fun r σ' => ∃ nm', PKc k nm' ns D σ (x_back σ n) r σ') := by
  show TT am_b69 (am_b69.getD 0 []) [(0, vR 2), (1, vI (n))] [] σ _
  have hW := hCI.w
  have hk5 := hCI.x.1.1
  have hl27 := hCI.x.2.2.1.1
  have hk6 := hCI.x.1.2.1
  have hm12 := hCI.x.2.2.1.2.1
  refine tt_ar rfl ?_
  refine tt_ar rfl ?_
  refine tt_getR (wo_2 hW) rfl (wr_2_5 hW) ?_
  refine tt_getI (x := (nm : Int)) (wo_27 hW) rfl hl27 ?_
  refine tt_cs2 2 rfl (c23 _ _ _) (kb (fun h0_4 => ?_) (fun h0_4 => ?_))
  · refine tt_ifneT (by decide) ?_
    obtain ⟨nn, rfl⟩ : ∃ nn : Nat, n = (nn : Int) := ⟨n.toNat, by omega⟩
    refine tt_ar rfl ?_
    refine tt_getR (wo_2 hW) rfl (wr_2_5 hW) ?_
    refine tt_getI (x := (nm : Int)) (wo_27 hW) rfl hl27 ?_
    refine tt_ar rfl ?_
    refine tt_isub (by omega) (by omega) ?_
    refine tt_ar rfl ?_
    refine tt_ar rfl ?_
    refine tt_ifle (fun h1_7 => ?_) (fun h1_7 => ?_)
    · refine tt_ar rfl ?_
      refine tt_iret ?_
      exact ⟨_, pk_any hCI (show x_back σ nn = (vI (((nm : Int) - ((nn : Nat) : Int))), am_set σ 27 0 nn) by unfold x_back; (try simp only [Int.toNat_natCast, hl27]); (repeat (first | rw [if_pos (by omega)] | rw [if_neg (by omega)])); (first | done | rfl)) (EqB.same (by omega)) QC.rf⟩
    · refine tt_ar rfl ?_
      refine tt_getR (wo_2 hW) rfl (wr_2_5 hW) ?_
      refine tt_ar rfl ?_
      refine tt_putI (wo_27 hW) rfl ?_
      refine tt_ar rfl ?_
      refine tt_getR (wo_2 hW) rfl (wr_2_8 hW) ?_
      refine tt_cv1 1 rfl (wo_36 hW) (c54 (am_set σ 27 (0) (((nn : Nat) : Int))) hW) (ksn ?_)
      refine tt_nop ?_
      refine tt_ar rfl ?_
      refine tt_iret ?_
      have hFz : Fr [27, 36] σ (am_set (am_set (am_set σ 27 (0) (((nn : Nat) : Int))) 36 (4) (0)) 36 (5) (0)) := (Fr.put (Fr.put (Fr.put Fr.rf (by decide)) (by decide)) (by decide))
      have hLz : LN nn (am_set (am_set (am_set σ 27 (0) (((nn : Nat) : Int))) 36 (4) (0)) 36 (5) (0)) := ⟨rfl, by omega, hCI.x.2.2.1.2.2⟩
      exact ⟨_, pk_any (hCI.chL hFz (by decide) hLz (@am_set_rd (am_set σ 27 (0) (((nn : Nat) : Int))) 36 (4) (0)) (@am_set_rd (am_set (am_set σ 27 (0) (((nn : Nat) : Int))) 36 (4) (0)) 36 (5) (0))) (show x_back σ nn = (vI (((nm : Int) - ((nn : Nat) : Int))), am_set σ 27 0 nn) by unfold x_back; (try simp only [Int.toNat_natCast, hl27]); (repeat (first | rw [if_pos (by omega)] | rw [if_neg (by omega)])); (first | done | rfl)) (EqB.upd hFz (fun a ha j => am_set_nb (fun e => ha (by rw [e]; decide))) (fun a ha j q => by simp only [List.mem_cons, List.not_mem_nil, or_false] at ha; unfold bcP at q; have e : a = 27 := (by omega); subst e; rfl)) (QC.of hFz (by decide))⟩
  · refine tt_ifneF (by decide) ?_
    refine tt_ar rfl ?_
    refine tt_iret ?_
    exact ⟨_, pk_same hCI (show x_back σ n = (vI (-1), σ) by unfold x_back; (try simp only [Int.toNat_natCast, hl27]); (repeat (first | rw [if_pos (by omega)] | rw [if_neg (by omega)])); (first | done | rfl))⟩

theorem c61 (σ : am_S) (k nm ns : Nat) (D : Nat → Nat → Int) (hCI : CI k nm ns D σ) (w u d : Int) : CC 61 [vR 2, vI (w), vI (u), vI (d)] σ (fun r σ' => ∃ nm', PKc k nm' ns D σ (x_monday σ w u d) r σ') := by
  show TT am_b61 (am_b61.getD 0 []) [(0, vR 2), (1, vI (w)), (2, vI (u)), (3, vI (d))] [] σ _
  have hW := hCI.w
  have hk5 := hCI.x.1.1
  have hl27 := hCI.x.2.2.1.1
  have hk6 := hCI.x.1.2.1
  have hm12 := hCI.x.2.2.1.2.1
  refine tt_ar rfl ?_
  refine tt_cs1 1 rfl (c62 _ _) (kb (fun h0_1 => ?_) (fun h0_1 => ?_))
  · refine tt_ifeqF (by decide) ?_
    refine tt_ar rfl ?_
    refine tt_cs1 1 rfl (c22 _ _) (kb (fun h0_4 => ?_) (fun h0_4 => ?_))
    · refine tt_ifeqF (by decide) ?_
      refine tt_ar rfl ?_
      refine tt_ar rfl ?_
      refine tt_cs2 2 rfl (c23 _ _ _) (kb (fun h0_8 => ?_) (fun h0_8 => ?_))
      · refine tt_ifneT (by decide) ?_
        obtain ⟨un, rfl⟩ : ∃ un : Nat, u = (un : Int) := ⟨u.toNat, by omega⟩
        refine tt_ar rfl ?_
        refine tt_getR (wo_2 hW) rfl (wr_2_0 hW) ?_
        refine tt_ar rfl ?_
        refine tt_aald (un) (wa_3 hW) rfl (by omega) (wr_rows hW (un) (by omega)) ?_
        refine tt_cv1 1 rfl (wo_row hW (un) (by omega)) (c27 σ (56 + 2 * un) (wo_row hW (un) (by omega))) (kb (fun h2_4 => ?_) (fun h2_4 => ?_))
        · refine tt_ifeqF (by decide) ?_
          refine tt_ar rfl ?_
          refine tt_ar rfl ?_
          refine tt_cv2 2 rfl (wo_2 hW) (c24 σ 1 hW (by omega)) (ks ?_)
          refine tt_iret ?_
          exact ⟨_, pk_finds (f := 1) hCI (by decide) (show x_monday σ w (un : Int) d = (vI (-3), upF 1 σ) by unfold x_monday; (try simp only [Int.toNat_natCast, hl27]); (repeat (first | rw [if_pos (by omega)] | rw [if_neg (by omega)] | rw [if_pos h4_5] | rw [if_neg h4_5])); (first | done | rfl))⟩
        · refine tt_ifeqT (by decide) ?_
          refine tt_ar rfl ?_
          refine tt_getR (wo_2 hW) rfl (wr_2_0 hW) ?_
          refine tt_ar rfl ?_
          refine tt_aald (un) (wa_3 hW) rfl (by omega) (wr_rows hW (un) (by omega)) ?_
          refine tt_getI (x := σ.1 (56 + 2 * un) (1)) (wo_row hW (un) (by omega)) rfl rfl ?_
          refine tt_ar rfl ?_
          refine tt_iceq (fun h3_6 => ?_) (fun h3_6 => ?_)
          · refine tt_ar rfl ?_
            refine tt_getR (wo_2 hW) rfl (wr_2_0 hW) ?_
            refine tt_ar rfl ?_
            refine tt_aald (un) (wa_3 hW) rfl (by omega) (wr_rows hW (un) (by omega)) ?_
            refine tt_ar rfl ?_
            refine tt_cv2 2 rfl (wo_row hW (un) (by omega)) (c63 σ (56 + 2 * un) (57 + 2 * un) 40 8 _ (wo_row hW un (by omega)) (wr_row hW un (by omega)) (wa_row hW un (by omega)) (by omega) (by omega) (by omega) (by omega)) (kb (fun h4_5 => ?_) (fun h4_5 => ?_))
            · refine tt_ifneT (by decide) ?_
              refine tt_ar rfl ?_
              refine tt_getR (wo_2 hW) rfl (wr_2_5 hW) ?_
              refine tt_getI (x := (nm : Int)) (wo_27 hW) rfl hl27 ?_
              refine tt_ar rfl ?_
              refine tt_iclt (fun h5_4 => ?_) (fun h5_4 => ?_)
              · refine tt_ar rfl ?_
                refine tt_getR (wo_2 hW) rfl (wr_2_8 hW) ?_
                refine tt_cv1 1 rfl (wo_36 hW) (c54 σ hW) (ksn ?_)
                refine tt_ar rfl ?_
                refine tt_getR (wo_2 hW) rfl (wr_2_5 hW) ?_
                refine tt_ar rfl ?_
                refine tt_ar rfl ?_
                refine tt_getR (wo_2 hW) rfl (wr_2_0 hW) ?_
                refine tt_ar rfl ?_
                refine tt_aald (un) (wa_3 hW) rfl (by omega) (wr_rows hW (un) (by omega)) ?_
                refine tt_getR (wo_row hW (un) (by omega)) rfl (wr_row hW (un) (by omega)) ?_
                refine tt_ar rfl ?_
                refine tt_cv4 4 rfl (wo_27 hW) (c64 (am_set (am_set σ 36 (4) (0)) 36 (5) (0)) nm (57 + 2 * un) _ _ hW hl27 (by omega) (wa_row hW un (by omega)) (by omega)) ?_
                intro r0 σ6 hq0
                obtain ⟨rfl, hF6, hn27, h28, h29, h30⟩ := hq0
                have hW1 := Fr.wd hF6 hW
                refine tt_iret ?_
                have hFz : Fr [27, 28, 29, 30, 36] σ σ6 := (Fr.tr (Fr.put (Fr.put Fr.rf (by decide)) (by decide)) hF6 (by decide))
                obtain ⟨q1, q2, q3, q4⟩ := hCI.x.2.2.1
                have h30 : ∀ j, σ6.1 30 j = if nm * 8 ≤ j ∧ j < nm * 8 + 8 then σ.1 (57 + 2 * un) (j - nm * 8) else σ.1 30 j := fun j => by rw [h30 j, am_set_nb (show 57 + 2 * un ≠ 36 by omega), am_set_nb (show 57 + 2 * un ≠ 36 by omega)]; rfl
                have hLz : LN (nm + 1) σ6 := ⟨hn27, by omega, fun i hi => by rw [h28, h29]; show 0 ≤ (if i = nm then w else σ.1 28 i) ∧ (if i = nm then w else σ.1 28 i) ≤ 1 ∧ 0 ≤ (if i = nm then d else σ.1 29 i) ∧ (if i = nm then d else σ.1 29 i) ≤ 9; split; omega; exact q3 i hi, fun i hi => by rw [h30]; split; (exact h4_5 _ (by omega)); exact q4 i hi⟩
                have h36 : ∀ j, σ6.1 36 j = (am_set (am_set σ 36 4 0) 36 5 0).1 36 j := fun j => hF6.2 36 (by decide) j
                exact ⟨_, pk_any (hCI.chL hFz (by decide) hLz ((h36 4).trans rfl) ((h36 5).trans rfl)) (show x_monday σ w un d = (vI (nm : Int), upM w d (57 + 2 * un) σ) by unfold x_monday; (try simp only [Int.toNat_natCast, hl27]); rw [if_pos (by omega), if_neg (by omega), if_pos (by omega), if_pos h4_5, if_pos (by omega)]; (first | done | rfl)) (EqB_upM hl27 hFz hn27 h28 h29 h30) (QC.of hFz (by decide))⟩
              · refine tt_ar rfl ?_
                refine tt_iret ?_
                exact ⟨_, pk_same hCI (show x_monday σ w (un : Int) d = (vI (-2), σ) by unfold x_monday; (try simp only [Int.toNat_natCast, hl27]); (repeat (first | rw [if_pos (by omega)] | rw [if_neg (by omega)] | rw [if_pos h4_5] | rw [if_neg h4_5])); (first | done | rfl))⟩
            · refine tt_ifneF (by decide) ?_
              refine tt_ar rfl ?_
              refine tt_ar rfl ?_
              refine tt_cv2 2 rfl (wo_2 hW) (c24 σ 3 hW (by omega)) (ks ?_)
              refine tt_iret ?_
              exact ⟨_, pk_finds (f := 3) hCI (by decide) (show x_monday σ w (un : Int) d = (vI (-3), upF 3 σ) by unfold x_monday; (try simp only [Int.toNat_natCast, hl27]); (repeat (first | rw [if_pos (by omega)] | rw [if_neg (by omega)] | rw [if_pos h4_5] | rw [if_neg h4_5])); (first | done | rfl))⟩
          · refine tt_ar rfl ?_
            refine tt_ar rfl ?_
            refine tt_cv2 2 rfl (wo_2 hW) (c24 σ 5 hW (by omega)) (ks ?_)
            refine tt_iret ?_
            exact ⟨_, pk_finds (f := 5) hCI (by decide) (show x_monday σ w (un : Int) d = (vI (-3), upF 5 σ) by unfold x_monday; (try simp only [Int.toNat_natCast, hl27]); (repeat (first | rw [if_pos (by omega)] | rw [if_neg (by omega)] | rw [if_pos h4_5] | rw [if_neg h4_5])); (first | done | rfl))⟩
      · refine tt_ifneF (by decide) ?_
        refine tt_nop ?_
        refine tt_ar rfl ?_
        refine tt_iret ?_
        exact ⟨_, pk_same hCI (show x_monday σ w u d = (vI (-1), σ) by unfold x_monday; (try simp only [Int.toNat_natCast, hl27]); (repeat (first | rw [if_pos (by omega)] | rw [if_neg (by omega)] | rw [if_pos h4_5] | rw [if_neg h4_5])); (first | done | rfl))⟩
    · refine tt_ifeqT (by decide) ?_
      refine tt_ar rfl ?_
      refine tt_iret ?_
      exact ⟨_, pk_same hCI (show x_monday σ w u d = (vI (-1), σ) by unfold x_monday; (try simp only [Int.toNat_natCast, hl27]); (repeat (first | rw [if_pos (by omega)] | rw [if_neg (by omega)] | rw [if_pos h4_5] | rw [if_neg h4_5])); (first | done | rfl))⟩
  · refine tt_ifeqT (by decide) ?_
    refine tt_ar rfl ?_
    refine tt_iret ?_
    exact ⟨_, pk_same hCI (show x_monday σ w u d = (vI (-1), σ) by unfold x_monday; (try simp only [Int.toNat_natCast, hl27]); (repeat (first | rw [if_pos (by omega)] | rw [if_neg (by omega)] | rw [if_pos h4_5] | rw [if_neg h4_5])); (first | done | rfl))⟩

theorem c51 (σ : am_S) (k nm ns : Nat) (D : Nat → Nat → Int) (hCI : CI k nm ns D σ) (u : Int) : CC 51 [vR 2, vI (u)] σ (fun r σ' => PKw σ (x_world σ u) r σ') := by
  show TT am_b51 (am_b51.getD 0 []) [(0, vR 2), (1, vI (u))] [] σ _
  have hW := hCI.w
  refine tt_ar rfl ?_
  refine tt_cs1 1 rfl (c38 _ _) (kb (fun h0_1 => ?_) (fun h0_1 => ?_))
  · refine tt_ifneT (by decide) ?_
    obtain ⟨rn, rfl⟩ : ∃ rn : Nat, u = (rn : Int) := ⟨u.toNat, by omega⟩
    refine tt_ar rfl ?_
    refine tt_getR (wo_2 hW) rfl (wr_2_1 hW) ?_
    refine tt_ar rfl ?_
    refine tt_aald (rn) (wa_4 hW) rfl (by omega) (wr_txts hW (rn) (by omega)) ?_
    refine tt_cv1 1 rfl (wo_txt hW (rn) (by omega)) (c27 σ (68 + 2 * rn) (wo_txt hW (rn) (by omega))) (kb (fun h1_4 => ?_) (fun h1_4 => ?_))
    · refine tt_ifeqF (by decide) ?_
      refine tt_ar rfl ?_
      refine tt_ar rfl ?_
      refine tt_cv2 2 rfl (wo_2 hW) (c24 σ 1 hW (by omega)) (ks ?_)
      refine tt_iret ?_
      exact PKc.w (pk_finds (f := 1) hCI (by decide) (show x_world σ (rn : Int) = (vI (-3), upF 1 σ) by unfold x_world; (try simp only [Int.toNat_natCast]); (repeat (first | rw [if_pos (by omega)] | rw [if_neg (by omega)])); (first | done | rfl)))
    · refine tt_ifeqT (by decide) ?_
      have htx := (hCI.txt rn (by omega)).1
      obtain ⟨zn, hzn⟩ : ∃ zn : Nat, σ.1 (68 + 2 * rn) 1 = (zn : Int) := ⟨_, (Int.toNat_of_nonneg (by omega)).symm⟩
      refine tt_ar rfl ?_
      refine tt_getR (wo_2 hW) rfl (wr_2_3 hW) ?_
      refine tt_ar rfl ?_
      refine tt_getR (wo_2 hW) rfl (wr_2_1 hW) ?_
      refine tt_ar rfl ?_
      refine tt_aald (rn) (wa_4 hW) rfl (by omega) (wr_txts hW (rn) (by omega)) ?_
      refine tt_cv2 2 rfl (wo_10 hW) (c41 (σ.1 (69 + 2 * rn)) (68 + 2 * rn) (69 + 2 * rn) zn σ hW (wo_txt hW rn (by omega)) (wr_txt hW rn (by omega)) (wa_txt hW rn (by omega)) (by omega) (by omega) (by omega) hzn (fun j hj => ⟨rfl, (hCI.txt rn (by omega)).2 j (by omega)⟩)) ?_
      intro r0 σn hq0
      have hzt : (σ.1 (68 + 2 * rn) 1).toNat = zn := by rw [hzn]; rfl
      rcases hq0 with ⟨q, W1, hr, rfl, hF, hok, hpr⟩ | ⟨q, hr, rfl, hF⟩
      · obtain ⟨hci, heq, hqc⟩ := rd_ci hCI hF
        refine tt_ar rfl ?_
        refine tt_iceq (fun _ => ?_) (fun h => absurd h (by omega))
        refine tt_ar rfl ?_
        refine tt_getR (wo_2 hci.w) rfl (wr_2_2 hci.w) ?_
        refine tt_ar rfl ?_
        refine tt_getR (wo_2 hci.w) rfl (wr_2_3 hci.w) ?_
        refine tt_getR (wo_10 hci.w) rfl (wr_10_2 hci.w) ?_
        refine tt_cv2 2 rfl (wo_5 hci.w) (c52 (p_grow W1) σn hci.w hpr) ?_
        intro r0 σ3 hq0
        obtain ⟨rfl, hF3, hLW⟩ := hq0
        have hW1 := Fr.wd hF3 hci.w
        obtain ⟨k2, hk2, hD3⟩ := hLW.ld hok
        have hwr3 : WR σ3 := fun j hj => by rw [hF3.2 0 (by decide)]; exact hci.wr j hj
        refine tt_ar rfl ?_
        refine tt_getR (wo_2 hW1) rfl (wr_2_4 hW1) ?_
        refine tt_cv1 1 rfl (wo_18 hW1) (c8 σ3 k2 hW1 hD3 hwr3) ?_
        intro r0 σ4 hq0
        obtain ⟨rfl, hF4, hH4⟩ := hq0
        have hW2 := Fr.wd hF4 hW1
        refine tt_ar rfl ?_
        refine tt_getR (wo_2 hW2) rfl (wr_2_5 hW2) ?_
        refine tt_ar rfl ?_
        refine tt_putI (wo_27 hW2) rfl ?_
        refine tt_ar rfl ?_
        refine tt_getR (wo_2 hW2) rfl (wr_2_9 hW2) ?_
        refine tt_ar rfl ?_
        refine tt_putI (wo_47 hW2) rfl ?_
        refine tt_ar rfl ?_
        refine tt_getR (wo_2 hW2) rfl (wr_2_7 hW2) ?_
        refine tt_cv1 1 rfl (wo_32 hW2) (c53 (am_set (am_set σ4 27 (0) (0)) 47 (2) (0)) hW2) ?_
        intro r0 σ5 hq0
        obtain ⟨rfl, hF5, h35⟩ := hq0
        have hW3 := Fr.wd hF5 hW2
        refine tt_ar rfl ?_
        refine tt_getR (wo_2 hW3) rfl (wr_2_8 hW3) ?_
        refine tt_cv1 1 rfl (wo_36 hW3) (c54 σ5 hW3) (ksn ?_)
        refine tt_ar rfl ?_
        refine tt_getR (wo_2 hW3) rfl (wr_2_2 hW3) ?_
        refine tt_getI (x := (k2 : Int)) (wo_5 hW3) rfl (((hF5.2 5 (by decide) (0)).trans (hF4.2 5 (by decide) (0))).trans hD3.1) ?_
        refine tt_iret ?_
        have hF3z : Fr [18, 19, 20, 21, 22, 23, 24, 25, 26, 27, 35, 36, 47] σ3 (am_set (am_set σ5 36 (4) (0)) 36 (5) (0)) := (Fr.put (Fr.put (Fr.tr (Fr.put (Fr.put (Fr.tr Fr.rf hF4 (by decide)) (by decide)) (by decide)) hF5 (by decide)) (by decide)) (by decide))
        have hF4z : Fr [27, 35, 36, 47] σ4 (am_set (am_set σ5 36 (4) (0)) 36 (5) (0)) := (Fr.put (Fr.put (Fr.tr (Fr.put (Fr.put Fr.rf (by decide)) (by decide)) hF5 (by decide)) (by decide)) (by decide))
        have hFz : Fr [5, 6, 7, 8, 9, 18, 19, 20, 21, 22, 23, 24, 25, 26, 27, 35, 36, 47] σn (am_set (am_set σ5 36 (4) (0)) 36 (5) (0)) := (Fr.put (Fr.put (Fr.tr (Fr.put (Fr.put (Fr.tr (Fr.tr Fr.rf hF3 (by decide)) hF4 (by decide)) (by decide)) (by decide)) hF5 (by decide)) (by decide)) (by decide))
        have h27z : (am_set (am_set σ5 36 (4) (0)) 36 (5) (0)).1 27 0 = 0 := ((hF5.2 27 (by decide) (0)).trans (@am_set_rd σ4 27 (0) (0)))
        have h47z : (am_set (am_set σ5 36 (4) (0)) 36 (5) (0)).1 47 2 = 0 := ((hF5.2 47 (by decide) (2)).trans (@am_set_rd (am_set σ4 27 (0) (0)) 47 (2) (0)))
        have hLWz := LW.fr hF3z (by decide) hLW
        obtain ⟨D2, hz⟩ := hci.wld hFz (by decide) (LD.fr hF3z (by decide) hD3) (HT.fr hF4z (by decide) hH4) h27z h47z (fun j hj => h35 j hj) (@am_set_rd σ5 36 (4) (0)) (@am_set_rd (am_set σ5 36 (4) (0)) 36 (5) (0))
        refine pkw_any hz (show x_world σ rn = (vI ((k2 : Int)), upW (p_grow W1) σ) by unfold x_world rdT; (try simp only [Int.toNat_natCast]); rw [if_pos (by omega), if_neg (by omega), hzt, hr]; show (vI (W1 6 0), upW (p_grow W1) σ) = _; rw [hk2]) (EqB_upW heq hFz (by decide) hLWz h27z h47z) (hqc.w.tr (QW.of hFz (by decide)))
      · obtain ⟨hci, heq, hqc⟩ := rd_ci hCI hF
        refine tt_ar rfl ?_
        refine tt_iceq (fun h => absurd h (by omega)) (fun _ => ?_)
        refine tt_ar rfl ?_
        refine tt_iret ?_
        exact PKc.w (pk_any hci (show x_world σ rn = (vI (-4), σ) by unfold x_world rdT; (try simp only [Int.toNat_natCast]); rw [if_pos (by omega), if_neg (by omega), hzt, hr]; rfl) heq hqc)
  · refine tt_ifneF (by decide) ?_
    refine tt_ar rfl ?_
    refine tt_iret ?_
    exact PKc.w (pk_same hCI (show x_world σ u = (vI (-1), σ) by unfold x_world; (try simp only [Int.toNat_natCast]); (repeat (first | rw [if_pos (by omega)] | rw [if_neg (by omega)])); (first | done | rfl)))

