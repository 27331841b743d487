/-! THE CLASS AS A WHOLE -/
def CI (k nm ns : Nat) (D : Nat → Nat → Int) (σ : am_S) : Prop := (Wd σ) ∧ (WR σ) ∧ (WX k nm D σ) ∧ (ST ns σ) ∧ (SH k ns (σ.1 48) (σ.1 49) (σ.1 50) (σ.1 51)) ∧ (KNs k D σ) ∧ (∀ r, r < 6 → -1 ≤ σ.1 (56 + 2 * r) 1 ∧ σ.1 (56 + 2 * r) 1 ≤ 40) ∧ (∀ t, t < 4 → (-1 ≤ σ.1 (68 + 2 * t) 1 ∧ σ.1 (68 + 2 * t) 1 ≤ 120) ∧ ∀ j, j < 120 → -128 ≤ σ.1 (69 + 2 * t) j ∧ σ.1 (69 + 2 * t) j ≤ 127) ∧ (σ.1 36 4 = 0 ∨ σ.1 36 4 = 1 ∧ WG k nm D (fun m h => cPr σ k m h) σ) ∧ (σ.1 36 5 = 0 ∨ σ.1 36 5 = 1 ∧ CK k nm D (fun m h => cPr σ k m h) σ)
theorem CI.w {k nm ns : Nat} {D : Nat → Nat → Int} {σ : am_S} (h : CI k nm ns D σ) : Wd σ := h.1
theorem CI.wr {k nm ns : Nat} {D : Nat → Nat → Int} {σ : am_S} (h : CI k nm ns D σ) : WR σ := h.2.1
theorem CI.x {k nm ns : Nat} {D : Nat → Nat → Int} {σ : am_S} (h : CI k nm ns D σ) : WX k nm D σ := h.2.2.1
theorem CI.st {k nm ns : Nat} {D : Nat → Nat → Int} {σ : am_S} (h : CI k nm ns D σ) : ST ns σ := h.2.2.2.1
theorem CI.sh {k nm ns : Nat} {D : Nat → Nat → Int} {σ : am_S} (h : CI k nm ns D σ) : SH k ns (σ.1 48) (σ.1 49) (σ.1 50) (σ.1 51) := h.2.2.2.2.1
theorem CI.kn {k nm ns : Nat} {D : Nat → Nat → Int} {σ : am_S} (h : CI k nm ns D σ) : KNs k D σ := h.2.2.2.2.2.1
theorem CI.row {k nm ns : Nat} {D : Nat → Nat → Int} {σ : am_S} (h : CI k nm ns D σ) : ∀ r, r < 6 → -1 ≤ σ.1 (56 + 2 * r) 1 ∧ σ.1 (56 + 2 * r) 1 ≤ 40 := h.2.2.2.2.2.2.1
theorem CI.txt {k nm ns : Nat} {D : Nat → Nat → Int} {σ : am_S} (h : CI k nm ns D σ) : ∀ t, t < 4 → (-1 ≤ σ.1 (68 + 2 * t) 1 ∧ σ.1 (68 + 2 * t) 1 ≤ 120) ∧ ∀ j, j < 120 → -128 ≤ σ.1 (69 + 2 * t) j ∧ σ.1 (69 + 2 * t) j ≤ 127 := h.2.2.2.2.2.2.2.1
theorem CI.m4 {k nm ns : Nat} {D : Nat → Nat → Int} {σ : am_S} (h : CI k nm ns D σ) : σ.1 36 4 = 0 ∨ σ.1 36 4 = 1 ∧ WG k nm D (fun m h => cPr σ k m h) σ := h.2.2.2.2.2.2.2.2.1
theorem CI.m5 {k nm ns : Nat} {D : Nat → Nat → Int} {σ : am_S} (h : CI k nm ns D σ) : σ.1 36 5 = 0 ∨ σ.1 36 5 = 1 ∧ CK k nm D (fun m h => cPr σ k m h) σ := h.2.2.2.2.2.2.2.2.2
/-- what other objects need of a call of the class -/
def QC (σ σ' : am_S) : Prop := (Wd σ → Wd σ') ∧ LK σ.2.2.1 σ'.2.2.1 ∧ ∀ a, (a < 2 ∨ (5 ≤ a ∧ a ≤ 9) ∨ (18 ≤ a ∧ a ≤ 26) ∨ (76 ≤ a ∧ ∃ n, σ.2.2.1[a]? = some (.inl .int, n))) → ∀ j, σ'.1 a j = σ.1 a j
theorem QC.rf {σ : am_S} : QC σ σ := ⟨fun h => h, LK.rf, fun _ _ _ => rfl⟩
theorem QC.of {W : List Nat} {σ σ' : am_S} (h : Fr W σ σ') (hw : ∀ a ∈ W, 2 ≤ a ∧ a < 76 ∧ ¬ ((5 ≤ a ∧ a ≤ 9) ∨ (18 ≤ a ∧ a ≤ 26))) : QC σ σ' := ⟨h.wd, LK.eq (by rw [h.1]), fun a ha => h.2 a (fun e => by have := hw a e; omega)⟩
theorem QC.ofZ {W : List Nat} {σ σ' : am_S} (h : FZ W σ σ') (hw : ∀ a ∈ W, 2 ≤ a ∧ a < 76 ∧ ¬ ((5 ≤ a ∧ a ≤ 9) ∨ (18 ≤ a ∧ a ≤ 26))) : QC σ σ' := ⟨h.1.1, h.1.2.2, fun a ha => h.2 a ⟨fun e => by have := hw a e; omega, by rcases ha with ha | ha | ha | ⟨-, ha⟩; exact Or.inl (by omega); exact Or.inl (by omega); exact Or.inl (by omega); exact Or.inr ha⟩⟩
theorem QC.tr {σ σ' σ'' : am_S} (h : QC σ σ') (h2 : QC σ' σ'') : QC σ σ'' := ⟨fun q => h2.1 (h.1 q), h.2.1.tr h2.2.1, fun a ha j => (h2.2.2 a (ha.imp id (Or.imp id (Or.imp id (fun q => ⟨q.1, q.2.choose, h.2.1.1 _ _ q.2.choose_spec⟩)))) j).trans (h.2.2 a ha j)⟩
/-- the same of a call that makes the world anew -/
def QW (σ σ' : am_S) : Prop := (Wd σ → Wd σ') ∧ LK σ.2.2.1 σ'.2.2.1 ∧ ∀ a, (a < 2 ∨ (76 ≤ a ∧ ∃ n, σ.2.2.1[a]? = some (.inl .int, n))) → ∀ j, σ'.1 a j = σ.1 a j
theorem QC.w {σ σ' : am_S} (h : QC σ σ') : QW σ σ' := ⟨h.1, h.2.1, fun a ha => h.2.2 a (ha.imp id (fun q => Or.inr (Or.inr q)))⟩
theorem QW.of {W : List Nat} {σ σ' : am_S} (h : Fr W σ σ') (hw : ∀ a ∈ W, 2 ≤ a ∧ a < 76) : QW σ σ' := ⟨h.wd, LK.eq (by rw [h.1]), fun a ha => h.2 a (fun e => by have := hw a e; omega)⟩
theorem QW.tr {σ σ' σ'' : am_S} (h : QW σ σ') (h2 : QW σ' σ'') : QW σ σ'' := ⟨fun q => h2.1 (h.1 q), h.2.1.tr h2.2.1, fun a ha j => (h2.2.2 a (ha.imp id (fun q => ⟨q.1, q.2.choose, h.2.1.1 _ _ q.2.choose_spec⟩)) j).trans (h.2.2 a ha j)⟩
/-- the cells that bear what the class is told -/
def bcP (a j : Nat) : Prop := a = 2 ∨ (a = 5 ∧ (j = 0 ∨ j = 4)) ∨ (a = 6 ∧ j < 6) ∨ ((a = 7 ∨ a = 8) ∧ j < 48) ∨ (a = 9 ∧ j < 5) ∨ (a = 27 ∧ j = 0) ∨ (28 ≤ a ∧ a ≤ 30) ∨ (a = 47 ∧ j = 2) ∨ (48 ≤ a ∧ a ≤ 51) ∨ a = 55 ∨ (56 ≤ a ∧ a ≤ 75 ∧ (a % 2 = 1 ∨ j = 1))
def EqB (A B : am_S) : Prop := ∀ a j, bcP a j → B.1 a j = A.1 a j
theorem EqB.rf {A : am_S} : EqB A A := fun _ _ _ => rfl
theorem EqB.tr {A B C : am_S} (h : EqB A B) (h2 : EqB B C) : EqB A C := fun a j q => (h2 a j q).trans (h a j q)
theorem EqB.of {W : List Nat} {σ σ' : am_S} (h : Fr W σ σ') (hw : ∀ a ∈ W, (10 ≤ a ∧ a ≤ 26) ∨ (31 ≤ a ∧ a ≤ 46) ∨ (52 ≤ a ∧ a ≤ 54)) : EqB σ σ' := fun a j q => h.2 a (fun e => by have := hw a e; unfold bcP at q; omega) j
theorem EqB.ofZ {W : List Nat} {σ σ' : am_S} (h : FZ W σ σ') (hw : ∀ a ∈ W, (10 ≤ a ∧ a ≤ 26) ∨ (31 ≤ a ∧ a ≤ 46) ∨ (52 ≤ a ∧ a ≤ 54)) : EqB σ σ' := fun a j q => h.2 a ⟨fun e => by have := hw a e; unfold bcP at q; omega, Or.inl (by unfold bcP at q; omega)⟩ j
theorem EqB.set {A B : am_S} {a k : Nat} {v : Int} (h : EqB A B) : EqB (am_set A a k v) (am_set B a k v) := fun b j q => by
  show (if b = a ∧ j = k then v else B.1 b j) = if b = a ∧ j = k then v else A.1 b j
  split
  · rfl
  · exact h b j q
/-- cells that keep the invariant -/
def ciC (a : Nat) : Prop := a = 0 ∨ (5 ≤ a ∧ a ≤ 9) ∨ (18 ≤ a ∧ a ≤ 37) ∨ (39 ≤ a ∧ a ≤ 45) ∨ (47 ≤ a ∧ a ≤ 51) ∨ 76 ≤ a
def ciD (a : Nat) : Prop := a = 0 ∨ (5 ≤ a ∧ a ≤ 9) ∨ (18 ≤ a ∧ a ≤ 37) ∨ (39 ≤ a ∧ a ≤ 45) ∨ 76 ≤ a
theorem CI.kp {k nm ns ns' : Nat} {D : Nat → Nat → Int} {σ σ' : am_S} (h : CI k nm ns D σ) (hW : Wd σ') (h32 : σ'.2.1 32 3 = σ.2.1 32 3) (h2 : σ'.2.2 = σ.2.2) (q : ∀ a, ciD a → ∀ j, σ'.1 a j = σ.1 a j) (hst : ST ns' σ') (hsh : SH k ns' (σ'.1 48) (σ'.1 49) (σ'.1 50) (σ'.1 51))
    (hr : ∀ r, r < 6 → -1 ≤ σ'.1 (56 + 2 * r) 1 ∧ σ'.1 (56 + 2 * r) 1 ≤ 40) (ht : ∀ t, t < 4 → (-1 ≤ σ'.1 (68 + 2 * t) 1 ∧ σ'.1 (68 + 2 * t) 1 ≤ 120) ∧ ∀ j, j < 120 → -128 ≤ σ'.1 (69 + 2 * t) j ∧ σ'.1 (69 + 2 * t) j ≤ 127) : CI k nm ns' D σ' := by
  have e : ∀ a, ciD a → σ'.1 a = σ.1 a := fun a ha => funext (q a ha)
  have c : ∀ a, (a = 0 ∨ (5 ≤ a ∧ a ≤ 9) ∨ (18 ≤ a ∧ a ≤ 37) ∨ (39 ≤ a ∧ a ≤ 45) ∨ 76 ≤ a) → ciD a := fun a ha => ha
  have ecp : (fun m h => cPr σ' k m h) = (fun m h => cPr σ k m h) := by
    funext m x
    unfold cPr
    rw [cEx_eq (σ := σ) (σ' := σ') (e 5 (c _ (by omega))) (e 7 (c _ (by omega))) (e 8 (c _ (by omega))) (e 21 (c _ (by omega))) (e 25 (c _ (by omega))) (e 26 (c _ (by omega))) (e 28 (c _ (by omega))) (e 29 (c _ (by omega))) (e 30 (c _ (by omega))), e 9 (c _ (by omega))]
  have hx : WX k nm D σ' := by
    obtain ⟨h1, h2, h3, h4⟩ := h.x
    obtain ⟨g1, g2, g3, g4⟩ := h3
    refine ⟨LD.eq h1 (fun a _ _ => q a (c _ (by omega))), HT.eq h2 (fun a _ => q a (c _ (by omega))), ⟨by rw [e 27 (c _ (by omega))]; exact g1, g2, fun i hi => by rw [e 28 (c _ (by omega)), e 29 (c _ (by omega))]; exact g3 i hi, fun i hi => by rw [e 30 (c _ (by omega))]; exact g4 i hi⟩, ?_⟩
    rw [e 6 (c _ (by omega)), e 9 (c _ (by omega))]
    exact h4
  have hkn : KNs k D σ' := by
    obtain ⟨kn, i, ⟨h1, h3, h4, h5, h6, h7⟩, h8, h9⟩ := h.kn
    exact ⟨kn, i, ⟨by rw [h32]; exact h1, by rw [h2]; exact h3, h4, h5, by rw [h2]; exact h6, by rw [h2]; exact h7⟩, fun x hx => by rw [e 35 (c _ (by omega))]; exact h8 x hx, fun x hx z => by
      rw [e 35 (c _ (by omega))] at z
      refine ⟨(h9 x hx z).1, fun g hg => ?_⟩
      rw [e kn (c _ (by omega))]
      exact (h9 x hx z).2 g hg⟩
  have hwk : ∀ ex, WK k nm D ex σ → WK k nm D ex σ' := fun ex ⟨h1, h2, h3⟩ => ⟨by rw [e 36 (c _ (by omega))]; exact h1, fun m hm x hx => by rw [e 39 (c _ (by omega)), e 40 (c _ (by omega))]; exact h2 m hm x hx, fun ht m hm x hx => by rw [e 41 (c _ (by omega))]; exact h3 ht m hm x hx⟩
  refine ⟨hW, fun j hj => by rw [e 0 (c _ (by omega))]; exact h.wr j hj, hx, hst, hsh, hkn, hr, ht, ?_, ?_⟩
  · rw [e 36 (c _ (by omega)), ecp]
    rcases h.m4 with z | ⟨z1, z2, z3⟩
    · exact Or.inl z
    · refine Or.inr ⟨z1, hwk _ z2, fun t => ?_⟩
      obtain ⟨t1, t2⟩ := z3 t
      exact ⟨fun m hm => ⟨fun x hx hp => by show σ'.1 42 _ = _; rw [e 42 (c _ (by omega))]; exact (t1 m hm).1 x hx hp, by rw [e 43 (c _ (by omega))]; exact (t1 m hm).2⟩, fun y hy => by rw [e 37 (c _ (by omega))]; exact t2 y hy⟩
  · rw [e 36 (c _ (by omega)), ecp]
    rcases h.m5 with z | ⟨z1, z2, z3⟩
    · exact Or.inl z
    · exact Or.inr ⟨z1, by rw [e 36 (c _ (by omega))]; exact z2, fun t1 t2 m hm x hx hp => by rw [e 44 (c _ (by omega)), e 45 (c _ (by omega))]; exact z3 t1 t2 m hm x hx hp⟩
theorem CI.keep {k nm ns : Nat} {D : Nat → Nat → Int} {σ σ' : am_S} (h : CI k nm ns D σ) (hW : Wd σ') (h32 : σ'.2.1 32 3 = σ.2.1 32 3) (h2 : σ'.2.2 = σ.2.2) (q : ∀ a, ciC a → ∀ j, σ'.1 a j = σ.1 a j)
    (hr : ∀ r, r < 6 → -1 ≤ σ'.1 (56 + 2 * r) 1 ∧ σ'.1 (56 + 2 * r) 1 ≤ 40) (ht : ∀ t, t < 4 → (-1 ≤ σ'.1 (68 + 2 * t) 1 ∧ σ'.1 (68 + 2 * t) 1 ≤ 120) ∧ ∀ j, j < 120 → -128 ≤ σ'.1 (69 + 2 * t) j ∧ σ'.1 (69 + 2 * t) j ≤ 127) : CI k nm ns D σ' := by
  have e : ∀ a, 47 ≤ a → a ≤ 51 → σ'.1 a = σ.1 a := fun a h1 h2 => funext (q a (by unfold ciC; omega))
  exact h.kp hW h32 h2 (fun a ha => q a (by unfold ciC; unfold ciD at ha; omega)) ⟨by rw [e 47 (by omega) (by omega)]; exact h.st.1, h.st.2⟩ (by rw [e 48 (by omega) (by omega), e 49 (by omega) (by omega), e 50 (by omega) (by omega), e 51 (by omega) (by omega)]; exact h.sh) hr ht
theorem CI.fr {W : List Nat} {k nm ns : Nat} {D : Nat → Nat → Int} {σ σ' : am_S} (h : CI k nm ns D σ) (hF : Fr W σ σ') (hw : ∀ a ∈ W, (2 ≤ a ∧ a ≤ 4) ∨ (10 ≤ a ∧ a ≤ 17) ∨ a = 38 ∨ a = 46 ∨ (52 ≤ a ∧ a ≤ 55)) : CI k nm ns D σ' :=
  h.keep (hF.wd h.w) (by rw [hF.1]) (by rw [hF.1]) (fun a ha => hF.2 a (fun z => by have := hw a z; unfold ciC at ha; omega))
    (fun r hr => by rw [hF.2 (56 + 2 * r) (fun z => by have := hw _ z; omega)]; exact h.row r hr) (fun t ht => by rw [hF.2 (68 + 2 * t) (fun z => by have := hw _ z; omega)]; exact ⟨(h.txt t ht).1, fun j hj => by rw [hF.2 (69 + 2 * t) (fun z => by have := hw _ z; omega)]; exact (h.txt t ht).2 j hj⟩)
/-- what is found; what is asked -/
def upF (f : Nat) (A : am_S) : am_S := am_set (am_set A 2 11 (f : Int)) 55 f (w32 (A.1 55 f + 1))
def upA (x : Int) (A : am_S) : am_S := am_set A 2 12 x
theorem CI.upF {k nm ns f : Nat} {D : Nat → Nat → Int} {σ : am_S} (h : CI k nm ns D σ) : CI k nm ns D (upF f σ) := h.fr (Fr.put (Fr.put Fr.rf (by decide)) (by decide) : Fr [2, 55] σ _) (by decide)
theorem QC.upF {f : Nat} {σ : am_S} : QC σ (upF f σ) := QC.of (Fr.put (Fr.put Fr.rf (by decide)) (by decide) : Fr [2, 55] σ _) (by decide)
theorem CI.upA {k nm ns : Nat} {x : Int} {D : Nat → Nat → Int} {σ : am_S} (h : CI k nm ns D σ) : CI k nm ns D (upA x σ) := h.fr (Fr.put Fr.rf (by decide) : Fr [2] σ _) (by decide)
theorem QC.upA {x : Int} {σ : am_S} : QC σ (upA x σ) := QC.of (Fr.put Fr.rf (by decide) : Fr [2] σ _) (by decide)
/-- prices of steps there are for every world -/
theorem DI_ex {k : Nat} {σ : am_S} (hW : Wd σ) (hD : LD k σ) (hH : HT k σ) : ∃ D, DI k (σ.1 6) (σ.1 9) D := by
  have hk : ∀ h, ∃ c, h < nkT k → SP k (GP (σ.1 6)) (σ.1 9 1) (σ.1 9 2) (σ.1 9 0) (dlN h) c := by
    intro h
    by_cases hh : h < nkT k
    · let τ : am_S := (fun a j => if a = 38 then dlN h j else σ.1 a j, σ.2)
      have hF : Fr [38] σ τ := ⟨rfl, fun a ha j => if_neg (by simpa using ha)⟩
      have hc : bnN (nkT k) (τ.1 38) := fun g hg => by
        show 0 ≤ dlN h g ∧ dlN h g ≤ 1000000
        unfold dlN
        split <;> omega
      obtain ⟨n, r, σ', h1, h2, h3, h4, h5⟩ := c94_38 τ k (hF.wd hW) (LD.fr hF (by decide) hD) (HT.fr hF (by decide) hH) hc
      exact ⟨σ'.1 38, fun _ => h5⟩
    · exact ⟨fun _ => 0, fun z => absurd z hh⟩
  exact ⟨fun h => Classical.choose (hk h), fun h hh => Classical.choose_spec (hk h) hh⟩
theorem KNs.zero {W : List Nat} {k k' : Nat} {D D' : Nat → Nat → Int} {σ σ' : am_S} (h : KNs k D σ) (hF : Fr W σ σ') (hk : k' ≤ 6) (h0 : ∀ j, j < 462 → σ'.1 35 j = 0) : KNs k' D' σ' := by
  obtain ⟨kn, i, ⟨h1, h3, h4, h5, h6, h7⟩, -, -⟩ := h
  have hn : nkT k' ≤ 462 := (by decide : ∀ k, k < 7 → nkT k ≤ 462) k' (by omega)
  exact ⟨kn, i, ⟨by rw [hF.1]; exact h1, by rw [hF.1]; exact h3, h4, h5, by rw [hF.1]; exact h6, by rw [hF.1]; exact h7⟩, fun x hx => Or.inl (h0 x hx), fun x hx e => by
    rw [h0 x (by omega)] at e
    omega⟩
theorem LW.ld {W : Nat → Nat → Int} {σ : am_S} (h : LW (p_grow W) σ) (ho : WOK W) : ∃ k : Nat, W 6 0 = (k : Int) ∧ LD k σ := by
  obtain ⟨⟨o1, o2⟩, o3, o4, o5⟩ := ho
  obtain ⟨k, hk⟩ : ∃ k : Nat, W 6 0 = (k : Int) := ⟨_, (Int.toNat_of_nonneg o1).symm⟩
  obtain ⟨h1, h2, h3, h4, h5, h6⟩ := h
  have g : ∀ a j, a ≠ 7 → p_grow W a j = W a j := fun a j e => if_neg (fun z => e z.1)
  refine ⟨k, hk, by rw [h1, g 6 0 (by decide)]; exact hk, by omega, fun i hi => ?_, fun i hi => ?_, fun s hs => ?_⟩
  · rw [h4 i hi, h5 i hi, g 8 i (by decide), g 9 i (by decide)]
    exact o4 i hi
  · rw [h6 i hi, g 10 i (by decide)]
    exact o5 i hi
  · rw [h3 s hs]
    have := o3 s hs
    unfold p_grow
    by_cases e : W 6 0 ≤ W 7 s
    · rw [if_pos ⟨rfl, e⟩]
      exact Or.inl rfl
    · rw [if_neg (fun z => e z.2)]
      omega
theorem CI.chg {W : List Nat} {k nm nm' ns : Nat} {D D' : Nat → Nat → Int} {σ σ' : am_S} (h : CI k nm ns D σ) (hF : Fr W σ σ') (hw : ∀ a ∈ W, a = 2 ∨ a = 9 ∨ (27 ≤ a ∧ a ≤ 30) ∨ a = 35 ∨ a = 36) (hD : LD k σ') (hL : LN nm' σ') (hI : DI k (σ'.1 6) (σ'.1 9) D') (hk : KNs k D' σ') (h4 : σ'.1 36 4 = 0) (h5 : σ'.1 36 5 = 0) : CI k nm' ns D' σ' := by
  have m : ∀ a, ¬ (a = 2 ∨ a = 9 ∨ (27 ≤ a ∧ a ≤ 30) ∨ a = 35 ∨ a = 36) → σ'.1 a = σ.1 a := fun a ha => funext (hF.2 a (fun z => ha (hw a z)))
  refine ⟨hF.wd h.w, fun j hj => by rw [m 0 (by omega)]; exact h.wr j hj, ⟨hD, HT.eq h.x.2.1 (fun a _ j => by rw [m a (by omega)]), hL, hI⟩, ⟨by rw [m 47 (by omega)]; exact h.st.1, h.st.2⟩, by rw [m 48 (by omega), m 49 (by omega), m 50 (by omega), m 51 (by omega)]; exact h.sh, hk, fun r hr => by rw [m _ (by omega)]; exact h.row r hr, fun t ht => by rw [m (68 + 2 * t) (by omega), m (69 + 2 * t) (by omega)]; exact h.txt t ht, Or.inl h4, Or.inl h5⟩
theorem EqB.same {A : am_S} {a k : Nat} {v : Int} (h : A.1 a k = v) : EqB (am_set A a k v) A := fun b j _ => by
  show A.1 b j = if b = a ∧ j = k then v else A.1 b j
  split
  · next e =>
    rw [e.1, e.2]
    exact h
  · rfl
theorem EqB.upd {W : List Nat} {M σ σ' : am_S} (hF : Fr W σ σ') (hM : ∀ a, a ∉ W → ∀ j, M.1 a j = σ.1 a j) (hw : ∀ a ∈ W, ∀ j, bcP a j → σ'.1 a j = M.1 a j) : EqB M σ' := fun a j q => by
  by_cases e : a ∈ W
  · exact hw a e j q
  · rw [hF.2 a e j, hM a e j]
