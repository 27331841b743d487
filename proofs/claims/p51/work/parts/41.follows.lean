/-! WINTER OVER STEPS.KNOW -/
/-- cells of the class, or the law's -/
def okc (σ : am_S) (a : Nat) : Prop := a < 76 ∨ ∃ n, σ.2.2.1[a]? = some (.inl .int, n)
theorem okc.lk {σ σ' : am_S} {a : Nat} (h : okc σ a) (hL : LK σ.2.2.1 σ'.2.2.1) : okc σ' a := by
  rcases h with h | ⟨n, h⟩
  · exact Or.inl h
  · exact Or.inr ⟨n, hL.1 _ _ h⟩
/-- all but some cells, and the steps known, is as it was -/
def FZ (W : List Nat) (σ σ' : am_S) : Prop := ((Wd σ → Wd σ') ∧ σ'.2.1 10 0 = σ.2.1 10 0 ∧ LK σ.2.2.1 σ'.2.2.1) ∧ ∀ a, (a ∉ W ∧ okc σ a) → ∀ j, σ'.1 a j = σ.1 a j
theorem FZ.rf {W : List Nat} {σ : am_S} : FZ W σ σ := ⟨⟨fun h => h, rfl, LK.rf⟩, fun _ _ _ => rfl⟩
theorem FZ.of {W : List Nat} {σ σ' : am_S} (h : Fr W σ σ') : FZ W σ σ' := ⟨⟨h.wd, by rw [h.1], LK.eq (by rw [h.1])⟩, fun a ha => h.2 a ha.1⟩
theorem FZ.ofK {kn : Nat} {σ σ' : am_S} (h : FK [33, 35, kn] σ σ') (hk : kn = 34 ∨ 76 ≤ kn) {z : Nat} (hz : σ'.2.2.1[kn]? = some (.inl .byte, z)) : FZ [33, 34, 35] σ σ' :=
  ⟨h.1, fun a ha j => h.2 a (by
    obtain ⟨h1, h2⟩ := ha
    simp only [List.mem_cons, List.not_mem_nil, or_false, not_or] at h1 ⊢
    refine ⟨h1.1, h1.2.2, fun e => ?_⟩
    subst e
    rcases h2 with h2 | ⟨n, h2⟩
    · omega
    · have := h.1.2.2.1 _ _ h2
      rw [hz] at this
      cases this) j⟩
theorem FZ.tr {W W' : List Nat} {σ σ' σ'' : am_S} (h : FZ W σ σ') (h2 : FZ W' σ' σ'') (hs : ∀ a ∈ W', a ∈ W) : FZ W σ σ'' :=
  ⟨⟨fun q => h2.1.1 (h.1.1 q), h2.1.2.1.trans h.1.2.1, h.1.2.2.tr h2.1.2.2⟩, fun b hb j => (h2.2 b ⟨fun e => hb.1 (hs b e), hb.2.lk h.1.2.2⟩ j).trans (h.2 b hb j)⟩
theorem FZ.trF {W W' : List Nat} {σ σ' σ'' : am_S} (h : FZ W σ σ') (h2 : Fr W' σ' σ'') (hs : ∀ a ∈ W', a ∈ W) : FZ W σ σ'' := FZ.tr h (FZ.of h2) hs
theorem FZ.put {W : List Nat} {σ σ' : am_S} {a k : Nat} {x : Int} (h : FZ W σ σ') (ha : a ∈ W) : FZ W σ (am_set σ' a k x) := FZ.trF h (Fr.put Fr.rf ha) (fun _ q => q)
theorem FZ.mono {W W' : List Nat} {σ σ' : am_S} (h : FZ W σ σ') (hs : ∀ a ∈ W, a ∈ W') : FZ W' σ σ' := ⟨h.1, fun b hb j => h.2 b ⟨fun e => hb.1 (hs b e), hb.2⟩ j⟩
theorem FZ.wd {W : List Nat} {σ σ' : am_S} (h : FZ W σ σ') (hW : Wd σ) : Wd σ' := h.1.1 hW
/-- some steps are known, all that are known are right -/
def KNs (k : Nat) (D : Nat → Nat → Int) (σ : am_S) : Prop := ∃ kn i, KNW k D σ kn i
theorem KNs.fr {W : List Nat} {k : Nat} {D : Nat → Nat → Int} {σ σ' : am_S} (h : Fr W σ σ') (hw : ∀ a ∈ W, (a < 34 ∨ 35 < a) ∧ a < 76) (R : KNs k D σ) : KNs k D σ' := by
  obtain ⟨kn, i, ⟨h1, h2, h3, h4, h5, h6⟩, h7, h8⟩ := R
  have q35 : ∀ j, σ'.1 35 j = σ.1 35 j := h.2 35 (fun e => by have := hw 35 e; omega)
  have qkn : ∀ j, σ'.1 kn j = σ.1 kn j := h.2 kn (fun e => by have := hw kn e; omega)
  exact ⟨kn, i, ⟨by rw [h.1]; exact h1, by rw [h.1]; exact h2, h3, h4, by rw [h.1]; exact h5, by rw [h.1]; exact h6⟩, fun x hx => by rw [q35]; exact h7 x hx, fun x hx e => by
    rw [q35] at e
    refine ⟨(h8 x hx e).1, fun g hg => ?_⟩
    rw [qkn]
    exact (h8 x hx e).2 g hg⟩
/-- what winter needs of the world, the houses, the line -/
def WX (k nm : Nat) (D : Nat → Nat → Int) (σ : am_S) : Prop := LD k σ ∧ HT k σ ∧ LN nm σ ∧ DI k (σ.1 6) (σ.1 9) D
theorem WX.fz {W : List Nat} {k nm : Nat} {D : Nat → Nat → Int} {σ σ' : am_S} (h : FZ W σ σ') (hw : ∀ a ∈ W, 30 < a) (R : WX k nm D σ) : WX k nm D σ' := by
  have q : ∀ a, a ≤ 30 → ∀ j, σ'.1 a j = σ.1 a j := fun a ha => h.2 a ⟨fun e => by have := hw a e; omega, Or.inl (by omega)⟩
  obtain ⟨h1, h2, h3, h4⟩ := R
  refine ⟨LD.eq h1 (fun a _ hb => q a (by omega)), HT.eq h2 (fun a ha => q a (by omega)), (by obtain ⟨g1, g2, g3, g4⟩ := h3; exact ⟨by rw [q 27 (by omega)]; exact g1, g2, fun i hi => by rw [q 28 (by omega), q 29 (by omega)]; exact g3 i hi, fun i hi => by rw [q 30 (by omega)]; exact g4 i hi⟩), by rw [show σ'.1 6 = σ.1 6 from funext (q 6 (by omega)), show σ'.1 9 = σ.1 9 from funext (q 9 (by omega))]; exact h4⟩
theorem WK.fz {W : List Nat} {k nm : Nat} {D ex : Nat → Nat → Int} {σ σ' : am_S} (h : FZ W σ σ') (hw : ∀ a ∈ W, a < 36 ∨ (36 < a ∧ a < 39) ∨ 41 < a) (R : WK k nm D ex σ) : WK k nm D ex σ' := by
  have q : ∀ a, (a = 36 ∨ a = 39 ∨ a = 40 ∨ a = 41) → ∀ j, σ'.1 a j = σ.1 a j := fun a h1 j => h.2 a ⟨fun e => by have := hw a e; omega, Or.inl (by omega)⟩ j
  obtain ⟨h1, h2, h3⟩ := R
  exact ⟨by rw [q 36 (by omega)]; exact h1, fun m hm x hx => by rw [q 39 (by omega), q 40 (by omega)]; exact h2 m hm x hx, fun ht m hm x hx => by rw [q 41 (by omega)]; exact h3 ht m hm x hx⟩
/-- the lists of plain ones -/
def LQ (k nm : Nat) (D ex : Nat → Nat → Int) (σ : am_S) : Prop := ∀ m, m < nm → LI (plM 1000000 (nkT k) nm D ex m) (nkT k) (fun i => σ.1 42 (m * 462 + i)) ∧ σ.1 43 m = ((ctN (plM 1000000 (nkT k) nm D ex m) (nkT k) : Nat) : Int)
theorem LQ.fz {W : List Nat} {k nm : Nat} {D ex : Nat → Nat → Int} {σ σ' : am_S} (h : FZ W σ σ') (hw : ∀ a ∈ W, a < 42 ∨ 43 < a) (R : LQ k nm D ex σ) : LQ k nm D ex σ' := by
  have q : ∀ a, (a = 42 ∨ a = 43) → ∀ j, σ'.1 a j = σ.1 a j := fun a h1 j => h.2 a ⟨fun e => by have := hw a e; omega, Or.inl (by omega)⟩ j
  intro m hm
  obtain ⟨h1, h2⟩ := R m hm
  exact ⟨fun x hx hp => by show σ'.1 42 _ = _; rw [q 42 (by omega)]; exact h1 x hx hp, by rw [q 43 (by omega)]; exact h2⟩
/-- whether one is the first of a Monday that may follow -/
def PFM (F : Int) (N n : Nat) (D ex : Nat → Nat → Int) (m h : Nat) : Bool := plM F N n D ex m h && (decide (m = 0) || foM F N D ex (m - 1) (frM F N n D ex (m - 1)) h)
theorem frM_is {F : Int} {N n : Nat} {D ex : Nat → Nat → Int} : ∀ m, frM F N n D ex m = fstN (PFM F N n D ex m) N
  | 0 => by
    show fstN _ N = fstN _ N
    exact congrArg (fun p => fstN p N) (funext fun h => by unfold PFM; simp)
  | m + 1 => by
    show fstN _ N = fstN _ N
    exact congrArg (fun p => fstN p N) (funext fun h => by unfold PFM; simp)
theorem CC.mono {m : Nat} {as : List am_V} {σ : am_S} {Q Q' : Option am_V → am_S → Prop} (h : CC m as σ Q) (hq : ∀ r σ', Q r σ' → Q' r σ') : CC m as σ Q' := by
  obtain ⟨n, r, σ', h1, h2⟩ := h
  exact ⟨n, r, σ', h1, hq _ _ h2⟩
theorem know_z (σ : am_S) (k from1 : Nat) (D : Nat → Nat → Int) (hW : Wd σ) (hD : LD k σ) (hH : HT k σ) (hDI : DI k (σ.1 6) (σ.1 9) D) (hKN : KNs k D σ) (hf : from1 < nkT k) : CC 93 [vR 32, vI ((from1 : Nat) : Int)] σ (fun r σ' => r = none ∧ KNs k D σ' ∧ σ'.1 35 from1 = 1 ∧ (∀ h, σ.1 35 h = 1 → σ'.1 35 h = 1) ∧ FZ [33, 34, 35] σ σ') := by
  obtain ⟨kn, i, hK⟩ := hKN
  refine CC.mono (c93 σ k from1 kn i D hW hD hH hDI hK hf) ?_
  intro r σ' ⟨h1, kn', i', h2, h3, h4, h5⟩
  exact ⟨h1, ⟨kn', i', h2⟩, h3, h4, FZ.ofK h5 h2.1.2.2.1 h2.1.2.1⟩
theorem c113 (σ : am_S) (k nm : Nat) (hW : Wd σ) (D ex : Nat → Nat → Int) (hX : WX k nm D σ) (hex : ∀ m h, h < nkT k → 0 ≤ ex m h ∧ ex m h ≤ 1000000) (hK : WK k nm D ex σ) (hKN : KNs k D σ) (m f h : Nat) (hm : m + 1 < nm) (hf : f < nkT k) (hh : h < nkT k) (h35 : σ.1 35 f = 1) : CC 113 [vR 36, vI (((m : Nat) : Int)), vI (((f : Nat) : Int)), vI (((h : Nat) : Int))] σ (fun r σ' => σ' = σ ∧ (foM 1000000 (nkT k) D ex m f h = true ∧ r = some (vI 1) ∨ ¬ foM 1000000 (nkT k) D ex m f h = true ∧ r = some (vI 0))) := by
  show TT am_b113 (am_b113.getD 0 []) [(0, vR 36), (1, vI (((m : Nat) : Int))), (2, vI (((f : Nat) : Int))), (3, vI (((h : Nat) : Int)))] [] σ _
  obtain ⟨hD, hH, hL, hDI⟩ := id hX
  have hk6 := hD.2.1
  have hnb := nkT_bd k
  have hnm := hL.2.1
  have hpr := hD.2.2.2.1
  have hDb : ∀ a b, a < nkT k → b < nkT k → 0 ≤ D a b := fun a b ha hb => (DI.bd hk6 hpr hDI ha hb).1
  have hab : ∀ m h, h < nkT k → 0 ≤ ahN 1000000 (nkT k) D ex m h ∧ ahN 1000000 (nkT k) D ex m h ≤ 1000000 := fun m h hh => ahN_bd (by omega) (by omega) hDb (fun m h hh => (hex m h hh).1) m hh
  obtain ⟨kn, ik, hKW⟩ := hKN
  refine tt_ar rfl ?_
  refine tt_ar rfl ?_
  refine tt_iadd (by omega) (by omega) ?_
  refine tt_ar rfl ?_
  refine tt_imul (by omega) (by omega) ?_
  refine tt_ar rfl ?_
  refine tt_iadd (by omega) (by omega) ?_
  refine tt_ar rfl ?_
  refine tt_ar rfl ?_
  refine tt_getR (wo_36 hW) rfl (wr_36_11 hW) ?_
  refine tt_ar rfl ?_
  refine tt_ar rfl ?_
  refine tt_imul (by omega) (by omega) ?_
  refine tt_ar rfl ?_
  refine tt_iadd (by omega) (by omega) ?_
  refine tt_iald (((m * 462) + f)) (x := ahN 1000000 (nkT k) D ex m f) (wa_40 hW) (by omega) (by omega) (hK.2.1 m (by omega) f (by omega)).2 ?_
  have q_1 := hab m f (by omega)
  refine tt_ar rfl ?_
  refine tt_getR (wo_36 hW) rfl (wr_36_3 hW) ?_
  refine tt_ar rfl ?_
  refine tt_ar rfl ?_
  refine tt_cv3 3 rfl (wo_32 hW) (c100 σ k f h kn ik D hW hk6 hH.1 hKW hf hh h35) (kp ?_)
  have qd := DI.bd hk6 hpr hDI hf hh
  refine tt_iadd (by omega) (by omega) ?_
  refine tt_ar rfl ?_
  refine tt_getR (wo_36 hW) rfl (wr_36_10 hW) ?_
  refine tt_ar rfl ?_
  refine tt_iald ((((m + 1) * 462) + h)) (x := ex (m + 1) h) (wa_39 hW) (by omega) (by omega) (hK.2.1 (m + 1) (by omega) h (by omega)).1 ?_
  have q0 := hex (m + 1) h hh
  refine tt_iadd (by omega) (by omega) ?_
  refine tt_ar rfl ?_
  refine tt_getR (wo_36 hW) rfl (wr_36_11 hW) ?_
  refine tt_ar rfl ?_
  refine tt_iald ((((m + 1) * 462) + h)) (x := ahN 1000000 (nkT k) D ex (m + 1) h) (wa_40 hW) (by omega) (by omega) (hK.2.1 (m + 1) (by omega) h (by omega)).2 ?_
  have q_2 := hab (m + 1) h (by omega)
  refine tt_icne (fun h0_31 => ?_) (fun h0_31 => ?_)
  · refine tt_ar rfl ?_
    refine tt_nop ?_
    refine tt_zret (by omega) ?_
    exact ⟨rfl, Or.inr ⟨fun e => absurd (of_decide_eq_true e) (by omega), rfl⟩⟩
  · refine tt_ar rfl ?_
    refine tt_goto ?_
    refine tt_zret (by omega) ?_
    exact ⟨rfl, Or.inl ⟨decide_eq_true (by omega), rfl⟩⟩

theorem frM_pf {F : Int} {N n : Nat} {D ex : Nat → Nat → Int} (hF : 0 ≤ F) (hN : 0 < N) (hD : ∀ a b, a < N → b < N → 0 ≤ D a b) (he : ∀ m h, h < N → 0 ≤ ex m h) (ht : bsN F N n D ex < F) : ∀ {m : Nat}, m < n → PFM F N n D ex m (frM F N n D ex m) = true
  | 0, hm => by
    have := (frM_ok hF hN hD he ht (m := 0) hm).2
    simp [PFM, this]
  | m + 1, hm => by
    have ih := frM_ok hF hN hD he ht (m := m) (by omega)
    obtain ⟨h, h1, h2, h3⟩ := first_s hF hN hD he (by omega) ht hm ih.1 ih.2
    have := fstN_is (p := fun h => plM F N n D ex (m + 1) h && foM F N D ex m (frM F N n D ex m) h) ⟨h, h1, by rw [h2, h3]; rfl⟩
    have q : (plM F N n D ex (m + 1) (frM F N n D ex (m + 1)) && foM F N D ex m (frM F N n D ex m) (frM F N n D ex (m + 1))) = true := this.2.1
    simpa [PFM] using q
theorem ctN_inj {p : Nat → Bool} {a b : Nat} (ha : p a = true) (hb : p b = true) (h : ctN p a = ctN p b) : a = b := by
  rcases Nat.lt_trichotomy a b with e | e | e
  · have := ctN_lt ha e
    omega
  · exact e
  · have := ctN_lt hb e
    omega
theorem c112 (σ : am_S) (k nm : Nat) (hW : Wd σ) (D ex : Nat → Nat → Int) (hX : WX k nm D σ) (hex : ∀ m h, h < nkT k → 0 ≤ ex m h ∧ ex m h ≤ 1000000) (hK : WK k nm D ex σ) (hKN : KNs k D σ) (hT : bsN 1000000 (nkT k) nm D ex < 1000000) (hLS : LQ k nm D ex σ) : CC 112 [vR 36] σ (fun r σ' => r = none ∧ KNs k D σ' ∧ FZ [33, 34, 35, 37] σ σ' ∧ ∀ q, q < nm → σ'.1 37 q = (((frM 1000000 (nkT k) nm D ex q) : Nat) : Int)) := by
  show TT am_b112 (am_b112.getD 0 []) [(0, vR 36)] [] σ _
  obtain ⟨hD, hH, hL, hDI⟩ := id hX
  have hk6 := hD.2.1
  have hnb := nkT_bd k
  have hnm := hL.2.1
  have hpr := hD.2.2.2.1
  have hDb : ∀ a b, a < nkT k → b < nkT k → 0 ≤ D a b := fun a b ha hb => (DI.bd hk6 hpr hDI ha hb).1
  have hab : ∀ m h, h < nkT k → 0 ≤ ahN 1000000 (nkT k) D ex m h ∧ ahN 1000000 (nkT k) D ex m h ≤ 1000000 := fun m h hh => ahN_bd (by omega) (by omega) hDb (fun m h hh => (hex m h hh).1) m hh
  refine tt_ar rfl ?_
  refine tt_ar rfl ?_
  refine tt_nop ?_
  have lp1_1 : ∀ (μ : Nat) (m : Nat) (σ1 : am_S), nm - m < μ → FZ [33, 34, 35, 37] σ σ1 → (m ≤ nm) → (KNs k D σ1) → (∀ q, q < m → σ1.1 37 q = (((frM 1000000 (nkT k) nm D ex q) : Nat) : Int)) → TT am_b112 (am_b112.getD 1 []) [(0, vR 36), (1, vI (((m : Nat) : Int)))] [] σ1 (fun r σ' => r = none ∧ KNs k D σ' ∧ FZ [33, 34, 35, 37] σ σ' ∧ ∀ q, q < nm → σ'.1 37 q = (((frM 1000000 (nkT k) nm D ex q) : Nat) : Int)) := by
    intro μ
    induction μ with
    | zero => intro m σ1 hμ; exact absurd hμ (Nat.not_lt_zero _)
    | succ μ ih1 =>
      intro m σ1 hμ hF_σ1 hm hKN1 hfm
      have hW_σ1 := FZ.wd hF_σ1 hW
      refine tt_ar rfl ?_
      refine tt_ar rfl ?_
      refine tt_getR (wo_36 hW_σ1) rfl (wr_36_1 hW_σ1) ?_
      refine tt_getI (x := ((nm : Nat) : Int)) (wo_27 hW_σ1) rfl ((hF_σ1.2 27 ⟨(by decide), Or.inl (by decide)⟩ (0)).trans hL.1) ?_
      refine tt_icge (fun h1_4 => ?_) (fun h1_4 => ?_)
      · refine tt_vret ?_
        have e1 : nm = m := by omega
        exact ⟨rfl, hKN1, hF_σ1, fun q hq => hfm q (by omega)⟩
      · refine tt_ar rfl ?_
        refine tt_ar rfl ?_
        refine tt_ar rfl ?_
        refine tt_ifle (fun h1_8 => ?_) (fun h1_8 => ?_)
        · refine tt_ar rfl ?_
          refine tt_ar rfl ?_
          refine tt_nop ?_
          have lp3_2 : ∀ (μ : Nat) (i : Nat) (fl : Nat) (σ3 : am_S), (ctN (plM 1000000 (nkT k) nm D ex m) (nkT k)) - i < μ → Fr [37] σ1 σ3 → (i ≤ (ctN (plM 1000000 (nkT k) nm D ex m) (nkT k))) → (KNs k D σ3) → (∀ q, q < m → σ3.1 37 q = (((frM 1000000 (nkT k) nm D ex q) : Nat) : Int)) → ((fl = 0 ∧ σ3.1 37 m = (((frM 1000000 (nkT k) nm D ex m) : Nat) : Int)) ∨ (fl = 1 ∧ ∀ g, g < nkT k → (plM 1000000 (nkT k) nm D ex m) g = true → ctN (plM 1000000 (nkT k) nm D ex m) g < i → (PFM 1000000 (nkT k) nm D ex m) g = false)) → TT am_b112 (am_b112.getD 3 []) [(0, vR 36), (1, vI (((m : Nat) : Int))), (2, vI (((fl : Nat) : Int))), (3, vI (((i : Nat) : Int)))] [] σ3 (fun r σ' => r = none ∧ KNs k D σ' ∧ FZ [33, 34, 35, 37] σ σ' ∧ ∀ q, q < nm → σ'.1 37 q = (((frM 1000000 (nkT k) nm D ex q) : Nat) : Int)) := by
            intro μ
            induction μ with
            | zero => intro i fl σ3 hμ; exact absurd hμ (Nat.not_lt_zero _)
            | succ μ ih3 =>
              intro i fl σ3 hμ hF_σ3 hi hKN3 hfm hfl
              have hW_σ3 := Fr.wd hF_σ3 hW_σ1
              have hcm := ctN_le (p := (plM 1000000 (nkT k) nm D ex m)) (nkT k)
              have hnl : nkT k ≤ 462 := hnb.2
              refine tt_ar rfl ?_
              refine tt_ifeq (fun h3_1 => ?_) (fun h3_1 => ?_)
              · have hdm : σ3.1 37 m = (((frM 1000000 (nkT k) nm D ex m) : Nat) : Int) := by rcases hfl with e | e; exact e.2; exact absurd h3_1 (by omega)
                have hdone : ∀ q, q < m + 1 → σ3.1 37 q = (((frM 1000000 (nkT k) nm D ex q) : Nat) : Int) := fun q hq => by by_cases e : q = m; (subst e; exact hdm); exact hfm q (by omega)
                refine tt_iinc (y := ((m + 1 : Nat) : Int)) rfl (iinc_fit (by omega) (by omega) (by omega)) ?_
                refine tt_goto ?_
                refine tt_loc [(0, vR 36), (1, vI (((m + 1 : Nat) : Int)))] rfl rfl ⟨rfl, rfl, trivial⟩ ?_
                exact ih1 (m + 1) σ3 (by omega) (FZ.trF (FZ.tr FZ.rf hF_σ1 (by decide)) hF_σ3 (by decide)) (by omega) hKN3 hdone
              · have hfl2 := (hfl.resolve_left (fun e => h3_1 (by omega))).2
                refine tt_ar rfl ?_
                refine tt_ar rfl ?_
                refine tt_getR (wo_36 hW_σ3) rfl (wr_36_14 hW_σ3) ?_
                refine tt_ar rfl ?_
                refine tt_iald (m) (x := (((ctN (plM 1000000 (nkT k) nm D ex m) (nkT k)) : Nat) : Int)) (wa_43 hW_σ3) rfl (by omega) (((hF_σ3.2 43 (by decide) (m)).trans (hF_σ1.2 43 ⟨(by decide), Or.inl (by decide)⟩ (m))).trans (hLS m (by omega)).2) ?_
                refine tt_icge (fun h3_7 => ?_) (fun h3_7 => ?_)
                · have hok := (frM_ok (F := 1000000) (N := nkT k) (n := nm) (D := D) (ex := ex) (by omega) (by omega) hDb (fun m h hh => (hex m h hh).1) hT (m := m) (by omega))
                  have hpf := frM_pf (F := 1000000) (N := nkT k) (n := nm) (D := D) (ex := ex) (by omega) (by omega) hDb (fun m h hh => (hex m h hh).1) hT (m := m) (by omega)
                  have hct := ctN_lt hok.2 hok.1
                  have hno := hfl2 _ hok.1 hok.2 (by omega)
                  exact absurd (hpf.symm.trans hno) (by decide)
                · refine tt_ar rfl ?_
                  refine tt_getR (wo_36 hW_σ3) rfl (wr_36_13 hW_σ3) ?_
                  refine tt_ar rfl ?_
                  refine tt_ar rfl ?_
                  refine tt_imul (by omega) (by omega) ?_
                  refine tt_ar rfl ?_
                  refine tt_iadd (by omega) (by omega) ?_
                  have hZl : FZ [33, 34, 35, 37] σ σ3 := (FZ.trF (FZ.tr FZ.rf hF_σ1 (by decide)) hF_σ3 (by decide))
                  have hLSl := LQ.fz hZl (by decide) hLS
                  obtain ⟨h, hh1, hh2, hh3, hh4⟩ := LI.at (hLSl m (by omega)).1 (show i < (ctN (plM 1000000 (nkT k) nm D ex m) (nkT k)) by omega)
                  refine tt_iald (((m * 462) + i)) (x := ((h : Nat) : Int)) (wa_42 hW_σ3) (by omega) (by omega) hh4 ?_
                  refine tt_ar rfl ?_
                  refine tt_ar rfl ?_
                  refine tt_ifeqT (by omega) ?_
                  refine tt_ar rfl ?_
                  refine tt_getR (wo_36 hW_σ3) rfl (wr_36_8 hW_σ3) ?_
                  refine tt_ar rfl ?_
                  refine tt_ar rfl ?_
                  refine tt_iast (m) (wa_37 hW_σ3) (by omega) rfl (by omega) ?_
                  refine tt_ar rfl ?_
                  refine tt_ar rfl ?_
                  refine tt_nop ?_
                  have hPF : (PFM 1000000 (nkT k) nm D ex m) h = true := by unfold PFM; rw [hh2, show decide (m = 0) = true from decide_eq_true (by omega)]; rfl
                  have hlt : ∀ t, t < h → (PFM 1000000 (nkT k) nm D ex m) t = false := fun t ht => by
                    cases hp : (plM 1000000 (nkT k) nm D ex m) t with
                    | false => simp [PFM, hp]
                    | true => exact hfl2 t (by omega) hp (by have := ctN_lt hp ht; omega)
                  have hfr : (frM 1000000 (nkT k) nm D ex m) = h := by rw [frM_is]; exact fstN_eq hPF hlt hh1
                  refine tt_iinc (y := ((i + 1 : Nat) : Int)) rfl (iinc_fit (by omega) (by omega) (by omega)) ?_
                  refine tt_goto ?_
                  refine tt_loc [(0, vR 36), (1, vI (((m : Nat) : Int))), (2, vI (((0 : Nat) : Int))), (3, vI (((i + 1 : Nat) : Int)))] rfl rfl ⟨rfl, rfl, lv_to rfl (by omega), rfl, trivial⟩ ?_
                  exact ih3 (i + 1) (0) _ (by omega) (Fr.put (Fr.tr Fr.rf hF_σ3 (by decide)) (by decide)) (by omega) (by first | exact hKN3 | exact KNs.fr (Fr.put Fr.rf (by decide) : Fr [37] σ3 _) (by decide) hKN3) (by first | exact hfm | exact (fun q hq => by rw [am_set_at, if_neg (by omega)]; exact hfm q hq)) (by first | exact Or.inl ⟨rfl, (am_set_at).trans ((if_pos rfl).trans (by rw [hfr]))⟩ | exact Or.inr hfl3)
          refine tt_loc [(0, vR 36), (1, vI (((m : Nat) : Int))), (2, vI (((1 : Nat) : Int))), (3, vI (((0 : Nat) : Int)))] rfl rfl ⟨rfl, rfl, lv_to rfl (by omega), lv_to rfl (by omega), trivial⟩ ?_
          exact lp3_2 _ (0) (1) σ1 (Nat.lt_succ_self _) Fr.rf (by omega) (by first | exact hKN2 | exact hKN1) (by first | exact (fun q hq => (hF2.2 37 ⟨by decide, Or.inl (by decide)⟩ q).trans (hfm q hq)) | exact hfm) (Or.inr ⟨rfl, fun g _ _ h => absurd h (Nat.not_lt_zero _)⟩)
        · have hfo := (frM_ok (F := 1000000) (N := nkT k) (n := nm) (D := D) (ex := ex) (by omega) (by omega) hDb (fun m h hh => (hex m h hh).1) hT (m := m - 1) (by omega))
          refine tt_ar rfl ?_
          refine tt_getR (wo_36 hW_σ1) rfl (wr_36_3 hW_σ1) ?_
          refine tt_ar rfl ?_
          refine tt_getR (wo_36 hW_σ1) rfl (wr_36_8 hW_σ1) ?_
          refine tt_ar rfl ?_
          refine tt_ar rfl ?_
          refine tt_bI (g := fun a b => w32 (a - b)) (z := ((m - 1 : Nat) : Int)) rfl (by rw [show ((m : Nat) : Int) - 1 = ((m - 1 : Nat) : Int) by omega]; exact w32_i (by omega) (by omega)) ?_
          refine tt_iald ((m - 1)) (x := (((frM 1000000 (nkT k) nm D ex (m - 1)) : Nat) : Int)) (wa_37 hW_σ1) (by omega) (by omega) (hfm (m - 1) (by omega)) ?_
          have hZa : FZ [33, 34, 35, 37] σ σ1 := (FZ.tr FZ.rf hF_σ1 (by decide))
          have hXa := WX.fz hZa (by decide) hX
          have hKa := WK.fz hZa (by decide) hK
          have hLSa := LQ.fz hZa (by decide) hLS
          refine tt_cv2 2 rfl (wo_32 hW_σ1) (know_z σ1 k (frM 1000000 (nkT k) nm D ex (m - 1)) D hW_σ1 hXa.1 hXa.2.1 hXa.2.2.2 hKN1 hfo.1) ?_
          intro r0 σ2 hq0
          obtain ⟨rfl, hKN2, h35b, h35m, hF2⟩ := hq0
          have hW3 := FZ.wd hF2 hW_σ1
          refine tt_nop ?_
          refine tt_ar rfl ?_
          refine tt_ar rfl ?_
          refine tt_nop ?_
          have lp3_4 : ∀ (μ : Nat) (i : Nat) (fl : Nat) (σ3 : am_S), (ctN (plM 1000000 (nkT k) nm D ex m) (nkT k)) - i < μ → Fr [37] σ2 σ3 → (i ≤ (ctN (plM 1000000 (nkT k) nm D ex m) (nkT k))) → (KNs k D σ3) → (∀ q, q < m → σ3.1 37 q = (((frM 1000000 (nkT k) nm D ex q) : Nat) : Int)) → ((fl = 0 ∧ σ3.1 37 m = (((frM 1000000 (nkT k) nm D ex m) : Nat) : Int)) ∨ (fl = 1 ∧ ∀ g, g < nkT k → (plM 1000000 (nkT k) nm D ex m) g = true → ctN (plM 1000000 (nkT k) nm D ex m) g < i → (PFM 1000000 (nkT k) nm D ex m) g = false)) → TT am_b112 (am_b112.getD 3 []) [(0, vR 36), (1, vI (((m : Nat) : Int))), (2, vI (((fl : Nat) : Int))), (3, vI (((i : Nat) : Int)))] [] σ3 (fun r σ' => r = none ∧ KNs k D σ' ∧ FZ [33, 34, 35, 37] σ σ' ∧ ∀ q, q < nm → σ'.1 37 q = (((frM 1000000 (nkT k) nm D ex q) : Nat) : Int)) := by
            intro μ
            induction μ with
            | zero => intro i fl σ3 hμ; exact absurd hμ (Nat.not_lt_zero _)
            | succ μ ih3 =>
              intro i fl σ3 hμ hF_σ3 hi hKN3 hfm hfl
              have hW_σ3 := Fr.wd hF_σ3 hW3
              have hcm := ctN_le (p := (plM 1000000 (nkT k) nm D ex m)) (nkT k)
              have hnl : nkT k ≤ 462 := hnb.2
              refine tt_ar rfl ?_
              refine tt_ifeq (fun h3_1 => ?_) (fun h3_1 => ?_)
              · have hdm : σ3.1 37 m = (((frM 1000000 (nkT k) nm D ex m) : Nat) : Int) := by rcases hfl with e | e; exact e.2; exact absurd h3_1 (by omega)
                have hdone : ∀ q, q < m + 1 → σ3.1 37 q = (((frM 1000000 (nkT k) nm D ex q) : Nat) : Int) := fun q hq => by by_cases e : q = m; (subst e; exact hdm); exact hfm q (by omega)
                refine tt_iinc (y := ((m + 1 : Nat) : Int)) rfl (iinc_fit (by omega) (by omega) (by omega)) ?_
                refine tt_goto ?_
                refine tt_loc [(0, vR 36), (1, vI (((m + 1 : Nat) : Int)))] rfl rfl ⟨rfl, rfl, trivial⟩ ?_
                exact ih1 (m + 1) σ3 (by omega) (FZ.trF (FZ.tr (FZ.tr FZ.rf hF_σ1 (by decide)) hF2 (by decide)) hF_σ3 (by decide)) (by omega) hKN3 hdone
              · have hfl2 := (hfl.resolve_left (fun e => h3_1 (by omega))).2
                refine tt_ar rfl ?_
                refine tt_ar rfl ?_
                refine tt_getR (wo_36 hW_σ3) rfl (wr_36_14 hW_σ3) ?_
                refine tt_ar rfl ?_
                refine tt_iald (m) (x := (((ctN (plM 1000000 (nkT k) nm D ex m) (nkT k)) : Nat) : Int)) (wa_43 hW_σ3) rfl (by omega) (((hF_σ3.2 43 (by decide) (m)).trans ((hF2.2 43 ⟨(by decide), Or.inl (by decide)⟩ (m)).trans (hF_σ1.2 43 ⟨(by decide), Or.inl (by decide)⟩ (m)))).trans (hLS m (by omega)).2) ?_
                refine tt_icge (fun h3_7 => ?_) (fun h3_7 => ?_)
                · have hok := (frM_ok (F := 1000000) (N := nkT k) (n := nm) (D := D) (ex := ex) (by omega) (by omega) hDb (fun m h hh => (hex m h hh).1) hT (m := m) (by omega))
                  have hpf := frM_pf (F := 1000000) (N := nkT k) (n := nm) (D := D) (ex := ex) (by omega) (by omega) hDb (fun m h hh => (hex m h hh).1) hT (m := m) (by omega)
                  have hct := ctN_lt hok.2 hok.1
                  have hno := hfl2 _ hok.1 hok.2 (by omega)
                  exact absurd (hpf.symm.trans hno) (by decide)
                · refine tt_ar rfl ?_
                  refine tt_getR (wo_36 hW_σ3) rfl (wr_36_13 hW_σ3) ?_
                  refine tt_ar rfl ?_
                  refine tt_ar rfl ?_
                  refine tt_imul (by omega) (by omega) ?_
                  refine tt_ar rfl ?_
                  refine tt_iadd (by omega) (by omega) ?_
                  have hZl : FZ [33, 34, 35, 37] σ σ3 := (FZ.trF (FZ.tr (FZ.tr FZ.rf hF_σ1 (by decide)) hF2 (by decide)) hF_σ3 (by decide))
                  have hLSl := LQ.fz hZl (by decide) hLS
                  obtain ⟨h, hh1, hh2, hh3, hh4⟩ := LI.at (hLSl m (by omega)).1 (show i < (ctN (plM 1000000 (nkT k) nm D ex m) (nkT k)) by omega)
                  refine tt_iald (((m * 462) + i)) (x := ((h : Nat) : Int)) (wa_42 hW_σ3) (by omega) (by omega) hh4 ?_
                  refine tt_ar rfl ?_
                  refine tt_ar rfl ?_
                  refine tt_ifeqF (by omega) ?_
                  refine tt_ar rfl ?_
                  refine tt_ar rfl ?_
                  refine tt_ar rfl ?_
                  refine tt_bI (g := fun a b => w32 (a - b)) (z := ((m - 1 : Nat) : Int)) rfl (by rw [show ((m : Nat) : Int) - 1 = ((m - 1 : Nat) : Int) by omega]; exact w32_i (by omega) (by omega)) ?_
                  refine tt_ar rfl ?_
                  refine tt_getR (wo_36 hW_σ3) rfl (wr_36_8 hW_σ3) ?_
                  refine tt_ar rfl ?_
                  refine tt_ar rfl ?_
                  refine tt_bI (g := fun a b => w32 (a - b)) (z := ((m - 1 : Nat) : Int)) rfl (by rw [show ((m : Nat) : Int) - 1 = ((m - 1 : Nat) : Int) by omega]; exact w32_i (by omega) (by omega)) ?_
                  refine tt_iald ((m - 1)) (x := (((frM 1000000 (nkT k) nm D ex (m - 1)) : Nat) : Int)) (wa_37 hW_σ3) (by omega) (by omega) (hfm (m - 1) (by omega)) ?_
                  refine tt_ar rfl ?_
                  have hZf : FZ [33, 34, 35, 37] σ σ3 := (FZ.trF (FZ.tr (FZ.tr FZ.rf hF_σ1 (by decide)) hF2 (by decide)) hF_σ3 (by decide))
                  have hXf := WX.fz hZf (by decide) hX
                  have hKf := WK.fz hZf (by decide) hK
                  have hLSf := LQ.fz hZf (by decide) hLS
                  refine tt_cv4 4 rfl (wo_36 hW_σ3) (c113 σ3 k nm hW_σ3 D ex hXf hex hKf hKN3 (m - 1) (frM 1000000 (nkT k) nm D ex (m - 1)) h (by omega) hfo.1 hh1 ((hF_σ3.2 35 (by decide) _).trans h35b)) (kb (fun h3_30 => ?_) (fun h3_30 => ?_))
                  · refine tt_ifeqF (by decide) ?_
                    refine tt_nop ?_
                    refine tt_ar rfl ?_
                    refine tt_getR (wo_36 hW_σ3) rfl (wr_36_8 hW_σ3) ?_
                    refine tt_ar rfl ?_
                    refine tt_ar rfl ?_
                    refine tt_iast (m) (wa_37 hW_σ3) (by omega) rfl (by omega) ?_
                    refine tt_ar rfl ?_
                    refine tt_ar rfl ?_
                    refine tt_nop ?_
                    have hPF : (PFM 1000000 (nkT k) nm D ex m) h = true := by unfold PFM; rw [hh2, h3_30]; simp
                    have hlt : ∀ t, t < h → (PFM 1000000 (nkT k) nm D ex m) t = false := fun t ht => by
                      cases hp : (plM 1000000 (nkT k) nm D ex m) t with
                      | false => simp [PFM, hp]
                      | true => exact hfl2 t (by omega) hp (by have := ctN_lt hp ht; omega)
                    have hfr : (frM 1000000 (nkT k) nm D ex m) = h := by rw [frM_is]; exact fstN_eq hPF hlt hh1
                    refine tt_iinc (y := ((i + 1 : Nat) : Int)) rfl (iinc_fit (by omega) (by omega) (by omega)) ?_
                    refine tt_goto ?_
                    refine tt_loc [(0, vR 36), (1, vI (((m : Nat) : Int))), (2, vI (((0 : Nat) : Int))), (3, vI (((i + 1 : Nat) : Int)))] rfl rfl ⟨rfl, rfl, lv_to rfl (by omega), rfl, trivial⟩ ?_
                    exact ih3 (i + 1) (0) _ (by omega) (Fr.put (Fr.tr Fr.rf hF_σ3 (by decide)) (by decide)) (by omega) (by first | exact hKN3 | exact KNs.fr (Fr.put Fr.rf (by decide) : Fr [37] σ3 _) (by decide) hKN3) (by first | exact hfm | exact (fun q hq => by rw [am_set_at, if_neg (by omega)]; exact hfm q hq)) (by first | exact Or.inl ⟨rfl, (am_set_at).trans ((if_pos rfl).trans (by rw [hfr]))⟩ | exact Or.inr hfl3)
                  · refine tt_ifeqT (by decide) ?_
                    have hfl3 : fl = 1 ∧ ∀ g, g < nkT k → (plM 1000000 (nkT k) nm D ex m) g = true → ctN (plM 1000000 (nkT k) nm D ex m) g < i + 1 → (PFM 1000000 (nkT k) nm D ex m) g = false := ⟨by omega, fun g hg hp hc => by
                      by_cases e : ctN (plM 1000000 (nkT k) nm D ex m) g < i
                      · exact hfl2 g hg hp e
                      · have e2 := ctN_inj hp hh2 (by omega)
                        subst e2
                        unfold PFM; rw [hp, show decide (m = 0) = false from decide_eq_false (by omega), show foM 1000000 (nkT k) D ex (m - 1) (frM 1000000 (nkT k) nm D ex (m - 1)) g = false from Bool.eq_false_iff.mpr h3_30]; rfl⟩
                    refine tt_iinc (y := ((i + 1 : Nat) : Int)) rfl (iinc_fit (by omega) (by omega) (by omega)) ?_
                    refine tt_goto ?_
                    refine tt_loc [(0, vR 36), (1, vI (((m : Nat) : Int))), (2, vI (((fl : Nat) : Int))), (3, vI (((i + 1 : Nat) : Int)))] rfl rfl ⟨rfl, rfl, rfl, rfl, trivial⟩ ?_
                    exact ih3 (i + 1) (fl) σ3 (by omega) (Fr.tr Fr.rf hF_σ3 (by decide)) (by omega) (by first | exact hKN3 | exact KNs.fr (Fr.put Fr.rf (by decide) : Fr [37] σ3 _) (by decide) hKN3) (by first | exact hfm | exact (fun q hq => by rw [am_set_at, if_neg (by omega)]; exact hfm q hq)) (by first | exact Or.inl ⟨rfl, (am_set_at).trans ((if_pos rfl).trans (by rw [hfr]))⟩ | exact Or.inr hfl3)
          refine tt_loc [(0, vR 36), (1, vI (((m : Nat) : Int))), (2, vI (((1 : Nat) : Int))), (3, vI (((0 : Nat) : Int)))] rfl rfl ⟨rfl, rfl, lv_to rfl (by omega), lv_to rfl (by omega), trivial⟩ ?_
          exact lp3_4 _ (0) (1) σ2 (Nat.lt_succ_self _) Fr.rf (by omega) (by first | exact hKN2 | exact hKN1) (by first | exact (fun q hq => (hF2.2 37 ⟨by decide, Or.inl (by decide)⟩ q).trans (hfm q hq)) | exact hfm) (Or.inr ⟨rfl, fun g _ _ h => absurd h (Nat.not_lt_zero _)⟩)
  refine tt_loc [(0, vR 36), (1, vI (((0 : Nat) : Int)))] rfl rfl ⟨rfl, lv_to rfl (by omega), trivial⟩ ?_
  exact lp1_1 _ (0) σ (Nat.lt_succ_self _) FZ.rf (by omega) hKN (fun q hq => absurd hq (Nat.not_lt_zero q))

