/-! STEPS KNOWN -/
def szT : Nat → Nat
  | 0 => 0
  | i + 1 => nkT i * nkT i
theorem szT_mono : ∀ i, i < 8 → ∀ j, j < 8 → i ≤ j → szT i ≤ szT j := by decide
theorem nkT_sq : ∀ k, k < 7 → nkT k * nkT k ≤ 213444 := by decide
/-- what kinds there are: those that were stay, of ints there are as many (and as long) -/
def nIN : List am_Ly → Nat
  | [] => 0
  | q :: l => nIN l + if q.1 = .inl .int then 1 else 0
def sIN : List am_Ly → Nat
  | [] => 0
  | q :: l => sIN l + if q.1 = .inl .int then q.2 else 0
theorem nIN_app {q : am_Ly} : ∀ l : List am_Ly, nIN (l ++ [q]) = nIN l + if q.1 = .inl .int then 1 else 0
  | [] => rfl
  | p :: l => by
    show nIN (l ++ [q]) + _ = nIN l + _ + _
    rw [nIN_app l]
    omega
theorem sIN_app {q : am_Ly} : ∀ l : List am_Ly, sIN (l ++ [q]) = sIN l + if q.1 = .inl .int then q.2 else 0
  | [] => rfl
  | p :: l => by
    show sIN (l ++ [q]) + _ = sIN l + _ + _
    rw [sIN_app l]
    omega
def LK (l l' : List am_Ly) : Prop := (∀ (a : Nat) q, l[a]? = some q → l'[a]? = some q) ∧ nIN l' = nIN l ∧ sIN l' = sIN l
theorem LK.rf {l : List am_Ly} : LK l l := ⟨fun _ _ h => h, rfl, rfl⟩
theorem LK.eq {l l' : List am_Ly} (h : l' = l) : LK l l' := h ▸ LK.rf
theorem LK.tr {l l' l'' : List am_Ly} (h : LK l l') (h2 : LK l' l'') : LK l l'' := ⟨fun a q hq => h2.1 a q (h.1 a q hq), h2.2.1.trans h.2.1, h2.2.2.trans h.2.2⟩
theorem LK.new {l : List am_Ly} {q : am_Ly} (h : ¬ q.1 = .inl .int) : LK l (l ++ [q]) := ⟨fun a r hr => by
  rw [List.getElem?_append_left (List.getElem?_eq_some_iff.mp hr).1]
  exact hr, by rw [nIN_app, if_neg h]; omega, by rw [sIN_app, if_neg h]; omega⟩
/-- where the steps known lie -/
def KB (σ : am_S) (kn i : Nat) : Prop := σ.2.1 32 3 = some kn ∧ σ.2.2.1[kn]? = some (.inl .byte, szT i) ∧ (kn = 34 ∨ 76 ≤ kn) ∧ i ≤ 7 ∧ σ.2.2.2.1 ≤ 105 + i + nIN σ.2.2.1 ∧ σ.2.2.2.2 ≤ 310290 + i * 213444 + sIN σ.2.2.1
/-- what is known is right -/
def KNW (k : Nat) (D : Nat → Nat → Int) (σ : am_S) (kn i : Nat) : Prop := KB σ kn i ∧ (∀ h, h < 462 → σ.1 35 h = 0 ∨ σ.1 35 h = 1) ∧ ∀ h, h < nkT k → σ.1 35 h = 1 → k + 1 ≤ i ∧ ∀ g, g < nkT k → σ.1 kn (h * nkT k + g) = D h g
/-- all but the numbers of some cells, and the steps known, is as it was -/
def FK (W : List Nat) (σ σ' : am_S) : Prop := ((Wd σ → Wd σ') ∧ σ'.2.1 10 0 = σ.2.1 10 0 ∧ LK σ.2.2.1 σ'.2.2.1) ∧ ∀ a, a ∉ W → ∀ j, σ'.1 a j = σ.1 a j
theorem FK.rf {W : List Nat} {σ : am_S} : FK W σ σ := ⟨⟨fun h => h, rfl, LK.rf⟩, fun _ _ _ => rfl⟩
theorem FK.of {W : List Nat} {σ σ' : am_S} (h : Fr W σ σ') : FK W σ σ' := ⟨⟨h.wd, by rw [h.1], LK.eq (by rw [h.1])⟩, h.2⟩
theorem FK.tr {W W' W'' : List Nat} {σ σ' σ'' : am_S} (h : FK W σ σ') (h2 : FK W' σ' σ'') (hs : ∀ a ∈ W, a ∈ W'') (hs' : ∀ a ∈ W', a ∈ W'') : FK W'' σ σ'' :=
  ⟨⟨fun q => h2.1.1 (h.1.1 q), h2.1.2.1.trans h.1.2.1, h.1.2.2.tr h2.1.2.2⟩, fun b hb j => (h2.2 b (fun e => hb (hs' b e)) j).trans (h.2 b (fun e => hb (hs b e)) j)⟩
theorem Wd.len {σ : am_S} (hW : Wd σ) : 76 ≤ σ.2.2.1.length := by
  have h := hW.1 75 _ (by decide) rfl
  have := (List.getElem?_eq_some_iff.mp h).1
  omega
theorem Wd.new {σ : am_S} {q : am_Ly} (hW : Wd σ) : Wd (am_new σ q) := by
  have hl := hW.len
  refine ⟨fun a r ha hr => ?_, fun p hp => ?_⟩
  · have := hW.1 a r ha hr
    show (σ.2.2.1 ++ [q])[a]? = some r
    rw [List.getElem?_append_left (List.getElem?_eq_some_iff.mp this).1]
    exact this
  · have h1 := hW.2 p hp
    have h2 : p.1 < 76 := (by decide : ∀ p ∈ wd_rf, p.1 < 76) p hp
    show (if p.1 = σ.2.2.1.length then none else σ.2.1 p.1 p.2.1) = some p.2.2
    rw [if_neg (by omega)]
    exact h1
theorem kn_new {k : Nat} {D : Nat → Nat → Int} {σ : am_S} {kn i : Nat} (hW : Wd σ) (hk : k ≤ 6) (hK : KNW k D σ kn i) (hlt : szT i < nkT k * nkT k) :
    FK [33, 35, σ.2.2.1.length] σ (am_setR (am_new σ (.inl .byte, nkT k * nkT k)) 32 3 (some σ.2.2.1.length)) ∧ KB (am_setR (am_new σ (.inl .byte, nkT k * nkT k)) 32 3 (some σ.2.2.1.length)) σ.2.2.1.length (k + 1) ∧ ∀ h, h < nkT k → σ.1 35 h = 0 := by
  have hl := hW.len
  obtain ⟨⟨h1, h2, h3, h4, h5, h6⟩, h7, h8⟩ := hK
  have hi : i < k + 1 := by
    rcases Nat.lt_or_ge i (k + 1) with e | e
    · exact e
    · have := szT_mono (k + 1) (by omega) i (by omega) e
      have e2 : szT (k + 1) = nkT k * nkT k := rfl
      omega
  have hsq := nkT_sq k (by omega)
  refine ⟨⟨⟨fun _ => Wd.knw (Wd.new hW), ?_, ?_⟩, fun a ha j => ?_⟩, ⟨am_setR_rd, ?_, Or.inr hl, by omega, ?_, ?_⟩, fun h hh => ?_⟩
  · rw [am_setR_ne (by decide)]
    show (if 10 = σ.2.2.1.length then none else σ.2.1 10 0) = _
    rw [if_neg (by omega)]
  · show LK σ.2.2.1 (σ.2.2.1 ++ [_])
    exact LK.new (fun e => by cases e)
  · show (if a = σ.2.2.1.length then 0 else σ.1 a j) = σ.1 a j
    rw [if_neg (fun e => ha (by simp [e]))]
  · show (σ.2.2.1 ++ [_])[σ.2.2.1.length]? = _
    rw [List.getElem?_append_right (Nat.le_refl _), Nat.sub_self]
    rfl
  · show σ.2.2.2.1 + 1 ≤ 105 + (k + 1) + nIN (σ.2.2.1 ++ [_])
    rw [nIN_app, if_neg (fun e => by cases e)]
    omega
  · show σ.2.2.2.2 + nkT k * nkT k ≤ 310290 + (k + 1) * 213444 + sIN (σ.2.2.1 ++ [_])
    rw [sIN_app, if_neg (fun e => by cases e)]
    omega
  · rcases h7 h (by have := nkT_bd k; omega) with e | e
    · exact e
    · have := (h8 h hh e).1
      omega
theorem szT_inv' : ∀ k, k < 7 → ∀ i, i < 8 → nkT k * nkT k ≤ szT i → k + 1 ≤ i := by decide
theorem szT_inv {k i : Nat} (hk : k ≤ 6) (hi : i ≤ 7) (h : nkT k * nkT k ≤ szT i) : k + 1 ≤ i := szT_inv' k (by omega) i (by omega) h
theorem blk_ne {N q f g : Nat} (hg : g < N) (h : q ≠ f) : q * N + g < f * N ∨ f * N + N ≤ q * N + g := by
  rcases Nat.lt_or_ge q f with e | e
  · have h1 := Nat.mul_le_mul_right N (show q + 1 ≤ f by omega)
    rw [Nat.succ_mul] at h1
    omega
  · have h1 := Nat.mul_le_mul_right N (show f + 1 ≤ q by omega)
    rw [Nat.succ_mul] at h1
    omega
theorem LD.eq {k : Nat} {σ σ' : am_S} (R : LD k σ) (q : ∀ a, 5 ≤ a → a ≤ 9 → ∀ j, σ'.1 a j = σ.1 a j) : LD k σ' := by
  obtain ⟨h1, h2, h3, h4, h5⟩ := R
  exact ⟨by rw [q 5 (by omega) (by omega)]; exact h1, h2, fun i hi => by rw [q 7 (by omega) (by omega), q 8 (by omega) (by omega)]; exact h3 i hi, fun i hi => by rw [q 9 (by omega) (by omega)]; exact h4 i hi, fun i hi => by rw [q 6 (by omega) (by omega)]; exact h5 i hi⟩
theorem HT.eq {k : Nat} {σ σ' : am_S} (R : HT k σ) (q : ∀ a, (6 ≤ a ∧ a ≤ 8) ∨ (18 ≤ a ∧ a ≤ 26) → ∀ j, σ'.1 a j = σ.1 a j) : HT k σ' := by
  obtain ⟨h1, h2, h3, h4, h5⟩ := R
  have e6 : σ'.1 6 = σ.1 6 := funext (q 6 (by omega))
  have e7 : σ'.1 7 = σ.1 7 := funext (q 7 (by omega))
  have e8 : σ'.1 8 = σ.1 8 := funext (q 8 (by omega))
  refine ⟨by rw [q 18 (by omega)]; exact h1, fun h hh => ?_, fun h hh s hs => ?_, fun h hh s hs => ?_, fun h hh x hx => ?_⟩
  · obtain ⟨r1, r2, r3⟩ := h2 h hh
    exact ⟨by rw [q 19 (by omega)]; exact r1, by rw [q 20 (by omega)]; exact r2, fun s hs => by rw [q 21 (by omega)]; exact r3 s hs⟩
  · rw [q 22 (by omega), q 23 (by omega)]
    exact h3 h hh s hs
  · rw [q 24 (by omega), e6]
    exact h4 h hh s hs
  · rw [q 25 (by omega), q 26 (by omega), e7, e8]
    exact h5 h hh x hx
theorem SP_c0 {k : Nat} {P : Nat → Nat → Prop} {pg pw pc : Int} {c0 c0' c : Nat → Int} (h : SP k P pg pw pc c0 c) (e : ∀ g, g < nkT k → c0 g = c0' g) : SP k P pg pw pc c0' c := by
  obtain ⟨h1, h2, h3, h4, h5⟩ := h
  refine ⟨fun g hg => by rw [← e g hg]; exact h1 g hg, h2, h3, h4, fun x hx => ?_⟩
  obtain ⟨g, a, b, n1, n2, n3, q0, q1, q2, q3, q4⟩ := h5 x hx
  exact ⟨g, a, b, n1, n2, n3, q0, q1, q2, q3, by rw [← e g q0]; exact q4⟩
theorem w8_2 {x : Int} (h0 : 0 ≤ x) (h1 : x ≤ 90) : w8 (w8 x) = x := by
  rw [w8_i (x := x) (by omega) (by omega), w8_i (by omega) (by omega)]
theorem c93 (σ : am_S) (k from1 kn0 i0 : Nat) (D : Nat → Nat → Int) (hW : Wd σ) (hD : LD k σ) (hH : HT k σ) (hDI : DI k (σ.1 6) (σ.1 9) D) (hK : KNW k D σ kn0 i0) (hf : from1 < nkT k) : CC 93 [vR 32, vI (((from1 : Nat) : Int))] σ (fun r σ' => r = none ∧ ∃ kn i, KNW k D σ' kn i ∧ σ'.1 35 from1 = 1 ∧ (∀ h, σ.1 35 h = 1 → σ'.1 35 h = 1) ∧ FK [33, 35, kn] σ σ') := by
  show TT am_b93 (am_b93.getD 0 []) [(0, vR 32), (1, vI (((from1 : Nat) : Int)))] [] σ _
  have hk6 := hD.2.1
  have hnb := nkT_bd k
  have hsq := nkT_sq k (by omega)
  have hsz0 := szT_mono i0 (by have := hK.1.2.2.2.1; omega) 7 (by omega) hK.1.2.2.2.1
  have hs7 : szT 7 = 213444 := rfl
  have lp2_1 : ∀ (kn : Nat) (i : Nat) (σn : am_S), (Wd σn) → (FK [33, 35, kn] σ σn) → (KB σn kn i) → (k + 1 ≤ i) → (LD k σn) → (HT k σn) → (σn.1 6 = σ.1 6) → (σn.1 9 = σ.1 9) → (∀ h, h < 462 → σn.1 35 h = 0 ∨ σn.1 35 h = 1) → (∀ h, σn.1 35 h = σ.1 35 h) → (∀ h, h < nkT k → σn.1 35 h = 1 → ∀ g, g < nkT k → σn.1 kn (h * nkT k + g) = D h g) → TT am_b93 (am_b93.getD 2 []) [(0, vR 32), (1, vI (((from1 : Nat) : Int))), (2, vI (((nkT k : Nat) : Int)))] [] σn (fun r σ' => r = none ∧ ∃ kn i, KNW k D σ' kn i ∧ σ'.1 35 from1 = 1 ∧ (∀ h, σ.1 35 h = 1 → σ'.1 35 h = 1) ∧ FK [33, 35, kn] σ σ') := by
    intro kn i σn hW_σn hFn hKB hki hDn hHn e6 e9 h35 hO35 hKd
    have hkn := hKB.2.2.1
    have hNs : nkT k * nkT k ≤ szT i := szT_mono (k + 1) (by omega) i (by have := hKB.2.2.2.1; omega) hki
    refine tt_ar rfl ?_
    refine tt_getR (wo_32 hW_σn) rfl (wr_32_2 hW_σn) ?_
    refine tt_ar rfl ?_
    refine tt_cs2 2 rfl (c4 σn 33 462 1000000 (wa_33 hW_σn) (by decide) (by rfl)) ?_
    intro r0 σ1 hq0
    obtain ⟨rfl, hF1, hC1⟩ := hq0
    have hW2 := Fr.wd hF1 hW_σn
    refine tt_ar rfl ?_
    refine tt_getR (wo_32 hW2) rfl (wr_32_2 hW2) ?_
    refine tt_ar rfl ?_
    refine tt_ar rfl ?_
    refine tt_iast (from1) (wa_33 hW2) (by omega) rfl (by omega) ?_
    refine tt_ar rfl ?_
    refine tt_ar rfl ?_
    refine tt_getR (wo_32 hW2) rfl (wr_32_2 hW2) ?_
    have hd0 : ∀ g, g < nkT k → (am_set σ1 33 from1 0).1 33 g = dlN from1 g := fun g hg => by rw [am_set_up]; unfold upI dlN; split; rfl; (rw [hC1 g, if_pos (by omega)])
    have hb0 : bnN (nkT k) ((am_set σ1 33 from1 0).1 33) := fun g hg => by rw [hd0 g hg]; unfold dlN; split <;> omega
    refine tt_cv2 2 rfl (wo_32 hW2) (c94_33 (am_set σ1 33 (from1) (0)) k hW2 (LD.fr (Fr.put hF1 (by decide) : Fr [33] σn (am_set σ1 33 from1 0)) (by decide) hDn) (HT.fr (Fr.put hF1 (by decide) : Fr [33] σn (am_set σ1 33 from1 0)) (by decide) hHn) hb0) ?_
    intro r0 σ2 hq0
    obtain ⟨rfl, hF2, hbn2, hSP⟩ := hq0
    have hW3 := Fr.wd hF2 hW2
    rw [show (am_set σ1 33 from1 0).1 6 = σ.1 6 from (funext (fun j => hF1.2 6 (by decide) j) : σ1.1 6 = σn.1 6).trans e6, show (am_set σ1 33 from1 0).1 9 = σ.1 9 from (funext (fun j => hF1.2 9 (by decide) j) : σ1.1 9 = σn.1 9).trans e9] at hSP
    have hDw : ∀ g, g < nkT k → σ2.1 33 g = D from1 g := fun g hg => SP_eq (SP_c0 hSP hd0) (hDI from1 hf) hg
    have hFn2 : Fr [33] σn σ2 := Fr.tr (Fr.put hF1 (by decide)) hF2 (by decide)
    refine tt_ar rfl ?_
    refine tt_ar rfl ?_
    refine tt_nop ?_
    have lp3_4 : ∀ (μ : Nat) (h : Nat) (σ3 : am_S), nkT k - h < μ → Fr [kn] σ2 σ3 → (h ≤ nkT k) → (∀ g, g < h → σ3.1 kn (from1 * nkT k + g) = D from1 g) → (∀ j, (j < from1 * nkT k ∨ from1 * nkT k + nkT k ≤ j) → σ3.1 kn j = σ2.1 kn j) → TT am_b93 (am_b93.getD 3 []) [(0, vR 32), (1, vI (((from1 : Nat) : Int))), (2, vI (((nkT k : Nat) : Int))), (3, vI (((h : Nat) : Int)))] [] σ3 (fun r σ' => r = none ∧ ∃ kn i, KNW k D σ' kn i ∧ σ'.1 35 from1 = 1 ∧ (∀ h, σ.1 35 h = 1 → σ'.1 35 h = 1) ∧ FK [33, 35, kn] σ σ') := by
      intro μ
      induction μ with
      | zero => intro h σ3 hμ; exact absurd hμ (Nat.not_lt_zero _)
      | succ μ ih3 =>
        intro h σ3 hμ hF_σ3 hh hA hO
        have hW_σ3 := Fr.wd hF_σ3 hW3
        have hFn3 : Fr [33, kn] σn σ3 := Fr.tr (Fr.mono hFn2 (by simp)) hF_σ3 (by simp)
        have hfn : (from1 + 1) * nkT k ≤ nkT k * nkT k := Nat.mul_le_mul_right _ (by omega)
        have hfn2 : (from1 + 1) * nkT k = from1 * nkT k + nkT k := Nat.succ_mul _ _
        refine tt_ar rfl ?_
        refine tt_ar rfl ?_
        refine tt_icge (fun h3_2 => ?_) (fun h3_2 => ?_)
        · refine tt_ar rfl ?_
          refine tt_getR (wo_32 hW_σ3) rfl (wr_32_4 hW_σ3) ?_
          refine tt_ar rfl ?_
          refine tt_ar rfl ?_
          refine tt_bastZ (from1) (wa_35 hW_σ3) (by omega) rfl (by omega) ?_
          refine tt_vret ?_
          have hne : kn ≠ 35 := by omega
          have hne3 : kn ≠ 33 := by omega
          refine ⟨rfl, kn, i, ⟨⟨(congrArg (fun z => z.1 32 3) hFn3.1).trans hKB.1, (congrArg (fun z => z.2.1[kn]?) hFn3.1).trans hKB.2.1, hkn, hKB.2.2.2.1, (by show σ3.2.2.2.1 ≤ 105 + i + nIN σ3.2.2.1; rw [hFn3.1]; exact hKB.2.2.2.2.1), (by show σ3.2.2.2.2 ≤ 310290 + i * 213444 + sIN σ3.2.2.1; rw [hFn3.1]; exact hKB.2.2.2.2.2)⟩, ?_, ?_⟩, ?_, ?_, ?_⟩
          · intro q hq; rw [am_set_at]; split; exact Or.inr rfl; rw [hFn3.2 35 (by simp; omega)]; exact h35 q hq
          · intro q hq e
            refine ⟨hki, fun g hg => ?_⟩
            show (if kn = 35 ∧ _ then _ else σ3.1 kn _) = _
            rw [if_neg (fun z => hne z.1)]
            by_cases e2 : q = from1
            · subst e2; exact hA g (by omega)
            · rw [am_set_at, if_neg e2, hFn3.2 35 (by simp; omega)] at e
              have e3 := blk_ne (N := nkT k) (q := q) (f := from1) hg e2
              rw [hO _ e3, hFn2.2 kn (by simp; omega)]
              exact hKd q hq e g hg
          · exact (am_set_at).trans (if_pos rfl)
          · intro q e
            by_cases e2 : q = from1
            · subst e2; exact (am_set_at).trans (if_pos rfl)
            · rw [am_set_at, if_neg e2, hFn3.2 35 (by simp; omega), hO35]; exact e
          · exact FK.tr hFn (FK.tr (FK.of hFn3) (FK.of (Fr.put Fr.rf (by simp) : Fr [35] σ3 _)) (W'' := [33, 35, kn]) (by simp) (by simp)) (by simp) (by simp)
        · refine tt_ar rfl ?_
          refine tt_getR (wo_32 hW_σ3) rfl ((congrArg (fun z => z.1 32 3) hFn3.1).trans hKB.1) ?_
          refine tt_ar rfl ?_
          refine tt_ar rfl ?_
          refine tt_bI (g := fun a b => w32 (a * b)) (z := ((from1 * (nkT k) : Nat) : Int)) rfl (by rw [← Int.natCast_mul]; exact w32_i (by omega) (by omega)) ?_
          refine tt_ar rfl ?_
          refine tt_iadd (by omega) (by omega) ?_
          refine tt_ar rfl ?_
          refine tt_getR (wo_32 hW_σ3) rfl (wr_32_2 hW_σ3) ?_
          refine tt_ar rfl ?_
          refine tt_iald (h) (x := D from1 h) (wa_33 hW_σ3) rfl (by omega) ((hF_σ3.2 33 (by simp only [List.mem_cons, List.not_mem_nil, or_false, not_or]; omega) (h)).trans (hDw h (by omega))) ?_
          have hdb := DI.bd (D := D) hk6 hD.2.2.2.1 hDI hf (show h < nkT k by omega)
          refine tt_ar rfl ?_
          refine tt_bastB (((from1 * (nkT k)) + h)) ((congrArg (fun z => z.2.1[kn]?) hFn3.1).trans hKB.2.1) (by omega) (by omega) (by omega) ?_
          refine tt_iinc (y := ((h + 1 : Nat) : Int)) rfl (iinc_fit (by omega) (by omega) (by omega)) ?_
          refine tt_goto ?_
          refine tt_loc [(0, vR 32), (1, vI (((from1 : Nat) : Int))), (2, vI (((nkT k : Nat) : Int))), (3, vI (((h + 1 : Nat) : Int)))] rfl rfl ⟨rfl, rfl, rfl, rfl, trivial⟩ ?_
          exact ih3 (h + 1) _ (by omega) (Fr.put (Fr.tr Fr.rf hF_σ3 (by simp)) (by simp)) (by omega) (fun g hg => by rw [am_set_at]; by_cases e : g = h; (subst e; rw [if_pos rfl]; exact w8_2 hdb.1 hdb.2); (rw [if_neg (by omega)]; exact hA g (by omega))) (fun j hj => by rw [am_set_at, if_neg (by omega)]; exact hO j hj)
    refine tt_loc [(0, vR 32), (1, vI (((from1 : Nat) : Int))), (2, vI (((nkT k : Nat) : Int))), (3, vI (((0 : Nat) : Int)))] rfl rfl ⟨rfl, rfl, rfl, lv_to rfl (by omega), trivial⟩ ?_
    exact lp3_4 _ (0) σ2 (Nat.lt_succ_self _) Fr.rf (by omega) (fun g hg => absurd hg (Nat.not_lt_zero g)) (fun j _ => rfl)
  refine tt_ar rfl ?_
  refine tt_getR (wo_32 hW) rfl (wr_32_4 hW) ?_
  refine tt_ar rfl ?_
  refine tt_baldZ (from1) (x := σ.1 35 (from1)) (wa_35 hW) rfl (by omega) rfl ?_
  refine tt_ifeq (fun h0_4 => ?_) (fun h0_4 => ?_)
  · refine tt_ar rfl ?_
    refine tt_getR (wo_32 hW) rfl (wr_32_1 hW) ?_
    refine tt_getI (x := ((nkT k : Nat) : Int)) (wo_18 hW) rfl hH.1 ?_
    refine tt_ar rfl ?_
    refine tt_ar rfl ?_
    refine tt_getR (wo_32 hW) rfl hK.1.1 ?_
    refine tt_alen hK.1.2.1 (by simpa using (show szT i0 < 1000000 by omega)) ?_
    refine tt_ar rfl ?_
    refine tt_ar rfl ?_
    refine tt_bI (g := fun a b => w32 (a * b)) (z := (((nkT k) * (nkT k) : Nat) : Int)) rfl (by rw [← Int.natCast_mul]; exact w32_i (by omega) (by omega)) ?_
    refine tt_icge (fun h1_10 => ?_) (fun h1_10 => ?_)
    · have hki0 : nkT k * nkT k ≤ szT i0 := by omega
      have B_hW_σn := hW
      have B_hFn : FK [33, 35, kn0] σ σ := FK.rf
      have B_hKB := hK.1
      have B_hki : k + 1 ≤ i0 := szT_inv (by omega) hK.1.2.2.2.1 hki0
      have B_hDn := hD
      have B_hHn := hH
      have B_e6 : σ.1 6 = σ.1 6 := rfl
      have B_e9 : σ.1 9 = σ.1 9 := rfl
      have B_h35 := hK.2.1
      have B_hO35 : ∀ h, σ.1 35 h = σ.1 35 h := fun _ => rfl
      have B_hKd := fun h hh e => (hK.2.2 h hh e).2
      refine tt_loc [(0, vR 32), (1, vI (((from1 : Nat) : Int))), (2, vI (((nkT k : Nat) : Int)))] rfl rfl ⟨rfl, rfl, rfl, trivial⟩ ?_
      exact lp2_1 (kn0) (i0) σ (by first | exact A_hW_σn | exact B_hW_σn) (by first | exact A_hFn | exact B_hFn) (by first | exact A_hKB | exact B_hKB) (by first | exact A_hki | exact B_hki) (by first | exact A_hDn | exact B_hDn) (by first | exact A_hHn | exact B_hHn) (by first | exact A_e6 | exact B_e6) (by first | exact A_e9 | exact B_e9) (by first | exact A_h35 | exact B_h35) (by first | exact A_hO35 | exact B_hO35) (by first | exact A_hKd | exact B_hKd)
    · refine tt_ar rfl ?_
      refine tt_ar rfl ?_
      refine tt_ar rfl ?_
      refine tt_bI (g := fun a b => w32 (a * b)) (z := (((nkT k) * (nkT k) : Nat) : Int)) rfl (by rw [← Int.natCast_mul]; exact w32_i (by omega) (by omega)) ?_
      refine tt_newa (by omega) (by omega) ?_
      refine tt_putR (wo_32 (Wd.new hW)) rfl ?_
      have hsz : szT i0 < nkT k * nkT k := by omega
      obtain ⟨A_hFn, A_hKB, hz35⟩ := kn_new hW hk6 hK hsz
      have A_hW_σn := A_hFn.1.1 hW
      obtain ⟨σn, hσn⟩ : ∃ x, x = am_setR (am_new σ (.inl .byte, nkT k * nkT k)) 32 3 (some σ.2.2.1.length) := ⟨_, rfl⟩
      rw [← hσn] at A_hFn A_hKB A_hW_σn
      refine tt_st hσn.symm ?_
      have hl := hW.len
      have A_hki : k + 1 ≤ k + 1 := Nat.le_refl _
      have q : ∀ a, a < 76 → a ≠ 33 → a ≠ 35 → ∀ j, σn.1 a j = σ.1 a j := fun a h1 h2 h3 j => A_hFn.2 a (by simp; omega) j
      have A_e6 : σn.1 6 = σ.1 6 := funext (q 6 (by omega) (by omega) (by omega))
      have A_e9 : σn.1 9 = σ.1 9 := funext (q 9 (by omega) (by omega) (by omega))
      have A_hDn : LD k σn := LD.eq hD (fun a h1 h2 => q a (by omega) (by omega) (by omega))
      have A_hHn : HT k σn := HT.eq hH (fun a h1 => q a (by omega) (by omega) (by omega))
      have e35 : ∀ h, σn.1 35 h = σ.1 35 h := fun h => by rw [hσn]; show (if 35 = σ.2.2.1.length then 0 else σ.1 35 h) = _; rw [if_neg (by omega)]
      have A_hO35 := e35
      have A_h35 : ∀ h, h < 462 → σn.1 35 h = 0 ∨ σn.1 35 h = 1 := fun h hh => by rw [e35]; exact hK.2.1 h hh
      have A_hKd : ∀ h, h < nkT k → σn.1 35 h = 1 → ∀ g, g < nkT k → σn.1 σ.2.2.1.length (h * nkT k + g) = D h g := fun h hh e => by rw [e35, hz35 h hh] at e; cases e
      refine tt_nop ?_
      refine tt_loc [(0, vR 32), (1, vI (((from1 : Nat) : Int))), (2, vI (((nkT k : Nat) : Int)))] rfl rfl ⟨rfl, rfl, rfl, trivial⟩ ?_
      exact lp2_1 (σ.2.2.1.length) (k + 1) σn (by first | exact A_hW_σn | exact B_hW_σn) (by first | exact A_hFn | exact B_hFn) (by first | exact A_hKB | exact B_hKB) (by first | exact A_hki | exact B_hki) (by first | exact A_hDn | exact B_hDn) (by first | exact A_hHn | exact B_hHn) (by first | exact A_e6 | exact B_e6) (by first | exact A_e9 | exact B_e9) (by first | exact A_h35 | exact B_h35) (by first | exact A_hO35 | exact B_hO35) (by first | exact A_hKd | exact B_hKd)
  · refine tt_vret ?_
    exact ⟨rfl, kn0, i0, hK, (by have := hK.2.1 from1 (by omega); omega), fun _ e => e, FK.rf⟩

