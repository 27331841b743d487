/-! THE CLASS AS IT WAS MADE -/
theorem chn_n {g : Nat → Nat → Int} {a j : Nat} (h : a ≠ 2 ∧ a ≠ 27 ∧ a ≠ 36 ∧ a ≠ 47 ∧ (a < 56 ∨ 75 ≤ a ∨ a % 2 = 1)) : chn g a j = g a j := by
  unfold chn
  repeat rw [setf_ne (by omega)]
theorem wd_k {L : Nat} {f : Nat → Nat → Int} : Wd ((f, Cs L 74 85) : am_S) := by
  refine ⟨fun a q ha hq => ?_, ?_⟩
  · match a, ha with
    | 0, _ => exact hq
    | 1, h => exact absurd rfl h
    | a + 2, _ =>
      show (cs_ly.take 74)[a]? = some q
      rw [show cs_ly.take 74 = cs_ly from rfl]
      exact hq
  · show ∀ p ∈ wd_rf, rfL (cs_rf.take 85) p.1 p.2.1 = some p.2.2
    decide +kernel
def lw_f (xs : Nat → Int32) : Nat → Nat → Int := fun a j => if a = 0 then (am_wv j).toInt else if a = 1 then (xs j).toInt else 0
/-- the kinds there are when the class is made -/
def lw_k0 (L : Nat) : List am_Ly := (.inl .int, 6) :: (.inl .int, L) :: cs_ly
theorem lw_made {L : Nat} {xs : Nat → Int32} {g3 : Nat → Nat → Int} {σ' : am_S} (hHT : HT 0 (g3, Cs L 0 0)) (hW5 : W5 g3) (e3 : ∀ a, (a < 5 ∨ 26 < a ∨ a = 10 ∨ a = 12) → ∀ j, g3 a j = lw_f xs a j) (e2 : σ'.2 = Cs L 74 85) (p0 : ∀ a, a < 76 → ∀ j, σ'.1 a j = chn g3 a j) : (∃ D, CI 0 0 0 D σ') ∧ (∀ j, σ'.1 1 j = (xs j).toInt) ∧ σ'.2.2.1 = lw_k0 L ∧ σ'.1 47 2 = 0 := by
  have hWd : Wd σ' := by
    have := wd_k (L := L) (f := σ'.1)
    rw [← e2] at this
    exact this
  have q : ∀ a, a < 76 → (a ≠ 2 ∧ a ≠ 27 ∧ a ≠ 36 ∧ a ≠ 47 ∧ (a < 56 ∨ 75 ≤ a ∨ a % 2 = 1)) → ∀ j, σ'.1 a j = g3 a j := fun a h1 h2 j => (p0 a h1 j).trans (chn_n h2)
  have qz : ∀ a, a < 76 → 27 < a → (a ≠ 36 ∧ a ≠ 47 ∧ (a < 56 ∨ 75 ≤ a ∨ a % 2 = 1)) → ∀ j, σ'.1 a j = 0 := fun a h1 h2 h3 j => by
    rw [q a h1 (by omega) j, e3 a (by omega) j]
    unfold lw_f
    rw [if_neg (by omega), if_neg (by omega)]
  have hs : ∀ r, r < 10 → σ'.1 (56 + 2 * r) 1 = -1 := fun r hr => (p0 (56 + 2 * r) (by omega) 1).trans (match r, hr with
    | 0, _ => rfl | 1, _ => rfl | 2, _ => rfl | 3, _ => rfl | 4, _ => rfl | 5, _ => rfl | 6, _ => rfl | 7, _ => rfl | 8, _ => rfl | 9, _ => rfl
    | r + 10, h => absurd h (by omega))
  have w5 : W5 σ'.1 := w5_fr hW5 (fun a h1 h2 j => q a (by omega) (by omega) j)
  have hLD : LD 0 σ' := ld_0 (f := σ'.1) (c := σ'.2) w5
  have hHT' : HT 0 σ' := ht_fr (f := g3) (g := σ'.1) (c' := σ'.2) hHT (fun a h1 h2 => funext (q a (by omega) (by omega)))
  have h27 : σ'.1 27 0 = 0 := p0 27 (by omega) 0
  have h47 : σ'.1 47 2 = 0 := p0 47 (by omega) 2
  have hLN : LN 0 σ' := ⟨h27, by omega, fun m hm => by rw [qz 28 (by omega) (by omega) (by omega) m, qz 29 (by omega) (by omega) (by omega) m]; decide, fun i hi => by rw [qz 30 (by omega) (by omega) (by omega) i]; decide⟩
  obtain ⟨D, hDI⟩ := DI_ex hWd hLD hHT'
  have hWR : WR σ' := fun j hj => by
    rw [q 0 (by omega) (by omega) j, e3 0 (by omega) j]
    exact (by decide : ∀ j, j < 6 → (am_wv j).toInt = ((10 ^ j : Nat) : Int)) j hj
  have h35 : ∀ j, σ'.1 35 j = 0 := qz 35 (by omega) (by omega) (by omega)
  have hKB : KB σ' 34 0 := by
    unfold KB
    rw [e2]
    exact ⟨rfl, rfl, Or.inl rfl, by omega, Nat.le_trans (by decide : (74 : Nat) ≤ 105 + 0) (Nat.le_add_right _ _), Nat.le_trans (by decide +kernel : szL (cs_ly.take 74) ≤ 310290 + 0 * 213444) (Nat.le_add_right _ _)⟩
  have hKN : KNs 0 D σ' := ⟨34, 0, hKB, fun h _ => Or.inl (h35 h), fun h _ e => absurd ((h35 h).symm.trans e) (by decide)⟩
  have hCI : CI 0 0 0 D σ' := ⟨hWd, hWR, ⟨hLD, hHT', hLN, hDI⟩, ⟨h47, by omega⟩, ⟨by omega, fun e he => absurd he (Nat.not_lt_zero e)⟩, hKN, fun r hr => by rw [hs r (by omega)]; decide,
    fun t ht => ⟨by rw [show 68 + 2 * t = 56 + 2 * (t + 6) by omega, hs (t + 6) (by omega)]; decide, fun j hj => by rw [qz (69 + 2 * t) (by omega) (by omega) (by omega) j]; decide⟩, Or.inl (p0 36 (by omega) 4), Or.inl (p0 36 (by omega) 5)⟩
  refine ⟨⟨D, hCI⟩, fun j => (q 1 (by omega) (by omega) j).trans (e3 1 (by omega) j), ?_, h47⟩
  rw [e2]
  show (.inl .int, 6) :: (.inl .int, L) :: cs_ly.take 74 = _
  rw [show cs_ly.take 74 = cs_ly from rfl]
  rfl
