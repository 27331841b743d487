/-! THE REFERENCE: TALES -/
theorem mi_c (x : Int) : (x < 100000 ∧ miN 100000 x = x) ∨ (100000 ≤ x ∧ miN 100000 x = 100000) := by
  unfold miN
  split <;> omega
theorem mn_map {c c' : Nat → Int} : ∀ {n : Nat}, (∀ g, g < n → miN 100000 (c g) = miN 100000 (c' g)) → mnN 100000 n c = miN 100000 (mnN 1000000 n c')
  | 0, _ => by
    show (100000 : Int) = miN 100000 1000000
    rfl
  | n + 1, h => by
    have ih := mn_map (n := n) (fun g hg => h g (by omega))
    have hn := h n (by omega)
    have h1 := mi_c (c n)
    have h2 := mi_c (c' n)
    have h3 := mi_c (mnN 1000000 n c')
    have h4 := mnN_le (F := 1000000) (f := c') n
    show (if c n < mnN 100000 n c then c n else mnN 100000 n c) = miN 100000 (if c' n < mnN 1000000 n c' then c' n else mnN 1000000 n c')
    rw [ih]
    split
    · split <;> omega
    · split <;> omega
theorem mn_frt {a d : Nat → Int} {e : Int} (he : 0 ≤ e) : ∀ {n : Nat}, (∀ g, g < n → 0 ≤ d g) → mnN 100000 n (fun g => miN 100000 (a g) + d g + e) = miN 100000 (mnN 1000000 n (fun g => a g + d g) + e)
  | 0, _ => by
    have := mi_c (1000000 + e)
    show (100000 : Int) = miN 100000 (1000000 + e)
    omega
  | n + 1, h => by
    have ih := mn_frt he (a := a) (d := d) (n := n) (fun g hg => h g (by omega))
    have hn := h n (by omega)
    have h1 := mi_c (a n)
    have h3 := mi_c (mnN 1000000 n (fun g => a g + d g) + e)
    have h4 := mnN_le (F := 1000000) (f := fun g => a g + d g) n
    show (if miN 100000 (a n) + d n + e < mnN 100000 n (fun g => miN 100000 (a g) + d g + e) then miN 100000 (a n) + d n + e else mnN 100000 n (fun g => miN 100000 (a g) + d g + e)) = miN 100000 ((if a n + d n < mnN 1000000 n (fun g => a g + d g) then a n + d n else mnN 1000000 n (fun g => a g + d g)) + e)
    rw [ih]
    have h5 := mi_c (a n + d n + e)
    split
    · split
      · omega
      · omega
    · split
      · omega
      · omega
theorem mi_add {a b : Int} (ha : 0 ≤ a) (hb : 0 ≤ b) : miN 100000 (miN 100000 a + miN 100000 b) = miN 100000 (a + b) := by
  have h1 := mi_c a
  have h2 := mi_c b
  have h3 := mi_c (a + b)
  have h4 := mi_c (miN 100000 a + miN 100000 b)
  omega
/-- the tales of the reference while they are set: up to a household, behind it -/
def ftR (N : Nat) (D : Nat → Nat → Int) (a : Nat → Int) (m h : Nat) (b : Int) (g : Nat) : Int := if m = 0 then (if b < 100000 then D 0 h + b else 100000) else if b < 100000 then mnN 100000 g (fun g => miN 100000 (a g) + D g h + b) else 100000
def rsR (D : Nat → Nat → Int) (b : Nat → Int) (e : Nat → Int) (last : Prop) [Decidable last] (h g : Nat) : Int := if last then 0 else mnN 100000 g (fun g => if e g < 100000 then D h g + e g + b g else 100000)
section TL
variable {N n : Nat} {D ex : Nat → Nat → Int}
theorem ftR_end (hN : 0 < N) (hD9 : ∀ a b, a < N → b < N → 0 ≤ D a b ∧ D a b ≤ 90) (he : ∀ m h, h < N → 0 ≤ ex m h) (hx : ∀ m h, ex m h ≤ 9 ∨ ex m h = 1000000) {m h : Nat} (hh : h < N) : ftR N D (ahN 1000000 N D ex (m - 1)) m h (miN 100000 (ex m h)) N = miN 100000 (ahN 1000000 N D ex m h) := by
  have hD : ∀ a b, a < N → b < N → 0 ≤ D a b := fun a b ha hb => (hD9 a b ha hb).1
  have h1 := mi_c (ex m h)
  have h2 := hx m h
  have h3 := he m h hh
  unfold ftR
  cases m with
  | zero =>
    rw [if_pos rfl]
    have h4 := hD9 0 h hN hh
    have h5 := mi_c (miN 1000000 (D 0 h + ex 0 h))
    show _ = miN 100000 (miN 1000000 (D 0 h + ex 0 h))
    unfold miN at h5 ⊢
    split
    · split <;> split <;> (try split) <;> omega
    · split <;> split <;> (try split) <;> omega
  | succ m =>
    rw [if_neg (by omega), Nat.add_sub_cancel]
    show _ = miN 100000 (miN 1000000 (mnN 1000000 N (fun g => ahN 1000000 N D ex m g + D g h) + ex (m + 1) h))
    have h4 := mnN_bd (F := 1000000) (n := N) (f := fun g => ahN 1000000 N D ex m g + D g h) (by omega) (fun g hg => by have := ahN_bd (F := 1000000) (by omega) hN hD he m hg; have := hD g h hg hh; omega)
    by_cases hb : miN 100000 (ex (m + 1) h) < 100000
    · rw [if_pos hb, show miN 100000 (ex (m + 1) h) = ex (m + 1) h by omega, mn_frt h3 (fun g hg => hD g h hg hh)]
      have h5 := mi_c (mnN 1000000 N (fun g => ahN 1000000 N D ex m g + D g h) + ex (m + 1) h)
      have h6 := mi_c (miN 1000000 (mnN 1000000 N (fun g => ahN 1000000 N D ex m g + D g h) + ex (m + 1) h))
      have h7 : (mnN 1000000 N (fun g => ahN 1000000 N D ex m g + D g h) + ex (m + 1) h < 1000000 ∧ miN 1000000 (mnN 1000000 N (fun g => ahN 1000000 N D ex m g + D g h) + ex (m + 1) h) = mnN 1000000 N (fun g => ahN 1000000 N D ex m g + D g h) + ex (m + 1) h) ∨ (1000000 ≤ mnN 1000000 N (fun g => ahN 1000000 N D ex m g + D g h) + ex (m + 1) h ∧ miN 1000000 (mnN 1000000 N (fun g => ahN 1000000 N D ex m g + D g h) + ex (m + 1) h) = 1000000) := by
        unfold miN
        split <;> omega
      omega
    · rw [if_neg hb]
      have e : ex (m + 1) h = 1000000 := by omega
      have h7 : miN 1000000 (mnN 1000000 N (fun g => ahN 1000000 N D ex m g + D g h) + ex (m + 1) h) = 1000000 := if_neg (by omega)
      rw [h7]
      rfl
theorem rsR_end (hD : ∀ a b, a < N → b < N → 0 ≤ D a b) (he : ∀ m h, h < N → 0 ≤ ex m h) (hx : ∀ m h, ex m h ≤ 9 ∨ ex m h = 1000000) {m h : Nat} (hm : m < n) (hh : h < N) : rsR D (fun g => miN 100000 (bkN 1000000 N n D ex (n - 1 - (m + 1)) g)) (fun g => miN 100000 (ex (m + 1) g)) (m + 1 = n) h N = miN 100000 (bkN 1000000 N n D ex (n - 1 - m) h) := by
  unfold rsR
  by_cases e : m + 1 = n
  · rw [if_pos e, show n - 1 - m = 0 by omega]
    rfl
  · rw [if_neg e, bk_at (by omega) (by omega)]
    refine mn_map (fun g hg => ?_)
    have h1 := mi_c (ex (m + 1) g)
    have h2 := hx (m + 1) g
    have h3 := he (m + 1) g hg
    have h4 := (bkN_bd (F := 1000000) (n := n) (by omega) hD he (n - 1 - (m + 1)) hg).1
    have h5 := hD h g hh hg
    have h6 := mi_c (bkN 1000000 N n D ex (n - 1 - (m + 1)) g)
    show miN 100000 (if miN 100000 (ex (m + 1) g) < 100000 then D h g + miN 100000 (ex (m + 1) g) + miN 100000 (bkN 1000000 N n D ex (n - 1 - (m + 1)) g) else 100000) = miN 100000 (miN 1000000 (bkN 1000000 N n D ex (n - 1 - (m + 1)) g + ex (m + 1) g) + D h g)
    by_cases hb : miN 100000 (ex (m + 1) g) < 100000
    · rw [if_pos hb]
      have h7 : (bkN 1000000 N n D ex (n - 1 - (m + 1)) g + ex (m + 1) g < 1000000 ∧ miN 1000000 (bkN 1000000 N n D ex (n - 1 - (m + 1)) g + ex (m + 1) g) = bkN 1000000 N n D ex (n - 1 - (m + 1)) g + ex (m + 1) g) ∨ (1000000 ≤ bkN 1000000 N n D ex (n - 1 - (m + 1)) g + ex (m + 1) g ∧ miN 1000000 (bkN 1000000 N n D ex (n - 1 - (m + 1)) g + ex (m + 1) g) = 1000000) := by
        unfold miN
        split <;> omega
      have h8 := mi_c (D h g + miN 100000 (ex (m + 1) g) + miN 100000 (bkN 1000000 N n D ex (n - 1 - (m + 1)) g))
      have h9 := mi_c (miN 1000000 (bkN 1000000 N n D ex (n - 1 - (m + 1)) g + ex (m + 1) g) + D h g)
      omega
    · rw [if_neg hb]
      have h7 : miN 1000000 (bkN 1000000 N n D ex (n - 1 - (m + 1)) g + ex (m + 1) g) = 1000000 := if_neg (by omega)
      have h8 := mi_c 100000
      have h9 := mi_c (1000000 + D h g)
      rw [h7]
      omega
theorem lst_end (hN : 0 < N) (hD : ∀ a b, a < N → b < N → 0 ≤ D a b) (he : ∀ m h, h < N → 0 ≤ ex m h) (hn : 0 < n) : mnN 100000 N (fun h => miN 100000 (ctM 1000000 N n D ex 0 h)) = miN 100000 (bsN 1000000 N n D ex) := by
  have lb : ∀ h, h < N → bsN 1000000 N n D ex ≤ ctM 1000000 N n D ex 0 h := fun h hh => tale_lb (by omega) hN hD he hn _ rfl hn hh
  have h1 := mnN_le (F := 100000) (f := fun h => miN 100000 (ctM 1000000 N n D ex 0 h)) N
  have h2 := mi_c (bsN 1000000 N n D ex)
  have h3 := mnN_or (F := 100000) (f := fun h => miN 100000 (ctM 1000000 N n D ex 0 h)) N
  have h5 : bsN 1000000 N n D ex ≤ 1000000 := by
    unfold bsN
    rw [if_neg (by omega)]
    exact mnN_le N
  by_cases ht : bsN 1000000 N n D ex < 1000000
  · obtain ⟨g, hg, hp⟩ := first_0 (F := 1000000) (by omega) hN hD he hn ht 0 hn
    have e : ctM 1000000 N n D ex 0 g = bsN 1000000 N n D ex := of_decide_eq_true hp
    have h4 : mnN 100000 N (fun h => miN 100000 (ctM 1000000 N n D ex 0 h)) ≤ miN 100000 (ctM 1000000 N n D ex 0 g) := mnN_lt (f := fun h => miN 100000 (ctM 1000000 N n D ex 0 h)) hg
    rw [e] at h4
    rcases h3 with q | ⟨i, hi, q⟩
    · omega
    · have q : mnN 100000 N (fun h => miN 100000 (ctM 1000000 N n D ex 0 h)) = miN 100000 (ctM 1000000 N n D ex 0 i) := q
      have := lb i hi
      have := mi_c (ctM 1000000 N n D ex 0 i)
      omega
  · rcases h3 with q | ⟨i, hi, q⟩
    · omega
    · have q : mnN 100000 N (fun h => miN 100000 (ctM 1000000 N n D ex 0 h)) = miN 100000 (ctM 1000000 N n D ex 0 i) := q
      have := lb i hi
      have := mi_c (ctM 1000000 N n D ex 0 i)
      omega
/-- costs are small or there are none -/
theorem ah_dc (hN : 0 < N) (hD : ∀ a b, a < N → b < N → 0 ≤ D a b ∧ D a b ≤ 90) (he : ∀ m h, h < N → 0 ≤ ex m h) (hx : ∀ m h, ex m h ≤ 9 ∨ ex m h = 1000000) : ∀ (m : Nat) {h : Nat}, h < N → ahN 1000000 N D ex m h = 1000000 ∨ ahN 1000000 N D ex m h ≤ 99 * ((m : Int) + 1)
  | 0, h, hh => by
    have h1 := hD 0 h hN hh
    have h2 := hx 0 h
    have h3 := he 0 h hh
    show miN 1000000 (D 0 h + ex 0 h) = 1000000 ∨ miN 1000000 (D 0 h + ex 0 h) ≤ _
    unfold miN
    split <;> omega
  | m + 1, h, hh => by
    have h2 := hx (m + 1) h
    have h3 := he (m + 1) h hh
    have h5 := mnN_or (F := 1000000) (f := fun g => ahN 1000000 N D ex m g + D g h) N
    have h6 := mnN_bd (F := 1000000) (n := N) (f := fun g => ahN 1000000 N D ex m g + D g h) (by omega) (fun g hg => by have := ahN_bd (F := 1000000) (by omega) hN (fun a b ha hb => (hD a b ha hb).1) he m hg; have := hD g h hg hh; omega)
    show miN 1000000 (mnN 1000000 N (fun g => ahN 1000000 N D ex m g + D g h) + ex (m + 1) h) = 1000000 ∨ miN 1000000 (mnN 1000000 N (fun g => ahN 1000000 N D ex m g + D g h) + ex (m + 1) h) ≤ _
    unfold miN
    split
    · rcases h5 with q | ⟨g, hg, q⟩
      · omega
      · have q : mnN 1000000 N (fun g => ahN 1000000 N D ex m g + D g h) = ahN 1000000 N D ex m g + D g h := q
        have h7 := hD g h hg hh
        have h8 := ah_dc hN hD he hx m hg
        omega
    · exact Or.inl rfl
theorem bk_dc (hD : ∀ a b, a < N → b < N → 0 ≤ D a b ∧ D a b ≤ 90) (he : ∀ m h, h < N → 0 ≤ ex m h) (hx : ∀ m h, ex m h ≤ 9 ∨ ex m h = 1000000) : ∀ (j : Nat) {h : Nat}, h < N → bkN 1000000 N n D ex j h = 1000000 ∨ bkN 1000000 N n D ex j h ≤ 99 * (j : Int)
  | 0, h, hh => Or.inr (by show (0 : Int) ≤ _; omega)
  | j + 1, h, hh => by
    have h5 := mnN_or (F := 1000000) (f := fun g => miN 1000000 (bkN 1000000 N n D ex j g + ex (n - 1 - j) g) + D h g) N
    have h6 := mnN_le (F := 1000000) (f := fun g => miN 1000000 (bkN 1000000 N n D ex j g + ex (n - 1 - j) g) + D h g) N
    show mnN 1000000 N (fun g => miN 1000000 (bkN 1000000 N n D ex j g + ex (n - 1 - j) g) + D h g) = 1000000 ∨ mnN 1000000 N (fun g => miN 1000000 (bkN 1000000 N n D ex j g + ex (n - 1 - j) g) + D h g) ≤ _
    rcases h5 with q | ⟨g, hg, q⟩
    · exact Or.inl q
    · have q : mnN 1000000 N (fun g => miN 1000000 (bkN 1000000 N n D ex j g + ex (n - 1 - j) g) + D h g) = miN 1000000 (bkN 1000000 N n D ex j g + ex (n - 1 - j) g) + D h g := q
      have h2 := hx (n - 1 - j) g
      have h3 := he (n - 1 - j) g hg
      have h7 := hD h g hh hg
      have h8 := bk_dc hD he hx j hg
      have h9 := (bkN_bd (F := 1000000) (n := n) (by omega) (fun a b ha hb => (hD a b ha hb).1) he j hg).1
      rw [q] at h6 ⊢
      unfold miN at h6 ⊢
      split at h6 <;> split <;> omega
end TL
def TLs (k nm : Nat) (D ex : Nat → Nat → Int) (σ : am_S) : Prop := (∀ m, m < nm → ∀ h, h < nkT k → σ.1 98 (462 * m + h) = miN 100000 (ex m h) ∧ σ.1 99 (462 * m + h) = miN 100000 (ahN 1000000 (nkT k) D ex m h) ∧ σ.1 100 (462 * m + h) = miN 100000 (bkN 1000000 (nkT k) nm D ex (nm - 1 - m) h)) ∧ σ.1 76 39 = miN 100000 (bsN 1000000 (nkT k) nm D ex)
theorem ep_mi {A : am_S} {k m h : Nat} (hD : LD k A) : epR A k m h = miN 100000 (exA k A m h) ∧ (exA k A m h ≤ 9 ∨ exA k A m h = 1000000) ∧ 0 ≤ exA k A m h := by
  have h1 := prOf_bd (how := cEx A k m h) hD.2.2.2.1
  unfold epR exA cPr
  by_cases e : cEx A k m h = -9
  · rw [if_pos e, if_pos e]
    exact ⟨rfl, Or.inr rfl, by omega⟩
  · rw [if_neg e, if_neg e]
    refine ⟨?_, by omega, by omega⟩
    unfold miN
    rw [if_pos (by omega)]
