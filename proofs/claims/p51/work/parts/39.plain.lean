/-! PLAIN TALES -/
/-- how many of the first n -/
def ctN (p : Nat → Bool) : Nat → Nat
  | 0 => 0
  | n + 1 => if p n then ctN p n + 1 else ctN p n
theorem ctN_s {p : Nat → Bool} {n : Nat} : ctN p (n + 1) = if p n then ctN p n + 1 else ctN p n := rfl
theorem ctN_le {p : Nat → Bool} : ∀ n, ctN p n ≤ n
  | 0 => Nat.le_refl _
  | n + 1 => by
    have := ctN_le (p := p) n
    unfold ctN
    split <;> omega
theorem ctN_mono {p : Nat → Bool} {a : Nat} : ∀ d, ctN p a ≤ ctN p (a + d)
  | 0 => Nat.le_refl _
  | d + 1 => by
    have := ctN_mono (p := p) (a := a) d
    show _ ≤ ctN p (a + d + 1)
    rw [ctN_s]
    split <;> omega
theorem ctN_lt {p : Nat → Bool} {h n : Nat} (hp : p h = true) (hn : h < n) : ctN p h < ctN p n := by
  have h1 : ctN p (h + 1) = ctN p h + 1 := by show (if p h then _ else _) = _; rw [if_pos hp]
  have h2 := ctN_mono (p := p) (a := h + 1) (n - (h + 1))
  rw [show h + 1 + (n - (h + 1)) = n by omega] at h2
  omega
theorem ctN_sur {p : Nat → Bool} : ∀ {n i : Nat}, i < ctN p n → ∃ h, h < n ∧ p h = true ∧ ctN p h = i
  | 0, i, h => absurd h (Nat.not_lt_zero _)
  | n + 1, i, h => by
    unfold ctN at h
    split at h
    · rename_i hp
      by_cases e : i = ctN p n
      · exact ⟨n, Nat.lt_succ_self n, hp, e.symm⟩
      · obtain ⟨q, h1, h2, h3⟩ := ctN_sur (p := p) (n := n) (show i < ctN p n by omega)
        exact ⟨q, by omega, h2, h3⟩
    · obtain ⟨q, h1, h2, h3⟩ := ctN_sur h
      exact ⟨q, by omega, h2, h3⟩
/-- L lists those of which p holds -/
def LI (p : Nat → Bool) (n : Nat) (L : Nat → Int) : Prop := ∀ h, h < n → p h = true → L (ctN p h) = (h : Int)
theorem LI.at {p : Nat → Bool} {n i : Nat} {L : Nat → Int} (hL : LI p n L) (hi : i < ctN p n) : ∃ h, h < n ∧ p h = true ∧ ctN p h = i ∧ L i = (h : Int) := by
  obtain ⟨h, h1, h2, h3⟩ := ctN_sur hi
  exact ⟨h, h1, h2, h3, by rw [← h3]; exact hL h h1 h2⟩
theorem LI.sum {p : Nat → Bool} {L : Nat → Int} {f : Int → Int} : ∀ {n : Nat}, LI p n L → sumN (ctN p n) (fun i => f (L i)) = sumN n (fun h => if p h then f (h : Int) else 0)
  | 0, _ => rfl
  | n + 1, hL => by
    have ih := LI.sum (f := f) (n := n) (fun h hh => hL h (by omega))
    show sumN (ctN p (n + 1)) _ = sumN n _ + (if p n then f (n : Int) else 0)
    rw [← ih, ctN_s]
    by_cases e : p n = true
    · rw [if_pos e, if_pos e]
      show sumN (ctN p n) _ + f (L (ctN p n)) = _
      rw [hL n (Nat.lt_succ_self n) e]
    · rw [if_neg e, if_neg e]
      exact (Int.add_zero _).symm
section TALES
variable {F : Int} {N n : Nat} {D ex : Nat → Nat → Int}
/-- the cost by a household of a Monday -/
def ctM (F : Int) (N n : Nat) (D ex : Nat → Nat → Int) (m h : Nat) : Int := ahN F N D ex m h + bkN F N n D ex (n - 1 - m) h
def plM (F : Int) (N n : Nat) (D ex : Nat → Nat → Int) (m h : Nat) : Bool := decide (ctM F N n D ex m h = bsN F N n D ex)
/-- whether a plain tale goes on from one to another -/
def foM (F : Int) (N : Nat) (D ex : Nat → Nat → Int) (m f h : Nat) : Bool := decide (ahN F N D ex m f + D f h + ex (m + 1) h = ahN F N D ex (m + 1) h)
def frM (F : Int) (N n : Nat) (D ex : Nat → Nat → Int) : Nat → Nat
  | 0 => fstN (plM F N n D ex 0) N
  | m + 1 => fstN (fun h => plM F N n D ex (m + 1) h && foM F N D ex m (frM F N n D ex m) h) N
theorem ah_step (hF : 0 ≤ F) (hN : 0 < N) (hD : ∀ a b, a < N → b < N → 0 ≤ D a b) (he : ∀ m h, h < N → 0 ≤ ex m h) {m g h : Nat} (hg : g < N) (hh : h < N) : ahN F N D ex (m + 1) h ≤ ahN F N D ex m g + D g h + ex (m + 1) h := by
  have h1 : mnN F N (fun g => ahN F N D ex m g + D g h) ≤ ahN F N D ex m g + D g h := mnN_lt (f := fun g => ahN F N D ex m g + D g h) hg
  show miN F _ ≤ _
  unfold miN
  split <;> omega
theorem bk_at (hF : 0 ≤ F) {m h : Nat} (hm : m + 1 < n) : bkN F N n D ex (n - 1 - m) h = mnN F N (fun g => miN F (bkN F N n D ex (n - 1 - (m + 1)) g + ex (m + 1) g) + D h g) := by
  rw [show n - 1 - m = (n - 1 - (m + 1)) + 1 by omega]
  show mnN F N (fun g => miN F (bkN F N n D ex (n - 1 - (m + 1)) g + ex (n - 1 - (n - 1 - (m + 1))) g) + D h g) = _
  rw [show n - 1 - (n - 1 - (m + 1)) = m + 1 by omega]
theorem tale_lb (hF : 0 ≤ F) (hN : 0 < N) (hD : ∀ a b, a < N → b < N → 0 ≤ D a b) (he : ∀ m h, h < N → 0 ≤ ex m h) (hn : 0 < n) : ∀ (j : Nat) {m h : Nat}, j = n - 1 - m → m < n → h < N → bsN F N n D ex ≤ ctM F N n D ex m h
  | 0, m, h, hj, hm, hh => by
    have e : m = n - 1 := by omega
    subst e
    unfold ctM bsN
    rw [if_neg (by omega), show n - 1 - (n - 1) = 0 by omega]
    have := mnN_lt (F := F) (f := ahN F N D ex (n - 1)) hh
    show _ ≤ _ + (0 : Int)
    omega
  | j + 1, m, h, hj, hm, hh => by
    have hb : bsN F N n D ex ≤ F := by
      unfold bsN
      split
      · exact hF
      · exact mnN_le N
    have ha := (ahN_bd hF hN hD he m hh).1
    unfold ctM
    rw [bk_at hF (by omega)]
    rcases mnN_or (F := F) (f := fun g => miN F (bkN F N n D ex (n - 1 - (m + 1)) g + ex (m + 1) g) + D h g) N with q | ⟨g, q1, q2⟩
    · rw [q]
      omega
    · rw [q2]
      have ih := tale_lb hF hN hD he hn j (m := m + 1) (h := g) (by omega) (by omega) q1
      have s1 := ah_step hF hN hD he (m := m) hh q1
      have d := hD h g hh q1
      unfold ctM at ih
      show _ ≤ _ + (miN F _ + D h g)
      unfold miN
      split <;> omega
/-- the first household of a plain tale, and from each the next -/
theorem first_0 (hF : 0 ≤ F) (hN : 0 < N) (hD : ∀ a b, a < N → b < N → 0 ≤ D a b) (he : ∀ m h, h < N → 0 ≤ ex m h) (hn : 0 < n) (ht : bsN F N n D ex < F) : ∀ (m : Nat), m < n → ∃ h, h < N ∧ plM F N n D ex m h = true := by
  have hlast : ∃ h, h < N ∧ plM F N n D ex (n - 1) h = true := by
    have hb : bsN F N n D ex = mnN F N (ahN F N D ex (n - 1)) := if_neg (by omega)
    rcases mnN_or (F := F) (f := ahN F N D ex (n - 1)) N with q | ⟨g, q1, q2⟩
    · omega
    · refine ⟨g, q1, decide_eq_true ?_⟩
      unfold ctM
      rw [show n - 1 - (n - 1) = 0 by omega, hb, q2]
      exact Int.add_zero _
  have hdown : ∀ m, m + 1 < n → (∃ h, h < N ∧ plM F N n D ex (m + 1) h = true) → ∃ h, h < N ∧ plM F N n D ex m h = true := by
    intro m hm ⟨h, h1, h2⟩
    have h2 := of_decide_eq_true h2
    unfold ctM at h2
    have hb := (bkN_bd (n := n) hF hD he (n - 1 - (m + 1)) h1).1
    have hahF : ahN F N D ex (m + 1) h < F := by omega
    have hah : ahN F N D ex (m + 1) h = mnN F N (fun g => ahN F N D ex m g + D g h) + ex (m + 1) h := by
      have : ahN F N D ex (m + 1) h = miN F (mnN F N (fun g => ahN F N D ex m g + D g h) + ex (m + 1) h) := rfl
      rw [this] at hahF ⊢
      unfold miN at hahF ⊢
      split at hahF
      · rename_i hc
        rw [if_pos hc]
      · omega
    have hx := he (m + 1) h h1
    rcases mnN_or (F := F) (f := fun g => ahN F N D ex m g + D g h) N with q | ⟨g, q1, q2⟩
    · omega
    · refine ⟨g, q1, decide_eq_true ?_⟩
      have lb := tale_lb hF hN hD he hn (n - 1 - m) (m := m) (h := g) rfl (by omega) q1
      have q2 : mnN F N (fun g => ahN F N D ex m g + D g h) = ahN F N D ex m g + D g h := q2
      have d := hD g h q1 h1
      have hag := (ahN_bd hF hN hD he m q1).1
      have ub : bkN F N n D ex (n - 1 - m) g ≤ miN F (bkN F N n D ex (n - 1 - (m + 1)) h + ex (m + 1) h) + D g h := by
        rw [bk_at hF hm]
        exact mnN_lt (f := fun g' => miN F (bkN F N n D ex (n - 1 - (m + 1)) g' + ex (m + 1) g') + D g g') h1
      have hmi : miN F (bkN F N n D ex (n - 1 - (m + 1)) h + ex (m + 1) h) ≤ bkN F N n D ex (n - 1 - (m + 1)) h + ex (m + 1) h := by
        unfold miN
        split <;> omega
      unfold ctM at lb ⊢
      omega
  have key : ∀ d m, m + d = n - 1 → ∃ h, h < N ∧ plM F N n D ex m h = true := by
    intro d
    induction d with
    | zero =>
      intro m hm
      have : m = n - 1 := by omega
      subst this
      exact hlast
    | succ d ih =>
      intro m hm
      exact hdown m (by omega) (ih (m + 1) (by omega))
  intro m hm
  exact key (n - 1 - m) m (by omega)
theorem first_s (hF : 0 ≤ F) (hN : 0 < N) (hD : ∀ a b, a < N → b < N → 0 ≤ D a b) (he : ∀ m h, h < N → 0 ≤ ex m h) (hn : 0 < n) (ht : bsN F N n D ex < F) {m f : Nat} (hm : m + 1 < n) (hf : f < N) (hp : plM F N n D ex m f = true) : ∃ h, h < N ∧ plM F N n D ex (m + 1) h = true ∧ foM F N D ex m f h = true := by
  have hp := of_decide_eq_true hp
  have haf := (ahN_bd hF hN hD he m hf).1
  unfold ctM at hp
  rw [bk_at hF hm] at hp
  rcases mnN_or (F := F) (f := fun g => miN F (bkN F N n D ex (n - 1 - (m + 1)) g + ex (m + 1) g) + D f g) N with q | ⟨g, q1, q2⟩
  · omega
  · rw [q2] at hp
    have d := hD f g hf q1
    have hb := (bkN_bd (n := n) hF hD he (n - 1 - (m + 1)) q1).1
    have hx := he (m + 1) g q1
    have hp : ahN F N D ex m f + (miN F (bkN F N n D ex (n - 1 - (m + 1)) g + ex (m + 1) g) + D f g) = bsN F N n D ex := hp
    have hmi : miN F (bkN F N n D ex (n - 1 - (m + 1)) g + ex (m + 1) g) = bkN F N n D ex (n - 1 - (m + 1)) g + ex (m + 1) g := by
      unfold miN at hp ⊢
      split at hp
      · rename_i hc
        rw [if_pos hc]
      · omega
    have lb := tale_lb hF hN hD he hn (n - 1 - (m + 1)) (m := m + 1) (h := g) rfl hm q1
    have s1 := ah_step hF hN hD he (m := m) hf q1
    unfold ctM at lb
    refine ⟨g, q1, decide_eq_true ?_, decide_eq_true ?_⟩
    · unfold ctM
      omega
    · omega
theorem fstN_is {p : Nat → Bool} {k : Nat} (h : ∃ s, s < k ∧ p s = true) : fstN p k < k ∧ p (fstN p k) = true ∧ ∀ t, t < fstN p k → p t = false := by
  have key : ∀ d s, s ≤ d → s < k → p s = true → ∃ f, f < k ∧ p f = true ∧ ∀ t, t < f → p t = false := by
    intro d
    induction d with
    | zero =>
      intro s hs hk hp
      exact ⟨s, hk, hp, fun t ht => absurd ht (by omega)⟩
    | succ d ih =>
      intro s hs hk hp
      by_cases e : ∃ t, t < s ∧ p t = true
      · obtain ⟨t, h1, h2⟩ := e
        exact ih t (by omega) (by omega) h2
      · exact ⟨s, hk, hp, fun t ht => by
          cases hq : p t with
          | false => rfl
          | true => exact absurd ⟨t, ht, hq⟩ e⟩
  obtain ⟨s, h1, h2⟩ := h
  obtain ⟨f, q1, q2, q3⟩ := key s s (Nat.le_refl _) h1 h2
  have := fstN_eq q2 q3 q1
  rw [this]
  exact ⟨q1, q2, q3⟩
theorem frM_ok (hF : 0 ≤ F) (hN : 0 < N) (hD : ∀ a b, a < N → b < N → 0 ≤ D a b) (he : ∀ m h, h < N → 0 ≤ ex m h) (ht : bsN F N n D ex < F) : ∀ {m : Nat}, m < n → frM F N n D ex m < N ∧ plM F N n D ex m (frM F N n D ex m) = true
  | 0, hm => by
    have := fstN_is (first_0 hF hN hD he (by omega) ht 0 hm)
    exact ⟨this.1, this.2.1⟩
  | m + 1, hm => by
    have ih := frM_ok hF hN hD he ht (m := m) (by omega)
    obtain ⟨h, h1, h2, h3⟩ := first_s hF hN hD he (by omega) ht hm ih.1 ih.2
    have := fstN_is (p := fun h => plM F N n D ex (m + 1) h && foM F N D ex m (frM F N n D ex m) h) ⟨h, h1, by rw [h2, h3]; rfl⟩
    have q := this.2.1
    rw [Bool.and_eq_true] at q
    exact ⟨this.1, q.1⟩
end TALES
