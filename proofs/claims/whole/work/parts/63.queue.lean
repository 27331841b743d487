/-! THE REFERENCE: STEPS, BY A QUEUE -/
theorem ct_upd {p q : Nat → Bool} {h : Nat} (ho : ∀ u, u ≠ h → q u = p u) (hp : p h = false) (hq : q h = true) : ∀ N, ctN q N = ctN p N + if h < N then 1 else 0
  | 0 => by rw [if_neg (Nat.not_lt_zero h)]; rfl
  | N + 1 => by
    rw [ctN_s, ctN_s, ct_upd ho hp hq N]
    by_cases e : N = h
    · subst e
      rw [if_pos hq, hp, if_neg (Nat.lt_irrefl N), if_pos (Nat.lt_succ_self N)]
      rfl
    · rw [ho N e]
      by_cases e2 : h < N
      · rw [if_pos e2, if_pos (show h < N + 1 by omega)]
        split <;> rfl
      · rw [if_neg e2, if_neg (show ¬ h < N + 1 by omega)]
        rfl
def SQ (N fi mn : Nat) (wt wq : Nat → Int) : Prop := (∀ u, u < N → wq u = 0 ∨ wq u = 1) ∧ (∀ i, i < mn → ∃ u : Nat, u < N ∧ wt ((fi + i) % 462) = (u : Int) ∧ wq u = 1) ∧ (∀ i j, i < j → j < mn → wt ((fi + i) % 462) ≠ wt ((fi + j) % 462)) ∧ (∀ u : Nat, u < N → wq u = 1 → ∃ i, i < mn ∧ wt ((fi + i) % 462) = (u : Int)) ∧ mn = ctN (fun u => decide (wq u = 1)) N ∧ fi < 462
section SQS
variable {N fi mn h z : Nat} {wt wq wt' wq' : Nat → Int}
theorem SQ.head (H : SQ N fi mn wt wq) (hm : 0 < mn) : ∃ h : Nat, h < N ∧ wt fi = (h : Int) ∧ wq h = 1 := by
  obtain ⟨u, h1, h2, h3⟩ := H.2.1 0 hm
  have := H.2.2.2.2.2
  rw [show (fi + 0) % 462 = fi by omega] at h2
  exact ⟨u, h1, h2, h3⟩
theorem SQ.pop (H : SQ N fi mn wt wq) (hm : 0 < mn) (hh : h < N) (hw : wt fi = (h : Int)) (h1 : wq h = 1) (hz : wq' h = 0) (ho : ∀ u, u ≠ h → wq' u = wq u) : SQ N ((fi + 1) % 462) (mn - 1) wt wq' := by
  obtain ⟨a, b, c, d, e, f⟩ := H
  have q0 : (fi + 0) % 462 = fi := by omega
  have qs : ∀ i, ((fi + 1) % 462 + i) % 462 = (fi + (i + 1)) % 462 := fun i => by omega
  refine ⟨fun u hu => ?_, fun i hi => ?_, fun i j hij hj => ?_, fun u hu hq => ?_, ?_, by omega⟩
  · by_cases eu : u = h
    · rw [eu, hz]
      exact Or.inl rfl
    · rw [ho u eu]
      exact a u hu
  · obtain ⟨u, u1, u2, u3⟩ := b (i + 1) (by omega)
    rw [qs]
    refine ⟨u, u1, u2, ?_⟩
    rw [ho u (fun eu => ?_)]
    · exact u3
    · have := c 0 (i + 1) (by omega) (by omega)
      rw [q0, hw, u2, eu] at this
      exact this rfl
  · rw [qs, qs]
    exact c (i + 1) (j + 1) (by omega) (by omega)
  · by_cases eu : u = h
    · rw [eu, hz] at hq
      omega
    · rw [ho u eu] at hq
      obtain ⟨i, i1, i2⟩ := d u hu hq
      cases i with
      | zero =>
        rw [q0, hw] at i2
        omega
      | succ i => exact ⟨i, by omega, by rw [qs]; exact i2⟩
  · have := ct_upd (p := fun u => decide (wq' u = 1)) (q := fun u => decide (wq u = 1)) (h := h) (fun u eu => by rw [ho u eu]) (by rw [hz]; rfl) (by rw [h1]; rfl) N
    rw [if_pos hh] at this
    omega
theorem SQ.lt (H : SQ N fi mn wt wq) (hz : z < N) (h0 : wq z = 0) : mn < N := by
  have e := H.2.2.2.2.1
  have := ct_upd (p := fun u => decide (wq u = 1)) (q := fun u => decide ((if u = z then 1 else wq u) = 1)) (h := z) (fun u eu => by rw [if_neg eu]) (by rw [h0]; rfl) (by rw [if_pos rfl]; rfl) N
  rw [if_pos hz] at this
  have := ctN_le (p := fun u => decide ((if u = z then 1 else wq u) = 1)) N
  omega
theorem SQ.push (H : SQ N fi mn wt wq) (hN : N ≤ 462) (hz : z < N) (h0 : wq z = 0) (h1 : wq' z = 1) (ho : ∀ u, u ≠ z → wq' u = wq u) (t1 : wt' ((fi + mn) % 462) = (z : Int)) (to : ∀ i, i ≠ (fi + mn) % 462 → wt' i = wt i) : SQ N fi (mn + 1) wt' wq' := by
  have hlt := H.lt hz h0
  obtain ⟨a, b, c, d, e, f⟩ := H
  have qi : ∀ i, i < mn → wt' ((fi + i) % 462) = wt ((fi + i) % 462) := fun i hi => to _ (by omega)
  refine ⟨fun u hu => ?_, fun i hi => ?_, fun i j hij hj => ?_, fun u hu hq => ?_, ?_, f⟩
  · by_cases eu : u = z
    · rw [eu, h1]
      exact Or.inr rfl
    · rw [ho u eu]
      exact a u hu
  · by_cases ei : i = mn
    · rw [ei]
      exact ⟨z, hz, t1, h1⟩
    · obtain ⟨u, u1, u2, u3⟩ := b i (by omega)
      refine ⟨u, u1, (qi i (by omega)).trans u2, ?_⟩
      by_cases eu : u = z
      · rw [eu]
        exact h1
      · rw [ho u eu]
        exact u3
  · by_cases ej : j = mn
    · rw [ej, t1, qi i (by omega)]
      obtain ⟨u, u1, u2, u3⟩ := b i (by omega)
      intro q
      have : u = z := by omega
      rw [this, h0] at u3
      omega
    · rw [qi i (by omega), qi j (by omega)]
      exact c i j hij (by omega)
  · by_cases eu : u = z
    · exact ⟨mn, by omega, by rw [eu]; exact t1⟩
    · rw [ho u eu] at hq
      obtain ⟨i, i1, i2⟩ := d u hu hq
      exact ⟨i, by omega, (qi i i1).trans i2⟩
  · have := ct_upd (p := fun u => decide (wq u = 1)) (q := fun u => decide (wq' u = 1)) (h := z) (fun u eu => by rw [ho u eu]) (by rw [h0]; rfl) (by rw [h1]; rfl) N
    rw [if_pos hz] at this
    omega
theorem SQ.one {f : Nat} (hf : f < N) (h1 : wq f = 1) (h0 : ∀ u, u < N → u ≠ f → wq u = 0) (ht : wt 0 = (f : Int)) : SQ N 0 1 wt wq := by
  refine ⟨fun u hu => ?_, fun i hi => ?_, fun i j hij hj => by omega, fun u hu hq => ?_, ?_, by omega⟩
  · by_cases e : u = f
    · rw [e]
      exact Or.inr h1
    · exact Or.inl (h0 u hu e)
  · rw [show (0 + i) % 462 = 0 by omega]
    exact ⟨f, hf, ht, h1⟩
  · by_cases e : u = f
    · exact ⟨0, by omega, by rw [e]; exact ht⟩
    · have := h0 u hu e
      omega
  · have z : ∀ n, ctN (fun _ => false) n = 0 := fun n => by
      induction n with
      | zero => rfl
      | succ n ih => rw [ctN_s, ih]; rfl
    have e1 : ctN (fun u => decide (wq u = 1)) N = ctN (fun u => decide (u = f)) N := by
      have : ∀ n, n ≤ N → ctN (fun u => decide (wq u = 1)) n = ctN (fun u => decide (u = f)) n := fun n => by
        induction n with
        | zero => intro _; rfl
        | succ n ih =>
          intro hn
          rw [ctN_s, ctN_s, ih (by omega)]
          by_cases e : n = f
          · rw [e, h1]
            simp
          · rw [h0 n (by omega) e]
            simp [e]
      exact this N (Nat.le_refl N)
    have e2 := ct_upd (p := fun _ => false) (q := fun u => decide (u = f)) (h := f) (fun u eu => decide_eq_false eu) rfl (decide_eq_true rfl) N
    rw [if_pos hf, z] at e2
    omega
end SQS
/-- the steps while they are looked for: at household h, its neighbours before jc done -/
def SD (N : Nat) (E : Nat → Nat → Nat → Prop) (pr : Nat → Int) (f h jc : Nat) (D st wq : Nat → Int) : Prop := (∀ u, u < N → D u ≤ st u ∧ 0 ≤ st u ∧ st u ≤ 100000) ∧ st f = 0 ∧ ∀ u, u < N → wq u = 0 → ∀ j, j < 18 → (u = h → j < jc) → ∀ v, E u j v → st v ≤ st u + pr (j % 3)
section SDS
variable {N f h jc z : Nat} {E : Nat → Nat → Nat → Prop} {pr D st st' wq wq' : Nat → Int}
theorem SD.pop (H : SD N E pr f N 0 D st wq) (ho : ∀ u, u ≠ h → wq' u = wq u) : SD N E pr f h 0 D st wq' := ⟨H.1, H.2.1, fun u hu hq j hj hc v e => by
  by_cases eu : u = h
  · have := hc eu
    omega
  · rw [ho u eu] at hq
    exact H.2.2 u hu hq j hj (fun q => by omega) v e⟩
theorem SD.fin (H : SD N E pr f h 18 D st wq) : SD N E pr f N 0 D st wq := ⟨H.1, H.2.1, fun u hu hq j hj _ v e => H.2.2 u hu hq j hj (fun _ => hj) v e⟩
theorem SD.no (H : SD N E pr f h jc D st wq) (hn : ∀ v, E h jc v → st v ≤ st h + pr (jc % 3)) : SD N E pr f h (jc + 1) D st wq := ⟨H.1, H.2.1, fun u hu hq j hj hc v e => by
  by_cases eu : u = h
  · by_cases ej : j = jc
    · rw [eu, ej] at e
      rw [eu, ej]
      exact hn v e
    · exact H.2.2 u hu hq j hj (fun q => by have := hc eu; omega) v e
  · exact H.2.2 u hu hq j hj (fun q => absurd q eu) v e⟩
theorem SD.up (H : SD N E pr f h jc D st wq) (hh : h < N) (hzN : z < N) (hE : ∀ v, E h jc v → v = z) (hD : D z ≤ D h + pr (jc % 3)) (hp : 0 ≤ pr (jc % 3)) (hlt : st h + pr (jc % 3) < st z) (h1 : st' z = st h + pr (jc % 3)) (ho : ∀ u, u ≠ z → st' u = st u) (w1 : wq' z = 1) (wo : ∀ u, u ≠ z → wq' u = wq u) : SD N E pr f h (jc + 1) D st' wq' := by
  obtain ⟨a, b, c⟩ := H
  have ah := a h hh
  have hne : h ≠ z := fun q => by rw [← q] at hlt; omega
  have le : ∀ u, st' u ≤ st u := fun u => by
    by_cases e : u = z
    · rw [e, h1]
      omega
    · rw [ho u e]
      exact Int.le_refl _
  refine ⟨fun u hu => ?_, ?_, fun u hu hq j hj hc v e => ?_⟩
  · by_cases e : u = z
    · rw [e, h1]
      have := (a z hzN).2.2
      omega
    · rw [ho u e]
      exact a u hu
  · rw [ho f (fun q => by rw [← q, b] at hlt; omega)]
    exact b
  · have eu : u ≠ z := fun q => by
      rw [q, w1] at hq
      omega
    rw [ho u eu]
    rw [wo u eu] at hq
    have lv := le v
    by_cases eh : u = h
    · by_cases ej : j = jc
      · rw [eh, ej] at e
        rw [hE v e, h1, eh, ej]
        exact Int.le_refl _
      · have := c u hu hq j hj (fun q => by have := hc eh; omega) v e
        omega
    · have := c u hu hq j hj (fun q => absurd q eh) v e
      omega
end SDS
/-- what is left to do -/
def wM (N : Nat) (st : Nat → Int) (mn : Nat) : Nat := (2 * sumN N st).toNat + mn
theorem sum_upd {N z : Nat} {st st' : Nat → Int} {d : Int} (hz : z < N) (h1 : st' z + d = st z) (ho : ∀ u, u ≠ z → st' u = st u) : sumN N st' + d = sumN N st := by
  induction N with
  | zero => omega
  | succ n ih =>
    show sumN n st' + st' n + d = sumN n st + st n
    by_cases e : z = n
    · have : sumN n st' = sumN n st := sumN_congr (fun i hi => ho i (by omega))
      rw [this, ← e]
      omega
    · have := ih (by omega)
      rw [ho n (fun q => e q.symm)]
      omega
theorem wM_up {N z mn mn' : Nat} {st st' : Nat → Int} (hz : z < N) (hlt : st' z < st z) (ho : ∀ u, u ≠ z → st' u = st u) (hn : ∀ u, u < N → 0 ≤ st' u) (hm : mn' ≤ mn + 1) : wM N st' mn' < wM N st mn := by
  have h1 := sum_upd (d := st z - st' z) hz (by omega) ho
  have h2 := sumN_nn hn
  unfold wM
  omega
/-- what is found are the steps -/
def EJ (k : Nat) (P : Nat → Nat → Prop) (u j v : Nat) : Prop := EDG k P u (j / 3) (j % 3) v
theorem sd_D {k f : Nat} {into pr : Nat → Int} {D : Nat → Nat → Int} (hI : DI k into pr D) (hf : f < nkT k) {u j v : Nat} (hu : u < nkT k) (e : EJ k (GP into) u j v) : D f v ≤ D f u + pr (j % 3) := by
  obtain ⟨-, c1, c2, c3, -⟩ := hI f hf
  have hv := (ed_lt e).2
  rcases e with ⟨z, e⟩ | ⟨z, e⟩ | ⟨z, e⟩
  · rw [z]
    exact c3 u v hu hv ⟨_, e⟩
  · rw [z]
    exact c1 u v hu hv ⟨_, e⟩
  · rw [z]
    obtain ⟨a, t, e1, e2, e3⟩ := e
    exact c2 u v hu hv ⟨a, _, t, e1, e2, e3⟩
theorem sd_end {k f : Nat} {into pr : Nat → Int} {D : Nat → Nat → Int} {st wq : Nat → Int} (hk : k ≤ 6) (hpr : ∀ i, i < 5 → 0 ≤ pr i ∧ pr i ≤ 9) (hI : DI k into pr D) (hf : f < nkT k) (hq : ∀ u, u < nkT k → wq u = 0) (H : SD (nkT k) (EJ k (GP into)) pr f (nkT k) 0 (D f) st wq) : ∀ u, u < nkT k → st u = D f u := by
  obtain ⟨a, b, c⟩ := H
  have cl : ∀ u j v, u < nkT k → j < 18 → EJ k (GP into) u j v → st v ≤ st u + pr (j % 3) := fun u j v hu hj e => c u hu (hq u hu) j hj (fun q => by omega) v e
  have c1 : clR (nkT k) (dnR k) (pr 1) st := fun g h hg hh ⟨s, e⟩ => by
    have := cl g (3 * s + 1) h hg (by have := e.1; omega) (Or.inr (Or.inl ⟨by omega, by rw [show (3 * s + 1) / 3 = s by omega]; exact e⟩))
    rw [show (3 * s + 1) % 3 = 1 by omega] at this
    exact this
  have c3 : clR (nkT k) (upR k) (pr 0) st := fun g h hg hh ⟨s, e⟩ => by
    have := cl g (3 * s) h hg (by have := e.1; omega) (Or.inl ⟨by omega, by rw [show (3 * s) / 3 = s by omega]; exact e⟩)
    rw [show (3 * s) % 3 = 0 by omega] at this
    exact this
  have c2 : clR (nkT k) (grR k (GP into)) (pr 2) st := fun g h hg hh ⟨x, s, t, e1, e2, e3⟩ => by
    have := cl g (3 * s + 2) h hg (by have := e2.1; omega) (Or.inr (Or.inr ⟨by omega, x, t, by rw [show (3 * s + 2) / 3 = s by omega]; exact e1, by rw [show (3 * s + 2) / 3 = s by omega]; exact e2, e3⟩))
    rw [show (3 * s + 2) % 3 = 2 by omega] at this
    exact this
  intro u hu
  obtain ⟨-, -, -, -, hat⟩ := hI f hf
  obtain ⟨g, x, y, n1, n2, n3, hg, w1, w2, w3, e⟩ := hat u hu
  have hb := (DI.bd hk hpr hI hf hu).2
  have p0 := (hpr 0 (by omega)).1
  have p1 := (hpr 1 (by omega)).1
  have p2 := (hpr 2 (by omega)).1
  have t1 : 0 ≤ (n1 : Int) * pr 1 := Int.mul_nonneg (by omega) p1
  have t2 : 0 ≤ (n2 : Int) * pr 2 := Int.mul_nonneg (by omega) p2
  have t3 : 0 ≤ (n3 : Int) * pr 0 := Int.mul_nonneg (by omega) p0
  have eg : g = f := by
    by_cases q : g = f
    · exact q
    · unfold dlN at e
      rw [if_neg q] at e
      omega
  subst eg
  have hx := wkR.lt (fun _ _ e => dn_lt e) w1 hg
  have hy := wkR.lt (fun _ _ e => gr_lt e) w2 hx
  have s1 := clR.wk (fun _ _ e => dn_lt e) c1 w1 hg
  have s2 := clR.wk (fun _ _ e => gr_lt e) c2 w2 hx
  have s3 := clR.wk (fun _ _ e => up_lt e) c3 w3 hy
  have e0 : dlN g g = 0 := if_pos rfl
  have := (a u hu).1
  omega
