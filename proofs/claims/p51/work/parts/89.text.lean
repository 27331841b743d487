/-! A TEXT WRITTEN ITEM BY ITEM IS READ SO -/
def TX (f : Nat → Int) (n c : Nat) (W : Nat → Nat → Int) : Prop := ∀ (g : Nat → Int) (N : Nat), (∀ j, j < n → g j = f j) → n ≤ N → ∀ fu, p_run g N (c + fu) 0 p_W0 = p_run g N fu n W
def TQ (f : Nat → Int) (n kk : Nat) (q : Nat → Int) : Prop := (∃ c W, c ≤ n ∧ TX f n c W ∧ W 6 0 = (kk : Int) ∧ ∀ i, i < 5 → W 10 i = q i) ∧ ∀ j, j < n → 0 ≤ f j ∧ f j ≤ 127
theorem TX.ext {f f' : Nat → Int} {n n' c : Nat} {W W' : Nat → Nat → Int} (h : TX f n c W) (hf : ∀ j, j < n → f' j = f j) (hn : n < n') (hi : ∀ (g : Nat → Int) (N : Nat), (∀ j, j < n' → g j = f' j) → n' ≤ N → g n ≠ 32 ∧ p_item g N n W = (n', some W')) : TX f' n' (c + 1) W' := by
  intro g N hg hN fu
  have h1 := h g N (fun j hj => by rw [hg j (by omega), hf j hj]) (by omega) (fu + 1)
  obtain ⟨h2, h3⟩ := hi g N hg hN
  rw [show c + 1 + fu = c + (fu + 1) by omega, h1]
  show (if n < N then (if g n = 32 then _ else match p_item g N n W with
    | (q, none) => (q, none)
    | (q, some W') => p_run g N fu q W') else (n, some W)) = _
  rw [if_pos (by omega), if_neg h2, h3]
theorem TQ.congr {f f' : Nat → Int} {n kk : Nat} {q : Nat → Int} (h : TQ f n kk q) (hf : ∀ j, j < n → f' j = f j) : TQ f' n kk q := by
  obtain ⟨⟨c, W, h1, h2, h3, h4⟩, h5⟩ := h
  exact ⟨⟨c, W, h1, fun g N hg => h2 g N (fun j hj => by rw [hg j hj, hf j hj]), h3, h4⟩, fun j hj => by rw [hf j hj]; exact h5 j hj⟩
theorem TQ.q {f : Nat → Int} {n kk : Nat} {q q' : Nat → Int} (h : TQ f n kk q) (e : ∀ i, i < 5 → q i = q' i) : TQ f n kk q' := by
  obtain ⟨⟨c, W, h1, h2, h3, h4⟩, h5⟩ := h
  exact ⟨⟨c, W, h1, h2, h3, fun i hi => (h4 i hi).trans (e i hi)⟩, h5⟩
theorem TQ.nil {f : Nat → Int} : TQ f 0 0 (p_W0 10) := ⟨⟨0, p_W0, Nat.le_refl _, fun g N _ _ fu => by rw [Nat.zero_add], rfl, fun _ _ => rfl⟩, fun j hj => absurd hj (Nat.not_lt_zero j)⟩
theorem aset_ne {A : Nat → Nat → Int} {k i a j : Nat} {v : Int} (h : a ≠ k) : aset A k i v a j = A a j := if_neg (fun e => h e.1)
/-- one item more -/
theorem TQ.ext {f f' : Nat → Int} {n n' kk kk' : Nat} {q q' : Nat → Int} (h : TQ f n kk q) (hf : ∀ j, j < n → f' j = f j) (hn : n < n') (hb : ∀ j, n ≤ j → j < n' → 0 ≤ f' j ∧ f' j ≤ 127) (hi : ∀ W : Nat → Nat → Int, W 6 0 = (kk : Int) → (∀ i, i < 5 → W 10 i = q i) → ∃ W', (W' 6 0 = (kk' : Int) ∧ ∀ i, i < 5 → W' 10 i = q' i) ∧ ∀ (g : Nat → Int) (N : Nat), (∀ j, j < n' → g j = f' j) → n' ≤ N → g n ≠ 32 ∧ p_item g N n W = (n', some W')) : TQ f' n' kk' q' := by
  obtain ⟨⟨c, W, h1, h2, h3, h4⟩, h5⟩ := h
  obtain ⟨W', ⟨w1, w2⟩, w3⟩ := hi W h3 h4
  refine ⟨⟨c + 1, W', by omega, h2.ext hf hn w3, w1, w2⟩, fun j hj => ?_⟩
  by_cases e : j < n
  · rw [hf j e]
    exact h5 j e
  · exact hb j (by omega) hj
theorem TQ.sort {f f' : Nat → Int} {n kk : Nat} {q : Nat → Int} (h : TQ f n kk q) (hf : ∀ j, j < n → f' j = f j) (hk : kk < 6) (h0 : f' n = 107) (h1 : f' (n + 1) = 45 ∨ (48 ≤ f' (n + 1) ∧ f' (n + 1) ≤ 53)) : TQ f' (n + 2) (kk + 1) q := by
  refine h.ext hf (by omega) (fun j h2 h3 => ?_) (fun W w1 w2 => ?_)
  · rcases (show j = n ∨ j = n + 1 by omega) with rfl | rfl <;> omega
  · by_cases e : f' (n + 1) = 45
    · refine ⟨aset (aset W 7 (W 6 0).toNat (-9)) 6 0 (W 6 0 + 1), ⟨by rw [aset_rd, w1]; omega, fun i hi => by rw [aset_ne (by omega), aset_ne (by omega)]; exact w2 i hi⟩, fun g N hg hN => ?_⟩
      have g0 : g n = 107 := (hg n (by omega)).trans h0
      have g1 : g (n + 1) = 45 := (hg (n + 1) (by omega)).trans e
      refine ⟨by omega, ?_⟩
      unfold p_item
      rw [if_pos g0]
      unfold p_sort
      rw [if_neg (by omega), if_pos ⟨by omega, g1⟩]
    · obtain ⟨v, hv⟩ : ∃ v : Nat, f' (n + 1) - 48 = (v : Int) := ⟨_, (Int.toNat_of_nonneg (by omega)).symm⟩
      refine ⟨aset (aset W 7 (W 6 0).toNat (v : Int)) 6 0 (W 6 0 + 1), ⟨by rw [aset_rd, w1]; omega, fun i hi => by rw [aset_ne (by omega), aset_ne (by omega)]; exact w2 i hi⟩, fun g N hg hN => ?_⟩
      have g0 : g n = 107 := (hg n (by omega)).trans h0
      have g1 : g (n + 1) = f' (n + 1) := hg (n + 1) (by omega)
      refine ⟨by omega, ?_⟩
      unfold p_item
      rw [if_pos g0]
      unfold p_sort
      rw [if_neg (by omega), if_neg (by omega), p_fig_of (v := v) ⟨by omega, by omega, by omega⟩ (by omega)]
theorem TQ.wash {f f' : Nat → Int} {n kk s x a b : Nat} {q : Nat → Int} (h : TQ f n kk q) (hf : ∀ j, j < n → f' j = f j) (hs : s < kk) (hk : kk ≤ 6) (hx : x < 8) (hab : a ≤ b) (hb : b ≤ 9) (h0 : f' n = 119) (h1 : f' (n + 1) = 48 + (s : Int)) (h2 : f' (n + 2) = 116) (h3 : f' (n + 3) = 48 + (x : Int)) (h4 : f' (n + 4) = 58) (h5 : f' (n + 5) = 48 + (a : Int)) (h6 : f' (n + 6) = 45) (h7 : f' (n + 7) = 48 + (b : Int)) : TQ f' (n + 8) kk q := by
  refine h.ext hf (by omega) (fun j e1 e2 => ?_) (fun W w1 w2 => ?_)
  · rcases (show j = n ∨ j = n + 1 ∨ j = n + 2 ∨ j = n + 3 ∨ j = n + 4 ∨ j = n + 5 ∨ j = n + 6 ∨ j = n + 7 by omega) with rfl | rfl | rfl | rfl | rfl | rfl | rfl | rfl <;> omega
  · refine ⟨aset (aset W 8 (s * 8 + x) (a : Int)) 9 (s * 8 + x) (b : Int), ⟨by rw [aset_ne (by omega), aset_ne (by omega)]; exact w1, fun i hi => by rw [aset_ne (by omega), aset_ne (by omega)]; exact w2 i hi⟩, fun g N hg hN => ?_⟩
    have g0 := (hg n (by omega)).trans h0
    have g1 := (hg (n + 1) (by omega)).trans h1
    have g2 : g (n + 1 + 1) = 116 := (hg (n + 2) (by omega)).trans h2
    have g3 : g (n + 1 + 1 + 1) = 48 + (x : Int) := (hg (n + 3) (by omega)).trans h3
    have g4 : g (n + 1 + 1 + 1 + 1) = 58 := (hg (n + 4) (by omega)).trans h4
    have g5 : g (n + 1 + 1 + 1 + 1 + 1) = 48 + (a : Int) := (hg (n + 5) (by omega)).trans h5
    have g6 : g (n + 1 + 1 + 1 + 1 + 1 + 1) = 45 := (hg (n + 6) (by omega)).trans h6
    have g7 : g (n + 1 + 1 + 1 + 1 + 1 + 1 + 1) = 48 + (b : Int) := (hg (n + 7) (by omega)).trans h7
    refine ⟨by omega, ?_⟩
    unfold p_item
    rw [if_neg (by omega), if_pos g0]
    unfold p_wash
    rw [p_fig_of (v := s) ⟨by omega, by omega, by omega⟩ (by omega)]
    dsimp only
    rw [if_neg (fun e => e ⟨by omega, g2⟩), p_fig_of (v := x) ⟨by omega, by omega, by omega⟩ (by omega)]
    dsimp only
    rw [if_neg (fun e => e ⟨by omega, g4⟩), p_fig_of (v := a) ⟨by omega, by omega, by omega⟩ (by omega)]
    dsimp only
    rw [if_neg (fun e => e ⟨by omega, g6⟩), p_fig_of (v := b) ⟨by omega, by omega, by omega⟩ (by omega)]
theorem TQ.inn {f f' : Nat → Int} {n kk x : Nat} {q : Nat → Int} (h : TQ f n kk q) (hf : ∀ j, j < n → f' j = f j) (hx : x < 8) (h0 : f' n = 105) (h1 : f' (n + 1) = 48 + (x : Int)) : TQ f' (n + 2) kk q := by
  refine h.ext hf (by omega) (fun j h2 h3 => ?_) (fun W w1 w2 => ?_)
  · rcases (show j = n ∨ j = n + 1 by omega) with rfl | rfl <;> omega
  · refine ⟨aset W 6 1 (a_or (W 6 1) (a_shl 1 (x : Int))), ⟨(if_neg (fun e => by omega)).trans w1, fun i hi => by rw [aset_ne (by omega)]; exact w2 i hi⟩, fun g N hg hN => ?_⟩
    have g0 := (hg n (by omega)).trans h0
    have g1 := (hg (n + 1) (by omega)).trans h1
    refine ⟨by omega, ?_⟩
    unfold p_item
    rw [if_neg (by omega), if_neg (by omega), if_pos g0]
    unfold p_in
    rw [p_fig_of (v := x) ⟨by omega, by omega, by omega⟩ (by omega)]
theorem TQ.cost {f f' : Nat → Int} {n kk : Nat} {q v : Nat → Int} (h : TQ f n kk q) (hf : ∀ j, j < n → f' j = f j) (h0 : f' n = 99) (hv : ∀ i, i < 5 → (0 ≤ v i ∧ v i ≤ 9) ∧ f' (n + 1 + i) = 48 + v i) : TQ f' (n + 6) kk v := by
  have v0 := hv 0 (by omega)
  have v1 := hv 1 (by omega)
  have v2 := hv 2 (by omega)
  have v3 := hv 3 (by omega)
  have v4 := hv 4 (by omega)
  refine h.ext hf (by omega) (fun j e1 e2 => ?_) (fun W w1 w2 => ?_)
  · by_cases e : j = n
    · subst e
      omega
    · obtain ⟨q1, q2⟩ := hv (j - (n + 1)) (by omega)
      rw [show n + 1 + (j - (n + 1)) = j by omega] at q2
      omega
  · have cv : ∀ i, i < 5 → (((v i).toNat : Nat) : Int) = v i := fun i hi => Int.toNat_of_nonneg (hv i hi).1.1
    refine ⟨aset (aset (aset (aset (aset W 10 0 ((v 0).toNat : Int)) 10 (0 + 1) ((v 1).toNat : Int)) 10 (0 + 1 + 1) ((v 2).toNat : Int)) 10 (0 + 1 + 1 + 1) ((v 3).toNat : Int)) 10 (0 + 1 + 1 + 1 + 1) ((v 4).toNat : Int), ⟨?_, fun i hi => ?_⟩, fun g N hg hN => ?_⟩
    · rw [aset_ne (by omega), aset_ne (by omega), aset_ne (by omega), aset_ne (by omega), aset_ne (by omega)]
      exact w1
    · rw [aset_at, aset_at, aset_at, aset_at, aset_at]
      rcases (show i = 0 ∨ i = 1 ∨ i = 2 ∨ i = 3 ∨ i = 4 by omega) with rfl | rfl | rfl | rfl | rfl
      · simp [cv 0 (by omega)]
      · simp [cv 1 (by omega)]
      · simp [cv 2 (by omega)]
      · simp [cv 3 (by omega)]
      · simp [cv 4 (by omega)]
    · have g0 := (hg n (by omega)).trans h0
      have g1 : g (n + 1) = 48 + v 0 := (hg (n + 1) (by omega)).trans v0.2
      have g2 : g (n + 1 + 1) = 48 + v 1 := (hg (n + 1 + 1) (by omega)).trans v1.2
      have g3 : g (n + 1 + 1 + 1) = 48 + v 2 := (hg (n + 1 + 1 + 1) (by omega)).trans v2.2
      have g4 : g (n + 1 + 1 + 1 + 1) = 48 + v 3 := (hg (n + 1 + 1 + 1 + 1) (by omega)).trans v3.2
      have g5 : g (n + 1 + 1 + 1 + 1 + 1) = 48 + v 4 := (hg (n + 1 + 1 + 1 + 1 + 1) (by omega)).trans v4.2
      have c0 := cv 0 (by omega)
      have c1 := cv 1 (by omega)
      have c2 := cv 2 (by omega)
      have c3 := cv 3 (by omega)
      have c4 := cv 4 (by omega)
      refine ⟨by omega, ?_⟩
      unfold p_item
      rw [if_neg (by omega), if_neg (by omega), if_neg (by omega), if_pos g0]
      unfold p_cost
      rw [p_fig_of (v := (v 0).toNat) ⟨by omega, by omega, by omega⟩ (by omega)]
      dsimp only
      unfold p_cost
      rw [p_fig_of (v := (v 1).toNat) ⟨by omega, by omega, by omega⟩ (by omega)]
      dsimp only
      unfold p_cost
      rw [p_fig_of (v := (v 2).toNat) ⟨by omega, by omega, by omega⟩ (by omega)]
      dsimp only
      unfold p_cost
      rw [p_fig_of (v := (v 3).toNat) ⟨by omega, by omega, by omega⟩ (by omega)]
      dsimp only
      unfold p_cost
      rw [p_fig_of (v := (v 4).toNat) ⟨by omega, by omega, by omega⟩ (by omega)]
      rfl
/-- such a text is read to its end -/
theorem TQ.fin {f g : Nat → Int} {n kk : Nat} {q : Nat → Int} (h : TQ f n kk q) (hg : ∀ j, j < n → g j = f j) (hn : n ≤ 120) : ∃ W : Nat → Nat → Int, p_run g n 120 0 p_W0 = (n, some W) ∧ W 6 0 = (kk : Int) ∧ ∀ i, i < 5 → W 10 i = q i := by
  obtain ⟨⟨c, W, h1, h2, h3, h4⟩, h5⟩ := h
  refine ⟨W, ?_, h3, h4⟩
  have e := h2 g n hg (Nat.le_refl _) (120 - c)
  rw [show c + (120 - c) = 120 by omega] at e
  rw [e]
  cases (120 - c) with
  | zero => rfl
  | succ m =>
    show (if n < n then _ else (n, some W)) = _
    rw [if_neg (by omega)]
