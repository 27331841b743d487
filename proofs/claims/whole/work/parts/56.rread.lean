/-! THE REFERENCE'S READER -/
def TQ (f : Nat → Int) (t n : Nat) (σ : am_S) : Prop := t < 4 ∧ n ≤ 120 ∧ σ.1 81 t = (n : Int) ∧ ∀ j, j < n → σ.1 82 (120 * t + j) = f j ∧ -128 ≤ f j ∧ f j ≤ 127
theorem TQ.fr {L : List Nat} {f : Nat → Int} {t n : Nat} {σ σ' : am_S} (h : Fr L σ σ') (hw : ∀ a ∈ L, a ≠ 81 ∧ a ≠ 82) (R : TQ f t n σ) : TQ f t n σ' := by
  obtain ⟨h1, h2, h3, h4⟩ := R
  exact ⟨h1, h2, (h.2 81 (fun e => (hw 81 e).1 rfl) t).trans h3, fun j hj => by rw [h.2 82 (fun e => (hw 82 e).2 rfl)]; exact h4 j hj⟩
def WQ (W : Nat → Nat → Int) (σ : am_S) : Prop := σ.1 76 17 = W 6 0 ∧ σ.1 76 21 = W 6 1 ∧ (∀ j : Nat, (j : Int) < W 6 0 → σ.1 87 j = W 7 j) ∧ (∀ j, j < 48 → σ.1 88 j = W 8 j) ∧ (∀ j, j < 48 → σ.1 89 j = W 9 j) ∧ ∀ j, j < 5 → σ.1 90 j = W 10 j
theorem WQ.s23 {W : Nat → Nat → Int} {σ : am_S} {x : Int} (R : WQ W σ) : WQ W (am_set σ 76 23 x) := R
theorem WQ.s24 {W : Nat → Nat → Int} {σ : am_S} {x : Int} (R : WQ W σ) : WQ W (am_set σ 76 24 x) := R
theorem WQ.s21 {W : Nat → Nat → Int} {σ : am_S} {x : Int} (R : WQ W σ) : WQ (aset W 6 1 x) (am_set σ 76 21 x) := by
  obtain ⟨h1, h2, h3, h4, h5, h6⟩ := R
  exact ⟨h1, rfl, h3, h4, h5, h6⟩
theorem WQ.s90 {W : Nat → Nat → Int} {σ : am_S} {i : Nat} {x : Int} (R : WQ W σ) : WQ (aset W 10 i x) (am_set σ 90 i x) := by
  obtain ⟨h1, h2, h3, h4, h5, h6⟩ := R
  refine ⟨h1, h2, h3, h4, h5, fun j hj => ?_⟩
  rw [am_set_at, aset_at]
  split
  · rfl
  · exact h6 j hj
theorem WQ.s89 {W : Nat → Nat → Int} {σ : am_S} {i : Nat} {x y : Int} (R : WQ W σ) : WQ (aset (aset W 8 i x) 9 i y) (am_set (am_set σ 88 i x) 89 i y) := by
  obtain ⟨h1, h2, h3, h4, h5, h6⟩ := R
  refine ⟨h1, h2, h3, fun j hj => ?_, fun j hj => ?_, h6⟩
  · rw [am_set_nb (by decide), am_set_at, show aset (aset W 8 i x) 9 i y 8 j = aset W 8 i x 8 j from if_neg (fun e => absurd e.1 (by decide)), aset_at]
    split
    · rfl
    · exact h4 j hj
  · rw [am_set_at, aset_at]
    split
    · rfl
    · exact h5 j hj
theorem WQ.srt {W : Nat → Nat → Int} {σ : am_S} {k : Nat} {v x : Int} (hk : W 6 0 = (k : Int)) (hx : x = (k : Int) + 1) (R : WQ W σ) : WQ (aset (aset W 7 k v) 6 0 ((k : Int) + 1)) (am_set (am_set σ 87 k v) 76 17 x) := by
  obtain ⟨h1, h2, h3, h4, h5, h6⟩ := R
  refine ⟨by rw [am_set_rd, hx]; rfl, h2, fun j hj => ?_, h4, h5, h6⟩
  have hj : (j : Int) < (k : Int) + 1 := hj
  rw [am_set_nb (by decide), am_set_at, show aset (aset W 7 k v) 6 0 ((k : Int) + 1) 7 j = aset W 7 k v 7 j from if_neg (fun e => absurd e.1 (by decide)), aset_at]
  by_cases e : j = k
  · rw [if_pos e, if_pos e]
  · rw [if_neg e, if_neg e]
    exact h3 j (by omega)
theorem WQ.fr {L : List Nat} {W : Nat → Nat → Int} {σ σ' : am_S} (h : Fr L σ σ') (hw : ∀ a ∈ L, a < 76 ∨ (76 < a ∧ a < 87) ∨ 90 < a) (R : WQ W σ) : WQ W σ' := by
  have k : ∀ a, (a = 76 ∨ a = 87 ∨ a = 88 ∨ a = 89 ∨ a = 90) → σ'.1 a = σ.1 a := fun a ha => funext (h.2 a (fun e => by have := hw a e; omega))
  unfold WQ
  rw [k 76 (by omega), k 87 (by omega), k 88 (by omega), k 89 (by omega), k 90 (by omega)]
  exact R
/-- the byte at a place; none -/
def p_here (f : Nat → Int) (n pos : Nat) : Int := if pos < n then f pos else -9
theorem p_here_let {f : Nat → Int} {n pos : Nat} {c : Int} (hc : 0 ≤ c) : p_here f n pos = c ↔ (pos < n ∧ f pos = c) := by
  unfold p_here
  split
  · rename_i h
    exact ⟨fun e => ⟨h, e⟩, fun e => e.2⟩
  · rename_i h
    exact ⟨fun e => by omega, fun e => absurd e.1 h⟩
theorem c194 (f : Nat → Int) (t n pos : Nat) (σ : am_S) (hW : Wd σ) (hT : TQ f t n σ) (hpos : σ.1 76 23 = (pos : Int)) (hle : pos ≤ n) : CC 194 [vR 76, vI (((t : Nat) : Int))] σ (fun r σ' => r = some (vI (p_here f n pos)) ∧ σ' = σ) := by
  show TT am_b194 (am_b194.getD 0 []) [(0, vR 76), (1, vI (((t : Nat) : Int)))] [] σ _
  obtain ⟨ht4, hn120, hn, hf⟩ := id hT
  refine tt_ar rfl ?_
  refine tt_getI (x := ((pos : Nat) : Int)) (wo_76 hW) rfl hpos ?_
  refine tt_ar rfl ?_
  refine tt_getR (wo_76 hW) rfl (wr_76_9 hW) ?_
  refine tt_ar rfl ?_
  refine tt_iald (t) (x := ((n : Nat) : Int)) (wa_81 hW) rfl (by omega) hn ?_
  refine tt_icge (fun h0_6 => ?_) (fun h0_6 => ?_)
  · refine tt_ar rfl ?_
    refine tt_nop ?_
    refine tt_iret ?_
    exact ⟨rv (by unfold p_here; rw [if_neg (by omega)]), rfl⟩
  · refine tt_ar rfl ?_
    refine tt_getR (wo_76 hW) rfl (wr_76_10 hW) ?_
    refine tt_ar rfl ?_
    refine tt_ar rfl ?_
    refine tt_imul (by omega) (by omega) ?_
    refine tt_ar rfl ?_
    refine tt_getI (x := ((pos : Nat) : Int)) (wo_76 hW) rfl hpos ?_
    refine tt_iadd (by omega) (by omega) ?_
    refine tt_iald (((120 * t) + pos)) (x := f pos) (wa_82 hW) (by omega) (by omega) (hf pos (by omega)).1 ?_
    have hb := hf pos (by omega)
    refine tt_goto ?_
    refine tt_iret ?_
    exact ⟨rv (by unfold p_here; rw [if_pos (by omega)]), rfl⟩

theorem c197 (f : Nat → Int) (t n pos : Nat) (σ : am_S) (hW : Wd σ) (hT : TQ f t n σ) (hpos : σ.1 76 23 = (pos : Int)) (hle : pos ≤ n) (c : Int) (hc : 0 ≤ c) : CC 197 [vR 76, vI (((t : Nat) : Int)), vI (c)] σ (fun r σ' => ((pos < n ∧ f pos = c) ∧ σ' = am_set σ 76 23 ((pos + 1 : Nat) : Int) ∧ r = some (vI 1)) ∨ (¬ (pos < n ∧ f pos = c) ∧ σ' = am_set σ 76 23 ((pos : Nat) : Int) ∧ r = some (vI 0))) := by
  show TT am_b197 (am_b197.getD 0 []) [(0, vR 76), (1, vI (((t : Nat) : Int))), (2, vI (c))] [] σ _
  obtain ⟨ht4, hn120, hn, hf⟩ := id hT
  have hl := p_here_let (f := f) (n := n) (pos := pos) hc
  refine tt_ar rfl ?_
  refine tt_ar rfl ?_
  refine tt_cv2 2 rfl (wo_76 hW) (c194 f t n (pos) σ hW hT hpos (by omega)) (kp ?_)
  refine tt_ar rfl ?_
  refine tt_icne (fun h0_4 => ?_) (fun h0_4 => ?_)
  · refine tt_ar rfl ?_
    refine tt_nop ?_
    refine tt_ar rfl ?_
    refine tt_ar rfl ?_
    refine tt_ar rfl ?_
    refine tt_getI (x := ((pos : Nat) : Int)) (wo_76 hW) rfl hpos ?_
    refine tt_ar rfl ?_
    refine tt_ifeqT (by decide) ?_
    refine tt_ar rfl ?_
    refine tt_nop ?_
    refine tt_bI (g := fun a b => w32 (a + b)) (z := ((pos : Nat) : Int)) rfl (iinc_fit (by omega) (by omega) (by omega)) ?_
    refine tt_putI (wo_76 hW) rfl ?_
    refine tt_ar rfl ?_
    refine tt_zret (by omega) ?_
    exact Or.inr ⟨fun e => h0_4 (hl.mpr e), rfl, rfl⟩
  · refine tt_ar rfl ?_
    refine tt_goto ?_
    refine tt_ar rfl ?_
    refine tt_ar rfl ?_
    refine tt_ar rfl ?_
    refine tt_getI (x := ((pos : Nat) : Int)) (wo_76 hW) rfl hpos ?_
    refine tt_ar rfl ?_
    refine tt_ifeqF (by decide) ?_
    refine tt_ar rfl ?_
    refine tt_goto ?_
    refine tt_bI (g := fun a b => w32 (a + b)) (z := ((pos + 1 : Nat) : Int)) rfl (iinc_fit (by omega) (by omega) (by omega)) ?_
    refine tt_putI (wo_76 hW) rfl ?_
    refine tt_ar rfl ?_
    refine tt_zret (by omega) ?_
    exact Or.inl ⟨hl.mp h0_4, rfl, rfl⟩

theorem c198 (f : Nat → Int) (t n pos : Nat) (σ : am_S) (hW : Wd σ) (hT : TQ f t n σ) (hpos : σ.1 76 23 = (pos : Int)) (hle : pos ≤ n) (lo hi : Int) (h0 : 0 ≤ lo) : CC 198 [vR 76, vI (((t : Nat) : Int)), vI (lo), vI (hi)] σ (fun r σ' => (∃ v : Nat, p_fig f n pos lo hi = some v ∧ σ' = am_set (am_set σ 76 24 (v : Int)) 76 23 ((pos + 1 : Nat) : Int) ∧ r = some (vI 1)) ∨ (∃ z : Int, p_fig f n pos lo hi = none ∧ σ' = am_set (am_set σ 76 24 z) 76 23 ((pos : Nat) : Int) ∧ r = some (vI 0))) := by
  show TT am_b198 (am_b198.getD 0 []) [(0, vR 76), (1, vI (((t : Nat) : Int))), (2, vI (lo)), (3, vI (hi))] [] σ _
  obtain ⟨ht4, hn120, hn, hf⟩ := id hT
  have hsg : (pos < n ∧ p_here f n pos = f pos ∧ -128 ≤ f pos ∧ f pos ≤ 127) ∨ (¬ pos < n ∧ p_here f n pos = -9) := by unfold p_here; by_cases e : pos < n; (exact Or.inl ⟨e, if_pos e, (hf pos e).2⟩); (exact Or.inr ⟨e, if_neg e⟩)
  refine tt_ar rfl ?_
  refine tt_ar rfl ?_
  refine tt_ar rfl ?_
  refine tt_cv2 2 rfl (wo_76 hW) (c194 f t n (pos) σ hW hT hpos (by omega)) (kp ?_)
  refine tt_ar rfl ?_
  refine tt_isub (by omega) (by omega) ?_
  refine tt_putI (wo_76 hW) rfl ?_
  refine tt_ar rfl ?_
  refine tt_getI (x := (p_here f n (pos) - 48)) (wo_76 hW) rfl (@am_set_rd σ 76 (24) ((p_here f n (pos) - 48))) ?_
  refine tt_ar rfl ?_
  refine tt_ar rfl ?_
  refine tt_cs3 3 rfl (c175 _ _ _ _) (kb (fun h0_11 => ?_) (fun h0_11 => ?_))
  · refine tt_ar rfl ?_
    refine tt_ar rfl ?_
    refine tt_ar rfl ?_
    refine tt_getI (x := ((pos : Nat) : Int)) (wo_76 hW) rfl hpos ?_
    refine tt_ar rfl ?_
    refine tt_ifeqF (by decide) ?_
    refine tt_ar rfl ?_
    refine tt_goto ?_
    refine tt_bI (g := fun a b => w32 (a + b)) (z := ((pos + 1 : Nat) : Int)) rfl (iinc_fit (by omega) (by omega) (by omega)) ?_
    refine tt_putI (wo_76 hW) rfl ?_
    refine tt_ar rfl ?_
    refine tt_zret (by omega) ?_
    refine Or.inl ⟨(f pos - 48).toNat, p_fig_of (by omega) (by omega), ?_, rfl⟩
    rw [show p_here f n pos - 48 = (((f pos - 48).toNat : Nat) : Int) by omega]
  · refine tt_ar rfl ?_
    refine tt_ar rfl ?_
    refine tt_ar rfl ?_
    refine tt_getI (x := ((pos : Nat) : Int)) (wo_76 hW) rfl hpos ?_
    refine tt_ar rfl ?_
    refine tt_ifeqT (by decide) ?_
    refine tt_ar rfl ?_
    refine tt_nop ?_
    refine tt_bI (g := fun a b => w32 (a + b)) (z := ((pos : Nat) : Int)) rfl (iinc_fit (by omega) (by omega) (by omega)) ?_
    refine tt_putI (wo_76 hW) rfl ?_
    refine tt_ar rfl ?_
    refine tt_zret (by omega) ?_
    exact Or.inr ⟨_, p_fig_none (by omega), rfl, rfl⟩

theorem c196 (f : Nat → Int) (t n pos k : Nat) (W : Nat → Nat → Int) (σ : am_S) (hW : Wd σ) (hT : TQ f t n σ) (hpos : σ.1 76 23 = ((pos + 1 : Nat) : Int)) (hle : pos < n) (hP : WQ W σ) (hk : W 6 0 = (k : Int)) (hk6 : k < 6) : CC 196 [vR 76, vI (((t : Nat) : Int))] σ (fun r σ' => (∃ q W', p_sort f n pos W = (q, some W') ∧ r = some (vI 1) ∧ Fr [76, 87, 88, 89, 90] σ σ' ∧ (∀ j, j ≠ 17 → j ≠ 21 → j ≠ 23 → j ≠ 24 → σ'.1 76 j = σ.1 76 j) ∧ σ'.1 76 23 = (q : Int) ∧ WQ W' σ') ∨ (∃ q, p_sort f n pos W = (q, none) ∧ r = some (vI 0) ∧ Fr [76, 87, 88, 89, 90] σ σ' ∧ (∀ j, j ≠ 17 → j ≠ 21 → j ≠ 23 → j ≠ 24 → σ'.1 76 j = σ.1 76 j) ∧ σ'.1 76 23 = (q : Int))) := by
  show TT am_b196 (am_b196.getD 0 []) [(0, vR 76), (1, vI (((t : Nat) : Int)))] [] σ _
  obtain ⟨ht4, hn120, hn, hf⟩ := id hT
  refine tt_ar rfl ?_
  refine tt_ar rfl ?_
  refine tt_ar rfl ?_
  refine tt_cv3 3 rfl (wo_76 hW) (c197 f t n (pos + 1) σ hW hT hpos (by omega) _ (by decide)) (kor (kand fun hl0 => ks ?_) (kand fun hl0 => ks ?_))
  · refine tt_ifeqF (by decide) ?_
    refine tt_ar rfl ?_
    refine tt_ar rfl ?_
    refine tt_putI (wo_76 hW) rfl ?_
    refine tt_goto ?_
    refine tt_ar rfl ?_
    refine tt_getR (wo_76 hW) rfl (wr_76_18 hW) ?_
    refine tt_ar rfl ?_
    refine tt_getI (x := ((k : Nat) : Int)) (wo_76 hW) rfl (hP.1.trans hk) ?_
    refine tt_ar rfl ?_
    refine tt_getI (x := (-9)) (wo_76 hW) rfl (@am_set_rd (am_set σ 76 (23) (((pos + 1 + 1 : Nat) : Int))) 76 (24) ((-9))) ?_
    refine tt_iast (k) (wa_87 hW) (by omega) rfl (by omega) ?_
    refine tt_ar rfl ?_
    refine tt_ar rfl ?_
    refine tt_getI (x := ((k : Nat) : Int)) (wo_76 hW) rfl (hP.1.trans hk) ?_
    refine tt_ar rfl ?_
    refine tt_iadd (by omega) (by omega) ?_
    refine tt_putI (wo_76 hW) rfl ?_
    refine tt_ar rfl ?_
    refine tt_zret (by omega) ?_
    exact Or.inl ⟨pos + 1 + 1, _, (by unfold p_sort; rw [if_neg (by omega), if_pos hl0]; (try dsimp only); rw [hk]; first | done | rfl), rfl, (Fr.put (Fr.put (Fr.put (Fr.put Fr.rf (by decide)) (by decide)) (by decide)) (by decide)), (fun j h1 h2 h3 h4 => by simp [am_set, h1, h2, h3, h4]), ((@am_set_rd σ 76 (23) (((pos + 1 + 1 : Nat) : Int))).trans (by omega)), (WQ.srt hk (by omega) (WQ.s24 (WQ.s23 hP)))⟩
  · refine tt_ifeqT (by decide) ?_
    refine tt_ar rfl ?_
    refine tt_ar rfl ?_
    refine tt_ar rfl ?_
    refine tt_ar rfl ?_
    refine tt_cv4 4 rfl (wo_76 hW) (c198 f t n (pos + 1) (am_set σ 76 (23) (((pos + 1 : Nat) : Int))) hW (TQ.fr (L := [76, 87, 88, 89, 90]) (Fr.put Fr.rf (by decide)) (by decide) hT) ((@am_set_rd σ 76 (23) (((pos + 1 : Nat) : Int))).trans (by omega)) (by omega) _ _ (by omega)) (kor (kex fun v0 => kand fun hv0 => ks ?_) (kex fun zv0 => kand fun hv0 => ks ?_))
    · have hbv0 := p_fig_some (by omega) hv0
      refine tt_ifneT (by decide) ?_
      refine tt_ar rfl ?_
      refine tt_getR (wo_76 hW) rfl (wr_76_18 hW) ?_
      refine tt_ar rfl ?_
      refine tt_getI (x := ((k : Nat) : Int)) (wo_76 hW) rfl (hP.1.trans hk) ?_
      refine tt_ar rfl ?_
      refine tt_getI (x := ((v0 : Nat) : Int)) (wo_76 hW) rfl (@am_set_rd (am_set σ 76 (23) (((pos + 1 : Nat) : Int))) 76 (24) (((v0 : Nat) : Int))) ?_
      refine tt_iast (k) (wa_87 hW) (by omega) rfl (by omega) ?_
      refine tt_ar rfl ?_
      refine tt_ar rfl ?_
      refine tt_getI (x := ((k : Nat) : Int)) (wo_76 hW) rfl (hP.1.trans hk) ?_
      refine tt_ar rfl ?_
      refine tt_iadd (by omega) (by omega) ?_
      refine tt_putI (wo_76 hW) rfl ?_
      refine tt_ar rfl ?_
      refine tt_zret (by omega) ?_
      exact Or.inl ⟨pos + 1 + 1, _, (by unfold p_sort; rw [if_neg (by omega), if_neg hl0, hv0]; (try dsimp only); rw [hk]; first | done | rfl), rfl, (Fr.put (Fr.put (Fr.put (Fr.put (Fr.put Fr.rf (by decide)) (by decide)) (by decide)) (by decide)) (by decide)), (fun j h1 h2 h3 h4 => by simp [am_set, h1, h2, h3, h4]), ((@am_set_rd (am_set (am_set σ 76 (23) (((pos + 1 : Nat) : Int))) 76 (24) (((v0 : Nat) : Int))) 76 (23) (((pos + 1 + 1 : Nat) : Int))).trans (by omega)), (WQ.srt hk (by omega) (WQ.s23 (WQ.s24 (WQ.s23 hP))))⟩
    · refine tt_ifneF (by decide) ?_
      refine tt_ar rfl ?_
      refine tt_zret (by omega) ?_
      exact Or.inr ⟨pos + 1, (by unfold p_sort; rw [if_neg (by omega), if_neg hl0, hv0]; first | done | rfl), rfl, (Fr.put (Fr.put (Fr.put Fr.rf (by decide)) (by decide)) (by decide)), (fun j h1 h2 h3 h4 => by simp [am_set, h1, h2, h3, h4]), ((@am_set_rd (am_set (am_set σ 76 (23) (((pos + 1 : Nat) : Int))) 76 (24) (zv0)) 76 (23) (((pos + 1 : Nat) : Int))).trans (by omega))⟩

theorem c199 (f : Nat → Int) (t n pos k : Nat) (W : Nat → Nat → Int) (σ : am_S) (hW : Wd σ) (hT : TQ f t n σ) (hpos : σ.1 76 23 = ((pos + 1 : Nat) : Int)) (hle : pos < n) (hP : WQ W σ) (hk : W 6 0 = (k : Int)) (hk6 : k ≤ 6) : CC 199 [vR 76, vI (((t : Nat) : Int))] σ (fun r σ' => (∃ q W', p_wash f n pos W = (q, some W') ∧ r = some (vI 1) ∧ Fr [76, 87, 88, 89, 90] σ σ' ∧ (∀ j, j ≠ 17 → j ≠ 21 → j ≠ 23 → j ≠ 24 → σ'.1 76 j = σ.1 76 j) ∧ σ'.1 76 23 = (q : Int) ∧ WQ W' σ') ∨ (∃ q, p_wash f n pos W = (q, none) ∧ r = some (vI 0) ∧ Fr [76, 87, 88, 89, 90] σ σ' ∧ (∀ j, j ≠ 17 → j ≠ 21 → j ≠ 23 → j ≠ 24 → σ'.1 76 j = σ.1 76 j) ∧ σ'.1 76 23 = (q : Int))) := by
  show TT am_b199 (am_b199.getD 0 []) [(0, vR 76), (1, vI (((t : Nat) : Int)))] [] σ _
  obtain ⟨ht4, hn120, hn, hf⟩ := id hT
  refine tt_ar rfl ?_
  refine tt_ar rfl ?_
  refine tt_ar rfl ?_
  refine tt_ar rfl ?_
  refine tt_getI (x := ((k : Nat) : Int)) (wo_76 hW) rfl (hP.1.trans hk) ?_
  refine tt_ar rfl ?_
  refine tt_isub (by omega) (by omega) ?_
  refine tt_cv4 4 rfl (wo_76 hW) (c198 f t n (pos + 1) σ hW hT hpos (by omega) _ _ (by omega)) (kor (kex fun v0 => kand fun hv0 => ks ?_) (kex fun zv0 => kand fun hv0 => ks ?_))
  · have hbv0 := p_fig_some (by omega) hv0
    refine tt_ifneT (by decide) ?_
    refine tt_ar rfl ?_
    refine tt_ar rfl ?_
    refine tt_getI (x := ((v0 : Nat) : Int)) (wo_76 hW) rfl (@am_set_rd σ 76 (24) (((v0 : Nat) : Int))) ?_
    refine tt_imul (by omega) (by omega) ?_
    refine tt_ar rfl ?_
    refine tt_ar rfl ?_
    refine tt_ar rfl ?_
    refine tt_ar rfl ?_
    refine tt_cv3 3 rfl (wo_76 hW) (c197 f t n (pos + 1 + 1) (am_set (am_set σ 76 (24) (((v0 : Nat) : Int))) 76 (23) (((pos + 1 + 1 : Nat) : Int))) hW (TQ.fr (L := [76, 87, 88, 89, 90]) (Fr.put (Fr.put Fr.rf (by decide)) (by decide)) (by decide) hT) ((@am_set_rd (am_set σ 76 (24) (((v0 : Nat) : Int))) 76 (23) (((pos + 1 + 1 : Nat) : Int))).trans (by omega)) (by omega) _ (by decide)) (kor (kand fun hl0 => ks ?_) (kand fun hl0 => ks ?_))
    · refine tt_ifeqF (by decide) ?_
      refine tt_ar rfl ?_
      refine tt_ar rfl ?_
      refine tt_ar rfl ?_
      refine tt_ar rfl ?_
      refine tt_cv4 4 rfl (wo_76 hW) (c198 f t n (pos + 1 + 1 + 1) (am_set (am_set (am_set σ 76 (24) (((v0 : Nat) : Int))) 76 (23) (((pos + 1 + 1 : Nat) : Int))) 76 (23) (((pos + 1 + 1 + 1 : Nat) : Int))) hW (TQ.fr (L := [76, 87, 88, 89, 90]) (Fr.put (Fr.put (Fr.put Fr.rf (by decide)) (by decide)) (by decide)) (by decide) hT) ((@am_set_rd (am_set (am_set σ 76 (24) (((v0 : Nat) : Int))) 76 (23) (((pos + 1 + 1 : Nat) : Int))) 76 (23) (((pos + 1 + 1 + 1 : Nat) : Int))).trans (by omega)) (by omega) _ _ (by omega)) (kor (kex fun v1 => kand fun hv1 => ks ?_) (kex fun zv1 => kand fun hv1 => ks ?_))
      · have hbv1 := p_fig_some (by omega) hv1
        refine tt_ifneT (by decide) ?_
        refine tt_ar rfl ?_
        refine tt_ar rfl ?_
        refine tt_getI (x := ((v1 : Nat) : Int)) (wo_76 hW) rfl (@am_set_rd (am_set (am_set (am_set σ 76 (24) (((v0 : Nat) : Int))) 76 (23) (((pos + 1 + 1 : Nat) : Int))) 76 (23) (((pos + 1 + 1 + 1 : Nat) : Int))) 76 (24) (((v1 : Nat) : Int))) ?_
        refine tt_iadd (by omega) (by omega) ?_
        refine tt_ar rfl ?_
        refine tt_ar rfl ?_
        refine tt_ar rfl ?_
        refine tt_ar rfl ?_
        refine tt_cv3 3 rfl (wo_76 hW) (c197 f t n (pos + 1 + 1 + 1 + 1) (am_set (am_set (am_set (am_set (am_set σ 76 (24) (((v0 : Nat) : Int))) 76 (23) (((pos + 1 + 1 : Nat) : Int))) 76 (23) (((pos + 1 + 1 + 1 : Nat) : Int))) 76 (24) (((v1 : Nat) : Int))) 76 (23) (((pos + 1 + 1 + 1 + 1 : Nat) : Int))) hW (TQ.fr (L := [76, 87, 88, 89, 90]) (Fr.put (Fr.put (Fr.put (Fr.put (Fr.put Fr.rf (by decide)) (by decide)) (by decide)) (by decide)) (by decide)) (by decide) hT) ((@am_set_rd (am_set (am_set (am_set (am_set σ 76 (24) (((v0 : Nat) : Int))) 76 (23) (((pos + 1 + 1 : Nat) : Int))) 76 (23) (((pos + 1 + 1 + 1 : Nat) : Int))) 76 (24) (((v1 : Nat) : Int))) 76 (23) (((pos + 1 + 1 + 1 + 1 : Nat) : Int))).trans (by omega)) (by omega) _ (by decide)) (kor (kand fun hl1 => ks ?_) (kand fun hl1 => ks ?_))
        · refine tt_ifeqF (by decide) ?_
          refine tt_ar rfl ?_
          refine tt_ar rfl ?_
          refine tt_ar rfl ?_
          refine tt_ar rfl ?_
          refine tt_cv4 4 rfl (wo_76 hW) (c198 f t n (pos + 1 + 1 + 1 + 1 + 1) (am_set (am_set (am_set (am_set (am_set (am_set σ 76 (24) (((v0 : Nat) : Int))) 76 (23) (((pos + 1 + 1 : Nat) : Int))) 76 (23) (((pos + 1 + 1 + 1 : Nat) : Int))) 76 (24) (((v1 : Nat) : Int))) 76 (23) (((pos + 1 + 1 + 1 + 1 : Nat) : Int))) 76 (23) (((pos + 1 + 1 + 1 + 1 + 1 : Nat) : Int))) hW (TQ.fr (L := [76, 87, 88, 89, 90]) (Fr.put (Fr.put (Fr.put (Fr.put (Fr.put (Fr.put Fr.rf (by decide)) (by decide)) (by decide)) (by decide)) (by decide)) (by decide)) (by decide) hT) ((@am_set_rd (am_set (am_set (am_set (am_set (am_set σ 76 (24) (((v0 : Nat) : Int))) 76 (23) (((pos + 1 + 1 : Nat) : Int))) 76 (23) (((pos + 1 + 1 + 1 : Nat) : Int))) 76 (24) (((v1 : Nat) : Int))) 76 (23) (((pos + 1 + 1 + 1 + 1 : Nat) : Int))) 76 (23) (((pos + 1 + 1 + 1 + 1 + 1 : Nat) : Int))).trans (by omega)) (by omega) _ _ (by omega)) (kor (kex fun v2 => kand fun hv2 => ks ?_) (kex fun zv2 => kand fun hv2 => ks ?_))
          · have hbv2 := p_fig_some (by omega) hv2
            refine tt_ifneT (by decide) ?_
            refine tt_ar rfl ?_
            refine tt_getI (x := ((v2 : Nat) : Int)) (wo_76 hW) rfl (@am_set_rd (am_set (am_set (am_set (am_set (am_set (am_set σ 76 (24) (((v0 : Nat) : Int))) 76 (23) (((pos + 1 + 1 : Nat) : Int))) 76 (23) (((pos + 1 + 1 + 1 : Nat) : Int))) 76 (24) (((v1 : Nat) : Int))) 76 (23) (((pos + 1 + 1 + 1 + 1 : Nat) : Int))) 76 (23) (((pos + 1 + 1 + 1 + 1 + 1 : Nat) : Int))) 76 (24) (((v2 : Nat) : Int))) ?_
            refine tt_ar rfl ?_
            refine tt_ar rfl ?_
            refine tt_ar rfl ?_
            refine tt_ar rfl ?_
            refine tt_cv3 3 rfl (wo_76 hW) (c197 f t n (pos + 1 + 1 + 1 + 1 + 1 + 1) (am_set (am_set (am_set (am_set (am_set (am_set (am_set (am_set σ 76 (24) (((v0 : Nat) : Int))) 76 (23) (((pos + 1 + 1 : Nat) : Int))) 76 (23) (((pos + 1 + 1 + 1 : Nat) : Int))) 76 (24) (((v1 : Nat) : Int))) 76 (23) (((pos + 1 + 1 + 1 + 1 : Nat) : Int))) 76 (23) (((pos + 1 + 1 + 1 + 1 + 1 : Nat) : Int))) 76 (24) (((v2 : Nat) : Int))) 76 (23) (((pos + 1 + 1 + 1 + 1 + 1 + 1 : Nat) : Int))) hW (TQ.fr (L := [76, 87, 88, 89, 90]) (Fr.put (Fr.put (Fr.put (Fr.put (Fr.put (Fr.put (Fr.put (Fr.put Fr.rf (by decide)) (by decide)) (by decide)) (by decide)) (by decide)) (by decide)) (by decide)) (by decide)) (by decide) hT) ((@am_set_rd (am_set (am_set (am_set (am_set (am_set (am_set (am_set σ 76 (24) (((v0 : Nat) : Int))) 76 (23) (((pos + 1 + 1 : Nat) : Int))) 76 (23) (((pos + 1 + 1 + 1 : Nat) : Int))) 76 (24) (((v1 : Nat) : Int))) 76 (23) (((pos + 1 + 1 + 1 + 1 : Nat) : Int))) 76 (23) (((pos + 1 + 1 + 1 + 1 + 1 : Nat) : Int))) 76 (24) (((v2 : Nat) : Int))) 76 (23) (((pos + 1 + 1 + 1 + 1 + 1 + 1 : Nat) : Int))).trans (by omega)) (by omega) _ (by decide)) (kor (kand fun hl2 => ks ?_) (kand fun hl2 => ks ?_))
            · refine tt_ifeqF (by decide) ?_
              refine tt_ar rfl ?_
              refine tt_ar rfl ?_
              refine tt_ar rfl ?_
              refine tt_ar rfl ?_
              refine tt_cv4 4 rfl (wo_76 hW) (c198 f t n (pos + 1 + 1 + 1 + 1 + 1 + 1 + 1) (am_set (am_set (am_set (am_set (am_set (am_set (am_set (am_set (am_set σ 76 (24) (((v0 : Nat) : Int))) 76 (23) (((pos + 1 + 1 : Nat) : Int))) 76 (23) (((pos + 1 + 1 + 1 : Nat) : Int))) 76 (24) (((v1 : Nat) : Int))) 76 (23) (((pos + 1 + 1 + 1 + 1 : Nat) : Int))) 76 (23) (((pos + 1 + 1 + 1 + 1 + 1 : Nat) : Int))) 76 (24) (((v2 : Nat) : Int))) 76 (23) (((pos + 1 + 1 + 1 + 1 + 1 + 1 : Nat) : Int))) 76 (23) (((pos + 1 + 1 + 1 + 1 + 1 + 1 + 1 : Nat) : Int))) hW (TQ.fr (L := [76, 87, 88, 89, 90]) (Fr.put (Fr.put (Fr.put (Fr.put (Fr.put (Fr.put (Fr.put (Fr.put (Fr.put Fr.rf (by decide)) (by decide)) (by decide)) (by decide)) (by decide)) (by decide)) (by decide)) (by decide)) (by decide)) (by decide) hT) ((@am_set_rd (am_set (am_set (am_set (am_set (am_set (am_set (am_set (am_set σ 76 (24) (((v0 : Nat) : Int))) 76 (23) (((pos + 1 + 1 : Nat) : Int))) 76 (23) (((pos + 1 + 1 + 1 : Nat) : Int))) 76 (24) (((v1 : Nat) : Int))) 76 (23) (((pos + 1 + 1 + 1 + 1 : Nat) : Int))) 76 (23) (((pos + 1 + 1 + 1 + 1 + 1 : Nat) : Int))) 76 (24) (((v2 : Nat) : Int))) 76 (23) (((pos + 1 + 1 + 1 + 1 + 1 + 1 : Nat) : Int))) 76 (23) (((pos + 1 + 1 + 1 + 1 + 1 + 1 + 1 : Nat) : Int))).trans (by omega)) (by omega) _ _ (by omega)) (kor (kex fun v3 => kand fun hv3 => ks ?_) (kex fun zv3 => kand fun hv3 => ks ?_))
              · have hbv3 := p_fig_some (by omega) hv3
                refine tt_ifneT (by decide) ?_
                refine tt_loc [(0, vR 76), (2, vI (((v0 * 8 + v1 : Nat) : Int))), (3, vI (((v2 : Nat) : Int)))] rfl rfl ⟨rfl, lv_to rfl (by omega), rfl, trivial⟩ ?_
                refine tt_ar rfl ?_
                refine tt_getR (wo_76 hW) rfl (wr_76_19 hW) ?_
                refine tt_ar rfl ?_
                refine tt_ar rfl ?_
                refine tt_iast (v0 * 8 + v1) (wa_88 hW) (by omega) rfl (by omega) ?_
                refine tt_ar rfl ?_
                refine tt_getR (wo_76 hW) rfl (wr_76_20 hW) ?_
                refine tt_ar rfl ?_
                refine tt_ar rfl ?_
                refine tt_getI (x := ((v3 : Nat) : Int)) (wo_76 hW) rfl (@am_set_rd (am_set (am_set (am_set (am_set (am_set (am_set (am_set (am_set (am_set σ 76 (24) (((v0 : Nat) : Int))) 76 (23) (((pos + 1 + 1 : Nat) : Int))) 76 (23) (((pos + 1 + 1 + 1 : Nat) : Int))) 76 (24) (((v1 : Nat) : Int))) 76 (23) (((pos + 1 + 1 + 1 + 1 : Nat) : Int))) 76 (23) (((pos + 1 + 1 + 1 + 1 + 1 : Nat) : Int))) 76 (24) (((v2 : Nat) : Int))) 76 (23) (((pos + 1 + 1 + 1 + 1 + 1 + 1 : Nat) : Int))) 76 (23) (((pos + 1 + 1 + 1 + 1 + 1 + 1 + 1 : Nat) : Int))) 76 (24) (((v3 : Nat) : Int))) ?_
                refine tt_iast (v0 * 8 + v1) (wa_89 hW) (by omega) rfl (by omega) ?_
                refine tt_ar rfl ?_
                refine tt_zret (by omega) ?_
                exact Or.inl ⟨pos + 1 + 1 + 1 + 1 + 1 + 1 + 1 + 1, _, (by unfold p_wash; rw [hk]; rw [hv0]; (try dsimp only); rw [if_neg (fun h => h hl0)]; rw [hv1]; (try dsimp only); rw [if_neg (fun h => h hl1)]; rw [hv2]; (try dsimp only); rw [if_neg (fun h => h hl2)]; rw [hv3]; (try dsimp only)), rfl, (Fr.put (Fr.put (Fr.put (Fr.put (Fr.put (Fr.put (Fr.put (Fr.put (Fr.put (Fr.put (Fr.put (Fr.put (Fr.put Fr.rf (by decide)) (by decide)) (by decide)) (by decide)) (by decide)) (by decide)) (by decide)) (by decide)) (by decide)) (by decide)) (by decide)) (by decide)) (by decide)), (fun j h1 h2 h3 h4 => by simp [am_set, h1, h2, h3, h4]), ((@am_set_rd (am_set (am_set (am_set (am_set (am_set (am_set (am_set (am_set (am_set (am_set σ 76 (24) (((v0 : Nat) : Int))) 76 (23) (((pos + 1 + 1 : Nat) : Int))) 76 (23) (((pos + 1 + 1 + 1 : Nat) : Int))) 76 (24) (((v1 : Nat) : Int))) 76 (23) (((pos + 1 + 1 + 1 + 1 : Nat) : Int))) 76 (23) (((pos + 1 + 1 + 1 + 1 + 1 : Nat) : Int))) 76 (24) (((v2 : Nat) : Int))) 76 (23) (((pos + 1 + 1 + 1 + 1 + 1 + 1 : Nat) : Int))) 76 (23) (((pos + 1 + 1 + 1 + 1 + 1 + 1 + 1 : Nat) : Int))) 76 (24) (((v3 : Nat) : Int))) 76 (23) (((pos + 1 + 1 + 1 + 1 + 1 + 1 + 1 + 1 : Nat) : Int))).trans (by omega)), (WQ.s89 (WQ.s23 (WQ.s24 (WQ.s23 (WQ.s23 (WQ.s24 (WQ.s23 (WQ.s23 (WQ.s24 (WQ.s23 (WQ.s23 (WQ.s24 hP))))))))))))⟩
              · refine tt_ifneF (by decide) ?_
                refine tt_nop ?_
                refine tt_ar rfl ?_
                refine tt_zret (by omega) ?_
                exact Or.inr ⟨pos + 1 + 1 + 1 + 1 + 1 + 1 + 1, (by unfold p_wash; rw [hk]; rw [hv0]; (try dsimp only); rw [if_neg (fun h => h hl0)]; rw [hv1]; (try dsimp only); rw [if_neg (fun h => h hl1)]; rw [hv2]; (try dsimp only); rw [if_neg (fun h => h hl2)]; rw [hv3]; (try dsimp only)), rfl, (Fr.put (Fr.put (Fr.put (Fr.put (Fr.put (Fr.put (Fr.put (Fr.put (Fr.put (Fr.put (Fr.put Fr.rf (by decide)) (by decide)) (by decide)) (by decide)) (by decide)) (by decide)) (by decide)) (by decide)) (by decide)) (by decide)) (by decide)), (fun j h1 h2 h3 h4 => by simp [am_set, h1, h2, h3, h4]), ((@am_set_rd (am_set (am_set (am_set (am_set (am_set (am_set (am_set (am_set (am_set (am_set σ 76 (24) (((v0 : Nat) : Int))) 76 (23) (((pos + 1 + 1 : Nat) : Int))) 76 (23) (((pos + 1 + 1 + 1 : Nat) : Int))) 76 (24) (((v1 : Nat) : Int))) 76 (23) (((pos + 1 + 1 + 1 + 1 : Nat) : Int))) 76 (23) (((pos + 1 + 1 + 1 + 1 + 1 : Nat) : Int))) 76 (24) (((v2 : Nat) : Int))) 76 (23) (((pos + 1 + 1 + 1 + 1 + 1 + 1 : Nat) : Int))) 76 (23) (((pos + 1 + 1 + 1 + 1 + 1 + 1 + 1 : Nat) : Int))) 76 (24) (zv3)) 76 (23) (((pos + 1 + 1 + 1 + 1 + 1 + 1 + 1 : Nat) : Int))).trans (by omega))⟩
            · refine tt_ifeqT (by decide) ?_
              refine tt_ar rfl ?_
              refine tt_zret (by omega) ?_
              exact Or.inr ⟨pos + 1 + 1 + 1 + 1 + 1 + 1, (by unfold p_wash; rw [hk]; rw [hv0]; (try dsimp only); rw [if_neg (fun h => h hl0)]; rw [hv1]; (try dsimp only); rw [if_neg (fun h => h hl1)]; rw [hv2]; (try dsimp only); rw [if_pos hl2]), rfl, (Fr.put (Fr.put (Fr.put (Fr.put (Fr.put (Fr.put (Fr.put (Fr.put (Fr.put Fr.rf (by decide)) (by decide)) (by decide)) (by decide)) (by decide)) (by decide)) (by decide)) (by decide)) (by decide)), (fun j h1 h2 h3 h4 => by simp [am_set, h1, h2, h3, h4]), ((@am_set_rd (am_set (am_set (am_set (am_set (am_set (am_set (am_set (am_set σ 76 (24) (((v0 : Nat) : Int))) 76 (23) (((pos + 1 + 1 : Nat) : Int))) 76 (23) (((pos + 1 + 1 + 1 : Nat) : Int))) 76 (24) (((v1 : Nat) : Int))) 76 (23) (((pos + 1 + 1 + 1 + 1 : Nat) : Int))) 76 (23) (((pos + 1 + 1 + 1 + 1 + 1 : Nat) : Int))) 76 (24) (((v2 : Nat) : Int))) 76 (23) (((pos + 1 + 1 + 1 + 1 + 1 + 1 : Nat) : Int))) 76 (23) (((pos + 1 + 1 + 1 + 1 + 1 + 1 : Nat) : Int))).trans (by omega))⟩
          · refine tt_ifneF (by decide) ?_
            refine tt_nop ?_
            refine tt_ar rfl ?_
            refine tt_zret (by omega) ?_
            exact Or.inr ⟨pos + 1 + 1 + 1 + 1 + 1, (by unfold p_wash; rw [hk]; rw [hv0]; (try dsimp only); rw [if_neg (fun h => h hl0)]; rw [hv1]; (try dsimp only); rw [if_neg (fun h => h hl1)]; rw [hv2]; (try dsimp only)), rfl, (Fr.put (Fr.put (Fr.put (Fr.put (Fr.put (Fr.put (Fr.put (Fr.put Fr.rf (by decide)) (by decide)) (by decide)) (by decide)) (by decide)) (by decide)) (by decide)) (by decide)), (fun j h1 h2 h3 h4 => by simp [am_set, h1, h2, h3, h4]), ((@am_set_rd (am_set (am_set (am_set (am_set (am_set (am_set (am_set σ 76 (24) (((v0 : Nat) : Int))) 76 (23) (((pos + 1 + 1 : Nat) : Int))) 76 (23) (((pos + 1 + 1 + 1 : Nat) : Int))) 76 (24) (((v1 : Nat) : Int))) 76 (23) (((pos + 1 + 1 + 1 + 1 : Nat) : Int))) 76 (23) (((pos + 1 + 1 + 1 + 1 + 1 : Nat) : Int))) 76 (24) (zv2)) 76 (23) (((pos + 1 + 1 + 1 + 1 + 1 : Nat) : Int))).trans (by omega))⟩
        · refine tt_ifeqT (by decide) ?_
          refine tt_ar rfl ?_
          refine tt_zret (by omega) ?_
          exact Or.inr ⟨pos + 1 + 1 + 1 + 1, (by unfold p_wash; rw [hk]; rw [hv0]; (try dsimp only); rw [if_neg (fun h => h hl0)]; rw [hv1]; (try dsimp only); rw [if_pos hl1]), rfl, (Fr.put (Fr.put (Fr.put (Fr.put (Fr.put (Fr.put Fr.rf (by decide)) (by decide)) (by decide)) (by decide)) (by decide)) (by decide)), (fun j h1 h2 h3 h4 => by simp [am_set, h1, h2, h3, h4]), ((@am_set_rd (am_set (am_set (am_set (am_set (am_set σ 76 (24) (((v0 : Nat) : Int))) 76 (23) (((pos + 1 + 1 : Nat) : Int))) 76 (23) (((pos + 1 + 1 + 1 : Nat) : Int))) 76 (24) (((v1 : Nat) : Int))) 76 (23) (((pos + 1 + 1 + 1 + 1 : Nat) : Int))) 76 (23) (((pos + 1 + 1 + 1 + 1 : Nat) : Int))).trans (by omega))⟩
      · refine tt_ifneF (by decide) ?_
        refine tt_nop ?_
        refine tt_ar rfl ?_
        refine tt_zret (by omega) ?_
        exact Or.inr ⟨pos + 1 + 1 + 1, (by unfold p_wash; rw [hk]; rw [hv0]; (try dsimp only); rw [if_neg (fun h => h hl0)]; rw [hv1]; (try dsimp only)), rfl, (Fr.put (Fr.put (Fr.put (Fr.put (Fr.put Fr.rf (by decide)) (by decide)) (by decide)) (by decide)) (by decide)), (fun j h1 h2 h3 h4 => by simp [am_set, h1, h2, h3, h4]), ((@am_set_rd (am_set (am_set (am_set (am_set σ 76 (24) (((v0 : Nat) : Int))) 76 (23) (((pos + 1 + 1 : Nat) : Int))) 76 (23) (((pos + 1 + 1 + 1 : Nat) : Int))) 76 (24) (zv1)) 76 (23) (((pos + 1 + 1 + 1 : Nat) : Int))).trans (by omega))⟩
    · refine tt_ifeqT (by decide) ?_
      refine tt_ar rfl ?_
      refine tt_zret (by omega) ?_
      exact Or.inr ⟨pos + 1 + 1, (by unfold p_wash; rw [hk]; rw [hv0]; (try dsimp only); rw [if_pos hl0]), rfl, (Fr.put (Fr.put (Fr.put Fr.rf (by decide)) (by decide)) (by decide)), (fun j h1 h2 h3 h4 => by simp [am_set, h1, h2, h3, h4]), ((@am_set_rd (am_set (am_set σ 76 (24) (((v0 : Nat) : Int))) 76 (23) (((pos + 1 + 1 : Nat) : Int))) 76 (23) (((pos + 1 + 1 : Nat) : Int))).trans (by omega))⟩
  · refine tt_ifneF (by decide) ?_
    refine tt_ar rfl ?_
    refine tt_zret (by omega) ?_
    exact Or.inr ⟨pos + 1, (by unfold p_wash; rw [hk]; rw [hv0]; (try dsimp only)), rfl, (Fr.put (Fr.put Fr.rf (by decide)) (by decide)), (fun j h1 h2 h3 h4 => by simp [am_set, h1, h2, h3, h4]), ((@am_set_rd (am_set σ 76 (24) (zv0)) 76 (23) (((pos + 1 : Nat) : Int))).trans (by omega))⟩

theorem c195 (f : Nat → Int) (t n pos k : Nat) (W : Nat → Nat → Int) (σ : am_S) (hW : Wd σ) (hT : TQ f t n σ) (hpos : σ.1 76 23 = ((pos + 1 : Nat) : Int)) (hle : pos < n) (hP : WQ W σ) (hk : W 6 0 = (k : Int)) (hk6 : k ≤ 6) (hc : f pos = 107 ∧ k < 6 ∨ f pos = 119 ∨ f pos = 105 ∨ f pos = 99) : CC 195 [vR 76, vI (((t : Nat) : Int)), vI (f pos)] σ (fun r σ' => (∃ q W', p_item f n pos W = (q, some W') ∧ r = some (vI 1) ∧ Fr [76, 87, 88, 89, 90] σ σ' ∧ (∀ j, j ≠ 17 → j ≠ 21 → j ≠ 23 → j ≠ 24 → σ'.1 76 j = σ.1 76 j) ∧ σ'.1 76 23 = (q : Int) ∧ WQ W' σ') ∨ (∃ q, p_item f n pos W = (q, none) ∧ r = some (vI 0) ∧ Fr [76, 87, 88, 89, 90] σ σ' ∧ (∀ j, j ≠ 17 → j ≠ 21 → j ≠ 23 → j ≠ 24 → σ'.1 76 j = σ.1 76 j) ∧ σ'.1 76 23 = (q : Int))) := by
  show TT am_b195 (am_b195.getD 0 []) [(0, vR 76), (1, vI (((t : Nat) : Int))), (2, vI (f pos))] [] σ _
  obtain ⟨ht4, hn120, hn, hf⟩ := id hT
  refine tt_ar rfl ?_
  refine tt_ar rfl ?_
  refine tt_icne (fun h0_2 => ?_) (fun h0_2 => ?_)
  · refine tt_ar rfl ?_
    refine tt_ar rfl ?_
    refine tt_icne (fun h1_2 => ?_) (fun h1_2 => ?_)
    · refine tt_ar rfl ?_
      refine tt_ar rfl ?_
      refine tt_icne (fun h2_2 => ?_) (fun h2_2 => ?_)
      · have h99 : f pos = 99 := by omega
        refine tt_ar rfl ?_
        refine tt_ar rfl ?_
        refine tt_nop ?_
        have lp6_1 : ∀ (μ : Nat) (w : Nat) (q : Nat) (W1 : Nat → Nat → Int) (σ1 : am_S), 5 - w < μ → Fr [76, 87, 88, 89, 90] σ σ1 → (w ≤ 5) → (σ1.1 76 23 = ((q : Nat) : Int)) → (q ≤ n) → (WQ W1 σ1) → ((∀ j, j ≠ 17 → j ≠ 21 → j ≠ 23 → j ≠ 24 → σ1.1 76 j = σ.1 76 j)) → (p_cost f n (5 - w) w q W1 = p_cost f n 5 0 (pos + 1) W) → TT am_b195 (am_b195.getD 6 []) [(0, vR 76), (1, vI (((t : Nat) : Int))), (3, vI (((w : Nat) : Int)))] [] σ1 (fun r σ' => (∃ q W', p_item f n pos W = (q, some W') ∧ r = some (vI 1) ∧ Fr [76, 87, 88, 89, 90] σ σ' ∧ (∀ j, j ≠ 17 → j ≠ 21 → j ≠ 23 → j ≠ 24 → σ'.1 76 j = σ.1 76 j) ∧ σ'.1 76 23 = (q : Int) ∧ WQ W' σ') ∨ (∃ q, p_item f n pos W = (q, none) ∧ r = some (vI 0) ∧ Fr [76, 87, 88, 89, 90] σ σ' ∧ (∀ j, j ≠ 17 → j ≠ 21 → j ≠ 23 → j ≠ 24 → σ'.1 76 j = σ.1 76 j) ∧ σ'.1 76 23 = (q : Int))) := by
          intro μ
          induction μ with
          | zero => intro w q W1 σ1 hμ; exact absurd hμ (Nat.not_lt_zero _)
          | succ μ ih6 =>
            intro w q W1 σ1 hμ hF_σ1 hw hq hqn hP1 hK1 hC
            have hW_σ1 := Fr.wd hF_σ1 hW
            refine tt_ar rfl ?_
            refine tt_ar rfl ?_
            refine tt_icge (fun h6_2 => ?_) (fun h6_2 => ?_)
            · refine tt_ar rfl ?_
              refine tt_zret (by omega) ?_
              have e : w = 5 := by omega
              subst e
              exact Or.inl ⟨q, W1, (by unfold p_item; rw [if_neg (by omega), if_neg (by omega), if_neg (by omega), if_pos h99]; exact hC.symm), rfl, hF_σ1, hK1, hq, hP1⟩
            · refine tt_ar rfl ?_
              refine tt_ar rfl ?_
              refine tt_ar rfl ?_
              refine tt_ar rfl ?_
              refine tt_cv4 4 rfl (wo_76 hW_σ1) (c198 f t n (q) σ1 hW_σ1 (TQ.fr (L := [76, 87, 88, 89, 90]) (Fr.tr Fr.rf hF_σ1 (by decide)) (by decide) hT) hq (by omega) _ _ (by omega)) (kor (kex fun v0 => kand fun hv0 => ks ?_) (kex fun z0 => kand fun hv0 => ks ?_))
              · have hbv0 := p_fig_some (by omega) hv0
                refine tt_ifneT (by decide) ?_
                refine tt_ar rfl ?_
                refine tt_getR (wo_76 hW_σ1) rfl (wr_76_22 hW_σ1) ?_
                refine tt_ar rfl ?_
                refine tt_ar rfl ?_
                refine tt_getI (x := ((v0 : Nat) : Int)) (wo_76 hW_σ1) rfl (@am_set_rd σ1 76 (24) (((v0 : Nat) : Int))) ?_
                refine tt_iast (w) (wa_90 hW_σ1) (by omega) rfl (by omega) ?_
                refine tt_iinc (y := ((w + 1 : Nat) : Int)) rfl (iinc_fit (by omega) (by omega) (by omega)) ?_
                refine tt_goto ?_
                refine tt_loc [(0, vR 76), (1, vI (((t : Nat) : Int))), (3, vI (((w + 1 : Nat) : Int)))] rfl rfl ⟨rfl, rfl, rfl, trivial⟩ ?_
                exact ih6 (w + 1) (q + 1) (aset W1 10 w (v0 : Int)) _ (by omega) (Fr.put (Fr.put (Fr.put (Fr.tr Fr.rf hF_σ1 (by decide)) (by decide)) (by decide)) (by decide)) (by omega) (@am_set_rd (am_set σ1 76 24 ((v0 : Nat) : Int)) 76 23 (((q + 1 : Nat) : Int))) (by omega) (WQ.s90 (WQ.s23 (WQ.s24 hP1))) (fun j h1 h2 h3 h4 => (by simp [am_set, h1, h2, h3, h4] : _ = σ1.1 76 j).trans (hK1 j h1 h2 h3 h4)) (by rw [← hC, show 5 - w = (5 - (w + 1)) + 1 by omega]; conv => { rhs; unfold p_cost }; rw [hv0])
              · refine tt_ifneF (by decide) ?_
                refine tt_ar rfl ?_
                refine tt_zret (by omega) ?_
                exact Or.inr ⟨q, (by unfold p_item; rw [if_neg (by omega), if_neg (by omega), if_neg (by omega), if_pos h99]; rw [← hC, show 5 - w = (4 - w) + 1 by omega]; unfold p_cost; rw [hv0]), rfl, (Fr.put (Fr.put (Fr.tr Fr.rf hF_σ1 (by decide)) (by decide)) (by decide)), (fun j h1 h2 h3 h4 => (by simp [am_set, h1, h2, h3, h4] : _ = σ1.1 76 j).trans (hK1 j h1 h2 h3 h4)), am_set_rd⟩
        refine tt_loc [(0, vR 76), (1, vI (((t : Nat) : Int))), (3, vI (((0 : Nat) : Int)))] rfl rfl ⟨rfl, rfl, lv_to rfl (by omega), trivial⟩ ?_
        exact lp6_1 _ (0) (pos + 1) (W) σ (Nat.lt_succ_self _) Fr.rf (by omega) hpos (by omega) hP (fun _ _ _ _ _ => rfl) rfl
      · have h105 : f pos = 105 := by omega
        refine tt_ar rfl ?_
        refine tt_ar rfl ?_
        refine tt_ar rfl ?_
        refine tt_ar rfl ?_
        refine tt_cv4 4 rfl (wo_76 hW) (c198 f t n (pos + 1) σ hW hT hpos (by omega) _ _ (by omega)) (kor (kex fun v0 => kand fun hv0 => ks ?_) (kex fun zv0 => kand fun hv0 => ks ?_))
        · have hbv0 := p_fig_some (by omega) hv0
          refine tt_ar rfl ?_
          refine tt_ar rfl ?_
          refine tt_ar rfl ?_
          refine tt_getI (x := W 6 1) (wo_76 hW) rfl hP.2.1 ?_
          refine tt_ar rfl ?_
          refine tt_ifeqF (by decide) ?_
          refine tt_ar rfl ?_
          refine tt_ar rfl ?_
          refine tt_getI (x := ((v0 : Nat) : Int)) (wo_76 hW) rfl (@am_set_rd σ 76 (24) (((v0 : Nat) : Int))) ?_
          refine tt_bI (g := a_shl) (z := a_shl (1) (((v0 : Nat) : Int))) rfl rfl ?_
          refine tt_goto ?_
          refine tt_bI (g := a_or) (z := a_or (W 6 1) (a_shl (1) (((v0 : Nat) : Int)))) rfl rfl ?_
          refine tt_putI (wo_76 hW) rfl ?_
          refine tt_ar rfl ?_
          refine tt_zret (by omega) ?_
          exact Or.inl ⟨pos + 1 + 1, _, (by unfold p_item; rw [if_neg (by omega), if_neg (by omega), if_pos h105]; unfold p_in; rw [hv0]), rfl, (Fr.put (Fr.put (Fr.put Fr.rf (by decide)) (by decide)) (by decide)), (fun j h1 h2 h3 h4 => by simp [am_set, h1, h2, h3, h4]), ((@am_set_rd (am_set σ 76 (24) (((v0 : Nat) : Int))) 76 (23) (((pos + 1 + 1 : Nat) : Int))).trans (by omega)), (WQ.s21 (WQ.s23 (WQ.s24 hP)))⟩
        · refine tt_ar rfl ?_
          refine tt_ar rfl ?_
          refine tt_ar rfl ?_
          refine tt_getI (x := W 6 1) (wo_76 hW) rfl hP.2.1 ?_
          refine tt_ar rfl ?_
          refine tt_ifeqT (by decide) ?_
          refine tt_ar rfl ?_
          refine tt_nop ?_
          refine tt_bI (g := a_or) (z := a_or (W 6 1) (0)) rfl rfl ?_
          refine tt_putI (wo_76 hW) rfl ?_
          refine tt_ar rfl ?_
          refine tt_zret (by omega) ?_
          exact Or.inr ⟨pos + 1, (by unfold p_item; rw [if_neg (by omega), if_neg (by omega), if_pos h105]; unfold p_in; rw [hv0]), rfl, (Fr.put (Fr.put (Fr.put Fr.rf (by decide)) (by decide)) (by decide)), (fun j h1 h2 h3 h4 => by simp [am_set, h1, h2, h3, h4]), ((@am_set_rd (am_set σ 76 (24) (zv0)) 76 (23) (((pos + 1 : Nat) : Int))).trans (by omega))⟩
    · have h119 : f pos = 119 := by omega
      refine tt_ar rfl ?_
      refine tt_ar rfl ?_
      refine tt_cv2 2 rfl (wo_76 hW) (c199 f t n pos k W σ hW hT hpos hle hP hk (by omega)) ?_
      intro r0 σ2 hq0
      rcases hq0 with ⟨q, W1, hq, rfl, hF2, hK2, hq1, hP1⟩ | ⟨q, hq, rfl, hF2, hK2, hq1⟩
      · have hW2 := Fr.wd hF2 hW
        refine tt_zret (by omega) ?_
        exact Or.inl ⟨q, W1, (by unfold p_item; rw [if_neg (by omega), if_pos h119]; exact hq), rfl, hF2, hK2, hq1, hP1⟩
      · have hW3 := Fr.wd hF2 hW
        refine tt_zret (by omega) ?_
        exact Or.inr ⟨q, (by unfold p_item; rw [if_neg (by omega), if_pos h119]; exact hq), rfl, hF2, hK2, hq1⟩
  · have h107 : f pos = 107 := by omega
    refine tt_ar rfl ?_
    refine tt_ar rfl ?_
    refine tt_cv2 2 rfl (wo_76 hW) (c196 f t n pos k W σ hW hT hpos hle hP hk (by omega)) ?_
    intro r0 σ2 hq0
    rcases hq0 with ⟨q, W1, hq, rfl, hF2, hK2, hq1, hP1⟩ | ⟨q, hq, rfl, hF2, hK2, hq1⟩
    · have hW4 := Fr.wd hF2 hW
      refine tt_zret (by omega) ?_
      exact Or.inl ⟨q, W1, (by unfold p_item; rw [if_pos h107]; exact hq), rfl, hF2, hK2, hq1, hP1⟩
    · have hW5 := Fr.wd hF2 hW
      refine tt_zret (by omega) ?_
      exact Or.inr ⟨q, (by unfold p_item; rw [if_pos h107]; exact hq), rfl, hF2, hK2, hq1⟩

theorem c173 (σ : am_S) (hW : Wd σ) : CC 173 [vR 76] σ (fun r σ' => r = none ∧ Fr [76, 87, 88, 89, 90] σ σ' ∧ (∀ j, j ≠ 17 → j ≠ 21 → j ≠ 23 → j ≠ 24 → σ'.1 76 j = σ.1 76 j) ∧ WQ p_W0 σ') := by
  show TT am_b173 (am_b173.getD 0 []) [(0, vR 76)] [] σ _
  refine tt_ar rfl ?_
  refine tt_ar rfl ?_
  refine tt_putI (wo_76 hW) rfl ?_
  refine tt_ar rfl ?_
  refine tt_ar rfl ?_
  refine tt_putI (wo_76 hW) rfl ?_
  refine tt_ar rfl ?_
  refine tt_ar rfl ?_
  refine tt_nop ?_
  have lp1_1 : ∀ (μ : Nat) (i : Nat) (σ1 : am_S), 48 - i < μ → Fr [88, 89] (am_set (am_set σ 76 (17) (0)) 76 (21) (0)) σ1 → (i ≤ 48) → (∀ j, j < i → σ1.1 88 j = 0 ∧ σ1.1 89 j = 0) → TT am_b173 (am_b173.getD 1 []) [(0, vR 76), (1, vI (((i : Nat) : Int)))] [] σ1 (fun r σ' => r = none ∧ Fr [76, 87, 88, 89, 90] σ σ' ∧ (∀ j, j ≠ 17 → j ≠ 21 → j ≠ 23 → j ≠ 24 → σ'.1 76 j = σ.1 76 j) ∧ WQ p_W0 σ') := by
    intro μ
    induction μ with
    | zero => intro i σ1 hμ; exact absurd hμ (Nat.not_lt_zero _)
    | succ μ ih1 =>
      intro i σ1 hμ hF_σ1 hi h88
      have hW_σ1 := Fr.wd hF_σ1 hW
      refine tt_ar rfl ?_
      refine tt_ar rfl ?_
      refine tt_icge (fun h1_2 => ?_) (fun h1_2 => ?_)
      · refine tt_ar rfl ?_
        refine tt_ar rfl ?_
        refine tt_nop ?_
        have lp3_2 : ∀ (μ : Nat) (i : Nat) (σ2 : am_S), 5 - i < μ → Fr [90] σ1 σ2 → (i ≤ 5) → (∀ j, j < i → σ2.1 90 j = p_W0 10 j) → TT am_b173 (am_b173.getD 3 []) [(0, vR 76), (1, vI (((i : Nat) : Int)))] [] σ2 (fun r σ' => r = none ∧ Fr [76, 87, 88, 89, 90] σ σ' ∧ (∀ j, j ≠ 17 → j ≠ 21 → j ≠ 23 → j ≠ 24 → σ'.1 76 j = σ.1 76 j) ∧ WQ p_W0 σ') := by
          intro μ
          induction μ with
          | zero => intro i σ2 hμ; exact absurd hμ (Nat.not_lt_zero _)
          | succ μ ih3 =>
            intro i σ2 hμ hF_σ2 hi2 h90
            have hW_σ2 := Fr.wd hF_σ2 hW_σ1
            refine tt_ar rfl ?_
            refine tt_ar rfl ?_
            refine tt_icge (fun h3_2 => ?_) (fun h3_2 => ?_)
            · refine tt_vret ?_
              have e : i = 5 := by omega
              subst e
              have e8 : ∀ j, j < 48 → σ2.1 88 j = 0 ∧ σ2.1 89 j = 0 := fun j hj => by rw [hF_σ2.2 88 (by decide), hF_σ2.2 89 (by decide)]; exact h88 j (by omega)
              exact ⟨rfl, (Fr.tr (Fr.tr (Fr.put (Fr.put Fr.rf (by decide)) (by decide)) hF_σ1 (by decide)) hF_σ2 (by decide)), (fun j h1 h2 h3 h4 => (hF_σ2.2 76 (by decide) j).trans ((hF_σ1.2 76 (by decide) j).trans (by simp [am_set, h1, h2]))), (hF_σ2.2 76 (by decide) 17).trans (hF_σ1.2 76 (by decide) 17), (hF_σ2.2 76 (by decide) 21).trans (hF_σ1.2 76 (by decide) 21), (fun j hj => absurd hj (by show ¬ (j : Int) < 0; omega)), fun j hj => (e8 j hj).1, fun j hj => (e8 j hj).2, h90⟩
            · refine tt_ar rfl ?_
              refine tt_getR (wo_76 hW_σ2) rfl (wr_76_22 hW_σ2) ?_
              refine tt_ar rfl ?_
              refine tt_ar rfl ?_
              refine tt_ar rfl ?_
              refine tt_icge (fun h3_8 => ?_) (fun h3_8 => ?_)
              · refine tt_ar rfl ?_
                refine tt_ar rfl ?_
                refine tt_icne (fun h4_2 => ?_) (fun h4_2 => ?_)
                · refine tt_ar rfl ?_
                  refine tt_nop ?_
                  refine tt_iast (i) (wa_90 hW_σ2) (by omega) rfl (by omega) ?_
                  refine tt_iinc (y := ((i + 1 : Nat) : Int)) rfl (iinc_fit (by omega) (by omega) (by omega)) ?_
                  refine tt_goto ?_
                  refine tt_loc [(0, vR 76), (1, vI (((i + 1 : Nat) : Int)))] rfl rfl ⟨rfl, rfl, trivial⟩ ?_
                  exact ih3 (i + 1) _ (by omega) (Fr.put (Fr.tr Fr.rf hF_σ2 (by decide)) (by decide)) (by omega) (fun j hj => by rw [am_set_at]; by_cases e : j = i; (rw [if_pos e, e]; simp only [p_W0]; simp; split <;> (try split) <;> omega); (rw [if_neg e]; exact h90 j (by omega)))
                · refine tt_ar rfl ?_
                  refine tt_goto ?_
                  refine tt_iast (i) (wa_90 hW_σ2) (by omega) rfl (by omega) ?_
                  refine tt_iinc (y := ((i + 1 : Nat) : Int)) rfl (iinc_fit (by omega) (by omega) (by omega)) ?_
                  refine tt_goto ?_
                  refine tt_loc [(0, vR 76), (1, vI (((i + 1 : Nat) : Int)))] rfl rfl ⟨rfl, rfl, trivial⟩ ?_
                  exact ih3 (i + 1) _ (by omega) (Fr.put (Fr.tr Fr.rf hF_σ2 (by decide)) (by decide)) (by omega) (fun j hj => by rw [am_set_at]; by_cases e : j = i; (rw [if_pos e, e]; simp only [p_W0]; simp; split <;> (try split) <;> omega); (rw [if_neg e]; exact h90 j (by omega)))
              · refine tt_ar rfl ?_
                refine tt_goto ?_
                refine tt_iast (i) (wa_90 hW_σ2) (by omega) rfl (by omega) ?_
                refine tt_iinc (y := ((i + 1 : Nat) : Int)) rfl (iinc_fit (by omega) (by omega) (by omega)) ?_
                refine tt_goto ?_
                refine tt_loc [(0, vR 76), (1, vI (((i + 1 : Nat) : Int)))] rfl rfl ⟨rfl, rfl, trivial⟩ ?_
                exact ih3 (i + 1) _ (by omega) (Fr.put (Fr.tr Fr.rf hF_σ2 (by decide)) (by decide)) (by omega) (fun j hj => by rw [am_set_at]; by_cases e : j = i; (rw [if_pos e, e]; simp only [p_W0]; simp; split <;> (try split) <;> omega); (rw [if_neg e]; exact h90 j (by omega)))
        refine tt_loc [(0, vR 76), (1, vI (((0 : Nat) : Int)))] rfl rfl ⟨rfl, lv_to rfl (by omega), trivial⟩ ?_
        exact lp3_2 _ (0) σ1 (Nat.lt_succ_self _) Fr.rf (by omega) (fun j hj => absurd hj (Nat.not_lt_zero j))
      · refine tt_ar rfl ?_
        refine tt_getR (wo_76 hW_σ1) rfl (wr_76_19 hW_σ1) ?_
        refine tt_ar rfl ?_
        refine tt_ar rfl ?_
        refine tt_iast (i) (wa_88 hW_σ1) (by omega) rfl (by omega) ?_
        refine tt_ar rfl ?_
        refine tt_getR (wo_76 hW_σ1) rfl (wr_76_20 hW_σ1) ?_
        refine tt_ar rfl ?_
        refine tt_ar rfl ?_
        refine tt_iast (i) (wa_89 hW_σ1) (by omega) rfl (by omega) ?_
        refine tt_iinc (y := ((i + 1 : Nat) : Int)) rfl (iinc_fit (by omega) (by omega) (by omega)) ?_
        refine tt_goto ?_
        refine tt_loc [(0, vR 76), (1, vI (((i + 1 : Nat) : Int)))] rfl rfl ⟨rfl, rfl, trivial⟩ ?_
        exact ih1 (i + 1) _ (by omega) (Fr.put (Fr.put (Fr.tr Fr.rf hF_σ1 (by decide)) (by decide)) (by decide)) (by omega) (fun j hj => by rw [am_set_nb (by decide), am_set_at, am_set_at]; by_cases e : j = i; (rw [if_pos e, if_pos e]; exact ⟨rfl, rfl⟩); (rw [if_neg e, if_neg e]; exact h88 j (by omega)))
  refine tt_loc [(0, vR 76), (1, vI (((0 : Nat) : Int)))] rfl rfl ⟨rfl, lv_to rfl (by omega), trivial⟩ ?_
  exact lp1_1 _ (0) _ (Nat.lt_succ_self _) Fr.rf (by omega) (fun j hj => absurd hj (Nat.not_lt_zero j))

