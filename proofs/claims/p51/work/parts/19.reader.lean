/-! A TEXT READ AS A WORLD, as it is meant: f the bytes, n how many, W the world (6: sorts, indoors; 7 into; 8 least; 9 most; 10 prices) -/
def aset (A : Nat → Nat → Int) (k i : Nat) (v : Int) : Nat → Nat → Int := fun a j => if a = k ∧ j = i then v else A a j
theorem aset_at {A : Nat → Nat → Int} {k i j : Nat} {v : Int} : aset A k i v k j = if j = i then v else A k j := by simp [aset]
theorem aset_rd {A : Nat → Nat → Int} {k i : Nat} {v : Int} : aset A k i v k i = v := if_pos ⟨rfl, rfl⟩
def p_let (f : Nat → Int) (n pos : Nat) (c : Int) : Prop := pos < n ∧ f pos = c
def p_fig (f : Nat → Int) (n pos : Nat) (lo hi : Int) : Option Nat := if pos < n ∧ lo ≤ f pos - 48 ∧ f pos - 48 ≤ hi then some (f pos - 48).toNat else none
def p_sort (f : Nat → Int) (n pos : Nat) (W : Nat → Nat → Int) : Nat × Option (Nat → Nat → Int) :=
  if 6 ≤ W 6 0 then (pos, none)
  else if pos + 1 < n ∧ f (pos + 1) = 45 then (pos + 1 + 1, some (aset (aset W 7 (W 6 0).toNat (-9)) 6 0 (W 6 0 + 1)))
  else match p_fig f n (pos + 1) 0 5 with
    | none => (pos + 1, none)
    | some v => (pos + 1 + 1, some (aset (aset W 7 (W 6 0).toNat (v : Int)) 6 0 (W 6 0 + 1)))
def p_wash (f : Nat → Int) (n pos : Nat) (W : Nat → Nat → Int) : Nat × Option (Nat → Nat → Int) :=
  match p_fig f n (pos + 1) 0 (W 6 0 - 1) with
  | none => (pos + 1, none)
  | some s => if ¬ (pos + 1 + 1 < n ∧ f (pos + 1 + 1) = 116) then (pos + 1 + 1, none) else
    match p_fig f n (pos + 1 + 1 + 1) 0 7 with
    | none => (pos + 1 + 1 + 1, none)
    | some x => if ¬ (pos + 1 + 1 + 1 + 1 < n ∧ f (pos + 1 + 1 + 1 + 1) = 58) then (pos + 1 + 1 + 1 + 1, none) else
      match p_fig f n (pos + 1 + 1 + 1 + 1 + 1) 0 9 with
      | none => (pos + 1 + 1 + 1 + 1 + 1, none)
      | some a => if ¬ (pos + 1 + 1 + 1 + 1 + 1 + 1 < n ∧ f (pos + 1 + 1 + 1 + 1 + 1 + 1) = 45) then (pos + 1 + 1 + 1 + 1 + 1 + 1, none) else
        match p_fig f n (pos + 1 + 1 + 1 + 1 + 1 + 1 + 1) (a : Int) 9 with
        | none => (pos + 1 + 1 + 1 + 1 + 1 + 1 + 1, none)
        | some b => (pos + 1 + 1 + 1 + 1 + 1 + 1 + 1 + 1, some (aset (aset W 8 (s * 8 + x) (a : Int)) 9 (s * 8 + x) (b : Int)))
def p_in (f : Nat → Int) (n pos : Nat) (W : Nat → Nat → Int) : Nat × Option (Nat → Nat → Int) :=
  match p_fig f n (pos + 1) 0 7 with
  | none => (pos + 1, none)
  | some x => (pos + 1 + 1, some (aset W 6 1 (a_or (W 6 1) (a_shl 1 (x : Int)))))
def p_cost (f : Nat → Int) (n : Nat) : Nat → Nat → Nat → (Nat → Nat → Int) → Nat × Option (Nat → Nat → Int)
  | 0, _, pos, W => (pos, some W)
  | m + 1, w, pos, W => match p_fig f n pos 0 9 with
    | none => (pos, none)
    | some v => p_cost f n m (w + 1) (pos + 1) (aset W 10 w (v : Int))
def p_item (f : Nat → Int) (n pos : Nat) (W : Nat → Nat → Int) : Nat × Option (Nat → Nat → Int) :=
  if f pos = 107 then p_sort f n pos W
  else if f pos = 119 then p_wash f n pos W
  else if f pos = 105 then p_in f n pos W
  else if f pos = 99 then p_cost f n 5 0 (pos + 1) W
  else (pos, none)
def p_run (f : Nat → Int) (n : Nat) : Nat → Nat → (Nat → Nat → Int) → Nat × Option (Nat → Nat → Int)
  | 0, pos, W => (pos, some W)
  | m + 1, pos, W => if pos < n then (if f pos = 32 then p_run f n m (pos + 1) W else match p_item f n pos W with
      | (q, none) => (q, none)
      | (q, some W') => p_run f n m q W') else (pos, some W)
/-- a world without anything -/
def p_W0 : Nat → Nat → Int := fun a j => if a = 7 then -9 else if a = 10 then (if j = 2 then 1 else if j < 2 then 3 else 2) else 0
theorem p_fig_some {f : Nat → Int} {n pos v : Nat} {lo hi : Int} (h0 : 0 ≤ lo) (h : p_fig f n pos lo hi = some v) : pos < n ∧ lo ≤ (v : Int) ∧ (v : Int) ≤ hi ∧ f pos = (v : Int) + 48 := by
  unfold p_fig at h
  split at h
  · rename_i hc
    cases h
    omega
  · cases h
theorem p_fig_none {f : Nat → Int} {n pos : Nat} {lo hi : Int} (h : ¬ (pos < n ∧ lo ≤ f pos - 48 ∧ f pos - 48 ≤ hi)) : p_fig f n pos lo hi = none := if_neg h
theorem p_fig_of {f : Nat → Int} {n pos v : Nat} {lo hi : Int} (h : pos < n ∧ lo ≤ f pos - 48 ∧ f pos - 48 ≤ hi) (hv : f pos - 48 = (v : Int)) : p_fig f n pos lo hi = some v := by
  unfold p_fig
  rw [if_pos h, hv]
  rfl
def p_sign (f : Nat → Int) (n pos : Nat) : Int := if pos < n then f pos else 1000
/-- the reader's source is a strip with these bytes -/
def RS (f : Nat → Int) (s p n : Nat) (σ : am_S) : Prop := σ.2.1 10 0 = some s ∧ am_isO σ s 6 = true ∧ σ.2.1 s 0 = some p ∧ σ.2.2.1[p]? = some (.inl .int, 120) ∧ 17 < s ∧ 17 < p ∧ n ≤ 120 ∧ σ.1 s 1 = (n : Int) ∧ ∀ j, j < n → σ.1 p j = f j ∧ -128 ≤ f j ∧ f j ≤ 127
theorem am_isO_fr {W : List Nat} {σ σ' : am_S} {a c : Nat} (h : Fr W σ σ') (hO : am_isO σ a c = true) : am_isO σ' a c = true := by
  unfold am_isO
  rw [h.1]
  exact hO
theorem RS.fr {W : List Nat} {f : Nat → Int} {s p n : Nat} {σ σ' : am_S} (h : Fr W σ σ') (hw : ∀ a ∈ W, a ≤ 17) (R : RS f s p n σ) : RS f s p n σ' := by
  obtain ⟨h1, h2, h3, h4, h5, h6, h7, h8, h9⟩ := R
  refine ⟨by rw [h.1]; exact h1, am_isO_fr h h2, by rw [h.1]; exact h3, by rw [h.1]; exact h4, h5, h6, h7, ?_, ?_⟩
  · rw [h.2 s (fun e => by have := hw s e; omega) 1]
    exact h8
  · intro j hj
    rw [h.2 p (fun e => by have := hw p e; omega) j]
    exact h9 j hj
/-- the world that is read stands in its cells -/
def PR (W : Nat → Nat → Int) (σ : am_S) : Prop := σ.1 13 0 = W 6 0 ∧ σ.1 13 4 = W 6 1 ∧ (∀ j, j < 6 → σ.1 14 j = W 7 j) ∧ (∀ j, j < 48 → σ.1 15 j = W 8 j) ∧ (∀ j, j < 48 → σ.1 16 j = W 9 j) ∧ (∀ j, j < 5 → σ.1 17 j = W 10 j)
theorem PR.fr {L : List Nat} {W : Nat → Nat → Int} {σ σ' : am_S} (h : Fr L σ σ') (hw : ∀ a ∈ L, a < 13 ∨ 17 < a) (R : PR W σ) : PR W σ' := by
  have k : ∀ a, 13 ≤ a → a ≤ 17 → ∀ j, σ'.1 a j = σ.1 a j := fun a h1 h2 j => h.2 a (fun e => by have := hw a e; omega) j
  obtain ⟨h1, h2, h3, h4, h5, h6⟩ := R
  exact ⟨by rw [k 13 (by omega) (by omega)]; exact h1, by rw [k 13 (by omega) (by omega)]; exact h2, fun j hj => by rw [k 14 (by omega) (by omega)]; exact h3 j hj, fun j hj => by rw [k 15 (by omega) (by omega)]; exact h4 j hj, fun j hj => by rw [k 16 (by omega) (by omega)]; exact h5 j hj, fun j hj => by rw [k 17 (by omega) (by omega)]; exact h6 j hj⟩
theorem PR.s10 {W : Nat → Nat → Int} {σ : am_S} {x : Int} (R : PR W σ) : PR W (am_set σ 10 1 x) := PR.fr (L := [10]) (Fr.put Fr.rf (by decide)) (by decide) R
theorem PR.s130 {W : Nat → Nat → Int} {σ : am_S} {x : Int} (R : PR W σ) : PR (aset W 6 0 x) (am_set σ 13 0 x) := by
  obtain ⟨h1, h2, h3, h4, h5, h6⟩ := R
  refine ⟨?_, ?_, fun j hj => ?_, fun j hj => ?_, fun j hj => ?_, fun j hj => ?_⟩ <;> simp only [aset, am_set] <;> simp <;> first | (split <;> first | rfl | assumption | (exact h3 j hj) | (exact h4 j hj) | (exact h5 j hj) | (exact h6 j hj)) | assumption | (exact h3 j hj) | (exact h4 j hj) | (exact h5 j hj) | (exact h6 j hj)
theorem PR.s134 {W : Nat → Nat → Int} {σ : am_S} {x : Int} (R : PR W σ) : PR (aset W 6 1 x) (am_set σ 13 4 x) := by
  obtain ⟨h1, h2, h3, h4, h5, h6⟩ := R
  refine ⟨?_, ?_, fun j hj => ?_, fun j hj => ?_, fun j hj => ?_, fun j hj => ?_⟩ <;> simp only [aset, am_set] <;> simp <;> first | (split <;> first | rfl | assumption | (exact h3 j hj) | (exact h4 j hj) | (exact h5 j hj) | (exact h6 j hj)) | assumption | (exact h3 j hj) | (exact h4 j hj) | (exact h5 j hj) | (exact h6 j hj)
theorem PR.s14 {W : Nat → Nat → Int} {σ : am_S} {i : Nat} {x : Int} (R : PR W σ) : PR (aset W 7 i x) (am_set σ 14 i x) := by
  obtain ⟨h1, h2, h3, h4, h5, h6⟩ := R
  refine ⟨?_, ?_, fun j hj => ?_, fun j hj => ?_, fun j hj => ?_, fun j hj => ?_⟩ <;> simp only [aset, am_set] <;> simp <;> first | (split <;> first | rfl | assumption | (exact h3 j hj) | (exact h4 j hj) | (exact h5 j hj) | (exact h6 j hj)) | assumption | (exact h3 j hj) | (exact h4 j hj) | (exact h5 j hj) | (exact h6 j hj)
theorem PR.s15 {W : Nat → Nat → Int} {σ : am_S} {i : Nat} {x : Int} (R : PR W σ) : PR (aset W 8 i x) (am_set σ 15 i x) := by
  obtain ⟨h1, h2, h3, h4, h5, h6⟩ := R
  refine ⟨?_, ?_, fun j hj => ?_, fun j hj => ?_, fun j hj => ?_, fun j hj => ?_⟩ <;> simp only [aset, am_set] <;> simp <;> first | (split <;> first | rfl | assumption | (exact h3 j hj) | (exact h4 j hj) | (exact h5 j hj) | (exact h6 j hj)) | assumption | (exact h3 j hj) | (exact h4 j hj) | (exact h5 j hj) | (exact h6 j hj)
theorem PR.s16 {W : Nat → Nat → Int} {σ : am_S} {i : Nat} {x : Int} (R : PR W σ) : PR (aset W 9 i x) (am_set σ 16 i x) := by
  obtain ⟨h1, h2, h3, h4, h5, h6⟩ := R
  refine ⟨?_, ?_, fun j hj => ?_, fun j hj => ?_, fun j hj => ?_, fun j hj => ?_⟩ <;> simp only [aset, am_set] <;> simp <;> first | (split <;> first | rfl | assumption | (exact h3 j hj) | (exact h4 j hj) | (exact h5 j hj) | (exact h6 j hj)) | assumption | (exact h3 j hj) | (exact h4 j hj) | (exact h5 j hj) | (exact h6 j hj)
theorem PR.s17 {W : Nat → Nat → Int} {σ : am_S} {i : Nat} {x : Int} (R : PR W σ) : PR (aset W 10 i x) (am_set σ 17 i x) := by
  obtain ⟨h1, h2, h3, h4, h5, h6⟩ := R
  refine ⟨?_, ?_, fun j hj => ?_, fun j hj => ?_, fun j hj => ?_, fun j hj => ?_⟩ <;> simp only [aset, am_set] <;> simp <;> first | (split <;> first | rfl | assumption | (exact h3 j hj) | (exact h4 j hj) | (exact h5 j hj) | (exact h6 j hj)) | assumption | (exact h3 j hj) | (exact h4 j hj) | (exact h5 j hj) | (exact h6 j hj)
theorem c43 (f : Nat → Int) (s p n pos : Nat) (σ : am_S) (hW : Wd σ) (hR : RS f s p n σ) (hpos : σ.1 10 1 = (pos : Int)) (hle : pos ≤ n) : CC 43 [vR 10] σ (fun r σ' => r = some (vI (p_sign f n pos)) ∧ σ' = σ) := by
  show TT am_b43 (am_b43.getD 0 []) [(0, vR 10)] [] σ _
  obtain ⟨hs, hO, hp, hA, hs17, hp17, hn120, hn, hf⟩ := id hR
  refine tt_ar rfl ?_
  refine tt_getR (wo_10 hW) rfl hs ?_
  refine tt_ar rfl ?_
  refine tt_getI (x := ((pos : Nat) : Int)) (wo_10 hW) rfl hpos ?_
  refine tt_cv2 2 rfl hO (c28 _ _ _ hO) (kb (fun h0_4 => ?_) (fun h0_4 => ?_))
  · refine tt_ifeqF (by decide) ?_
    refine tt_ar rfl ?_
    refine tt_getR (wo_10 hW) rfl hs ?_
    refine tt_getR hO rfl hp ?_
    refine tt_ar rfl ?_
    refine tt_getI (x := ((pos : Nat) : Int)) (wo_10 hW) rfl hpos ?_
    refine tt_iald (pos) (x := f (pos)) hA rfl (by omega) (hf (pos) (by omega)).1 ?_
    have hb := hf (pos) (by omega)
    refine tt_goto ?_
    refine tt_iret ?_
    exact ⟨rv (by unfold p_sign; rw [if_pos (by omega)]), rfl⟩
  · refine tt_ifeqT (by decide) ?_
    refine tt_ar rfl ?_
    refine tt_nop ?_
    refine tt_iret ?_
    exact ⟨rv (by unfold p_sign; rw [if_neg (by omega)]), rfl⟩

theorem p_sign_let {f : Nat → Int} {n pos : Nat} {c : Int} (hc : c ≠ 1000) : p_sign f n pos = c ↔ (pos < n ∧ f pos = c) := by
  unfold p_sign
  split
  · rename_i h
    exact ⟨fun e => ⟨h, e⟩, fun e => e.2⟩
  · rename_i h
    exact ⟨fun e => absurd e.symm hc, fun e => absurd e.1 h⟩
theorem c42 (f : Nat → Int) (s p n pos : Nat) (σ : am_S) (hW : Wd σ) (hR : RS f s p n σ) (hpos : σ.1 10 1 = (pos : Int)) (hle : pos ≤ n) (c : Int) (hc : c ≠ 1000) : CC 42 [vR 10, vI (c)] σ (fun r σ' => ((pos < n ∧ f pos = c) ∧ σ' = am_set σ 10 1 ((pos + 1 : Nat) : Int) ∧ r = some (vI 1)) ∨ (¬ (pos < n ∧ f pos = c) ∧ σ' = σ ∧ r = some (vI 0))) := by
  show TT am_b42 (am_b42.getD 0 []) [(0, vR 10), (1, vI (c))] [] σ _
  obtain ⟨hs, hO, hp, hA, hs17, hp17, hn120, hn, hf⟩ := id hR
  have hl := p_sign_let (f := f) (n := n) (pos := pos) hc
  refine tt_ar rfl ?_
  refine tt_cv1 1 rfl (wo_10 hW) (c43 f s p n (pos) σ hW hR hpos (by omega)) (kp ?_)
  refine tt_ar rfl ?_
  refine tt_iceq (fun h0_3 => ?_) (fun h0_3 => ?_)
  · refine tt_ar rfl ?_
    refine tt_ar rfl ?_
    refine tt_getI (x := ((pos : Nat) : Int)) (wo_10 hW) rfl hpos ?_
    refine tt_ar rfl ?_
    refine tt_iadd (by omega) (by omega) ?_
    refine tt_putI (wo_10 hW) rfl ?_
    refine tt_ar rfl ?_
    refine tt_zret (by omega) ?_
    exact Or.inl ⟨hl.mp h0_3, rfl, rfl⟩
  · refine tt_ar rfl ?_
    refine tt_zret (by omega) ?_
    exact Or.inr ⟨fun e => h0_3 (hl.mpr e), rfl, rfl⟩

theorem c46 (f : Nat → Int) (s p n pos : Nat) (σ : am_S) (hW : Wd σ) (hR : RS f s p n σ) (hpos : σ.1 10 1 = (pos : Int)) (hle : pos ≤ n) (lo hi : Int) (h0 : 0 ≤ lo) (h9 : hi ≤ 9) : CC 46 [vR 10, vI (lo), vI (hi)] σ (fun r σ' => (∃ v : Nat, p_fig f n pos lo hi = some v ∧ σ' = am_set σ 10 1 ((pos + 1 : Nat) : Int) ∧ r = some (vI (v : Int))) ∨ (p_fig f n pos lo hi = none ∧ σ' = σ ∧ r = some (vI (-1)))) := by
  show TT am_b46 (am_b46.getD 0 []) [(0, vR 10), (1, vI (lo)), (2, vI (hi))] [] σ _
  obtain ⟨hs, hO, hp, hA, hs17, hp17, hn120, hn, hf⟩ := id hR
  have hsg : (pos < n ∧ p_sign f n pos = f pos ∧ -128 ≤ f pos ∧ f pos ≤ 127) ∨ (¬ pos < n ∧ p_sign f n pos = 1000) := by
    unfold p_sign
    by_cases e : pos < n
    · exact Or.inl ⟨e, if_pos e, (hf pos e).2⟩
    · exact Or.inr ⟨e, if_neg e⟩
  refine tt_ar rfl ?_
  refine tt_cv1 1 rfl (wo_10 hW) (c43 f s p n (pos) σ hW hR hpos (by omega)) (kp ?_)
  refine tt_ar rfl ?_
  refine tt_isub (by omega) (by omega) ?_
  refine tt_ar rfl ?_
  refine tt_ar rfl ?_
  refine tt_ar rfl ?_
  refine tt_iclt (fun h0_7 => ?_) (fun h0_7 => ?_)
  · refine tt_ar rfl ?_
    refine tt_iret ?_
    refine Or.inr ⟨p_fig_none (by omega), rfl, rfl⟩
  · refine tt_ar rfl ?_
    refine tt_ar rfl ?_
    refine tt_icle (fun h0_10 => ?_) (fun h0_10 => ?_)
    · refine tt_ar rfl ?_
      refine tt_ar rfl ?_
      refine tt_getI (x := ((pos : Nat) : Int)) (wo_10 hW) rfl hpos ?_
      refine tt_ar rfl ?_
      refine tt_iadd (by omega) (by omega) ?_
      refine tt_putI (wo_10 hW) rfl ?_
      refine tt_ar rfl ?_
      refine tt_iret ?_
      refine Or.inl ⟨(f pos - 48).toNat, p_fig_of (by omega) (by omega), ?_, ?_⟩
      · rfl
      · exact rv (by omega)
    · refine tt_nop ?_
      refine tt_ar rfl ?_
      refine tt_iret ?_
      refine Or.inr ⟨p_fig_none (by omega), rfl, rfl⟩

theorem c45 (f : Nat → Int) (s p n pos k : Nat) (W : Nat → Nat → Int) (σ : am_S) (hW : Wd σ) (hR : RS f s p n σ) (hpos : σ.1 10 1 = (pos : Int)) (hle : pos < n) (hP : PR W σ) (hk : W 6 0 = (k : Int)) (hk6 : k ≤ 6) : CC 45 [vR 10] σ (fun r σ' => (∃ q W', p_sort f n pos W = (q, some W') ∧ r = some (vI 1) ∧ Fr [10, 13, 14, 15, 16, 17] σ σ' ∧ σ'.1 10 1 = (q : Int) ∧ PR W' σ') ∨ (∃ q, p_sort f n pos W = (q, none) ∧ r = some (vI 0) ∧ Fr [10, 13, 14, 15, 16, 17] σ σ' ∧ σ'.1 10 1 = (q : Int))) := by
  show TT am_b45 (am_b45.getD 0 []) [(0, vR 10)] [] σ _
  obtain ⟨hs, hO, hp, hA, hs17, hp17, hn120, hn, hf⟩ := id hR
  refine tt_ar rfl ?_
  refine tt_getR (wo_10 hW) rfl (wr_10_2 hW) ?_
  refine tt_getI (x := ((k : Nat) : Int)) (wo_13 hW) rfl (hP.1.trans hk) ?_
  refine tt_ar rfl ?_
  refine tt_iclt (fun h0_4 => ?_) (fun h0_4 => ?_)
  · refine tt_ar rfl ?_
    refine tt_ar rfl ?_
    refine tt_getI (x := ((pos : Nat) : Int)) (wo_10 hW) rfl hpos ?_
    refine tt_ar rfl ?_
    refine tt_iadd (by omega) (by omega) ?_
    refine tt_putI (wo_10 hW) rfl ?_
    refine tt_ar rfl ?_
    refine tt_ar rfl ?_
    refine tt_cv2 2 rfl (wo_10 hW) (c42 f s p n (pos + 1) (am_set σ 10 (1) ((((pos : Nat) : Int) + 1))) hW (RS.fr (W := [10, 13, 14, 15, 16, 17]) (Fr.put Fr.rf (by decide)) (by decide) hR) ((@am_set_rd σ 10 (1) ((((pos : Nat) : Int) + 1))).trans (by omega)) (by omega) _ (by decide)) (kor (kand fun hl0 => ks ?_) (kand fun hl0 => ks ?_))
    · refine tt_ifeqF (by decide) ?_
      refine tt_ar rfl ?_
      refine tt_goto ?_
      refine tt_ar rfl ?_
      refine tt_ar rfl ?_
      refine tt_ar rfl ?_
      refine tt_icne (fun _ => ?_) (fun h => absurd h (by omega))
      refine tt_ar rfl ?_
      refine tt_getR (wo_10 hW) rfl (wr_10_2 hW) ?_
      refine tt_getR (wo_13 hW) rfl (wr_13_1 hW) ?_
      refine tt_ar rfl ?_
      refine tt_getR (wo_10 hW) rfl (wr_10_2 hW) ?_
      refine tt_getI (x := ((k : Nat) : Int)) (wo_13 hW) rfl (hP.1.trans hk) ?_
      refine tt_ar rfl ?_
      refine tt_iast (k) (wa_14 hW) (by omega) rfl (by omega) ?_
      refine tt_ar rfl ?_
      refine tt_getR (wo_10 hW) rfl (wr_10_2 hW) ?_
      refine tt_ar rfl ?_
      refine tt_getI (x := ((k : Nat) : Int)) (wo_13 hW) rfl (hP.1.trans hk) ?_
      refine tt_ar rfl ?_
      refine tt_iadd (by omega) (by omega) ?_
      refine tt_putI (wo_13 hW) rfl ?_
      refine tt_ar rfl ?_
      refine tt_zret (by omega) ?_
      exact Or.inl ⟨pos + 1 + 1, _, (by unfold p_sort; rw [if_neg (by omega), if_pos hl0]; (try dsimp only); rw [hk]; first | done | rfl), rfl, (Fr.put (Fr.put (Fr.put (Fr.put Fr.rf (by decide)) (by decide)) (by decide)) (by decide)), ((@am_set_rd (am_set σ 10 (1) ((((pos : Nat) : Int) + 1))) 10 (1) (((pos + 1 + 1 : Nat) : Int))).trans (by omega)), (PR.s130 (PR.s14 (PR.s10 (PR.s10 hP))))⟩
    · refine tt_ifeqT (by decide) ?_
      refine tt_ar rfl ?_
      refine tt_ar rfl ?_
      refine tt_ar rfl ?_
      refine tt_cv3 3 rfl (wo_10 hW) (c46 f s p n (pos + 1) (am_set σ 10 (1) ((((pos : Nat) : Int) + 1))) hW (RS.fr (W := [10, 13, 14, 15, 16, 17]) (Fr.put Fr.rf (by decide)) (by decide) hR) ((@am_set_rd σ 10 (1) ((((pos : Nat) : Int) + 1))).trans (by omega)) (by omega) _ _ (by omega) (by omega)) (kor (kex fun v0 => kand fun hv0 => ks ?_) (kand fun hv0 => ks ?_))
      · have hbv0 := p_fig_some (by omega) hv0
        refine tt_nop ?_
        refine tt_ar rfl ?_
        refine tt_ar rfl ?_
        refine tt_ar rfl ?_
        refine tt_icne (fun _ => ?_) (fun h => absurd h (by omega))
        refine tt_ar rfl ?_
        refine tt_getR (wo_10 hW) rfl (wr_10_2 hW) ?_
        refine tt_getR (wo_13 hW) rfl (wr_13_1 hW) ?_
        refine tt_ar rfl ?_
        refine tt_getR (wo_10 hW) rfl (wr_10_2 hW) ?_
        refine tt_getI (x := ((k : Nat) : Int)) (wo_13 hW) rfl (hP.1.trans hk) ?_
        refine tt_ar rfl ?_
        refine tt_iast (k) (wa_14 hW) (by omega) rfl (by omega) ?_
        refine tt_ar rfl ?_
        refine tt_getR (wo_10 hW) rfl (wr_10_2 hW) ?_
        refine tt_ar rfl ?_
        refine tt_getI (x := ((k : Nat) : Int)) (wo_13 hW) rfl (hP.1.trans hk) ?_
        refine tt_ar rfl ?_
        refine tt_iadd (by omega) (by omega) ?_
        refine tt_putI (wo_13 hW) rfl ?_
        refine tt_ar rfl ?_
        refine tt_zret (by omega) ?_
        exact Or.inl ⟨pos + 1 + 1, _, (by unfold p_sort; rw [if_neg (by omega), if_neg hl0, hv0]; (try dsimp only); rw [hk]; first | done | rfl), rfl, (Fr.put (Fr.put (Fr.put (Fr.put Fr.rf (by decide)) (by decide)) (by decide)) (by decide)), ((@am_set_rd (am_set σ 10 (1) ((((pos : Nat) : Int) + 1))) 10 (1) (((pos + 1 + 1 : Nat) : Int))).trans (by omega)), (PR.s130 (PR.s14 (PR.s10 (PR.s10 hP))))⟩
      · refine tt_nop ?_
        refine tt_ar rfl ?_
        refine tt_ar rfl ?_
        refine tt_ar rfl ?_
        refine tt_icne (fun h => absurd h (by omega)) (fun _ => ?_)
        refine tt_ar rfl ?_
        refine tt_zret (by omega) ?_
        exact Or.inr ⟨pos + 1, (by unfold p_sort; rw [if_neg (by omega), if_neg hl0, hv0]; first | done | rfl), rfl, (Fr.put Fr.rf (by decide)), ((@am_set_rd σ 10 (1) ((((pos : Nat) : Int) + 1))).trans (by omega))⟩
  · refine tt_ar rfl ?_
    refine tt_zret (by omega) ?_
    exact Or.inr ⟨pos, (by unfold p_sort; rw [if_pos (by omega)]), rfl, Fr.rf, hpos⟩

theorem c47 (f : Nat → Int) (s p n pos k : Nat) (W : Nat → Nat → Int) (σ : am_S) (hW : Wd σ) (hR : RS f s p n σ) (hpos : σ.1 10 1 = (pos : Int)) (hle : pos < n) (hP : PR W σ) (hk : W 6 0 = (k : Int)) (hk6 : k ≤ 6) : CC 47 [vR 10] σ (fun r σ' => (∃ q W', p_wash f n pos W = (q, some W') ∧ r = some (vI 1) ∧ Fr [10, 13, 14, 15, 16, 17] σ σ' ∧ σ'.1 10 1 = (q : Int) ∧ PR W' σ') ∨ (∃ q, p_wash f n pos W = (q, none) ∧ r = some (vI 0) ∧ Fr [10, 13, 14, 15, 16, 17] σ σ' ∧ σ'.1 10 1 = (q : Int))) := by
  show TT am_b47 (am_b47.getD 0 []) [(0, vR 10)] [] σ _
  obtain ⟨hs, hO, hp, hA, hs17, hp17, hn120, hn, hf⟩ := id hR
  refine tt_ar rfl ?_
  refine tt_ar rfl ?_
  refine tt_getI (x := ((pos : Nat) : Int)) (wo_10 hW) rfl hpos ?_
  refine tt_ar rfl ?_
  refine tt_iadd (by omega) (by omega) ?_
  refine tt_putI (wo_10 hW) rfl ?_
  refine tt_ar rfl ?_
  refine tt_ar rfl ?_
  refine tt_ar rfl ?_
  refine tt_getR (wo_10 hW) rfl (wr_10_2 hW) ?_
  refine tt_getI (x := ((k : Nat) : Int)) (wo_13 hW) rfl (hP.1.trans hk) ?_
  refine tt_ar rfl ?_
  refine tt_isub (by omega) (by omega) ?_
  refine tt_cv3 3 rfl (wo_10 hW) (c46 f s p n (pos + 1) (am_set σ 10 (1) ((((pos : Nat) : Int) + 1))) hW (RS.fr (W := [10, 13, 14, 15, 16, 17]) (Fr.put Fr.rf (by decide)) (by decide) hR) ((@am_set_rd σ 10 (1) ((((pos : Nat) : Int) + 1))).trans (by omega)) (by omega) _ _ (by omega) (by omega)) (kor (kex fun v0 => kand fun hv0 => ks ?_) (kand fun hv0 => ks ?_))
  · have hbv0 := p_fig_some (by omega) hv0
    refine tt_ar rfl ?_
    refine tt_ar rfl ?_
    refine tt_ifltF (by omega) ?_
    refine tt_ar rfl ?_
    refine tt_ar rfl ?_
    refine tt_cv2 2 rfl (wo_10 hW) (c42 f s p n (pos + 1 + 1) (am_set (am_set σ 10 (1) ((((pos : Nat) : Int) + 1))) 10 (1) (((pos + 1 + 1 : Nat) : Int))) hW (RS.fr (W := [10, 13, 14, 15, 16, 17]) (Fr.put (Fr.put Fr.rf (by decide)) (by decide)) (by decide) hR) ((@am_set_rd (am_set σ 10 (1) ((((pos : Nat) : Int) + 1))) 10 (1) (((pos + 1 + 1 : Nat) : Int))).trans (by omega)) (by omega) _ (by decide)) (kor (kand fun hl0 => ks ?_) (kand fun hl0 => ks ?_))
    · refine tt_ifneT (by decide) ?_
      refine tt_ar rfl ?_
      refine tt_ar rfl ?_
      refine tt_ar rfl ?_
      refine tt_cv3 3 rfl (wo_10 hW) (c46 f s p n (pos + 1 + 1 + 1) (am_set (am_set (am_set σ 10 (1) ((((pos : Nat) : Int) + 1))) 10 (1) (((pos + 1 + 1 : Nat) : Int))) 10 (1) (((pos + 1 + 1 + 1 : Nat) : Int))) hW (RS.fr (W := [10, 13, 14, 15, 16, 17]) (Fr.put (Fr.put (Fr.put Fr.rf (by decide)) (by decide)) (by decide)) (by decide) hR) ((@am_set_rd (am_set (am_set σ 10 (1) ((((pos : Nat) : Int) + 1))) 10 (1) (((pos + 1 + 1 : Nat) : Int))) 10 (1) (((pos + 1 + 1 + 1 : Nat) : Int))).trans (by omega)) (by omega) _ _ (by omega) (by omega)) (kor (kex fun v1 => kand fun hv1 => ks ?_) (kand fun hv1 => ks ?_))
      · have hbv1 := p_fig_some (by omega) hv1
        refine tt_ar rfl ?_
        refine tt_ar rfl ?_
        refine tt_ifltF (by omega) ?_
        refine tt_ar rfl ?_
        refine tt_ar rfl ?_
        refine tt_cv2 2 rfl (wo_10 hW) (c42 f s p n (pos + 1 + 1 + 1 + 1) (am_set (am_set (am_set (am_set σ 10 (1) ((((pos : Nat) : Int) + 1))) 10 (1) (((pos + 1 + 1 : Nat) : Int))) 10 (1) (((pos + 1 + 1 + 1 : Nat) : Int))) 10 (1) (((pos + 1 + 1 + 1 + 1 : Nat) : Int))) hW (RS.fr (W := [10, 13, 14, 15, 16, 17]) (Fr.put (Fr.put (Fr.put (Fr.put Fr.rf (by decide)) (by decide)) (by decide)) (by decide)) (by decide) hR) ((@am_set_rd (am_set (am_set (am_set σ 10 (1) ((((pos : Nat) : Int) + 1))) 10 (1) (((pos + 1 + 1 : Nat) : Int))) 10 (1) (((pos + 1 + 1 + 1 : Nat) : Int))) 10 (1) (((pos + 1 + 1 + 1 + 1 : Nat) : Int))).trans (by omega)) (by omega) _ (by decide)) (kor (kand fun hl1 => ks ?_) (kand fun hl1 => ks ?_))
        · refine tt_ifneT (by decide) ?_
          refine tt_ar rfl ?_
          refine tt_ar rfl ?_
          refine tt_ar rfl ?_
          refine tt_cv3 3 rfl (wo_10 hW) (c46 f s p n (pos + 1 + 1 + 1 + 1 + 1) (am_set (am_set (am_set (am_set (am_set σ 10 (1) ((((pos : Nat) : Int) + 1))) 10 (1) (((pos + 1 + 1 : Nat) : Int))) 10 (1) (((pos + 1 + 1 + 1 : Nat) : Int))) 10 (1) (((pos + 1 + 1 + 1 + 1 : Nat) : Int))) 10 (1) (((pos + 1 + 1 + 1 + 1 + 1 : Nat) : Int))) hW (RS.fr (W := [10, 13, 14, 15, 16, 17]) (Fr.put (Fr.put (Fr.put (Fr.put (Fr.put Fr.rf (by decide)) (by decide)) (by decide)) (by decide)) (by decide)) (by decide) hR) ((@am_set_rd (am_set (am_set (am_set (am_set σ 10 (1) ((((pos : Nat) : Int) + 1))) 10 (1) (((pos + 1 + 1 : Nat) : Int))) 10 (1) (((pos + 1 + 1 + 1 : Nat) : Int))) 10 (1) (((pos + 1 + 1 + 1 + 1 : Nat) : Int))) 10 (1) (((pos + 1 + 1 + 1 + 1 + 1 : Nat) : Int))).trans (by omega)) (by omega) _ _ (by omega) (by omega)) (kor (kex fun v2 => kand fun hv2 => ks ?_) (kand fun hv2 => ks ?_))
          · have hbv2 := p_fig_some (by omega) hv2
            refine tt_ar rfl ?_
            refine tt_ar rfl ?_
            refine tt_ifltF (by omega) ?_
            refine tt_ar rfl ?_
            refine tt_ar rfl ?_
            refine tt_cv2 2 rfl (wo_10 hW) (c42 f s p n (pos + 1 + 1 + 1 + 1 + 1 + 1) (am_set (am_set (am_set (am_set (am_set (am_set σ 10 (1) ((((pos : Nat) : Int) + 1))) 10 (1) (((pos + 1 + 1 : Nat) : Int))) 10 (1) (((pos + 1 + 1 + 1 : Nat) : Int))) 10 (1) (((pos + 1 + 1 + 1 + 1 : Nat) : Int))) 10 (1) (((pos + 1 + 1 + 1 + 1 + 1 : Nat) : Int))) 10 (1) (((pos + 1 + 1 + 1 + 1 + 1 + 1 : Nat) : Int))) hW (RS.fr (W := [10, 13, 14, 15, 16, 17]) (Fr.put (Fr.put (Fr.put (Fr.put (Fr.put (Fr.put Fr.rf (by decide)) (by decide)) (by decide)) (by decide)) (by decide)) (by decide)) (by decide) hR) ((@am_set_rd (am_set (am_set (am_set (am_set (am_set σ 10 (1) ((((pos : Nat) : Int) + 1))) 10 (1) (((pos + 1 + 1 : Nat) : Int))) 10 (1) (((pos + 1 + 1 + 1 : Nat) : Int))) 10 (1) (((pos + 1 + 1 + 1 + 1 : Nat) : Int))) 10 (1) (((pos + 1 + 1 + 1 + 1 + 1 : Nat) : Int))) 10 (1) (((pos + 1 + 1 + 1 + 1 + 1 + 1 : Nat) : Int))).trans (by omega)) (by omega) _ (by decide)) (kor (kand fun hl2 => ks ?_) (kand fun hl2 => ks ?_))
            · refine tt_ifneT (by decide) ?_
              refine tt_ar rfl ?_
              refine tt_ar rfl ?_
              refine tt_ar rfl ?_
              refine tt_cv3 3 rfl (wo_10 hW) (c46 f s p n (pos + 1 + 1 + 1 + 1 + 1 + 1 + 1) (am_set (am_set (am_set (am_set (am_set (am_set (am_set σ 10 (1) ((((pos : Nat) : Int) + 1))) 10 (1) (((pos + 1 + 1 : Nat) : Int))) 10 (1) (((pos + 1 + 1 + 1 : Nat) : Int))) 10 (1) (((pos + 1 + 1 + 1 + 1 : Nat) : Int))) 10 (1) (((pos + 1 + 1 + 1 + 1 + 1 : Nat) : Int))) 10 (1) (((pos + 1 + 1 + 1 + 1 + 1 + 1 : Nat) : Int))) 10 (1) (((pos + 1 + 1 + 1 + 1 + 1 + 1 + 1 : Nat) : Int))) hW (RS.fr (W := [10, 13, 14, 15, 16, 17]) (Fr.put (Fr.put (Fr.put (Fr.put (Fr.put (Fr.put (Fr.put Fr.rf (by decide)) (by decide)) (by decide)) (by decide)) (by decide)) (by decide)) (by decide)) (by decide) hR) ((@am_set_rd (am_set (am_set (am_set (am_set (am_set (am_set σ 10 (1) ((((pos : Nat) : Int) + 1))) 10 (1) (((pos + 1 + 1 : Nat) : Int))) 10 (1) (((pos + 1 + 1 + 1 : Nat) : Int))) 10 (1) (((pos + 1 + 1 + 1 + 1 : Nat) : Int))) 10 (1) (((pos + 1 + 1 + 1 + 1 + 1 : Nat) : Int))) 10 (1) (((pos + 1 + 1 + 1 + 1 + 1 + 1 : Nat) : Int))) 10 (1) (((pos + 1 + 1 + 1 + 1 + 1 + 1 + 1 : Nat) : Int))).trans (by omega)) (by omega) _ _ (by omega) (by omega)) (kor (kex fun v3 => kand fun hv3 => ks ?_) (kand fun hv3 => ks ?_))
              · have hbv3 := p_fig_some (by omega) hv3
                refine tt_ar rfl ?_
                refine tt_ar rfl ?_
                refine tt_ifgeT (by omega) ?_
                refine tt_ar rfl ?_
                refine tt_getR (wo_10 hW) rfl (wr_10_2 hW) ?_
                refine tt_getR (wo_13 hW) rfl (wr_13_2 hW) ?_
                refine tt_ar rfl ?_
                refine tt_ar rfl ?_
                refine tt_imul (by omega) (by omega) ?_
                refine tt_ar rfl ?_
                refine tt_iadd (by omega) (by omega) ?_
                refine tt_ar rfl ?_
                refine tt_iast (((v0 * 8) + v1)) (wa_15 hW) (by omega) (by omega) (by omega) ?_
                refine tt_ar rfl ?_
                refine tt_getR (wo_10 hW) rfl (wr_10_2 hW) ?_
                refine tt_getR (wo_13 hW) rfl (wr_13_3 hW) ?_
                refine tt_ar rfl ?_
                refine tt_ar rfl ?_
                refine tt_imul (by omega) (by omega) ?_
                refine tt_ar rfl ?_
                refine tt_iadd (by omega) (by omega) ?_
                refine tt_ar rfl ?_
                refine tt_iast (((v0 * 8) + v1)) (wa_16 hW) (by omega) (by omega) (by omega) ?_
                refine tt_ar rfl ?_
                refine tt_zret (by omega) ?_
                exact Or.inl ⟨pos + 1 + 1 + 1 + 1 + 1 + 1 + 1 + 1, _, (by unfold p_wash; rw [hk]; rw [hv0]; (try dsimp only); rw [if_neg (fun h => h hl0)]; rw [hv1]; (try dsimp only); rw [if_neg (fun h => h hl1)]; rw [hv2]; (try dsimp only); rw [if_neg (fun h => h hl2)]; rw [hv3]; (try dsimp only)), rfl, (Fr.put (Fr.put (Fr.put (Fr.put (Fr.put (Fr.put (Fr.put (Fr.put (Fr.put (Fr.put Fr.rf (by decide)) (by decide)) (by decide)) (by decide)) (by decide)) (by decide)) (by decide)) (by decide)) (by decide)) (by decide)), ((@am_set_rd (am_set (am_set (am_set (am_set (am_set (am_set (am_set σ 10 (1) ((((pos : Nat) : Int) + 1))) 10 (1) (((pos + 1 + 1 : Nat) : Int))) 10 (1) (((pos + 1 + 1 + 1 : Nat) : Int))) 10 (1) (((pos + 1 + 1 + 1 + 1 : Nat) : Int))) 10 (1) (((pos + 1 + 1 + 1 + 1 + 1 : Nat) : Int))) 10 (1) (((pos + 1 + 1 + 1 + 1 + 1 + 1 : Nat) : Int))) 10 (1) (((pos + 1 + 1 + 1 + 1 + 1 + 1 + 1 : Nat) : Int))) 10 (1) (((pos + 1 + 1 + 1 + 1 + 1 + 1 + 1 + 1 : Nat) : Int))).trans (by omega)), (PR.s16 (PR.s15 (PR.s10 (PR.s10 (PR.s10 (PR.s10 (PR.s10 (PR.s10 (PR.s10 (PR.s10 hP))))))))))⟩
              · refine tt_ar rfl ?_
                refine tt_ar rfl ?_
                refine tt_ifgeF (by decide) ?_
                refine tt_ar rfl ?_
                refine tt_zret (by omega) ?_
                exact Or.inr ⟨pos + 1 + 1 + 1 + 1 + 1 + 1 + 1, (by unfold p_wash; rw [hk]; rw [hv0]; (try dsimp only); rw [if_neg (fun h => h hl0)]; rw [hv1]; (try dsimp only); rw [if_neg (fun h => h hl1)]; rw [hv2]; (try dsimp only); rw [if_neg (fun h => h hl2)]; rw [hv3]; (try dsimp only)), rfl, (Fr.put (Fr.put (Fr.put (Fr.put (Fr.put (Fr.put (Fr.put Fr.rf (by decide)) (by decide)) (by decide)) (by decide)) (by decide)) (by decide)) (by decide)), ((@am_set_rd (am_set (am_set (am_set (am_set (am_set (am_set σ 10 (1) ((((pos : Nat) : Int) + 1))) 10 (1) (((pos + 1 + 1 : Nat) : Int))) 10 (1) (((pos + 1 + 1 + 1 : Nat) : Int))) 10 (1) (((pos + 1 + 1 + 1 + 1 : Nat) : Int))) 10 (1) (((pos + 1 + 1 + 1 + 1 + 1 : Nat) : Int))) 10 (1) (((pos + 1 + 1 + 1 + 1 + 1 + 1 : Nat) : Int))) 10 (1) (((pos + 1 + 1 + 1 + 1 + 1 + 1 + 1 : Nat) : Int))).trans (by omega))⟩
            · refine tt_ifneF (by decide) ?_
              refine tt_nop ?_
              refine tt_ar rfl ?_
              refine tt_zret (by omega) ?_
              exact Or.inr ⟨pos + 1 + 1 + 1 + 1 + 1 + 1, (by unfold p_wash; rw [hk]; rw [hv0]; (try dsimp only); rw [if_neg (fun h => h hl0)]; rw [hv1]; (try dsimp only); rw [if_neg (fun h => h hl1)]; rw [hv2]; (try dsimp only); rw [if_pos hl2]), rfl, (Fr.put (Fr.put (Fr.put (Fr.put (Fr.put (Fr.put Fr.rf (by decide)) (by decide)) (by decide)) (by decide)) (by decide)) (by decide)), ((@am_set_rd (am_set (am_set (am_set (am_set (am_set σ 10 (1) ((((pos : Nat) : Int) + 1))) 10 (1) (((pos + 1 + 1 : Nat) : Int))) 10 (1) (((pos + 1 + 1 + 1 : Nat) : Int))) 10 (1) (((pos + 1 + 1 + 1 + 1 : Nat) : Int))) 10 (1) (((pos + 1 + 1 + 1 + 1 + 1 : Nat) : Int))) 10 (1) (((pos + 1 + 1 + 1 + 1 + 1 + 1 : Nat) : Int))).trans (by omega))⟩
          · refine tt_ar rfl ?_
            refine tt_ar rfl ?_
            refine tt_ifltT (by decide) ?_
            refine tt_ar rfl ?_
            refine tt_zret (by omega) ?_
            exact Or.inr ⟨pos + 1 + 1 + 1 + 1 + 1, (by unfold p_wash; rw [hk]; rw [hv0]; (try dsimp only); rw [if_neg (fun h => h hl0)]; rw [hv1]; (try dsimp only); rw [if_neg (fun h => h hl1)]; rw [hv2]; (try dsimp only)), rfl, (Fr.put (Fr.put (Fr.put (Fr.put (Fr.put Fr.rf (by decide)) (by decide)) (by decide)) (by decide)) (by decide)), ((@am_set_rd (am_set (am_set (am_set (am_set σ 10 (1) ((((pos : Nat) : Int) + 1))) 10 (1) (((pos + 1 + 1 : Nat) : Int))) 10 (1) (((pos + 1 + 1 + 1 : Nat) : Int))) 10 (1) (((pos + 1 + 1 + 1 + 1 : Nat) : Int))) 10 (1) (((pos + 1 + 1 + 1 + 1 + 1 : Nat) : Int))).trans (by omega))⟩
        · refine tt_ifneF (by decide) ?_
          refine tt_nop ?_
          refine tt_ar rfl ?_
          refine tt_zret (by omega) ?_
          exact Or.inr ⟨pos + 1 + 1 + 1 + 1, (by unfold p_wash; rw [hk]; rw [hv0]; (try dsimp only); rw [if_neg (fun h => h hl0)]; rw [hv1]; (try dsimp only); rw [if_pos hl1]), rfl, (Fr.put (Fr.put (Fr.put (Fr.put Fr.rf (by decide)) (by decide)) (by decide)) (by decide)), ((@am_set_rd (am_set (am_set (am_set σ 10 (1) ((((pos : Nat) : Int) + 1))) 10 (1) (((pos + 1 + 1 : Nat) : Int))) 10 (1) (((pos + 1 + 1 + 1 : Nat) : Int))) 10 (1) (((pos + 1 + 1 + 1 + 1 : Nat) : Int))).trans (by omega))⟩
      · refine tt_ar rfl ?_
        refine tt_ar rfl ?_
        refine tt_ifltT (by decide) ?_
        refine tt_ar rfl ?_
        refine tt_zret (by omega) ?_
        exact Or.inr ⟨pos + 1 + 1 + 1, (by unfold p_wash; rw [hk]; rw [hv0]; (try dsimp only); rw [if_neg (fun h => h hl0)]; rw [hv1]; (try dsimp only)), rfl, (Fr.put (Fr.put (Fr.put Fr.rf (by decide)) (by decide)) (by decide)), ((@am_set_rd (am_set (am_set σ 10 (1) ((((pos : Nat) : Int) + 1))) 10 (1) (((pos + 1 + 1 : Nat) : Int))) 10 (1) (((pos + 1 + 1 + 1 : Nat) : Int))).trans (by omega))⟩
    · refine tt_ifneF (by decide) ?_
      refine tt_nop ?_
      refine tt_ar rfl ?_
      refine tt_zret (by omega) ?_
      exact Or.inr ⟨pos + 1 + 1, (by unfold p_wash; rw [hk]; rw [hv0]; (try dsimp only); rw [if_pos hl0]), rfl, (Fr.put (Fr.put Fr.rf (by decide)) (by decide)), ((@am_set_rd (am_set σ 10 (1) ((((pos : Nat) : Int) + 1))) 10 (1) (((pos + 1 + 1 : Nat) : Int))).trans (by omega))⟩
  · refine tt_ar rfl ?_
    refine tt_ar rfl ?_
    refine tt_ifltT (by decide) ?_
    refine tt_ar rfl ?_
    refine tt_zret (by omega) ?_
    exact Or.inr ⟨pos + 1, (by unfold p_wash; rw [hk]; rw [hv0]; (try dsimp only)), rfl, (Fr.put Fr.rf (by decide)), ((@am_set_rd σ 10 (1) ((((pos : Nat) : Int) + 1))).trans (by omega))⟩

theorem c48 (f : Nat → Int) (s p n pos k : Nat) (W : Nat → Nat → Int) (σ : am_S) (hW : Wd σ) (hR : RS f s p n σ) (hpos : σ.1 10 1 = (pos : Int)) (hle : pos < n) (hP : PR W σ) (hk : W 6 0 = (k : Int)) (hk6 : k ≤ 6) : CC 48 [vR 10] σ (fun r σ' => (∃ q W', p_in f n pos W = (q, some W') ∧ r = some (vI 1) ∧ Fr [10, 13, 14, 15, 16, 17] σ σ' ∧ σ'.1 10 1 = (q : Int) ∧ PR W' σ') ∨ (∃ q, p_in f n pos W = (q, none) ∧ r = some (vI 0) ∧ Fr [10, 13, 14, 15, 16, 17] σ σ' ∧ σ'.1 10 1 = (q : Int))) := by
  show TT am_b48 (am_b48.getD 0 []) [(0, vR 10)] [] σ _
  obtain ⟨hs, hO, hp, hA, hs17, hp17, hn120, hn, hf⟩ := id hR
  refine tt_ar rfl ?_
  refine tt_ar rfl ?_
  refine tt_getI (x := ((pos : Nat) : Int)) (wo_10 hW) rfl hpos ?_
  refine tt_ar rfl ?_
  refine tt_iadd (by omega) (by omega) ?_
  refine tt_putI (wo_10 hW) rfl ?_
  refine tt_ar rfl ?_
  refine tt_ar rfl ?_
  refine tt_ar rfl ?_
  refine tt_cv3 3 rfl (wo_10 hW) (c46 f s p n (pos + 1) (am_set σ 10 (1) ((((pos : Nat) : Int) + 1))) hW (RS.fr (W := [10, 13, 14, 15, 16, 17]) (Fr.put Fr.rf (by decide)) (by decide) hR) ((@am_set_rd σ 10 (1) ((((pos : Nat) : Int) + 1))).trans (by omega)) (by omega) _ _ (by omega) (by omega)) (kor (kex fun v0 => kand fun hv0 => ks ?_) (kand fun hv0 => ks ?_))
  · have hbv0 := p_fig_some (by omega) hv0
    refine tt_ar rfl ?_
    refine tt_ar rfl ?_
    refine tt_ifgeT (by omega) ?_
    refine tt_ar rfl ?_
    refine tt_getR (wo_10 hW) rfl (wr_10_2 hW) ?_
    refine tt_ar rfl ?_
    refine tt_getI (x := W 6 1) (wo_13 hW) rfl hP.2.1 ?_
    refine tt_ar rfl ?_
    refine tt_ar rfl ?_
    refine tt_bI (g := a_shl) (z := a_shl (1) (((v0 : Nat) : Int))) rfl rfl ?_
    refine tt_bI (g := a_or) (z := a_or (W 6 1) (a_shl (1) (((v0 : Nat) : Int)))) rfl rfl ?_
    refine tt_putI (wo_13 hW) rfl ?_
    refine tt_ar rfl ?_
    refine tt_zret (by omega) ?_
    exact Or.inl ⟨pos + 1 + 1, _, (by unfold p_in; rw [hv0]), rfl, (Fr.put (Fr.put (Fr.put Fr.rf (by decide)) (by decide)) (by decide)), ((@am_set_rd (am_set σ 10 (1) ((((pos : Nat) : Int) + 1))) 10 (1) (((pos + 1 + 1 : Nat) : Int))).trans (by omega)), (PR.s134 (PR.s10 (PR.s10 hP)))⟩
  · refine tt_ar rfl ?_
    refine tt_ar rfl ?_
    refine tt_ifgeF (by decide) ?_
    refine tt_ar rfl ?_
    refine tt_zret (by omega) ?_
    exact Or.inr ⟨pos + 1, (by unfold p_in; rw [hv0]), rfl, (Fr.put Fr.rf (by decide)), ((@am_set_rd σ 10 (1) ((((pos : Nat) : Int) + 1))).trans (by omega))⟩

theorem c49 (f : Nat → Int) (s p n pos k : Nat) (W : Nat → Nat → Int) (σ : am_S) (hW : Wd σ) (hR : RS f s p n σ) (hpos : σ.1 10 1 = (pos : Int)) (hle : pos < n) (hP : PR W σ) (hk : W 6 0 = (k : Int)) (hk6 : k ≤ 6) : CC 49 [vR 10] σ (fun r σ' => (∃ q W', p_cost f n 5 0 (pos + 1) W = (q, some W') ∧ r = some (vI 1) ∧ Fr [10, 13, 14, 15, 16, 17] σ σ' ∧ σ'.1 10 1 = (q : Int) ∧ PR W' σ') ∨ (∃ q, p_cost f n 5 0 (pos + 1) W = (q, none) ∧ r = some (vI 0) ∧ Fr [10, 13, 14, 15, 16, 17] σ σ' ∧ σ'.1 10 1 = (q : Int))) := by
  show TT am_b49 (am_b49.getD 0 []) [(0, vR 10)] [] σ _
  obtain ⟨hs, hO, hp, hA, hs17, hp17, hn120, hn, hf⟩ := id hR
  refine tt_ar rfl ?_
  refine tt_ar rfl ?_
  refine tt_getI (x := ((pos : Nat) : Int)) (wo_10 hW) rfl hpos ?_
  refine tt_ar rfl ?_
  refine tt_iadd (by omega) (by omega) ?_
  refine tt_putI (wo_10 hW) rfl ?_
  refine tt_ar rfl ?_
  refine tt_ar rfl ?_
  refine tt_nop ?_
  have lp1_1 : ∀ (μ : Nat) (w : Nat) (q : Nat) (W1 : Nat → Nat → Int) (σ1 : am_S), 5 - w < μ → Fr [10, 13, 14, 15, 16, 17] σ σ1 → (w ≤ 5) → (σ1.1 10 1 = ((q : Nat) : Int)) → (q ≤ n) → (PR W1 σ1) → (p_cost f n (5 - w) w q W1 = p_cost f n 5 0 (pos + 1) W) → TT am_b49 (am_b49.getD 1 []) [(0, vR 10), (1, vI (((w : Nat) : Int)))] [] σ1 (fun r σ' => (∃ q W', p_cost f n 5 0 (pos + 1) W = (q, some W') ∧ r = some (vI 1) ∧ Fr [10, 13, 14, 15, 16, 17] σ σ' ∧ σ'.1 10 1 = (q : Int) ∧ PR W' σ') ∨ (∃ q, p_cost f n 5 0 (pos + 1) W = (q, none) ∧ r = some (vI 0) ∧ Fr [10, 13, 14, 15, 16, 17] σ σ' ∧ σ'.1 10 1 = (q : Int))) := by
    intro μ
    induction μ with
    | zero => intro w q W1 σ1 hμ; exact absurd hμ (Nat.not_lt_zero _)
    | succ μ ih1 =>
      intro w q W1 σ1 hμ hF_σ1 hw hq hqn hP1 hC
      have hW_σ1 := Fr.wd hF_σ1 hW
      refine tt_ar rfl ?_
      refine tt_ar rfl ?_
      refine tt_icge (fun h1_2 => ?_) (fun h1_2 => ?_)
      · refine tt_ar rfl ?_
        refine tt_zret (by omega) ?_
        have e : w = 5 := by omega
        subst e
        exact Or.inl ⟨q, W1, hC.symm, rfl, hF_σ1, hq, hP1⟩
      · refine tt_ar rfl ?_
        refine tt_ar rfl ?_
        refine tt_ar rfl ?_
        refine tt_cv3 3 rfl (wo_10 hW_σ1) (c46 f s p n (q) σ1 hW_σ1 (RS.fr (W := [10, 13, 14, 15, 16, 17]) (Fr.tr Fr.rf hF_σ1 (by decide)) (by decide) hR) hq (by omega) _ _ (by omega) (by omega)) (kor (kex fun v0 => kand fun hv0 => ks ?_) (kand fun hv0 => ks ?_))
        · have hbv0 := p_fig_some (by omega) hv0
          refine tt_ar rfl ?_
          refine tt_ar rfl ?_
          refine tt_ifgeT (by omega) ?_
          refine tt_ar rfl ?_
          refine tt_getR (wo_10 hW_σ1) rfl (wr_10_2 hW_σ1) ?_
          refine tt_getR (wo_13 hW_σ1) rfl (wr_13_5 hW_σ1) ?_
          refine tt_ar rfl ?_
          refine tt_ar rfl ?_
          refine tt_iast (w) (wa_17 hW_σ1) (by omega) rfl (by omega) ?_
          refine tt_iinc (y := ((w + 1 : Nat) : Int)) rfl (iinc_fit (by omega) (by omega) (by omega)) ?_
          refine tt_goto ?_
          refine tt_loc [(0, vR 10), (1, vI (((w + 1 : Nat) : Int)))] rfl rfl ⟨rfl, rfl, trivial⟩ ?_
          exact ih1 (w + 1) (q + 1) (aset W1 10 w (v0 : Int)) _ (by omega) (Fr.put (Fr.put (Fr.tr Fr.rf hF_σ1 (by decide)) (by decide)) (by decide)) (by omega) (@am_set_rd σ1 10 1 (((q + 1 : Nat) : Int))) (by omega) (PR.s17 (PR.s10 hP1)) (by rw [← hC, show 5 - w = (5 - (w + 1)) + 1 by omega]; conv => { rhs; unfold p_cost }; rw [hv0])
        · refine tt_ar rfl ?_
          refine tt_ar rfl ?_
          refine tt_ifgeF (by decide) ?_
          refine tt_ar rfl ?_
          refine tt_zret (by omega) ?_
          exact Or.inr ⟨q, (by rw [← hC, show 5 - w = (4 - w) + 1 by omega]; unfold p_cost; rw [hv0]), rfl, hF_σ1, hq⟩
  refine tt_loc [(0, vR 10), (1, vI (((0 : Nat) : Int)))] rfl rfl ⟨rfl, lv_to rfl (by omega), trivial⟩ ?_
  exact lp1_1 _ (0) (pos + 1) (W) _ (Nat.lt_succ_self _) (Fr.put Fr.rf (by decide)) (by omega) ((@am_set_rd σ 10 1 _).trans (by omega)) (by omega) (PR.s10 hP) rfl

theorem c44 (f : Nat → Int) (s p n pos k : Nat) (W : Nat → Nat → Int) (σ : am_S) (hW : Wd σ) (hR : RS f s p n σ) (hpos : σ.1 10 1 = (pos : Int)) (hle : pos < n) (hP : PR W σ) (hk : W 6 0 = (k : Int)) (hk6 : k ≤ 6) : CC 44 [vR 10] σ (fun r σ' => (∃ q W', p_item f n pos W = (q, some W') ∧ r = some (vI 1) ∧ Fr [10, 13, 14, 15, 16, 17] σ σ' ∧ σ'.1 10 1 = (q : Int) ∧ PR W' σ') ∨ (∃ q, p_item f n pos W = (q, none) ∧ r = some (vI 0) ∧ Fr [10, 13, 14, 15, 16, 17] σ σ' ∧ σ'.1 10 1 = (q : Int))) := by
  show TT am_b44 (am_b44.getD 0 []) [(0, vR 10)] [] σ _
  obtain ⟨hs, hO, hp, hA, hs17, hp17, hn120, hn, hf⟩ := id hR
  refine tt_ar rfl ?_
  refine tt_cv1 1 rfl (wo_10 hW) (c43 f s p n (pos) σ hW hR hpos (by omega)) (kp ?_)
  refine tt_lsw ?_
  have hsg : p_sign f n pos = f pos := if_pos hle
  by_cases h99 : f pos = 99
  · refine tt_to (b' := 4) (by rw [hsg, h99]; rfl) ?_
    refine tt_ar rfl ?_
    refine tt_cv1 1 rfl (wo_10 hW) (c49 f s p n pos k W σ hW hR hpos hle hP hk hk6) ?_
    intro r0 σ2 hq0
    rcases hq0 with ⟨q, W1, hq, rfl, hF2, hq1, hP1⟩ | ⟨q, hq, rfl, hF2, hq1⟩
    · have hW1 := Fr.wd hF2 hW
      refine tt_zret (by omega) ?_
      exact Or.inl ⟨q, W1, (by unfold p_item; rw [if_neg (by omega), if_neg (by omega), if_neg (by omega), if_pos h99]; exact hq), rfl, hF2, hq1, hP1⟩
    · have hW2 := Fr.wd hF2 hW
      refine tt_zret (by omega) ?_
      exact Or.inr ⟨q, (by unfold p_item; rw [if_neg (by omega), if_neg (by omega), if_neg (by omega), if_pos h99]; exact hq), rfl, hF2, hq1⟩
  by_cases h105 : f pos = 105
  · refine tt_to (b' := 3) (by rw [hsg, h105]; rfl) ?_
    refine tt_ar rfl ?_
    refine tt_cv1 1 rfl (wo_10 hW) (c48 f s p n pos k W σ hW hR hpos hle hP hk hk6) ?_
    intro r0 σ2 hq0
    rcases hq0 with ⟨q, W1, hq, rfl, hF2, hq1, hP1⟩ | ⟨q, hq, rfl, hF2, hq1⟩
    · have hW3 := Fr.wd hF2 hW
      refine tt_zret (by omega) ?_
      exact Or.inl ⟨q, W1, (by unfold p_item; rw [if_neg (by omega), if_neg (by omega), if_pos h105]; exact hq), rfl, hF2, hq1, hP1⟩
    · have hW4 := Fr.wd hF2 hW
      refine tt_zret (by omega) ?_
      exact Or.inr ⟨q, (by unfold p_item; rw [if_neg (by omega), if_neg (by omega), if_pos h105]; exact hq), rfl, hF2, hq1⟩
  by_cases h107 : f pos = 107
  · refine tt_to (b' := 1) (by rw [hsg, h107]; rfl) ?_
    refine tt_ar rfl ?_
    refine tt_cv1 1 rfl (wo_10 hW) (c45 f s p n pos k W σ hW hR hpos hle hP hk hk6) ?_
    intro r0 σ2 hq0
    rcases hq0 with ⟨q, W1, hq, rfl, hF2, hq1, hP1⟩ | ⟨q, hq, rfl, hF2, hq1⟩
    · have hW5 := Fr.wd hF2 hW
      refine tt_zret (by omega) ?_
      exact Or.inl ⟨q, W1, (by unfold p_item; rw [if_pos h107]; exact hq), rfl, hF2, hq1, hP1⟩
    · have hW6 := Fr.wd hF2 hW
      refine tt_zret (by omega) ?_
      exact Or.inr ⟨q, (by unfold p_item; rw [if_pos h107]; exact hq), rfl, hF2, hq1⟩
  by_cases h119 : f pos = 119
  · refine tt_to (b' := 2) (by rw [hsg, h119]; rfl) ?_
    refine tt_ar rfl ?_
    refine tt_cv1 1 rfl (wo_10 hW) (c47 f s p n pos k W σ hW hR hpos hle hP hk hk6) ?_
    intro r0 σ2 hq0
    rcases hq0 with ⟨q, W1, hq, rfl, hF2, hq1, hP1⟩ | ⟨q, hq, rfl, hF2, hq1⟩
    · have hW7 := Fr.wd hF2 hW
      refine tt_zret (by omega) ?_
      exact Or.inl ⟨q, W1, (by unfold p_item; rw [if_neg (by omega), if_pos h119]; exact hq), rfl, hF2, hq1, hP1⟩
    · have hW8 := Fr.wd hF2 hW
      refine tt_zret (by omega) ?_
      exact Or.inr ⟨q, (by unfold p_item; rw [if_neg (by omega), if_pos h119]; exact hq), rfl, hF2, hq1⟩
  refine tt_to (b' := 5) (by rw [hsg]; simp [am_look, h99, h105, h107, h119]) ?_
  refine tt_ar rfl ?_
  refine tt_zret (by omega) ?_
  exact Or.inr ⟨pos, (by unfold p_item; rw [if_neg h107, if_neg h119, if_neg h105, if_neg h99]), rfl, Fr.rf, hpos⟩

