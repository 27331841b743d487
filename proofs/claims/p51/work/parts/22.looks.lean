/-! HOUSEHOLDS HELD AGAINST MONDAYS -/
/-- what hung agrees with what hangs at least, at most -/
abbrev agP (hu : Nat → Int) (db ins w : Int) (le mo : Nat → Int) : Prop := ∀ x, x < 8 → hu x - db ≤ mo x ∧ (hu x + db < le x → isIn ins w (x : Int))
/-- likewise with lo, hi of a sort besides -/
abbrev nAg (hu : Nat → Int) (db ins w : Int) (bl bm ls ms : Nat → Int) (lo hi : Int) (s : Nat) : Prop := agP hu db ins w (fun x => bl x + lo * ls (s * 8 + x)) (fun x => bm x + hi * ms (s * 8 + x))
/-- the first of which p holds; k: of none -/
def fstN (p : Nat → Bool) : Nat → Nat
  | 0 => 0
  | k + 1 => if fstN p k < k then fstN p k else if p k then k else k + 1
theorem fstN_le {p : Nat → Bool} : ∀ k, fstN p k ≤ k
  | 0 => Nat.le_refl _
  | k + 1 => by
    unfold fstN
    have := fstN_le (p := p) k
    split
    · omega
    · split <;> omega
theorem fstN_none {p : Nat → Bool} : ∀ {k : Nat}, (∀ t, t < k → p t = false) → fstN p k = k
  | 0, _ => rfl
  | k + 1, h => by
    unfold fstN
    rw [fstN_none (fun t ht => h t (by omega)), if_neg (by omega), h k (by omega)]
    rfl
theorem fstN_eq {p : Nat → Bool} {s : Nat} (hs : p s = true) (h : ∀ t, t < s → p t = false) : ∀ {k : Nat}, s < k → fstN p k = s
  | 0, hk => absurd hk (Nat.not_lt_zero _)
  | k + 1, hk => by
    unfold fstN
    by_cases e : s = k
    · subst e
      rw [fstN_none h, if_neg (by omega), hs]
      rfl
    · rw [fstN_eq hs h (k := k) (by omega), if_pos (by omega)]
def exN (k : Nat) (ag : Bool) (ill gst : Nat → Bool) : Int := if ag then 0 else if fstN ill k < k then 10 + (fstN ill k : Int) else if fstN gst k < k then 20 + (fstN gst k : Int) else -9
/-- the class's houses, as numbers -/
def HB (n : Nat) (σ : am_S) : Prop := σ.1 18 1 = (n : Int) ∧ 1 ≤ n ∧ n ≤ 462 ∧ (∀ i, i < n * 8 → 0 ≤ σ.1 25 i ∧ σ.1 25 i ≤ σ.1 26 i ∧ σ.1 26 i ≤ 45) ∧ (∀ i, i < n * 6 → 0 ≤ σ.1 21 i ∧ σ.1 21 i ≤ 5) ∧ (∀ h, h < n → 0 ≤ σ.1 20 h ∧ σ.1 20 h ≤ 5) ∧ (∀ h, h < n → 0 ≤ σ.1 19 h ∧ σ.1 19 h ≤ 500000)
theorem HB.fr {L : List Nat} {n : Nat} {σ σ' : am_S} (h : Fr L σ σ') (hw : ∀ a ∈ L, a < 18 ∨ 26 < a) (R : HB n σ) : HB n σ' := by
  have q : ∀ a, 18 ≤ a → a ≤ 26 → ∀ j, σ'.1 a j = σ.1 a j := fun a h1 h2 j => h.2 a (fun e => by have := hw a e; omega) j
  obtain ⟨h1, h2, h3, h4, h5, h6, h7⟩ := R
  exact ⟨by rw [q 18 (by omega) (by omega)]; exact h1, h2, h3, fun i hi => by rw [q 25 (by omega) (by omega), q 26 (by omega) (by omega)]; exact h4 i hi, fun i hi => by rw [q 21 (by omega) (by omega)]; exact h5 i hi, fun i hi => by rw [q 20 (by omega) (by omega)]; exact h6 i hi, fun i hi => by rw [q 19 (by omega) (by omega)]; exact h7 i hi⟩
abbrev cAg (σ : am_S) (m h : Nat) (lo hi : Int) (s : Nat) : Prop := nAg (fun x => σ.1 30 (m * 8 + x)) (σ.1 29 m) (σ.1 5 4) (σ.1 28 m) (fun x => σ.1 25 (h * 8 + x)) (fun x => σ.1 26 (h * 8 + x)) (σ.1 7) (σ.1 8) lo hi s
def cIll (σ : am_S) (m h s : Nat) : Bool := decide (0 < σ.1 21 (h * 6 + s) ∧ cAg σ m h (-1) 0 s)
def cGst (σ : am_S) (m h s : Nat) : Bool := decide (cAg σ m h 1 1 s)
def cEx (σ : am_S) (k m h : Nat) : Int := exN k (decide (cAg σ m h 0 0 0)) (cIll σ m h) (cGst σ m h)
def prOf (pr : Nat → Int) (how : Int) : Int := if how < 10 then 0 else if how < 20 then pr 3 else pr 4
theorem mul3 {a b : Int} (h : a = -1 ∨ a = 0 ∨ a = 1) (h0 : 0 ≤ b) (h9 : b ≤ 9) : -9 ≤ a * b ∧ a * b ≤ 9 := by
  rcases h with rfl | rfl | rfl <;> omega
theorem exN_bd {k : Nat} {ag : Bool} {ill gst : Nat → Bool} (hk : k ≤ 6) : exN k ag ill gst = -9 ∨ (0 ≤ exN k ag ill gst ∧ exN k ag ill gst < 30) := by
  unfold exN
  have h1 := fstN_le (p := ill) k
  have h2 := fstN_le (p := gst) k
  split
  · omega
  · split
    · omega
    · split <;> omega
def orN : Nat → (Nat → Bool) → Int
  | 0, _ => 0
  | n + 1, p => if p n then a_or (orN n p) (a_shl 1 (n : Int)) else orN n p
def smN (all : Nat → Int) (p : Nat → Bool) : Nat → Int
  | 0 => -1
  | n + 1 => if (smN all p n < 0 ∨ all n < all (smN all p n).toNat) ∧ p n = true then (n : Int) else smN all p n
theorem smN_bd {all : Nat → Int} {p : Nat → Bool} : ∀ n, -1 ≤ smN all p n ∧ smN all p n < (n : Int)
  | 0 => by unfold smN; omega
  | n + 1 => by
    have := smN_bd (all := all) (p := p) n
    unfold smN
    split <;> omega
def pbN (hu mo : Nat → Int) : Nat → Option Int
  | 0 => some 0
  | n + 1 => match pbN hu mo n with
    | none => none
    | some b => if 0 < hu n then (if mo n ≤ 0 then none else some (if b < w32 (Int.tdiv (hu n + mo n - 1) (mo n)) then w32 (Int.tdiv (hu n + mo n - 1) (mo n)) else b)) else some b
theorem pbN_none {hu mo : Nat → Int} {i : Nat} (h : pbN hu mo i = none) : ∀ d, pbN hu mo (i + d) = none
  | 0 => h
  | d + 1 => by
    show pbN hu mo (i + d + 1) = none
    unfold pbN
    rw [pbN_none h d]
def dm (x : Int) : Int := if 0 < x then x else 0
theorem dm_bd (x : Int) : 0 ≤ dm x ∧ x ≤ dm x ∧ (dm x = 0 ∨ dm x = x) := by
  unfold dm
  split <;> omega
def dbT (l h m : Int) : Int := dm (l - h) + dm (h - m)
def ldN (db all : Nat → Int) : Nat → Nat × Int
  | 0 => (0, db 0)
  | j + 1 => if db (j + 1) < (ldN db all j).2 ∨ (db (j + 1) = (ldN db all j).2 ∧ all (j + 1) < all (ldN db all j).1) then (j + 1, db (j + 1)) else ldN db all j
theorem ldN_bd {db all : Nat → Int} : ∀ j, (ldN db all j).1 ≤ j ∧ (ldN db all j).2 = db (ldN db all j).1
  | 0 => ⟨Nat.le_refl _, rfl⟩
  | j + 1 => by
    have := ldN_bd (db := db) (all := all) j
    unfold ldN
    split
    · exact ⟨Nat.le_refl _, rfl⟩
    · exact ⟨by omega, this.2⟩
theorem c76 (σ : am_S) (k n nm : Nat) (hW : Wd σ) (hD : LD k σ) (hL : LN nm σ) (hH : HB n σ) (m h s : Nat) (lo hi : Int) (hm : m < 12) (hh : h < n) (hs : s < 6) (hlo : lo = -1 ∨ lo = 0 ∨ lo = 1) (hhi : hi = -1 ∨ hi = 0 ∨ hi = 1) : CC 76 [vR 31, vI (((m : Nat) : Int)), vI (((h : Nat) : Int)), vI (((s : Nat) : Int)), vI (lo), vI (hi)] σ (fun r σ' => σ' = σ ∧ ((cAg σ m h lo hi s) ∧ r = some (vI 1) ∨ ¬(cAg σ m h lo hi s) ∧ r = some (vI 0))) := by
  show TT am_b76 (am_b76.getD 0 []) [(0, vR 31), (1, vI (((m : Nat) : Int))), (2, vI (((h : Nat) : Int))), (3, vI (((s : Nat) : Int))), (4, vI (lo)), (5, vI (hi))] [] σ _
  have hk6 := hD.2.1
  have hn1 := hH.2.1
  have hn462 := hH.2.2.1
  have hnm12 := hL.2.1
  refine tt_ar rfl ?_
  refine tt_ar rfl ?_
  refine tt_nop ?_
  have lp1_1 : ∀ (μ : Nat) (x : Nat), 8 - x < μ → (x ≤ 8) → (∀ y, y < x → σ.1 30 (m * 8 + y) - σ.1 29 m ≤ σ.1 26 (h * 8 + y) + hi * σ.1 8 (s * 8 + y) ∧ (σ.1 30 (m * 8 + y) + σ.1 29 m < σ.1 25 (h * 8 + y) + lo * σ.1 7 (s * 8 + y) → isIn (σ.1 5 4) (σ.1 28 m) (y : Int))) → TT am_b76 (am_b76.getD 1 []) [(0, vR 31), (1, vI (((m : Nat) : Int))), (2, vI (((h : Nat) : Int))), (3, vI (((s : Nat) : Int))), (4, vI (lo)), (5, vI (hi)), (6, vI (((x : Nat) : Int)))] [] σ (fun r σ' => σ' = σ ∧ ((cAg σ m h lo hi s) ∧ r = some (vI 1) ∨ ¬(cAg σ m h lo hi s) ∧ r = some (vI 0))) := by
    intro μ
    induction μ with
    | zero => intro x hμ; exact absurd hμ (Nat.not_lt_zero _)
    | succ μ ih1 =>
      intro x hμ hx hC
      refine tt_ar rfl ?_
      refine tt_ar rfl ?_
      refine tt_icge (fun h1_2 => ?_) (fun h1_2 => ?_)
      · refine tt_ar rfl ?_
        refine tt_zret (by omega) ?_
        have e : x = 8 := by omega
        subst e
        exact ⟨rfl, Or.inl ⟨hC, rfl⟩⟩
      · refine tt_ar rfl ?_
        refine tt_getR (wo_31 hW) rfl (wr_31_1 hW) ?_
        refine tt_getR (wo_18 hW) rfl (wr_18_9 hW) ?_
        refine tt_ar rfl ?_
        refine tt_ar rfl ?_
        refine tt_imul (by omega) (by omega) ?_
        refine tt_ar rfl ?_
        refine tt_iadd (by omega) (by omega) ?_
        refine tt_iald (((h * 8) + x)) (x := σ.1 26 (((h * 8) + x))) (wa_26 hW) (by omega) (by omega) rfl ?_
        have hb26 := hH.2.2.2.1 (((h * 8) + x)) (by omega)
        refine tt_ar rfl ?_
        refine tt_ar rfl ?_
        refine tt_getR (wo_31 hW) rfl (wr_31_0 hW) ?_
        refine tt_getR (wo_5 hW) rfl (wr_5_3 hW) ?_
        refine tt_ar rfl ?_
        refine tt_ar rfl ?_
        refine tt_imul (by omega) (by omega) ?_
        refine tt_ar rfl ?_
        refine tt_iadd (by omega) (by omega) ?_
        refine tt_iald (((s * 8) + x)) (x := σ.1 8 (((s * 8) + x))) (wa_8 hW) (by omega) (by omega) rfl ?_
        have hb8 := hD.2.2.1 (((s * 8) + x)) (by omega)
        have hm8 := mul3 hhi (show 0 ≤ σ.1 8 (((s * 8) + x)) by omega) (by omega)
        refine tt_imul (by omega) (by omega) ?_
        refine tt_iadd (by omega) (by omega) ?_
        refine tt_ar rfl ?_
        refine tt_ar rfl ?_
        refine tt_getR (wo_31 hW) rfl (wr_31_1 hW) ?_
        refine tt_getR (wo_18 hW) rfl (wr_18_8 hW) ?_
        refine tt_ar rfl ?_
        refine tt_ar rfl ?_
        refine tt_imul (by omega) (by omega) ?_
        refine tt_ar rfl ?_
        refine tt_iadd (by omega) (by omega) ?_
        refine tt_iald (((h * 8) + x)) (x := σ.1 25 (((h * 8) + x))) (wa_25 hW) (by omega) (by omega) rfl ?_
        have hb25 := hH.2.2.2.1 (((h * 8) + x)) (by omega)
        refine tt_ar rfl ?_
        refine tt_ar rfl ?_
        refine tt_getR (wo_31 hW) rfl (wr_31_0 hW) ?_
        refine tt_getR (wo_5 hW) rfl (wr_5_2 hW) ?_
        refine tt_ar rfl ?_
        refine tt_ar rfl ?_
        refine tt_imul (by omega) (by omega) ?_
        refine tt_ar rfl ?_
        refine tt_iadd (by omega) (by omega) ?_
        refine tt_iald (((s * 8) + x)) (x := σ.1 7 (((s * 8) + x))) (wa_7 hW) (by omega) (by omega) rfl ?_
        have hb7 := hD.2.2.1 (((s * 8) + x)) (by omega)
        have hm7 := mul3 hlo (show 0 ≤ σ.1 7 (((s * 8) + x)) by omega) (by omega)
        refine tt_imul (by omega) (by omega) ?_
        refine tt_iadd (by omega) (by omega) ?_
        refine tt_ar rfl ?_
        refine tt_ar rfl ?_
        refine tt_getR (wo_31 hW) rfl (wr_31_2 hW) ?_
        refine tt_ar rfl ?_
        refine tt_ar rfl ?_
        refine tt_ar rfl ?_
        refine tt_cv4 4 rfl (wo_27 hW) (c77 σ _ m x _ hW hL (by omega) (by omega)) (kb (fun h1_52 => ?_) (fun h1_52 => ?_))
        · refine tt_ifneT (by decide) ?_
          refine tt_ar rfl ?_
          refine tt_zret (by omega) ?_
          refine ⟨rfl, Or.inr ⟨fun hA => ?_, rfl⟩⟩
          have hAx := hA x (by omega)
          dsimp only at hAx
          first | (exfalso; omega) | (have q := hAx.2 (by omega); contradiction)
        · refine tt_ifneF (by decide) ?_
          refine tt_ar rfl ?_
          refine tt_getR (wo_31 hW) rfl (wr_31_2 hW) ?_
          refine tt_ar rfl ?_
          refine tt_ar rfl ?_
          refine tt_ar rfl ?_
          refine tt_cv4 4 rfl (wo_27 hW) (c78 σ _ m x _ hW hL (by omega) (by omega)) (kb (fun h1_59 => ?_) (fun h1_59 => ?_))
          · refine tt_ifeqF (by decide) ?_
            refine tt_ar rfl ?_
            refine tt_getR (wo_31 hW) rfl (wr_31_0 hW) ?_
            refine tt_ar rfl ?_
            refine tt_getR (wo_31 hW) rfl (wr_31_2 hW) ?_
            refine tt_getR (wo_27 hW) rfl (wr_27_1 hW) ?_
            refine tt_ar rfl ?_
            refine tt_iald (m) (x := σ.1 28 (m)) (wa_28 hW) rfl (by omega) rfl ?_
            have hb28 := hL.2.2.1 (m) (by omega)
            refine tt_ar rfl ?_
            refine tt_cv3 3 rfl (wo_5 hW) (c72 σ _ _ hW) (kb (fun h1_69 => ?_) (fun h1_69 => ?_))
            · refine tt_ifneT (by decide) ?_
              refine tt_iinc (y := ((x + 1 : Nat) : Int)) rfl (iinc_fit (by omega) (by omega) (by omega)) ?_
              refine tt_goto ?_
              refine tt_loc [(0, vR 31), (1, vI (((m : Nat) : Int))), (2, vI (((h : Nat) : Int))), (3, vI (((s : Nat) : Int))), (4, vI (lo)), (5, vI (hi)), (6, vI (((x + 1 : Nat) : Int)))] rfl rfl ⟨rfl, rfl, rfl, rfl, rfl, rfl, rfl, trivial⟩ ?_
              exact ih1 (x + 1) (by omega) (by omega) (fun y hy => by by_cases e : y = x; (subst e; exact ⟨by omega, fun hlt => by first | assumption | (exfalso; omega)⟩); exact hC y (by omega))
            · refine tt_ifneF (by decide) ?_
              refine tt_nop ?_
              refine tt_ar rfl ?_
              refine tt_zret (by omega) ?_
              refine ⟨rfl, Or.inr ⟨fun hA => ?_, rfl⟩⟩
              have hAx := hA x (by omega)
              dsimp only at hAx
              first | (exfalso; omega) | (have q := hAx.2 (by omega); contradiction)
          · refine tt_ifeqT (by decide) ?_
            refine tt_iinc (y := ((x + 1 : Nat) : Int)) rfl (iinc_fit (by omega) (by omega) (by omega)) ?_
            refine tt_goto ?_
            refine tt_loc [(0, vR 31), (1, vI (((m : Nat) : Int))), (2, vI (((h : Nat) : Int))), (3, vI (((s : Nat) : Int))), (4, vI (lo)), (5, vI (hi)), (6, vI (((x + 1 : Nat) : Int)))] rfl rfl ⟨rfl, rfl, rfl, rfl, rfl, rfl, rfl, trivial⟩ ?_
            exact ih1 (x + 1) (by omega) (by omega) (fun y hy => by by_cases e : y = x; (subst e; exact ⟨by omega, fun hlt => by first | assumption | (exfalso; omega)⟩); exact hC y (by omega))
  refine tt_loc [(0, vR 31), (1, vI (((m : Nat) : Int))), (2, vI (((h : Nat) : Int))), (3, vI (((s : Nat) : Int))), (4, vI (lo)), (5, vI (hi)), (6, vI (((0 : Nat) : Int)))] rfl rfl ⟨rfl, rfl, rfl, rfl, rfl, rfl, lv_to rfl (by omega), trivial⟩ ?_
  exact lp1_1 _ (0) (Nat.lt_succ_self _) (by omega) (fun y hy => absurd hy (Nat.not_lt_zero y))

theorem c75 (σ : am_S) (k n nm : Nat) (hW : Wd σ) (hD : LD k σ) (hL : LN nm σ) (hH : HB n σ) (m h : Nat) (hm : m < 12) (hh : h < n) : CC 75 [vR 31, vI (((m : Nat) : Int)), vI (((h : Nat) : Int))] σ (fun r σ' => σ' = σ ∧ ((cAg σ m h 0 0 0) ∧ r = some (vI 1) ∨ ¬(cAg σ m h 0 0 0) ∧ r = some (vI 0))) := by
  show TT am_b75 (am_b75.getD 0 []) [(0, vR 31), (1, vI (((m : Nat) : Int))), (2, vI (((h : Nat) : Int)))] [] σ _
  have hk6 := hD.2.1
  have hn1 := hH.2.1
  have hn462 := hH.2.2.1
  have hnm12 := hL.2.1
  refine tt_ar rfl ?_
  refine tt_ar rfl ?_
  refine tt_ar rfl ?_
  refine tt_ar rfl ?_
  refine tt_ar rfl ?_
  refine tt_ar rfl ?_
  refine tt_cv6 6 rfl (wo_31 hW) (c76 σ k n nm hW hD hL hH m h 0 _ _ (by omega) (by omega) (by omega) (by omega) (by omega)) (kb (fun h0_6 => ?_) (fun h0_6 => ?_))
  · refine tt_zret (by omega) ?_
    exact ⟨rfl, Or.inl ⟨h0_6, rfl⟩⟩
  · refine tt_zret (by omega) ?_
    exact ⟨rfl, Or.inr ⟨h0_6, rfl⟩⟩

theorem c79 (σ : am_S) (k n nm : Nat) (hW : Wd σ) (hD : LD k σ) (hL : LN nm σ) (hH : HB n σ) (m h : Nat) (hm : m < 12) (hh : h < n) : CC 79 [vR 31, vI (((m : Nat) : Int)), vI (((h : Nat) : Int))] σ (fun r σ' => r = some (vI (if fstN (cIll σ m h) k < k then 10 + (fstN (cIll σ m h) k : Int) else -9)) ∧ σ' = σ) := by
  show TT am_b79 (am_b79.getD 0 []) [(0, vR 31), (1, vI (((m : Nat) : Int))), (2, vI (((h : Nat) : Int)))] [] σ _
  have hk6 := hD.2.1
  have hn1 := hH.2.1
  have hn462 := hH.2.2.1
  have hnm12 := hL.2.1
  refine tt_ar rfl ?_
  refine tt_ar rfl ?_
  refine tt_nop ?_
  have lp1_1 : ∀ (μ : Nat) (s : Nat), k - s < μ → (s ≤ k) → (∀ t, t < s → cIll σ m h t = false) → TT am_b79 (am_b79.getD 1 []) [(0, vR 31), (1, vI (((m : Nat) : Int))), (2, vI (((h : Nat) : Int))), (3, vI (((s : Nat) : Int)))] [] σ (fun r σ' => r = some (vI (if fstN (cIll σ m h) k < k then 10 + (fstN (cIll σ m h) k : Int) else -9)) ∧ σ' = σ) := by
    intro μ
    induction μ with
    | zero => intro s hμ; exact absurd hμ (Nat.not_lt_zero _)
    | succ μ ih1 =>
      intro s hμ hs hC
      refine tt_ar rfl ?_
      refine tt_ar rfl ?_
      refine tt_getR (wo_31 hW) rfl (wr_31_0 hW) ?_
      refine tt_getI (x := ((k : Nat) : Int)) (wo_5 hW) rfl hD.1 ?_
      refine tt_icge (fun h1_4 => ?_) (fun h1_4 => ?_)
      · refine tt_ar rfl ?_
        refine tt_iret ?_
        have e : s = k := by omega
        subst e
        exact ⟨rv (by rw [fstN_none hC, if_neg (Nat.lt_irrefl _)]), rfl⟩
      · refine tt_ar rfl ?_
        refine tt_getR (wo_31 hW) rfl (wr_31_1 hW) ?_
        refine tt_getR (wo_18 hW) rfl (wr_18_4 hW) ?_
        refine tt_ar rfl ?_
        refine tt_ar rfl ?_
        refine tt_imul (by omega) (by omega) ?_
        refine tt_ar rfl ?_
        refine tt_iadd (by omega) (by omega) ?_
        refine tt_iald (((h * 6) + s)) (x := σ.1 21 (((h * 6) + s))) (wa_21 hW) (by omega) (by omega) rfl ?_
        have hb21 := hH.2.2.2.2.1 (((h * 6) + s)) (by omega)
        refine tt_ifle (fun h1_14 => ?_) (fun h1_14 => ?_)
        · refine tt_iinc (y := ((s + 1 : Nat) : Int)) rfl (iinc_fit (by omega) (by omega) (by omega)) ?_
          refine tt_goto ?_
          refine tt_loc [(0, vR 31), (1, vI (((m : Nat) : Int))), (2, vI (((h : Nat) : Int))), (3, vI (((s + 1 : Nat) : Int)))] rfl rfl ⟨rfl, rfl, rfl, rfl, trivial⟩ ?_
          exact ih1 (s + 1) (by omega) (by omega) (fun t ht => by by_cases e : t = s; (subst e; exact decide_eq_false (fun hA => by first | (have := hA.1; omega) | contradiction | (have := hA.2; contradiction))); exact hC t (by omega))
        · refine tt_ar rfl ?_
          refine tt_ar rfl ?_
          refine tt_ar rfl ?_
          refine tt_ar rfl ?_
          refine tt_ar rfl ?_
          refine tt_ar rfl ?_
          refine tt_cv6 6 rfl (wo_31 hW) (c76 σ k n nm hW hD hL hH m h s _ _ (by omega) (by omega) (by omega) (by omega) (by omega)) (kb (fun h1_21 => ?_) (fun h1_21 => ?_))
          · refine tt_ifeqF (by decide) ?_
            refine tt_ar rfl ?_
            refine tt_ar rfl ?_
            refine tt_iadd (by omega) (by omega) ?_
            refine tt_iret ?_
            have hf : fstN (cIll σ m h) k = s := fstN_eq (decide_eq_true (by first | exact ⟨by omega, by assumption⟩ | assumption)) hC (by omega)
            exact ⟨rv (by rw [hf, if_pos (by omega)]), rfl⟩
          · refine tt_ifeqT (by decide) ?_
            refine tt_iinc (y := ((s + 1 : Nat) : Int)) rfl (iinc_fit (by omega) (by omega) (by omega)) ?_
            refine tt_goto ?_
            refine tt_loc [(0, vR 31), (1, vI (((m : Nat) : Int))), (2, vI (((h : Nat) : Int))), (3, vI (((s + 1 : Nat) : Int)))] rfl rfl ⟨rfl, rfl, rfl, rfl, trivial⟩ ?_
            exact ih1 (s + 1) (by omega) (by omega) (fun t ht => by by_cases e : t = s; (subst e; exact decide_eq_false (fun hA => by first | (have := hA.1; omega) | contradiction | (have := hA.2; contradiction))); exact hC t (by omega))
  refine tt_loc [(0, vR 31), (1, vI (((m : Nat) : Int))), (2, vI (((h : Nat) : Int))), (3, vI (((0 : Nat) : Int)))] rfl rfl ⟨rfl, rfl, rfl, lv_to rfl (by omega), trivial⟩ ?_
  exact lp1_1 _ (0) (Nat.lt_succ_self _) (by omega) (fun y hy => absurd hy (Nat.not_lt_zero y))

theorem c80 (σ : am_S) (k n nm : Nat) (hW : Wd σ) (hD : LD k σ) (hL : LN nm σ) (hH : HB n σ) (m h : Nat) (hm : m < 12) (hh : h < n) : CC 80 [vR 31, vI (((m : Nat) : Int)), vI (((h : Nat) : Int))] σ (fun r σ' => r = some (vI (if fstN (cGst σ m h) k < k then 20 + (fstN (cGst σ m h) k : Int) else -9)) ∧ σ' = σ) := by
  show TT am_b80 (am_b80.getD 0 []) [(0, vR 31), (1, vI (((m : Nat) : Int))), (2, vI (((h : Nat) : Int)))] [] σ _
  have hk6 := hD.2.1
  have hn1 := hH.2.1
  have hn462 := hH.2.2.1
  have hnm12 := hL.2.1
  refine tt_ar rfl ?_
  refine tt_ar rfl ?_
  refine tt_nop ?_
  have lp1_1 : ∀ (μ : Nat) (s : Nat), k - s < μ → (s ≤ k) → (∀ t, t < s → cGst σ m h t = false) → TT am_b80 (am_b80.getD 1 []) [(0, vR 31), (1, vI (((m : Nat) : Int))), (2, vI (((h : Nat) : Int))), (3, vI (((s : Nat) : Int)))] [] σ (fun r σ' => r = some (vI (if fstN (cGst σ m h) k < k then 20 + (fstN (cGst σ m h) k : Int) else -9)) ∧ σ' = σ) := by
    intro μ
    induction μ with
    | zero => intro s hμ; exact absurd hμ (Nat.not_lt_zero _)
    | succ μ ih1 =>
      intro s hμ hs hC
      refine tt_ar rfl ?_
      refine tt_ar rfl ?_
      refine tt_getR (wo_31 hW) rfl (wr_31_0 hW) ?_
      refine tt_getI (x := ((k : Nat) : Int)) (wo_5 hW) rfl hD.1 ?_
      refine tt_icge (fun h1_4 => ?_) (fun h1_4 => ?_)
      · refine tt_ar rfl ?_
        refine tt_iret ?_
        have e : s = k := by omega
        subst e
        exact ⟨rv (by rw [fstN_none hC, if_neg (Nat.lt_irrefl _)]), rfl⟩
      · refine tt_ar rfl ?_
        refine tt_ar rfl ?_
        refine tt_ar rfl ?_
        refine tt_ar rfl ?_
        refine tt_ar rfl ?_
        refine tt_ar rfl ?_
        refine tt_cv6 6 rfl (wo_31 hW) (c76 σ k n nm hW hD hL hH m h s _ _ (by omega) (by omega) (by omega) (by omega) (by omega)) (kb (fun h1_11 => ?_) (fun h1_11 => ?_))
        · refine tt_ifeqF (by decide) ?_
          refine tt_ar rfl ?_
          refine tt_ar rfl ?_
          refine tt_iadd (by omega) (by omega) ?_
          refine tt_iret ?_
          have hf : fstN (cGst σ m h) k = s := fstN_eq (decide_eq_true (by first | exact ⟨by omega, by assumption⟩ | assumption)) hC (by omega)
          exact ⟨rv (by rw [hf, if_pos (by omega)]), rfl⟩
        · refine tt_ifeqT (by decide) ?_
          refine tt_iinc (y := ((s + 1 : Nat) : Int)) rfl (iinc_fit (by omega) (by omega) (by omega)) ?_
          refine tt_goto ?_
          refine tt_loc [(0, vR 31), (1, vI (((m : Nat) : Int))), (2, vI (((h : Nat) : Int))), (3, vI (((s + 1 : Nat) : Int)))] rfl rfl ⟨rfl, rfl, rfl, rfl, trivial⟩ ?_
          exact ih1 (s + 1) (by omega) (by omega) (fun t ht => by by_cases e : t = s; (subst e; exact decide_eq_false (fun hA => by first | (have := hA.1; omega) | contradiction | (have := hA.2; contradiction))); exact hC t (by omega))
  refine tt_loc [(0, vR 31), (1, vI (((m : Nat) : Int))), (2, vI (((h : Nat) : Int))), (3, vI (((0 : Nat) : Int)))] rfl rfl ⟨rfl, rfl, rfl, lv_to rfl (by omega), trivial⟩ ?_
  exact lp1_1 _ (0) (Nat.lt_succ_self _) (by omega) (fun y hy => absurd hy (Nat.not_lt_zero y))

theorem c74 (σ : am_S) (k n nm : Nat) (hW : Wd σ) (hD : LD k σ) (hL : LN nm σ) (hH : HB n σ) (m h : Nat) (hm : m < 12) (hh : h < n) : CC 74 [vR 31, vI (((m : Nat) : Int)), vI (((h : Nat) : Int))] σ (fun r σ' => r = some (vI (cEx σ k m h)) ∧ σ' = σ) := by
  show TT am_b74 (am_b74.getD 0 []) [(0, vR 31), (1, vI (((m : Nat) : Int))), (2, vI (((h : Nat) : Int)))] [] σ _
  have hk6 := hD.2.1
  have hn1 := hH.2.1
  have hn462 := hH.2.2.1
  have hnm12 := hL.2.1
  refine tt_ar rfl ?_
  refine tt_ar rfl ?_
  refine tt_ar rfl ?_
  refine tt_cv3 3 rfl (wo_31 hW) (c75 σ k n nm hW hD hL hH m h (by omega) (by omega)) (kb (fun h0_3 => ?_) (fun h0_3 => ?_))
  · refine tt_ifeqF (by decide) ?_
    refine tt_ar rfl ?_
    refine tt_iret ?_
    exact ⟨rv (by unfold cEx exN; rw [if_pos (decide_eq_true h0_3)]), rfl⟩
  · refine tt_ifeqT (by decide) ?_
    refine tt_ar rfl ?_
    refine tt_ar rfl ?_
    refine tt_ar rfl ?_
    refine tt_cv3 3 rfl (wo_31 hW) (c79 σ k n nm hW hD hL hH m h (by omega) (by omega)) (kp ?_)
    refine tt_ar rfl ?_
    refine tt_ar rfl ?_
    refine tt_ar rfl ?_
    refine tt_icne (fun h1_7 => ?_) (fun h1_7 => ?_)
    · refine tt_ar rfl ?_
      refine tt_nop ?_
      refine tt_iret ?_
      exact ⟨rv (by unfold cEx exN; rw [if_neg (fun e => h0_3 (of_decide_eq_true e))]; by_cases e : fstN (cIll σ m h) k < k; (rw [if_pos e, if_pos e]); (rw [if_neg e] at h1_7; exact absurd rfl h1_7)), rfl⟩
    · refine tt_ar rfl ?_
      refine tt_ar rfl ?_
      refine tt_ar rfl ?_
      refine tt_cv3 3 rfl (wo_31 hW) (c80 σ k n nm hW hD hL hH m h (by omega) (by omega)) (kp ?_)
      refine tt_goto ?_
      refine tt_iret ?_
      exact ⟨rv (by unfold cEx exN; rw [if_neg (fun e => h0_3 (of_decide_eq_true e))]; by_cases e : fstN (cIll σ m h) k < k; (rw [if_pos e] at h1_7; exfalso; omega); (rw [if_neg e])), rfl⟩

theorem c81 (σ : am_S) (k n nm : Nat) (hW : Wd σ) (hD : LD k σ) (hL : LN nm σ) (hH : HB n σ) (how : Int) : CC 81 [vR 31, vI (how)] σ (fun r σ' => r = some (vI (prOf (σ.1 9) how)) ∧ σ' = σ) := by
  show TT am_b81 (am_b81.getD 0 []) [(0, vR 31), (1, vI (how))] [] σ _
  have hk6 := hD.2.1
  have hn1 := hH.2.1
  have hn462 := hH.2.2.1
  have hnm12 := hL.2.1
  refine tt_ar rfl ?_
  refine tt_ar rfl ?_
  refine tt_icge (fun h0_2 => ?_) (fun h0_2 => ?_)
  · refine tt_ar rfl ?_
    refine tt_getR (wo_31 hW) rfl (wr_31_0 hW) ?_
    refine tt_getR (wo_5 hW) rfl (wr_5_5 hW) ?_
    refine tt_ar rfl ?_
    refine tt_ar rfl ?_
    refine tt_icge (fun h1_5 => ?_) (fun h1_5 => ?_)
    · refine tt_ar rfl ?_
      refine tt_nop ?_
      refine tt_iald (4) (x := σ.1 9 (4)) (wa_9 hW) rfl (by omega) rfl ?_
      have hb9 := hD.2.2.2.1 (4) (by omega)
      refine tt_iret ?_
      exact ⟨rv (by unfold prOf; rw [if_neg (by omega), if_neg (by omega)]), rfl⟩
    · refine tt_ar rfl ?_
      refine tt_goto ?_
      refine tt_iald (3) (x := σ.1 9 (3)) (wa_9 hW) rfl (by omega) rfl ?_
      have hb9 := hD.2.2.2.1 (3) (by omega)
      refine tt_iret ?_
      exact ⟨rv (by unfold prOf; rw [if_neg (by omega), if_pos (by omega)]), rfl⟩
  · refine tt_ar rfl ?_
    refine tt_iret ?_
    exact ⟨rv (by unfold prOf; rw [if_pos (by omega)]), rfl⟩

def cPr (σ : am_S) (k m h : Nat) : Int := if cEx σ k m h = -9 then 1000000 else prOf (σ.1 9) (cEx σ k m h)
def cCnt (σ : am_S) (k m : Nat) (price : Int) (n : Nat) : Int := sumN n (fun h => if ¬ cEx σ k m h = -9 ∧ prOf (σ.1 9) (cEx σ k m h) ≤ price then 1 else 0)
theorem cCnt_bd (σ : am_S) (k m : Nat) (price : Int) (n : Nat) : 0 ≤ cCnt σ k m price n ∧ cCnt σ k m price n ≤ (n : Int) := by
  have := sumN_bd (f := fun h => if ¬ cEx σ k m h = -9 ∧ prOf (σ.1 9) (cEx σ k m h) ≤ price then 1 else 0) (a := 0) (b := 1) (n := n) (fun i _ => by split <;> omega)
  unfold cCnt
  omega
def cTm (σ : am_S) (m h : Nat) : Int := orN 8 (fun x => decide (σ.1 30 (m * 8 + x) - σ.1 29 m > σ.1 26 (h * 8 + x)))
def cTl (σ : am_S) (m h : Nat) : Int := orN 8 (fun x => decide (σ.1 30 (m * 8 + x) + σ.1 29 m < (if isIn (σ.1 5 4) (σ.1 28 m) (x : Int) then 0 else σ.1 25 (h * 8 + x))))
def cSm (σ : am_S) (m n : Nat) : Int := smN (σ.1 20) (fun h => decide (cAg σ m h 0 0 0)) n
def cMo (σ : am_S) (k x : Nat) : Int := maxN k (fun s => σ.1 8 (s * 8 + x))
theorem maxN_bd {f : Nat → Int} {B : Int} (hB : 0 ≤ B) : ∀ {n : Nat}, (∀ i, i < n → f i ≤ B) → 0 ≤ maxN n f ∧ maxN n f ≤ B
  | 0, _ => ⟨Int.le_refl _, hB⟩
  | n + 1, h => by
    have h1 := maxN_bd hB (n := n) (fun i hi => h i (by omega))
    have h2 := h n (by omega)
    unfold maxN
    split <;> omega
def cPb (σ : am_S) (k m : Nat) : Nat → Option Int := pbN (fun x => σ.1 30 (m * 8 + x) - σ.1 29 m) (cMo σ k)
def cDb1 (σ : am_S) (h m x : Nat) : Int := dbT (if isIn (σ.1 5 4) (σ.1 28 m) (x : Int) then 0 else σ.1 25 (h * 8 + x)) (σ.1 30 (m * 8 + x)) (σ.1 26 (h * 8 + x))
def cDb (σ : am_S) (nm h : Nat) : Int := sumN nm (fun m => sumN 8 (cDb1 σ h m))
theorem c91 (σ : am_S) (k n nm : Nat) (hW : Wd σ) (hD : LD k σ) (hL : LN nm σ) (hH : HB n σ) (m : Nat) (price : Int) (hm : m < 12) : CC 91 [vR 31, vI (((m : Nat) : Int)), vI (price)] σ (fun r σ' => r = some (vI (cCnt σ k m price n)) ∧ σ' = σ) := by
  show TT am_b91 (am_b91.getD 0 []) [(0, vR 31), (1, vI (((m : Nat) : Int))), (2, vI (price))] [] σ _
  have hk6 := hD.2.1
  have hn1 := hH.2.1
  have hn462 := hH.2.2.1
  have hnm12 := hL.2.1
  refine tt_ar rfl ?_
  refine tt_ar rfl ?_
  refine tt_ar rfl ?_
  refine tt_ar rfl ?_
  refine tt_nop ?_
  have lp1_1 : ∀ (μ : Nat) (h : Nat), n - h < μ → (h ≤ n) → TT am_b91 (am_b91.getD 1 []) [(0, vR 31), (1, vI (((m : Nat) : Int))), (2, vI (price)), (3, vI (cCnt σ k m price h)), (4, vI (((h : Nat) : Int)))] [] σ (fun r σ' => r = some (vI (cCnt σ k m price n)) ∧ σ' = σ) := by
    intro μ
    induction μ with
    | zero => intro h hμ; exact absurd hμ (Nat.not_lt_zero _)
    | succ μ ih1 =>
      intro h hμ hh
      have hbc := cCnt_bd σ k m price h
      refine tt_ar rfl ?_
      refine tt_ar rfl ?_
      refine tt_getR (wo_31 hW) rfl (wr_31_1 hW) ?_
      refine tt_getI (x := ((n : Nat) : Int)) (wo_18 hW) rfl hH.1 ?_
      refine tt_icge (fun h1_4 => ?_) (fun h1_4 => ?_)
      · refine tt_ar rfl ?_
        refine tt_iret ?_
        have e : h = n := by omega
        subst e
        exact ⟨rfl, rfl⟩
      · refine tt_ar rfl ?_
        refine tt_ar rfl ?_
        refine tt_ar rfl ?_
        refine tt_cv3 3 rfl (wo_31 hW) (c74 σ k n nm hW hD hL hH m h (by omega) (by omega)) (kp ?_)
        refine tt_ar rfl ?_
        refine tt_ar rfl ?_
        refine tt_ar rfl ?_
        refine tt_iceq (fun h1_12 => ?_) (fun h1_12 => ?_)
        · refine tt_iinc (y := ((h + 1 : Nat) : Int)) rfl (iinc_fit (by omega) (by omega) (by omega)) ?_
          refine tt_goto ?_
          refine tt_loc [(0, vR 31), (1, vI (((m : Nat) : Int))), (2, vI (price)), (3, vI (cCnt σ k m price (h + 1))), (4, vI (((h + 1 : Nat) : Int)))] rfl rfl ⟨rfl, rfl, rfl, lv_to rfl (by show _ = cCnt σ k m price h + (if ¬ cEx σ k m h = -9 ∧ prOf (σ.1 9) (cEx σ k m h) ≤ price then 1 else 0); first | (rw [if_pos ⟨by assumption, by assumption⟩]) | (rw [if_neg (fun e => e.1 (by assumption))]; omega) | (rw [if_neg (fun e => by have := e.2; omega)]; omega)), rfl, trivial⟩ ?_
          exact ih1 (h + 1) (by omega) (by omega)
        · refine tt_ar rfl ?_
          refine tt_ar rfl ?_
          refine tt_cv2 2 rfl (wo_31 hW) (c81 σ k n nm hW hD hL hH _) (kp ?_)
          refine tt_ar rfl ?_
          refine tt_icgt (fun h1_17 => ?_) (fun h1_17 => ?_)
          · refine tt_iinc (y := ((h + 1 : Nat) : Int)) rfl (iinc_fit (by omega) (by omega) (by omega)) ?_
            refine tt_goto ?_
            refine tt_loc [(0, vR 31), (1, vI (((m : Nat) : Int))), (2, vI (price)), (3, vI (cCnt σ k m price (h + 1))), (4, vI (((h + 1 : Nat) : Int)))] rfl rfl ⟨rfl, rfl, rfl, lv_to rfl (by show _ = cCnt σ k m price h + (if ¬ cEx σ k m h = -9 ∧ prOf (σ.1 9) (cEx σ k m h) ≤ price then 1 else 0); first | (rw [if_pos ⟨by assumption, by assumption⟩]) | (rw [if_neg (fun e => e.1 (by assumption))]; omega) | (rw [if_neg (fun e => by have := e.2; omega)]; omega)), rfl, trivial⟩ ?_
            exact ih1 (h + 1) (by omega) (by omega)
          · refine tt_iinc (y := (cCnt σ k m price h + 1)) rfl (iinc_fit (by omega) (by omega) (by omega)) ?_
            refine tt_nop ?_
            refine tt_iinc (y := ((h + 1 : Nat) : Int)) rfl (iinc_fit (by omega) (by omega) (by omega)) ?_
            refine tt_goto ?_
            refine tt_loc [(0, vR 31), (1, vI (((m : Nat) : Int))), (2, vI (price)), (3, vI (cCnt σ k m price (h + 1))), (4, vI (((h + 1 : Nat) : Int)))] rfl rfl ⟨rfl, rfl, rfl, lv_to rfl (by show _ = cCnt σ k m price h + (if ¬ cEx σ k m h = -9 ∧ prOf (σ.1 9) (cEx σ k m h) ≤ price then 1 else 0); first | (rw [if_pos ⟨by assumption, by assumption⟩]) | (rw [if_neg (fun e => e.1 (by assumption))]; omega) | (rw [if_neg (fun e => by have := e.2; omega)]; omega)), rfl, trivial⟩ ?_
            exact ih1 (h + 1) (by omega) (by omega)
  refine tt_loc [(0, vR 31), (1, vI (((m : Nat) : Int))), (2, vI (price)), (3, vI (cCnt σ k m price 0)), (4, vI (((0 : Nat) : Int)))] rfl rfl ⟨rfl, rfl, rfl, lv_to rfl rfl, lv_to rfl (by omega), trivial⟩ ?_
  exact lp1_1 _ (0) (Nat.lt_succ_self _) (by omega)

theorem c83 (σ : am_S) (k n nm : Nat) (hW : Wd σ) (hD : LD k σ) (hL : LN nm σ) (hH : HB n σ) (m h : Nat) (hm : m < 12) (hh : h < n) : CC 83 [vR 31, vI (((m : Nat) : Int)), vI (((h : Nat) : Int))] σ (fun r σ' => r = some (vI (cTm σ m h)) ∧ σ' = σ) := by
  show TT am_b83 (am_b83.getD 0 []) [(0, vR 31), (1, vI (((m : Nat) : Int))), (2, vI (((h : Nat) : Int)))] [] σ _
  have hk6 := hD.2.1
  have hn1 := hH.2.1
  have hn462 := hH.2.2.1
  have hnm12 := hL.2.1
  refine tt_ar rfl ?_
  refine tt_ar rfl ?_
  refine tt_ar rfl ?_
  refine tt_ar rfl ?_
  refine tt_nop ?_
  have lp1_1 : ∀ (μ : Nat) (x : Nat), 8 - x < μ → (x ≤ 8) → TT am_b83 (am_b83.getD 1 []) [(0, vR 31), (1, vI (((m : Nat) : Int))), (2, vI (((h : Nat) : Int))), (3, vI (orN x (fun x => decide (σ.1 30 (m * 8 + x) - σ.1 29 m > σ.1 26 (h * 8 + x))))), (4, vI (((x : Nat) : Int)))] [] σ (fun r σ' => r = some (vI (cTm σ m h)) ∧ σ' = σ) := by
    intro μ
    induction μ with
    | zero => intro x hμ; exact absurd hμ (Nat.not_lt_zero _)
    | succ μ ih1 =>
      intro x hμ hx
      refine tt_ar rfl ?_
      refine tt_ar rfl ?_
      refine tt_icge (fun h1_2 => ?_) (fun h1_2 => ?_)
      · refine tt_ar rfl ?_
        refine tt_iret ?_
        have e : 8 = x := by omega
        subst e
        exact ⟨rfl, rfl⟩
      · refine tt_ar rfl ?_
        refine tt_getR (wo_31 hW) rfl (wr_31_2 hW) ?_
        refine tt_ar rfl ?_
        refine tt_ar rfl ?_
        refine tt_ar rfl ?_
        refine tt_getR (wo_31 hW) rfl (wr_31_1 hW) ?_
        refine tt_getR (wo_18 hW) rfl (wr_18_9 hW) ?_
        refine tt_ar rfl ?_
        refine tt_ar rfl ?_
        refine tt_imul (by omega) (by omega) ?_
        refine tt_ar rfl ?_
        refine tt_iadd (by omega) (by omega) ?_
        refine tt_iald (((h * 8) + x)) (x := σ.1 26 (((h * 8) + x))) (wa_26 hW) (by omega) (by omega) rfl ?_
        have hb26 := hH.2.2.2.1 (((h * 8) + x)) (by omega)
        refine tt_cv4 4 rfl (wo_27 hW) (c77 σ _ m x _ hW hL (by omega) (by omega)) (kb (fun h1_16 => ?_) (fun h1_16 => ?_))
        · refine tt_ifeqF (by decide) ?_
          refine tt_ar rfl ?_
          refine tt_ar rfl ?_
          refine tt_ar rfl ?_
          refine tt_bI (g := a_shl) (z := a_shl (1) (((x : Nat) : Int))) rfl rfl ?_
          refine tt_bI (g := a_or) (z := a_or (orN x (fun x => decide (σ.1 30 (m * 8 + x) - σ.1 29 m > σ.1 26 (h * 8 + x)))) (a_shl (1) (((x : Nat) : Int)))) rfl rfl ?_
          refine tt_ar rfl ?_
          refine tt_nop ?_
          refine tt_iinc (y := ((x + 1 : Nat) : Int)) rfl (iinc_fit (by omega) (by omega) (by omega)) ?_
          refine tt_goto ?_
          refine tt_loc [(0, vR 31), (1, vI (((m : Nat) : Int))), (2, vI (((h : Nat) : Int))), (3, vI (orN (x + 1) (fun x => decide (σ.1 30 (m * 8 + x) - σ.1 29 m > σ.1 26 (h * 8 + x))))), (4, vI (((x + 1 : Nat) : Int)))] rfl rfl ⟨rfl, rfl, rfl, lv_to rfl (by conv => { rhs; unfold orN }; first | (rw [if_pos (decide_eq_true (by assumption))]) | (rw [if_neg (fun e => absurd (of_decide_eq_true e) (by assumption))])), rfl, trivial⟩ ?_
          exact ih1 (x + 1) (by omega) (by omega)
        · refine tt_ifeqT (by decide) ?_
          refine tt_iinc (y := ((x + 1 : Nat) : Int)) rfl (iinc_fit (by omega) (by omega) (by omega)) ?_
          refine tt_goto ?_
          refine tt_loc [(0, vR 31), (1, vI (((m : Nat) : Int))), (2, vI (((h : Nat) : Int))), (3, vI (orN (x + 1) (fun x => decide (σ.1 30 (m * 8 + x) - σ.1 29 m > σ.1 26 (h * 8 + x))))), (4, vI (((x + 1 : Nat) : Int)))] rfl rfl ⟨rfl, rfl, rfl, lv_to rfl (by conv => { rhs; unfold orN }; first | (rw [if_pos (decide_eq_true (by assumption))]) | (rw [if_neg (fun e => absurd (of_decide_eq_true e) (by assumption))])), rfl, trivial⟩ ?_
          exact ih1 (x + 1) (by omega) (by omega)
  refine tt_loc [(0, vR 31), (1, vI (((m : Nat) : Int))), (2, vI (((h : Nat) : Int))), (3, vI (orN 0 (fun x => decide (σ.1 30 (m * 8 + x) - σ.1 29 m > σ.1 26 (h * 8 + x))))), (4, vI (((0 : Nat) : Int)))] rfl rfl ⟨rfl, rfl, rfl, lv_to rfl rfl, lv_to rfl (by omega), trivial⟩ ?_
  exact lp1_1 _ (0) (Nat.lt_succ_self _) (by omega)

theorem c84 (σ : am_S) (k n nm : Nat) (hW : Wd σ) (hD : LD k σ) (hL : LN nm σ) (hH : HB n σ) (m h : Nat) (hm : m < 12) (hh : h < n) : CC 84 [vR 31, vI (((m : Nat) : Int)), vI (((h : Nat) : Int))] σ (fun r σ' => r = some (vI (cTl σ m h)) ∧ σ' = σ) := by
  show TT am_b84 (am_b84.getD 0 []) [(0, vR 31), (1, vI (((m : Nat) : Int))), (2, vI (((h : Nat) : Int)))] [] σ _
  have hk6 := hD.2.1
  have hn1 := hH.2.1
  have hn462 := hH.2.2.1
  have hnm12 := hL.2.1
  refine tt_ar rfl ?_
  refine tt_ar rfl ?_
  refine tt_ar rfl ?_
  refine tt_ar rfl ?_
  refine tt_nop ?_
  have lp1_1 : ∀ (μ : Nat) (x : Nat), 8 - x < μ → (x ≤ 8) → TT am_b84 (am_b84.getD 1 []) [(0, vR 31), (1, vI (((m : Nat) : Int))), (2, vI (((h : Nat) : Int))), (3, vI (orN x (fun x => decide (σ.1 30 (m * 8 + x) + σ.1 29 m < (if isIn (σ.1 5 4) (σ.1 28 m) (x : Int) then 0 else σ.1 25 (h * 8 + x)))))), (4, vI (((x : Nat) : Int)))] [] σ (fun r σ' => r = some (vI (cTl σ m h)) ∧ σ' = σ) := by
    intro μ
    induction μ with
    | zero => intro x hμ; exact absurd hμ (Nat.not_lt_zero _)
    | succ μ ih1 =>
      intro x hμ hx
      refine tt_ar rfl ?_
      refine tt_ar rfl ?_
      refine tt_icge (fun h1_2 => ?_) (fun h1_2 => ?_)
      · refine tt_ar rfl ?_
        refine tt_iret ?_
        have e : 8 = x := by omega
        subst e
        exact ⟨rfl, rfl⟩
      · refine tt_ar rfl ?_
        refine tt_getR (wo_31 hW) rfl (wr_31_2 hW) ?_
        refine tt_ar rfl ?_
        refine tt_ar rfl ?_
        refine tt_ar rfl ?_
        refine tt_getR (wo_31 hW) rfl (wr_31_1 hW) ?_
        refine tt_ar rfl ?_
        refine tt_ar rfl ?_
        refine tt_getR (wo_31 hW) rfl (wr_31_2 hW) ?_
        refine tt_getR (wo_27 hW) rfl (wr_27_1 hW) ?_
        refine tt_ar rfl ?_
        refine tt_iald (m) (x := σ.1 28 (m)) (wa_28 hW) rfl (by omega) rfl ?_
        have hb28 := hL.2.2.1 (m) (by omega)
        refine tt_ar rfl ?_
        refine tt_cv4 4 rfl (wo_18 hW) (c71 σ h x _ hW (by omega) (by omega)) (kp ?_)
        refine tt_cv4 4 rfl (wo_27 hW) (c78 σ _ m x _ hW hL (by omega) (by omega)) (kb (fun h1_17 => ?_) (fun h1_17 => ?_))
        · refine tt_ifeqF (by decide) ?_
          refine tt_ar rfl ?_
          refine tt_ar rfl ?_
          refine tt_ar rfl ?_
          refine tt_bI (g := a_shl) (z := a_shl (1) (((x : Nat) : Int))) rfl rfl ?_
          refine tt_bI (g := a_or) (z := a_or (orN x (fun x => decide (σ.1 30 (m * 8 + x) + σ.1 29 m < (if isIn (σ.1 5 4) (σ.1 28 m) (x : Int) then 0 else σ.1 25 (h * 8 + x))))) (a_shl (1) (((x : Nat) : Int)))) rfl rfl ?_
          refine tt_ar rfl ?_
          refine tt_nop ?_
          refine tt_iinc (y := ((x + 1 : Nat) : Int)) rfl (iinc_fit (by omega) (by omega) (by omega)) ?_
          refine tt_goto ?_
          refine tt_loc [(0, vR 31), (1, vI (((m : Nat) : Int))), (2, vI (((h : Nat) : Int))), (3, vI (orN (x + 1) (fun x => decide (σ.1 30 (m * 8 + x) + σ.1 29 m < (if isIn (σ.1 5 4) (σ.1 28 m) (x : Int) then 0 else σ.1 25 (h * 8 + x)))))), (4, vI (((x + 1 : Nat) : Int)))] rfl rfl ⟨rfl, rfl, rfl, lv_to rfl (by conv => { rhs; unfold orN }; first | (rw [if_pos (decide_eq_true (by assumption))]) | (rw [if_neg (fun e => absurd (of_decide_eq_true e) (by assumption))])), rfl, trivial⟩ ?_
          exact ih1 (x + 1) (by omega) (by omega)
        · refine tt_ifeqT (by decide) ?_
          refine tt_iinc (y := ((x + 1 : Nat) : Int)) rfl (iinc_fit (by omega) (by omega) (by omega)) ?_
          refine tt_goto ?_
          refine tt_loc [(0, vR 31), (1, vI (((m : Nat) : Int))), (2, vI (((h : Nat) : Int))), (3, vI (orN (x + 1) (fun x => decide (σ.1 30 (m * 8 + x) + σ.1 29 m < (if isIn (σ.1 5 4) (σ.1 28 m) (x : Int) then 0 else σ.1 25 (h * 8 + x)))))), (4, vI (((x + 1 : Nat) : Int)))] rfl rfl ⟨rfl, rfl, rfl, lv_to rfl (by conv => { rhs; unfold orN }; first | (rw [if_pos (decide_eq_true (by assumption))]) | (rw [if_neg (fun e => absurd (of_decide_eq_true e) (by assumption))])), rfl, trivial⟩ ?_
          exact ih1 (x + 1) (by omega) (by omega)
  refine tt_loc [(0, vR 31), (1, vI (((m : Nat) : Int))), (2, vI (((h : Nat) : Int))), (3, vI (orN 0 (fun x => decide (σ.1 30 (m * 8 + x) + σ.1 29 m < (if isIn (σ.1 5 4) (σ.1 28 m) (x : Int) then 0 else σ.1 25 (h * 8 + x)))))), (4, vI (((0 : Nat) : Int)))] rfl rfl ⟨rfl, rfl, rfl, lv_to rfl rfl, lv_to rfl (by omega), trivial⟩ ?_
  exact lp1_1 _ (0) (Nat.lt_succ_self _) (by omega)

theorem c86 (σ : am_S) (k n nm : Nat) (hW : Wd σ) (hD : LD k σ) (hL : LN nm σ) (hH : HB n σ) (m : Nat) (hm : m < 12) : CC 86 [vR 31, vI (((m : Nat) : Int))] σ (fun r σ' => r = some (vI (cSm σ m n)) ∧ σ' = σ) := by
  show TT am_b86 (am_b86.getD 0 []) [(0, vR 31), (1, vI (((m : Nat) : Int)))] [] σ _
  have hk6 := hD.2.1
  have hn1 := hH.2.1
  have hn462 := hH.2.2.1
  have hnm12 := hL.2.1
  refine tt_ar rfl ?_
  refine tt_ar rfl ?_
  refine tt_ar rfl ?_
  refine tt_ar rfl ?_
  refine tt_nop ?_
  have lp1_1 : ∀ (μ : Nat) (h : Nat), n - h < μ → (h ≤ n) → TT am_b86 (am_b86.getD 1 []) [(0, vR 31), (1, vI (((m : Nat) : Int))), (2, vI (cSm σ m h)), (3, vI (((h : Nat) : Int)))] [] σ (fun r σ' => r = some (vI (cSm σ m n)) ∧ σ' = σ) := by
    intro μ
    induction μ with
    | zero => intro h hμ; exact absurd hμ (Nat.not_lt_zero _)
    | succ μ ih1 =>
      intro h hμ hh
      have hbc := smN_bd (all := σ.1 20) (p := fun h => decide (cAg σ m h 0 0 0)) h
      have hbc : -1 ≤ cSm σ m h ∧ cSm σ m h < (h : Int) := hbc
      refine tt_ar rfl ?_
      refine tt_ar rfl ?_
      refine tt_getR (wo_31 hW) rfl (wr_31_1 hW) ?_
      refine tt_getI (x := ((n : Nat) : Int)) (wo_18 hW) rfl hH.1 ?_
      refine tt_icge (fun h1_4 => ?_) (fun h1_4 => ?_)
      · refine tt_ar rfl ?_
        refine tt_iret ?_
        have e : h = n := by omega
        subst e
        exact ⟨rfl, rfl⟩
      · refine tt_ar rfl ?_
        refine tt_iflt (fun h1_6 => ?_) (fun h1_6 => ?_)
        · refine tt_ar rfl ?_
          refine tt_ar rfl ?_
          refine tt_ar rfl ?_
          refine tt_cv3 3 rfl (wo_31 hW) (c75 σ k n nm hW hD hL hH m h (by omega) (by omega)) (kb (fun h2_3 => ?_) (fun h2_3 => ?_))
          · refine tt_ifeqF (by decide) ?_
            refine tt_ar rfl ?_
            refine tt_ar rfl ?_
            refine tt_nop ?_
            refine tt_iinc (y := ((h + 1 : Nat) : Int)) rfl (iinc_fit (by omega) (by omega) (by omega)) ?_
            refine tt_goto ?_
            refine tt_loc [(0, vR 31), (1, vI (((m : Nat) : Int))), (2, vI (cSm σ m (h + 1))), (3, vI (((h + 1 : Nat) : Int)))] rfl rfl ⟨rfl, rfl, lv_to rfl (by show _ = if (cSm σ m h < 0 ∨ σ.1 20 h < σ.1 20 (cSm σ m h).toNat) ∧ decide (cAg σ m h 0 0 0) = true then (h : Int) else cSm σ m h; first | (rw [if_pos ⟨by omega, decide_eq_true (by assumption)⟩]) | (rw [if_neg (fun e => absurd (of_decide_eq_true e.2) (by assumption))]) | (rw [if_neg (fun e => by have := e.1; omega)])), rfl, trivial⟩ ?_
            exact ih1 (h + 1) (by omega) (by omega)
          · refine tt_ifeqT (by decide) ?_
            refine tt_iinc (y := ((h + 1 : Nat) : Int)) rfl (iinc_fit (by omega) (by omega) (by omega)) ?_
            refine tt_goto ?_
            refine tt_loc [(0, vR 31), (1, vI (((m : Nat) : Int))), (2, vI (cSm σ m (h + 1))), (3, vI (((h + 1 : Nat) : Int)))] rfl rfl ⟨rfl, rfl, lv_to rfl (by show _ = if (cSm σ m h < 0 ∨ σ.1 20 h < σ.1 20 (cSm σ m h).toNat) ∧ decide (cAg σ m h 0 0 0) = true then (h : Int) else cSm σ m h; first | (rw [if_pos ⟨by omega, decide_eq_true (by assumption)⟩]) | (rw [if_neg (fun e => absurd (of_decide_eq_true e.2) (by assumption))]) | (rw [if_neg (fun e => by have := e.1; omega)])), rfl, trivial⟩ ?_
            exact ih1 (h + 1) (by omega) (by omega)
        · refine tt_ar rfl ?_
          refine tt_getR (wo_31 hW) rfl (wr_31_1 hW) ?_
          refine tt_getR (wo_18 hW) rfl (wr_18_3 hW) ?_
          refine tt_ar rfl ?_
          refine tt_iald (h) (x := σ.1 20 (h)) (wa_20 hW) rfl (by omega) rfl ?_
          have hb20 := hH.2.2.2.2.2.1 (h) (by omega)
          refine tt_ar rfl ?_
          refine tt_getR (wo_31 hW) rfl (wr_31_1 hW) ?_
          refine tt_getR (wo_18 hW) rfl (wr_18_3 hW) ?_
          refine tt_ar rfl ?_
          refine tt_iald ((cSm σ m h).toNat) (x := σ.1 20 ((cSm σ m h).toNat)) (wa_20 hW) (by omega) (by omega) rfl ?_
          have hb20 := hH.2.2.2.2.2.1 ((cSm σ m h).toNat) (by omega)
          refine tt_icge (fun h1_17 => ?_) (fun h1_17 => ?_)
          · refine tt_iinc (y := ((h + 1 : Nat) : Int)) rfl (iinc_fit (by omega) (by omega) (by omega)) ?_
            refine tt_goto ?_
            refine tt_loc [(0, vR 31), (1, vI (((m : Nat) : Int))), (2, vI (cSm σ m (h + 1))), (3, vI (((h + 1 : Nat) : Int)))] rfl rfl ⟨rfl, rfl, lv_to rfl (by show _ = if (cSm σ m h < 0 ∨ σ.1 20 h < σ.1 20 (cSm σ m h).toNat) ∧ decide (cAg σ m h 0 0 0) = true then (h : Int) else cSm σ m h; first | (rw [if_pos ⟨by omega, decide_eq_true (by assumption)⟩]) | (rw [if_neg (fun e => absurd (of_decide_eq_true e.2) (by assumption))]) | (rw [if_neg (fun e => by have := e.1; omega)])), rfl, trivial⟩ ?_
            exact ih1 (h + 1) (by omega) (by omega)
          · refine tt_nop ?_
            refine tt_ar rfl ?_
            refine tt_ar rfl ?_
            refine tt_ar rfl ?_
            refine tt_cv3 3 rfl (wo_31 hW) (c75 σ k n nm hW hD hL hH m h (by omega) (by omega)) (kb (fun h2_3 => ?_) (fun h2_3 => ?_))
            · refine tt_ifeqF (by decide) ?_
              refine tt_ar rfl ?_
              refine tt_ar rfl ?_
              refine tt_nop ?_
              refine tt_iinc (y := ((h + 1 : Nat) : Int)) rfl (iinc_fit (by omega) (by omega) (by omega)) ?_
              refine tt_goto ?_
              refine tt_loc [(0, vR 31), (1, vI (((m : Nat) : Int))), (2, vI (cSm σ m (h + 1))), (3, vI (((h + 1 : Nat) : Int)))] rfl rfl ⟨rfl, rfl, lv_to rfl (by show _ = if (cSm σ m h < 0 ∨ σ.1 20 h < σ.1 20 (cSm σ m h).toNat) ∧ decide (cAg σ m h 0 0 0) = true then (h : Int) else cSm σ m h; first | (rw [if_pos ⟨by omega, decide_eq_true (by assumption)⟩]) | (rw [if_neg (fun e => absurd (of_decide_eq_true e.2) (by assumption))]) | (rw [if_neg (fun e => by have := e.1; omega)])), rfl, trivial⟩ ?_
              exact ih1 (h + 1) (by omega) (by omega)
            · refine tt_ifeqT (by decide) ?_
              refine tt_iinc (y := ((h + 1 : Nat) : Int)) rfl (iinc_fit (by omega) (by omega) (by omega)) ?_
              refine tt_goto ?_
              refine tt_loc [(0, vR 31), (1, vI (((m : Nat) : Int))), (2, vI (cSm σ m (h + 1))), (3, vI (((h + 1 : Nat) : Int)))] rfl rfl ⟨rfl, rfl, lv_to rfl (by show _ = if (cSm σ m h < 0 ∨ σ.1 20 h < σ.1 20 (cSm σ m h).toNat) ∧ decide (cAg σ m h 0 0 0) = true then (h : Int) else cSm σ m h; first | (rw [if_pos ⟨by omega, decide_eq_true (by assumption)⟩]) | (rw [if_neg (fun e => absurd (of_decide_eq_true e.2) (by assumption))]) | (rw [if_neg (fun e => by have := e.1; omega)])), rfl, trivial⟩ ?_
              exact ih1 (h + 1) (by omega) (by omega)
  refine tt_loc [(0, vR 31), (1, vI (((m : Nat) : Int))), (2, vI (cSm σ m 0)), (3, vI (((0 : Nat) : Int)))] rfl rfl ⟨rfl, rfl, lv_to rfl rfl, lv_to rfl (by omega), trivial⟩ ?_
  exact lp1_1 _ (0) (Nat.lt_succ_self _) (by omega)

theorem c89 (σ : am_S) (k n nm : Nat) (hW : Wd σ) (hD : LD k σ) (hL : LN nm σ) (hH : HB n σ) (x : Nat) (hx : x < 8) : CC 89 [vR 31, vI (((x : Nat) : Int))] σ (fun r σ' => r = some (vI (cMo σ k x)) ∧ σ' = σ) := by
  show TT am_b89 (am_b89.getD 0 []) [(0, vR 31), (1, vI (((x : Nat) : Int)))] [] σ _
  have hk6 := hD.2.1
  have hn1 := hH.2.1
  have hn462 := hH.2.2.1
  have hnm12 := hL.2.1
  refine tt_ar rfl ?_
  refine tt_ar rfl ?_
  refine tt_ar rfl ?_
  refine tt_ar rfl ?_
  refine tt_nop ?_
  have lp1_1 : ∀ (μ : Nat) (s : Nat), k - s < μ → (s ≤ k) → TT am_b89 (am_b89.getD 1 []) [(0, vR 31), (1, vI (((x : Nat) : Int))), (2, vI (cMo σ s x)), (3, vI (((s : Nat) : Int)))] [] σ (fun r σ' => r = some (vI (cMo σ k x)) ∧ σ' = σ) := by
    intro μ
    induction μ with
    | zero => intro s hμ; exact absurd hμ (Nat.not_lt_zero _)
    | succ μ ih1 =>
      intro s hμ hs
      refine tt_ar rfl ?_
      refine tt_ar rfl ?_
      refine tt_getR (wo_31 hW) rfl (wr_31_0 hW) ?_
      refine tt_getI (x := ((k : Nat) : Int)) (wo_5 hW) rfl hD.1 ?_
      refine tt_icge (fun h1_4 => ?_) (fun h1_4 => ?_)
      · refine tt_ar rfl ?_
        refine tt_iret ?_
        have e : s = k := by omega
        subst e
        exact ⟨rfl, rfl⟩
      · refine tt_ar rfl ?_
        refine tt_ar rfl ?_
        refine tt_getR (wo_31 hW) rfl (wr_31_0 hW) ?_
        refine tt_getR (wo_5 hW) rfl (wr_5_3 hW) ?_
        refine tt_ar rfl ?_
        refine tt_ar rfl ?_
        refine tt_imul (by omega) (by omega) ?_
        refine tt_ar rfl ?_
        refine tt_iadd (by omega) (by omega) ?_
        refine tt_iald (((s * 8) + x)) (x := σ.1 8 (((s * 8) + x))) (wa_8 hW) (by omega) (by omega) rfl ?_
        have hb8 := hD.2.2.1 (((s * 8) + x)) (by omega)
        refine tt_max (z := (if cMo σ s x < σ.1 8 (((s * 8) + x)) then σ.1 8 (((s * 8) + x)) else cMo σ s x)) rfl rfl ?_
        refine tt_ar rfl ?_
        refine tt_iinc (y := ((s + 1 : Nat) : Int)) rfl (iinc_fit (by omega) (by omega) (by omega)) ?_
        refine tt_goto ?_
        refine tt_loc [(0, vR 31), (1, vI (((x : Nat) : Int))), (2, vI (cMo σ (s + 1) x)), (3, vI (((s + 1 : Nat) : Int)))] rfl rfl ⟨rfl, rfl, lv_to rfl rfl, rfl, trivial⟩ ?_
        exact ih1 (s + 1) (by omega) (by omega)
  refine tt_loc [(0, vR 31), (1, vI (((x : Nat) : Int))), (2, vI (cMo σ 0 x)), (3, vI (((0 : Nat) : Int)))] rfl rfl ⟨rfl, rfl, lv_to rfl rfl, lv_to rfl (by omega), trivial⟩ ?_
  exact lp1_1 _ (0) (Nat.lt_succ_self _) (by omega)

theorem c88 (σ : am_S) (k n nm : Nat) (hW : Wd σ) (hD : LD k σ) (hL : LN nm σ) (hH : HB n σ) (m : Nat) (hm : m < 12) : CC 88 [vR 31, vI (((m : Nat) : Int))] σ (fun r σ' => r = some (vI ((cPb σ k m 8).getD (-9))) ∧ σ' = σ) := by
  show TT am_b88 (am_b88.getD 0 []) [(0, vR 31), (1, vI (((m : Nat) : Int)))] [] σ _
  have hk6 := hD.2.1
  have hn1 := hH.2.1
  have hn462 := hH.2.2.1
  have hnm12 := hL.2.1
  refine tt_ar rfl ?_
  refine tt_ar rfl ?_
  refine tt_ar rfl ?_
  refine tt_ar rfl ?_
  refine tt_nop ?_
  have lp1_1 : ∀ (μ : Nat) (x : Nat) (b : Int), 8 - x < μ → (x ≤ 8) → (cPb σ k m x = some b) → TT am_b88 (am_b88.getD 1 []) [(0, vR 31), (1, vI (((m : Nat) : Int))), (2, vI (b)), (3, vI (((x : Nat) : Int)))] [] σ (fun r σ' => r = some (vI ((cPb σ k m 8).getD (-9))) ∧ σ' = σ) := by
    intro μ
    induction μ with
    | zero => intro x b hμ; exact absurd hμ (Nat.not_lt_zero _)
    | succ μ ih1 =>
      intro x b hμ hx hC
      refine tt_ar rfl ?_
      refine tt_ar rfl ?_
      refine tt_icge (fun h1_2 => ?_) (fun h1_2 => ?_)
      · refine tt_ar rfl ?_
        refine tt_iret ?_
        have e : 8 = x := by omega
        subst e
        exact ⟨rv (by rw [hC]; rfl), rfl⟩
      · refine tt_ar rfl ?_
        refine tt_getR (wo_31 hW) rfl (wr_31_2 hW) ?_
        refine tt_getR (wo_27 hW) rfl (wr_27_3 hW) ?_
        refine tt_ar rfl ?_
        refine tt_ar rfl ?_
        refine tt_imul (by omega) (by omega) ?_
        refine tt_ar rfl ?_
        refine tt_iadd (by omega) (by omega) ?_
        refine tt_iald (((m * 8) + x)) (x := σ.1 30 (((m * 8) + x))) (wa_30 hW) (by omega) (by omega) rfl ?_
        have hb30 := hL.2.2.2 (((m * 8) + x)) (by omega)
        refine tt_ar rfl ?_
        refine tt_getR (wo_31 hW) rfl (wr_31_2 hW) ?_
        refine tt_getR (wo_27 hW) rfl (wr_27_2 hW) ?_
        refine tt_ar rfl ?_
        refine tt_iald (m) (x := σ.1 29 (m)) (wa_29 hW) rfl (by omega) rfl ?_
        have hb29 := hL.2.2.1 (m) (by omega)
        refine tt_isub (by omega) (by omega) ?_
        refine tt_ar rfl ?_
        refine tt_ar rfl ?_
        refine tt_ar rfl ?_
        refine tt_cv2 2 rfl (wo_31 hW) (c89 σ k n nm hW hD hL hH x (by omega)) (kp ?_)
        have hmo : 0 ≤ cMo σ k x ∧ cMo σ k x ≤ 9 := maxN_bd (by omega) (fun i hi => (hD.2.2.1 _ (by omega)).2.2)
        refine tt_ar rfl ?_
        refine tt_ar rfl ?_
        refine tt_ifle (fun h1_24 => ?_) (fun h1_24 => ?_)
        · refine tt_ar rfl ?_
          refine tt_ifle (fun h2_1 => ?_) (fun h2_1 => ?_)
          · refine tt_iinc (y := ((x + 1 : Nat) : Int)) rfl (iinc_fit (by omega) (by omega) (by omega)) ?_
            refine tt_goto ?_
            refine tt_loc [(0, vR 31), (1, vI (((m : Nat) : Int))), (2, vI (b)), (3, vI (((x + 1 : Nat) : Int)))] rfl rfl ⟨rfl, rfl, rfl, rfl, trivial⟩ ?_
            exact ih1 (x + 1) (b) (by omega) (by omega) (by first | (exfalso; omega) | (unfold cPb pbN; rw [show pbN (fun x => σ.1 30 (m * 8 + x) - σ.1 29 m) (cMo σ k) x = some b from hC]; dsimp only; first | (rw [if_neg (by omega)]) | (rw [if_pos (by omega), if_neg (by omega)])))
          · refine tt_ar rfl ?_
            refine tt_ar rfl ?_
            refine tt_ar rfl ?_
            refine tt_iadd (by omega) (by omega) ?_
            refine tt_ar rfl ?_
            refine tt_isub (by omega) (by omega) ?_
            refine tt_ar rfl ?_
            refine tt_dI (g := (fun a b => w32 (Int.tdiv a b))) (z := w32 (Int.tdiv ((((σ.1 30 (((m * 8) + x)) - σ.1 29 (m)) + cMo σ k x) - 1)) (cMo σ k x))) rfl (by omega) rfl ?_
            refine tt_max (z := (if b < w32 (Int.tdiv ((((σ.1 30 (((m * 8) + x)) - σ.1 29 (m)) + cMo σ k x) - 1)) (cMo σ k x)) then w32 (Int.tdiv ((((σ.1 30 (((m * 8) + x)) - σ.1 29 (m)) + cMo σ k x) - 1)) (cMo σ k x)) else b)) rfl rfl ?_
            refine tt_ar rfl ?_
            refine tt_nop ?_
            refine tt_iinc (y := ((x + 1 : Nat) : Int)) rfl (iinc_fit (by omega) (by omega) (by omega)) ?_
            refine tt_goto ?_
            refine tt_loc [(0, vR 31), (1, vI (((m : Nat) : Int))), (2, vI (((if b < w32 (Int.tdiv (σ.1 30 (m * 8 + x) - σ.1 29 m + cMo σ k x - 1) (cMo σ k x)) then w32 (Int.tdiv (σ.1 30 (m * 8 + x) - σ.1 29 m + cMo σ k x - 1) (cMo σ k x)) else b)))), (3, vI (((x + 1 : Nat) : Int)))] rfl rfl ⟨rfl, rfl, lv_to rfl rfl, rfl, trivial⟩ ?_
            exact ih1 (x + 1) ((if b < w32 (Int.tdiv (σ.1 30 (m * 8 + x) - σ.1 29 m + cMo σ k x - 1) (cMo σ k x)) then w32 (Int.tdiv (σ.1 30 (m * 8 + x) - σ.1 29 m + cMo σ k x - 1) (cMo σ k x)) else b)) (by omega) (by omega) (by first | (exfalso; omega) | (unfold cPb pbN; rw [show pbN (fun x => σ.1 30 (m * 8 + x) - σ.1 29 m) (cMo σ k) x = some b from hC]; dsimp only; first | (rw [if_neg (by omega)]) | (rw [if_pos (by omega), if_neg (by omega)])))
        · refine tt_ar rfl ?_
          refine tt_ifgt (fun h1_26 => ?_) (fun h1_26 => ?_)
          · refine tt_ar rfl ?_
            refine tt_ifle (fun h2_1 => ?_) (fun h2_1 => ?_)
            · refine tt_iinc (y := ((x + 1 : Nat) : Int)) rfl (iinc_fit (by omega) (by omega) (by omega)) ?_
              refine tt_goto ?_
              refine tt_loc [(0, vR 31), (1, vI (((m : Nat) : Int))), (2, vI (b)), (3, vI (((x + 1 : Nat) : Int)))] rfl rfl ⟨rfl, rfl, rfl, rfl, trivial⟩ ?_
              exact ih1 (x + 1) (b) (by omega) (by omega) (by first | (exfalso; omega) | (unfold cPb pbN; rw [show pbN (fun x => σ.1 30 (m * 8 + x) - σ.1 29 m) (cMo σ k) x = some b from hC]; dsimp only; first | (rw [if_neg (by omega)]) | (rw [if_pos (by omega), if_neg (by omega)])))
            · refine tt_ar rfl ?_
              refine tt_ar rfl ?_
              refine tt_ar rfl ?_
              refine tt_iadd (by omega) (by omega) ?_
              refine tt_ar rfl ?_
              refine tt_isub (by omega) (by omega) ?_
              refine tt_ar rfl ?_
              refine tt_dI (g := (fun a b => w32 (Int.tdiv a b))) (z := w32 (Int.tdiv ((((σ.1 30 (((m * 8) + x)) - σ.1 29 (m)) + cMo σ k x) - 1)) (cMo σ k x))) rfl (by omega) rfl ?_
              refine tt_max (z := (if b < w32 (Int.tdiv ((((σ.1 30 (((m * 8) + x)) - σ.1 29 (m)) + cMo σ k x) - 1)) (cMo σ k x)) then w32 (Int.tdiv ((((σ.1 30 (((m * 8) + x)) - σ.1 29 (m)) + cMo σ k x) - 1)) (cMo σ k x)) else b)) rfl rfl ?_
              refine tt_ar rfl ?_
              refine tt_nop ?_
              refine tt_iinc (y := ((x + 1 : Nat) : Int)) rfl (iinc_fit (by omega) (by omega) (by omega)) ?_
              refine tt_goto ?_
              refine tt_loc [(0, vR 31), (1, vI (((m : Nat) : Int))), (2, vI (((if b < w32 (Int.tdiv (σ.1 30 (m * 8 + x) - σ.1 29 m + cMo σ k x - 1) (cMo σ k x)) then w32 (Int.tdiv (σ.1 30 (m * 8 + x) - σ.1 29 m + cMo σ k x - 1) (cMo σ k x)) else b)))), (3, vI (((x + 1 : Nat) : Int)))] rfl rfl ⟨rfl, rfl, lv_to rfl rfl, rfl, trivial⟩ ?_
              exact ih1 (x + 1) ((if b < w32 (Int.tdiv (σ.1 30 (m * 8 + x) - σ.1 29 m + cMo σ k x - 1) (cMo σ k x)) then w32 (Int.tdiv (σ.1 30 (m * 8 + x) - σ.1 29 m + cMo σ k x - 1) (cMo σ k x)) else b)) (by omega) (by omega) (by first | (exfalso; omega) | (unfold cPb pbN; rw [show pbN (fun x => σ.1 30 (m * 8 + x) - σ.1 29 m) (cMo σ k) x = some b from hC]; dsimp only; first | (rw [if_neg (by omega)]) | (rw [if_pos (by omega), if_neg (by omega)])))
          · refine tt_ar rfl ?_
            refine tt_iret ?_
            have hn : cPb σ k m (x + 1) = none := by
              unfold cPb pbN
              rw [show pbN (fun x => σ.1 30 (m * 8 + x) - σ.1 29 m) (cMo σ k) x = some b from hC]
              dsimp only
              rw [if_pos (by omega), if_pos (by omega)]
            have hn8 : cPb σ k m 8 = none := by
              have := pbN_none hn (8 - (x + 1))
              rwa [show x + 1 + (8 - (x + 1)) = 8 by omega] at this
            exact ⟨rv (by rw [hn8]; rfl), rfl⟩
  refine tt_loc [(0, vR 31), (1, vI (((m : Nat) : Int))), (2, vI (0)), (3, vI (((0 : Nat) : Int)))] rfl rfl ⟨rfl, rfl, rfl, lv_to rfl (by omega), trivial⟩ ?_
  exact lp1_1 _ (0) (0) (Nat.lt_succ_self _) (by omega) rfl

theorem cDb1_bd {σ : am_S} {n nm h m x : Nat} (hL : LN nm σ) (hH : HB n σ) (hh : h < n) (hm : m < 12) (hx : x < 8) : 0 ≤ cDb1 σ h m x ∧ cDb1 σ h m x ≤ 90 := by
  have h1 := hL.2.2.2 (m * 8 + x) (by omega)
  have h2 := hH.2.2.2.1 (h * 8 + x) (by omega)
  unfold cDb1 dbT
  have h3 := dm_bd ((if isIn (σ.1 5 4) (σ.1 28 m) (x : Int) then 0 else σ.1 25 (h * 8 + x)) - σ.1 30 (m * 8 + x))
  have h4 := dm_bd (σ.1 30 (m * 8 + x) - σ.1 26 (h * 8 + x))
  by_cases hc : isIn (σ.1 5 4) (σ.1 28 m) (x : Int)
  · rw [if_pos hc] at h3 ⊢; omega
  · rw [if_neg hc] at h3 ⊢; omega
theorem cDb_row {σ : am_S} {n nm h m : Nat} (hL : LN nm σ) (hH : HB n σ) (hh : h < n) (hm : m < 12) {x : Nat} (hx : x ≤ 8) : 0 ≤ sumN x (cDb1 σ h m) ∧ sumN x (cDb1 σ h m) ≤ 720 := by
  have := sumN_bd (f := cDb1 σ h m) (a := 0) (b := 90) (n := x) (fun i hi => cDb1_bd hL hH hh hm (by omega))
  omega
theorem cDb_bd {σ : am_S} {n nm h : Nat} (hL : LN nm σ) (hH : HB n σ) (hh : h < n) {m : Nat} (hm : m ≤ 12) : 0 ≤ cDb σ m h ∧ cDb σ m h ≤ 8640 := by
  have := sumN_bd (f := fun m => sumN 8 (cDb1 σ h m)) (a := 0) (b := 720) (n := m) (fun i hi => cDb_row hL hH hh (by omega) (Nat.le_refl _))
  unfold cDb
  omega
theorem c153 (σ : am_S) (k n nm : Nat) (hW : Wd σ) (hD : LD k σ) (hL : LN nm σ) (hH : HB n σ) (h : Nat) (hh : h < n) : CC 153 [vR 31, vI (((h : Nat) : Int))] σ (fun r σ' => r = some (vI (cDb σ nm h)) ∧ σ' = σ) := by
  show TT am_b153 (am_b153.getD 0 []) [(0, vR 31), (1, vI (((h : Nat) : Int)))] [] σ _
  have hk6 := hD.2.1
  have hn1 := hH.2.1
  have hn462 := hH.2.2.1
  have hnm12 := hL.2.1
  refine tt_ar rfl ?_
  refine tt_ar rfl ?_
  refine tt_ar rfl ?_
  refine tt_ar rfl ?_
  refine tt_nop ?_
  have lp1_1 : ∀ (μ : Nat) (m : Nat), nm - m < μ → (m ≤ nm) → TT am_b153 (am_b153.getD 1 []) [(0, vR 31), (1, vI (((h : Nat) : Int))), (2, vI (cDb σ m h)), (3, vI (((m : Nat) : Int)))] [] σ (fun r σ' => r = some (vI (cDb σ nm h)) ∧ σ' = σ) := by
    intro μ
    induction μ with
    | zero => intro m hμ; exact absurd hμ (Nat.not_lt_zero _)
    | succ μ ih1 =>
      intro m hμ hm
      have hbd := cDb_bd hL hH hh (m := m) (by omega)
      refine tt_ar rfl ?_
      refine tt_ar rfl ?_
      refine tt_getR (wo_31 hW) rfl (wr_31_2 hW) ?_
      refine tt_getI (x := ((nm : Nat) : Int)) (wo_27 hW) rfl hL.1 ?_
      refine tt_icge (fun h1_4 => ?_) (fun h1_4 => ?_)
      · refine tt_ar rfl ?_
        refine tt_iret ?_
        have e : nm = m := by omega
        subst e
        exact ⟨rfl, rfl⟩
      · refine tt_ar rfl ?_
        refine tt_ar rfl ?_
        refine tt_nop ?_
        have lp2_2 : ∀ (μ : Nat) (x : Nat), 8 - x < μ → (x ≤ 8) → TT am_b153 (am_b153.getD 2 []) [(0, vR 31), (1, vI (((h : Nat) : Int))), (2, vI (cDb σ m h + sumN x (cDb1 σ h m))), (3, vI (((m : Nat) : Int))), (4, vI (((x : Nat) : Int)))] [] σ (fun r σ' => r = some (vI (cDb σ nm h)) ∧ σ' = σ) := by
          intro μ
          induction μ with
          | zero => intro x hμ; exact absurd hμ (Nat.not_lt_zero _)
          | succ μ ih2 =>
            intro x hμ hx
            have hbr := cDb_row hL hH hh (show m < 12 by omega) hx
            refine tt_ar rfl ?_
            refine tt_ar rfl ?_
            refine tt_icge (fun h2_2 => ?_) (fun h2_2 => ?_)
            · refine tt_iinc (y := ((m + 1 : Nat) : Int)) rfl (iinc_fit (by omega) (by omega) (by omega)) ?_
              refine tt_goto ?_
              refine tt_loc [(0, vR 31), (1, vI (((h : Nat) : Int))), (2, vI (cDb σ (m + 1) h)), (3, vI (((m + 1 : Nat) : Int)))] rfl rfl ⟨rfl, rfl, lv_to rfl (by rw [show x = 8 by omega]; rfl), rfl, trivial⟩ ?_
              exact ih1 (m + 1) (by omega) (by omega)
            · have hb25 := hH.2.2.2.1 (h * 8 + x) (by omega)
              have hlb : 0 ≤ (if isIn (σ.1 5 4) (σ.1 28 m) (x : Int) then 0 else σ.1 25 (h * 8 + x)) ∧ (if isIn (σ.1 5 4) (σ.1 28 m) (x : Int) then 0 else σ.1 25 (h * 8 + x)) ≤ 45 := by split <;> omega
              have hd1 := dm_bd ((if isIn (σ.1 5 4) (σ.1 28 m) (x : Int) then 0 else σ.1 25 (h * 8 + x)) - σ.1 30 (m * 8 + x))
              have hd2 := dm_bd (σ.1 30 (m * 8 + x) - σ.1 26 (h * 8 + x))
              generalize hgl : (if isIn (σ.1 5 4) (σ.1 28 m) (x : Int) then 0 else σ.1 25 (h * 8 + x)) = lst at hlb hd1
              refine tt_ar rfl ?_
              refine tt_getR (wo_31 hW) rfl (wr_31_2 hW) ?_
              refine tt_getR (wo_27 hW) rfl (wr_27_3 hW) ?_
              refine tt_ar rfl ?_
              refine tt_ar rfl ?_
              refine tt_imul (by omega) (by omega) ?_
              refine tt_ar rfl ?_
              refine tt_iadd (by omega) (by omega) ?_
              refine tt_iald (((m * 8) + x)) (x := σ.1 30 (((m * 8) + x))) (wa_30 hW) (by omega) (by omega) rfl ?_
              have hb30 := hL.2.2.2 (((m * 8) + x)) (by omega)
              refine tt_ar rfl ?_
              refine tt_ar rfl ?_
              refine tt_ar rfl ?_
              refine tt_ar rfl ?_
              refine tt_getR (wo_31 hW) rfl (wr_31_1 hW) ?_
              refine tt_ar rfl ?_
              refine tt_ar rfl ?_
              refine tt_getR (wo_31 hW) rfl (wr_31_2 hW) ?_
              refine tt_getR (wo_27 hW) rfl (wr_27_1 hW) ?_
              refine tt_ar rfl ?_
              refine tt_iald (m) (x := σ.1 28 (m)) (wa_28 hW) rfl (by omega) rfl ?_
              have hb28 := hL.2.2.1 (m) (by omega)
              refine tt_ar rfl ?_
              refine tt_cv4 4 rfl (wo_18 hW) (hgl ▸ c71 σ h x _ hW (by omega) (by omega)) (kp ?_)
              refine tt_ar rfl ?_
              refine tt_isub (by omega) (by omega) ?_
              refine tt_max (z := (dm ((lst - σ.1 30 (((m * 8) + x)))))) rfl rfl ?_
              refine tt_iadd (by omega) (by omega) ?_
              refine tt_ar rfl ?_
              refine tt_ar rfl ?_
              refine tt_ar rfl ?_
              refine tt_ar rfl ?_
              refine tt_ar rfl ?_
              refine tt_getR (wo_31 hW) rfl (wr_31_1 hW) ?_
              refine tt_getR (wo_18 hW) rfl (wr_18_9 hW) ?_
              refine tt_ar rfl ?_
              refine tt_ar rfl ?_
              refine tt_imul (by omega) (by omega) ?_
              refine tt_ar rfl ?_
              refine tt_iadd (by omega) (by omega) ?_
              refine tt_iald (((h * 8) + x)) (x := σ.1 26 (((h * 8) + x))) (wa_26 hW) (by omega) (by omega) rfl ?_
              have hb26 := hH.2.2.2.1 (((h * 8) + x)) (by omega)
              refine tt_isub (by omega) (by omega) ?_
              refine tt_max (z := (dm ((σ.1 30 (((m * 8) + x)) - σ.1 26 (((h * 8) + x)))))) rfl rfl ?_
              refine tt_iadd (by omega) (by omega) ?_
              refine tt_ar rfl ?_
              refine tt_iinc (y := ((x + 1 : Nat) : Int)) rfl (iinc_fit (by omega) (by omega) (by omega)) ?_
              refine tt_goto ?_
              refine tt_loc [(0, vR 31), (1, vI (((h : Nat) : Int))), (2, vI (cDb σ m h + sumN (x + 1) (cDb1 σ h m))), (3, vI (((m : Nat) : Int))), (4, vI (((x + 1 : Nat) : Int)))] rfl rfl ⟨rfl, rfl, lv_to rfl (by show _ = cDb σ m h + (sumN x (cDb1 σ h m) + cDb1 σ h m x); unfold cDb1 dbT; rw [hgl]; omega), rfl, rfl, trivial⟩ ?_
              exact ih2 (x + 1) (by omega) (by omega)
        refine tt_loc [(0, vR 31), (1, vI (((h : Nat) : Int))), (2, vI (cDb σ m h + sumN 0 (cDb1 σ h m))), (3, vI (((m : Nat) : Int))), (4, vI (((0 : Nat) : Int)))] rfl rfl ⟨rfl, rfl, lv_to rfl (Int.add_zero _).symm, rfl, lv_to rfl (by omega), trivial⟩ ?_
        exact lp2_2 _ (0) (Nat.lt_succ_self _) (by omega)
  refine tt_loc [(0, vR 31), (1, vI (((h : Nat) : Int))), (2, vI (cDb σ 0 h)), (3, vI (((0 : Nat) : Int)))] rfl rfl ⟨rfl, rfl, lv_to rfl rfl, lv_to rfl (by omega), trivial⟩ ?_
  exact lp1_1 _ (0) (Nat.lt_succ_self _) (by omega)

theorem c155 (σ : am_S) (k n nm : Nat) (hW : Wd σ) (hD : LD k σ) (hL : LN nm σ) (hH : HB n σ) : CC 155 [vR 31] σ (fun r σ' => r = some (vI (((ldN (cDb σ nm) (σ.1 20) (n - 1)).1 : Nat) : Int)) ∧ σ' = σ) := by
  show TT am_b155 (am_b155.getD 0 []) [(0, vR 31)] [] σ _
  have hk6 := hD.2.1
  have hn1 := hH.2.1
  have hn462 := hH.2.2.1
  have hnm12 := hL.2.1
  refine tt_ar rfl ?_
  refine tt_ar rfl ?_
  refine tt_ar rfl ?_
  refine tt_ar rfl ?_
  refine tt_cv2 2 rfl (wo_31 hW) (c153 σ k n nm hW hD hL hH 0 (by omega)) (kp ?_)
  refine tt_ar rfl ?_
  refine tt_ar rfl ?_
  refine tt_ar rfl ?_
  refine tt_nop ?_
  have lp1_1 : ∀ (μ : Nat) (h : Nat), n - h < μ → (h + 1 ≤ n) → TT am_b155 (am_b155.getD 1 []) [(0, vR 31), (1, vI ((((ldN (cDb σ nm) (σ.1 20) h).1 : Nat) : Int))), (2, vI ((ldN (cDb σ nm) (σ.1 20) h).2)), (3, vI (((h + 1 : Nat) : Int)))] [] σ (fun r σ' => r = some (vI (((ldN (cDb σ nm) (σ.1 20) (n - 1)).1 : Nat) : Int)) ∧ σ' = σ) := by
    intro μ
    induction μ with
    | zero => intro h hμ; exact absurd hμ (Nat.not_lt_zero _)
    | succ μ ih1 =>
      intro h hμ hh
      have hld := ldN_bd (db := cDb σ nm) (all := σ.1 20) h
      refine tt_ar rfl ?_
      refine tt_ar rfl ?_
      refine tt_getR (wo_31 hW) rfl (wr_31_1 hW) ?_
      refine tt_getI (x := ((n : Nat) : Int)) (wo_18 hW) rfl hH.1 ?_
      refine tt_icge (fun h1_4 => ?_) (fun h1_4 => ?_)
      · refine tt_ar rfl ?_
        refine tt_iret ?_
        have e : n - 1 = h := by omega
        rw [e]
        exact ⟨rfl, rfl⟩
      · refine tt_ar rfl ?_
        refine tt_ar rfl ?_
        refine tt_cv2 2 rfl (wo_31 hW) (c153 σ k n nm hW hD hL hH (h + 1) (by omega)) (kp ?_)
        refine tt_ar rfl ?_
        refine tt_ar rfl ?_
        refine tt_ar rfl ?_
        refine tt_iclt (fun h1_11 => ?_) (fun h1_11 => ?_)
        · refine tt_ar rfl ?_
          refine tt_ar rfl ?_
          refine tt_ar rfl ?_
          refine tt_ar rfl ?_
          refine tt_nop ?_
          refine tt_iinc (y := (((h + 1) + 1 : Nat) : Int)) rfl (iinc_fit (by omega) (by omega) (by omega)) ?_
          refine tt_goto ?_
          refine tt_loc [(0, vR 31), (1, vI ((((ldN (cDb σ nm) (σ.1 20) (h + 1)).1 : Nat) : Int))), (2, vI ((ldN (cDb σ nm) (σ.1 20) (h + 1)).2)), (3, vI ((((h + 1) + 1 : Nat) : Int)))] rfl rfl ⟨rfl, lv_to rfl (by conv => { rhs; unfold ldN }; first | (rw [if_pos (by omega)]) | (rw [if_neg (by omega)])), lv_to rfl (by conv => { rhs; unfold ldN }; first | (rw [if_pos (by omega)]) | (rw [if_neg (by omega)])), rfl, trivial⟩ ?_
          exact ih1 (h + 1) (by omega) (by omega)
        · refine tt_ar rfl ?_
          refine tt_ar rfl ?_
          refine tt_icne (fun h1_14 => ?_) (fun h1_14 => ?_)
          · refine tt_iinc (y := (((h + 1) + 1 : Nat) : Int)) rfl (iinc_fit (by omega) (by omega) (by omega)) ?_
            refine tt_goto ?_
            refine tt_loc [(0, vR 31), (1, vI ((((ldN (cDb σ nm) (σ.1 20) (h + 1)).1 : Nat) : Int))), (2, vI ((ldN (cDb σ nm) (σ.1 20) (h + 1)).2)), (3, vI ((((h + 1) + 1 : Nat) : Int)))] rfl rfl ⟨rfl, lv_to rfl (by conv => { rhs; unfold ldN }; first | (rw [if_pos (by omega)]) | (rw [if_neg (by omega)])), lv_to rfl (by conv => { rhs; unfold ldN }; first | (rw [if_pos (by omega)]) | (rw [if_neg (by omega)])), rfl, trivial⟩ ?_
            exact ih1 (h + 1) (by omega) (by omega)
          · refine tt_ar rfl ?_
            refine tt_getR (wo_31 hW) rfl (wr_31_1 hW) ?_
            refine tt_getR (wo_18 hW) rfl (wr_18_3 hW) ?_
            refine tt_ar rfl ?_
            refine tt_iald ((h + 1)) (x := σ.1 20 ((h + 1))) (wa_20 hW) (by omega) (by omega) rfl ?_
            have hb20 := hH.2.2.2.2.2.1 ((h + 1)) (by omega)
            refine tt_ar rfl ?_
            refine tt_getR (wo_31 hW) rfl (wr_31_1 hW) ?_
            refine tt_getR (wo_18 hW) rfl (wr_18_3 hW) ?_
            refine tt_ar rfl ?_
            refine tt_iald ((ldN (cDb σ nm) (σ.1 20) h).1) (x := σ.1 20 ((ldN (cDb σ nm) (σ.1 20) h).1)) (wa_20 hW) rfl (by omega) rfl ?_
            have hb20 := hH.2.2.2.2.2.1 ((ldN (cDb σ nm) (σ.1 20) h).1) (by omega)
            refine tt_icge (fun h1_25 => ?_) (fun h1_25 => ?_)
            · refine tt_iinc (y := (((h + 1) + 1 : Nat) : Int)) rfl (iinc_fit (by omega) (by omega) (by omega)) ?_
              refine tt_goto ?_
              refine tt_loc [(0, vR 31), (1, vI ((((ldN (cDb σ nm) (σ.1 20) (h + 1)).1 : Nat) : Int))), (2, vI ((ldN (cDb σ nm) (σ.1 20) (h + 1)).2)), (3, vI ((((h + 1) + 1 : Nat) : Int)))] rfl rfl ⟨rfl, lv_to rfl (by conv => { rhs; unfold ldN }; first | (rw [if_pos (by omega)]) | (rw [if_neg (by omega)])), lv_to rfl (by conv => { rhs; unfold ldN }; first | (rw [if_pos (by omega)]) | (rw [if_neg (by omega)])), rfl, trivial⟩ ?_
              exact ih1 (h + 1) (by omega) (by omega)
            · refine tt_nop ?_
              refine tt_ar rfl ?_
              refine tt_ar rfl ?_
              refine tt_ar rfl ?_
              refine tt_ar rfl ?_
              refine tt_nop ?_
              refine tt_iinc (y := (((h + 1) + 1 : Nat) : Int)) rfl (iinc_fit (by omega) (by omega) (by omega)) ?_
              refine tt_goto ?_
              refine tt_loc [(0, vR 31), (1, vI ((((ldN (cDb σ nm) (σ.1 20) (h + 1)).1 : Nat) : Int))), (2, vI ((ldN (cDb σ nm) (σ.1 20) (h + 1)).2)), (3, vI ((((h + 1) + 1 : Nat) : Int)))] rfl rfl ⟨rfl, lv_to rfl (by conv => { rhs; unfold ldN }; first | (rw [if_pos (by omega)]) | (rw [if_neg (by omega)])), lv_to rfl (by conv => { rhs; unfold ldN }; first | (rw [if_pos (by omega)]) | (rw [if_neg (by omega)])), rfl, trivial⟩ ?_
              exact ih1 (h + 1) (by omega) (by omega)
  refine tt_loc [(0, vR 31), (1, vI ((((ldN (cDb σ nm) (σ.1 20) 0).1 : Nat) : Int))), (2, vI ((ldN (cDb σ nm) (σ.1 20) 0).2)), (3, vI (((0 + 1 : Nat) : Int)))] rfl rfl ⟨rfl, lv_to rfl rfl, lv_to rfl rfl, lv_to rfl (by omega), trivial⟩ ?_
  exact lp1_1 _ (0) (Nat.lt_succ_self _) (by omega)

