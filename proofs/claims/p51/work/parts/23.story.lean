/-! THE TOLD HOUSEHOLD -/
def upI (f : Nat → Int) (i : Nat) (v : Int) : Nat → Int := fun j => if j = i then v else f j
def evN (p : Nat → Int) : Int := sumN 6 p
def jnN (s : Int) (p : Nat → Int) : Option (Nat → Int) := if s < 0 ∨ 5 ≤ evN p then none else some (upI p s.toNat (p s.toNat + 1))
def lvN (s : Nat) (p : Nat → Int) : Option (Nat → Int) := if p s ≤ 0 then none else some (upI p s (p s - 1))
/-- what a happening does -/
def evS (into K A : Nat → Int) (e : Nat) (p : Nat → Int) : Option (Nat → Int) :=
  if K e = 1 then jnN (A e) p else if K e = 2 then lvN (A e).toNat p else if K e = 3 then (lvN (A e).toNat p).bind (jnN (into (A e).toNat)) else some p
/-- a Monday's happenings, the first e of them -/
def dyS (into K D A : Nat → Int) (d : Nat) : Nat → (Nat → Int) → Option (Nat → Int)
  | 0, p => some p
  | e + 1, p => (dyS into K D A d e p).bind (fun q => if D e = (d : Int) then evS into K A e q else some q)
/-- the first d Mondays' -/
def toS (into K D A : Nat → Int) (n : Nat) : Nat → Option (Nat → Int)
  | 0 => some (fun _ => 0)
  | d + 1 => (toS into K D A n d).bind (dyS into K D A d n)
def pOK (p : Nat → Int) : Prop := (∀ j, j < 6 → 0 ≤ p j ∧ p j ≤ 5) ∧ evN p ≤ 5
theorem evN_6 (p : Nat → Int) : evN p = p 0 + p 1 + p 2 + p 3 + p 4 + p 5 := by
  unfold evN sumN sumN sumN sumN sumN sumN sumN
  omega
theorem pOK_of {p : Nat → Int} (h : ∀ j, j < 6 → 0 ≤ p j) (h5 : evN p ≤ 5) : pOK p := by
  refine ⟨fun j hj => ⟨h j hj, ?_⟩, h5⟩
  rw [evN_6] at h5
  have h0 := h 0 (by omega)
  have h1 := h 1 (by omega)
  have h2 := h 2 (by omega)
  have h3 := h 3 (by omega)
  have h4 := h 4 (by omega)
  have h5 := h 5 (by omega)
  match j, hj with
  | 0, _ => omega
  | 1, _ => omega
  | 2, _ => omega
  | 3, _ => omega
  | 4, _ => omega
  | 5, _ => omega
theorem evN_upd {p : Nat → Int} {i : Nat} {v : Int} (hi : i < 6) : evN (upI p i v) = evN p - p i + v := by
  rw [evN_6, evN_6]
  unfold upI
  match i, hi with
  | 0, _ => simp <;> omega
  | 1, _ => simp <;> omega
  | 2, _ => simp <;> omega
  | 3, _ => simp <;> omega
  | 4, _ => simp <;> omega
  | 5, _ => simp <;> omega
theorem jnN_ok {s : Int} {p q : Nat → Int} (hs : s < 6) (hp : pOK p) (h : jnN s p = some q) : pOK q := by
  unfold jnN at h
  split at h
  · cases h
  · rename_i hc
    cases h
    refine pOK_of (fun j hj => ?_) ?_
    · have h1 := hp.1 j hj
      have h2 := hp.1 s.toNat (by omega)
      unfold upI
      split <;> omega
    · rw [evN_upd (by omega)]
      omega
theorem lvN_ok {s : Nat} {p q : Nat → Int} (hs : s < 6) (hp : pOK p) (h : lvN s p = some q) : pOK q := by
  unfold lvN at h
  split at h
  · cases h
  · rename_i hc
    cases h
    refine pOK_of (fun j hj => ?_) ?_
    · have h1 := hp.1 j hj
      have h2 := hp.1 s (by omega)
      unfold upI
      split <;> omega
    · rw [evN_upd (by omega)]
      have := hp.2
      omega
/-- the class's happenings, as numbers -/
def SH (k n : Nat) (K D A B : Nat → Int) : Prop := n ≤ 16 ∧ ∀ e, e < n → (0 ≤ K e ∧ K e ≤ 6) ∧ (0 ≤ D e ∧ D e ≤ 11) ∧ ((1 ≤ K e ∧ K e ≤ 5) → 0 ≤ A e ∧ A e < (k : Int)) ∧ (K e = 6 → (0 ≤ A e ∧ A e ≤ 7) ∧ (0 ≤ B e ∧ B e ≤ 7))
theorem evS_ok {k n e : Nat} {into K D A B p q : Nat → Int} (hk : k ≤ 6) (hi : ∀ s, s < 6 → into s = -9 ∨ (0 ≤ into s ∧ into s < (k : Int))) (hS : SH k n K D A B) (he : e < n) (hp : pOK p) (h : evS into K A e p = some q) : pOK q := by
  have hx := hS.2 e he
  unfold evS at h
  split at h
  · rename_i h1
    exact jnN_ok (by have := hx.2.2.1 (by omega); omega) hp h
  · split at h
    · rename_i h1
      exact lvN_ok (by have := hx.2.2.1 (by omega); omega) hp h
    · split at h
      · rename_i h1
        have h2 := hx.2.2.1 (by omega)
        cases hl : lvN (A e).toNat p with
        | none => rw [hl] at h; cases h
        | some p1 =>
          rw [hl] at h
          exact jnN_ok (by have := hi (A e).toNat (by omega); omega) (lvN_ok (by omega) hp hl) h
      · cases h
        exact hp
theorem dyS_ok {k n d : Nat} {into K D A B : Nat → Int} (hk : k ≤ 6) (hi : ∀ s, s < 6 → into s = -9 ∨ (0 ≤ into s ∧ into s < (k : Int))) (hS : SH k n K D A B) : ∀ {e : Nat} {p q : Nat → Int}, e ≤ n → pOK p → dyS into K D A d e p = some q → pOK q
  | 0, p, q, _, hp, h => by
    cases h
    exact hp
  | e + 1, p, q, he, hp, h => by
    unfold dyS at h
    cases h1 : dyS into K D A d e p with
    | none => rw [h1] at h; cases h
    | some p1 =>
      rw [h1] at h
      have hp1 := dyS_ok hk hi hS (by omega) hp h1
      have h : (if D e = (d : Int) then evS into K A e p1 else some p1) = some q := h
      split at h
      · exact evS_ok hk hi hS (by omega) hp1 h
      · cases h
        exact hp1
theorem toS_ok {k n : Nat} {into K D A B : Nat → Int} (hk : k ≤ 6) (hi : ∀ s, s < 6 → into s = -9 ∨ (0 ≤ into s ∧ into s < (k : Int))) (hS : SH k n K D A B) : ∀ {d : Nat} {q : Nat → Int}, toS into K D A n d = some q → pOK q
  | 0, q, h => by
    cases h
    exact ⟨fun _ _ => ⟨Int.le_refl 0, (by decide : (0 : Int) ≤ 5)⟩, by decide⟩
  | d + 1, q, h => by
    unfold toS at h
    cases h1 : toS into K D A n d with
    | none => rw [h1] at h; cases h
    | some p1 =>
      rw [h1] at h
      exact dyS_ok hk hi hS (Nat.le_refl _) (toS_ok hk hi hS h1) h
theorem dyS_none {into K D A : Nat → Int} {d e : Nat} {p : Nat → Int} (h : dyS into K D A d e p = none) : ∀ t, dyS into K D A d (e + t) p = none
  | 0 => h
  | t + 1 => by
    show dyS into K D A d (e + t + 1) p = none
    unfold dyS
    rw [dyS_none h t]
    rfl
theorem toS_none {into K D A : Nat → Int} {n d : Nat} (h : toS into K D A n d = none) : ∀ t, toS into K D A n (d + t) = none
  | 0 => h
  | t + 1 => by
    show toS into K D A n (d + t + 1) = none
    unfold toS
    rw [toS_none h t]
    rfl
theorem upd_set {σ : am_S} {a i B : Nat} {v : Int} {f : Nat → Int} (h : ∀ j, j < B → σ.1 a j = f j) : ∀ j, j < B → (am_set σ a i v).1 a j = upI f i v j := by
  intro j hj
  rw [am_set_at]
  unfold upI
  split
  · rfl
  · exact h j hj
theorem evN_congr {p q : Nat → Int} (h : ∀ j, j < 6 → p j = q j) : evN p = evN q := sumN_congr h
theorem pw_bd {x : Int} {i : Nat} (h : 0 ≤ x ∧ x ≤ 5) (hi : i < 6) : 0 ≤ x * 10 ^ i ∧ x * 10 ^ i ≤ 500000 := by
  match i, hi with
  | 0, _ => simp <;> omega
  | 1, _ => simp <;> omega
  | 2, _ => simp <;> omega
  | 3, _ => simp <;> omega
  | 4, _ => simp <;> omega
  | 5, _ => simp <;> omega
/-- how many happenings of a kind a Monday has of a sort -/
def amN (K D A : Nat → Int) (m kind s : Int) (n : Nat) : Int := sumN n (fun e => if D e = m ∧ K e = kind ∧ A e = s then 1 else 0)
theorem amN_bd (K D A : Nat → Int) (m kind s : Int) (n : Nat) : 0 ≤ amN K D A m kind s n ∧ amN K D A m kind s n ≤ (n : Int) := by
  have := sumN_bd (f := fun e => if D e = m ∧ K e = kind ∧ A e = s then 1 else 0) (a := 0) (b := 1) (n := n) (fun i _ => by split <;> omega)
  unfold amN
  omega

theorem c141 (σ : am_S) (hW : Wd σ) (p : Nat → Int) (hp : ∀ j, j < 6 → σ.1 52 j = p j) (hk1 : pOK p) : CC 141 [vR 47] σ (fun r σ' => r = some (vI (evN p)) ∧ σ' = σ) := by
  show TT am_b141 (am_b141.getD 0 []) [(0, vR 47)] [] σ _
  refine tt_ar rfl ?_
  refine tt_ar rfl ?_
  refine tt_ar rfl ?_
  refine tt_getR (wo_47 hW) rfl (wr_47_7 hW) ?_
  refine tt_ar rfl ?_
  refine tt_ar rfl ?_
  refine tt_alen (wa_52 hW) rfl ?_
  refine tt_ar rfl ?_
  refine tt_ar rfl ?_
  refine tt_ar rfl ?_
  refine tt_nop ?_
  have lp1_1 : ∀ (μ : Nat) (i : Nat), 6 - i < μ → (i ≤ 6) → TT am_b141 (am_b141.getD 1 []) [(1, vI (sumN i p)), (2, vR 52), (3, vI 6), (4, vI (((i : Nat) : Int)))] [] σ (fun r σ' => r = some (vI (evN p)) ∧ σ' = σ) := by
    intro μ
    induction μ with
    | zero => intro i hμ; exact absurd hμ (Nat.not_lt_zero _)
    | succ μ ih1 =>
      intro i hμ hi
      have hsb := sumN_bd (f := p) (a := 0) (b := 5) (n := i) (fun j hj => hk1.1 j (by omega))
      refine tt_ar rfl ?_
      refine tt_ar rfl ?_
      refine tt_icge (fun h1_2 => ?_) (fun h1_2 => ?_)
      · refine tt_ar rfl ?_
        refine tt_iret ?_
        have e : 6 = i := by omega
        subst e
        exact ⟨rfl, rfl⟩
      · refine tt_ar rfl ?_
        refine tt_ar rfl ?_
        refine tt_iald (i) (x := p i) (wa_52 hW) rfl (by omega) (hp i (by omega)) ?_
        have hb52 := hk1.1 i (by omega)
        refine tt_ar rfl ?_
        refine tt_ar rfl ?_
        refine tt_ar rfl ?_
        refine tt_iadd (by omega) (by omega) ?_
        refine tt_ar rfl ?_
        refine tt_iinc (y := ((i + 1 : Nat) : Int)) rfl (iinc_fit (by omega) (by omega) (by omega)) ?_
        refine tt_goto ?_
        refine tt_loc [(1, vI (sumN (i + 1) p)), (2, vR 52), (3, vI 6), (4, vI (((i + 1 : Nat) : Int)))] rfl rfl ⟨lv_to rfl rfl, rfl, rfl, rfl, trivial⟩ ?_
        exact ih1 (i + 1) (by omega) (by omega)
  refine tt_loc [(1, vI (sumN 0 p)), (2, vR 52), (3, vI 6), (4, vI (((0 : Nat) : Int)))] rfl rfl ⟨lv_to rfl rfl, rfl, rfl, lv_to rfl (by omega), trivial⟩ ?_
  exact lp1_1 _ (0) (Nat.lt_succ_self _) (by omega)

theorem c140 (σ : am_S) (s : Int) (hW : Wd σ) (hs : s < 6) (p : Nat → Int) (hp : ∀ j, j < 6 → σ.1 52 j = p j) (hk1 : pOK p) : CC 140 [vR 47, vI (s)] σ (fun r σ' => (∃ q, jnN s p = some q ∧ r = some (vI 1) ∧ Fr [52] σ σ' ∧ ∀ j, j < 6 → σ'.1 52 j = q j) ∨ (jnN s p = none ∧ r = some (vI 0) ∧ Fr [52] σ σ')) := by
  show TT am_b140 (am_b140.getD 0 []) [(0, vR 47), (1, vI (s))] [] σ _
  refine tt_ar rfl ?_
  refine tt_iflt (fun h0_1 => ?_) (fun h0_1 => ?_)
  · refine tt_ar rfl ?_
    refine tt_zret (by omega) ?_
    exact Or.inr ⟨if_pos (by omega), rfl, Fr.rf⟩
  · refine tt_ar rfl ?_
    refine tt_cv1 1 rfl (wo_47 hW) (c141 σ hW p hp hk1) (kp ?_)
    refine tt_ar rfl ?_
    refine tt_iclt (fun h0_5 => ?_) (fun h0_5 => ?_)
    · obtain ⟨sn, rfl⟩ := Int.eq_ofNat_of_zero_le (show 0 ≤ s by omega)
      have hb52 := hk1.1 sn (by omega)
      refine tt_ar rfl ?_
      refine tt_getR (wo_47 hW) rfl (wr_47_7 hW) ?_
      refine tt_ar rfl ?_
      refine tt_ar rfl ?_
      refine tt_iald (sn) (x := p sn) (wa_52 hW) (by omega) (by omega) (hp sn (by omega)) ?_
      refine tt_ar rfl ?_
      refine tt_iadd (by omega) (by omega) ?_
      refine tt_iast (sn) (wa_52 hW) (by omega) (by omega) (by omega) ?_
      refine tt_ar rfl ?_
      refine tt_zret (by omega) ?_
      exact Or.inl ⟨_, if_neg (show ¬ ((sn : Int) < 0 ∨ 5 ≤ evN p) by omega), rfl, Fr.put Fr.rf (by decide), upd_set hp⟩
    · refine tt_nop ?_
      refine tt_ar rfl ?_
      refine tt_zret (by omega) ?_
      exact Or.inr ⟨if_pos (by omega), rfl, Fr.rf⟩

theorem c142 (σ : am_S) (s : Int) (hW : Wd σ) (h0 : 0 ≤ s) (hs : s < 6) (p : Nat → Int) (hp : ∀ j, j < 6 → σ.1 52 j = p j) (hk1 : pOK p) : CC 142 [vR 47, vI (s)] σ (fun r σ' => (∃ q, lvN s.toNat p = some q ∧ r = some (vI 1) ∧ Fr [52] σ σ' ∧ ∀ j, j < 6 → σ'.1 52 j = q j) ∨ (lvN s.toNat p = none ∧ r = some (vI 0) ∧ Fr [52] σ σ')) := by
  show TT am_b142 (am_b142.getD 0 []) [(0, vR 47), (1, vI (s))] [] σ _
  obtain ⟨sn, rfl⟩ := Int.eq_ofNat_of_zero_le h0
  refine tt_ar rfl ?_
  refine tt_getR (wo_47 hW) rfl (wr_47_7 hW) ?_
  refine tt_ar rfl ?_
  have hb52 := hk1.1 sn (by omega)
  refine tt_iald (sn) (x := p sn) (wa_52 hW) (by omega) (by omega) (hp sn (by omega)) ?_
  refine tt_ifgt (fun h0_4 => ?_) (fun h0_4 => ?_)
  · refine tt_ar rfl ?_
    refine tt_getR (wo_47 hW) rfl (wr_47_7 hW) ?_
    refine tt_ar rfl ?_
    refine tt_ar rfl ?_
    refine tt_iald (sn) (x := p sn) (wa_52 hW) (by omega) (by omega) (hp sn (by omega)) ?_
    refine tt_ar rfl ?_
    refine tt_isub (by omega) (by omega) ?_
    refine tt_iast (sn) (wa_52 hW) (by omega) (by omega) (by omega) ?_
    refine tt_ar rfl ?_
    refine tt_zret (by omega) ?_
    exact Or.inl ⟨_, if_neg (show ¬ p sn ≤ 0 by omega), rfl, Fr.put Fr.rf (by decide), upd_set hp⟩
  · refine tt_ar rfl ?_
    refine tt_zret (by omega) ?_
    exact Or.inr ⟨if_pos (show p sn ≤ 0 by omega), rfl, Fr.rf⟩

theorem c139 (σ : am_S) (k n : Nat) (hW : Wd σ) (hD : LD k σ) (hT : ST n σ) (hS : SH k n (σ.1 48) (σ.1 49) (σ.1 50) (σ.1 51)) (e : Nat) (he : e < n) (p : Nat → Int) (hp : ∀ j, j < 6 → σ.1 52 j = p j) (hk1 : pOK p) : CC 139 [vR 47, vI (((e : Nat) : Int))] σ (fun r σ' => (∃ q, evS (σ.1 6) (σ.1 48) (σ.1 50) e p = some q ∧ r = some (vI 1) ∧ Fr [52] σ σ' ∧ ∀ j, j < 6 → σ'.1 52 j = q j) ∨ (evS (σ.1 6) (σ.1 48) (σ.1 50) e p = none ∧ r = some (vI 0) ∧ Fr [52] σ σ')) := by
  show TT am_b139 (am_b139.getD 0 []) [(0, vR 47), (1, vI (((e : Nat) : Int)))] [] σ _
  have hk6 := hD.2.1
  have hn16 := hT.2
  refine tt_ar rfl ?_
  refine tt_getR (wo_47 hW) rfl (wr_47_3 hW) ?_
  refine tt_ar rfl ?_
  refine tt_iald (e) (x := σ.1 48 (e)) (wa_48 hW) rfl (by omega) rfl ?_
  have hx := hS.2 (e) (by omega)
  refine tt_tsw (fun h0_s => ?_) (fun h0_a h0_b => ?_)
  · refine tt_ar rfl ?_
    refine tt_zret (by omega) ?_
    exact Or.inl ⟨p, (by unfold evS; rw [if_neg (by omega), if_neg (by omega), if_neg (by omega)]), rfl, Fr.rf, hp⟩
  · rcases (by omega : σ.1 48 e = 1 ∨ σ.1 48 e = 2 ∨ σ.1 48 e = 3) with hK | hK | hK
    · refine tt_to (b' := 1) (by rw [hK]; rfl) ?_
      refine tt_ar rfl ?_
      have hx := hS.2 e he
      have hxA := hx.2.2.1 (by omega)
      refine tt_ar rfl ?_
      refine tt_getR (wo_47 hW) rfl (wr_47_5 hW) ?_
      refine tt_ar rfl ?_
      refine tt_iald (e) (x := σ.1 50 (e)) (wa_50 hW) rfl (by omega) rfl ?_
      have hx := hS.2 (e) (by omega)
      refine tt_cv2 2 rfl (wo_47 hW) (c140 σ _ hW (by omega) p hp hk1) ?_
      intro r0 σ2 hq0
      rcases hq0 with ⟨q, hq, rfl, hF2, hpq⟩ | ⟨hq, rfl, hF2⟩
      · have hW1 := Fr.wd hF2 hW
        refine tt_zret (by omega) ?_
        exact Or.inl ⟨q, (by unfold evS; rw [if_pos hK]; exact hq), rfl, (Fr.tr Fr.rf hF2 (by decide)), hpq⟩
      · have hW2 := Fr.wd hF2 hW
        refine tt_zret (by omega) ?_
        exact Or.inr ⟨(by unfold evS; rw [if_pos hK]; exact hq), rfl, (Fr.tr Fr.rf hF2 (by decide))⟩
    · refine tt_to (b' := 2) (by rw [hK]; rfl) ?_
      refine tt_ar rfl ?_
      have hx := hS.2 e he
      have hxA := hx.2.2.1 (by omega)
      refine tt_ar rfl ?_
      refine tt_getR (wo_47 hW) rfl (wr_47_5 hW) ?_
      refine tt_ar rfl ?_
      refine tt_iald (e) (x := σ.1 50 (e)) (wa_50 hW) rfl (by omega) rfl ?_
      have hx := hS.2 (e) (by omega)
      refine tt_cv2 2 rfl (wo_47 hW) (c142 σ _ hW (by omega) (by omega) p hp hk1) ?_
      intro r0 σ2 hq0
      rcases hq0 with ⟨q, hq, rfl, hF2, hpq⟩ | ⟨hq, rfl, hF2⟩
      · have hW3 := Fr.wd hF2 hW
        refine tt_zret (by omega) ?_
        exact Or.inl ⟨q, (by unfold evS; rw [if_neg (by omega), if_pos hK]; exact hq), rfl, (Fr.tr Fr.rf hF2 (by decide)), hpq⟩
      · have hW4 := Fr.wd hF2 hW
        refine tt_zret (by omega) ?_
        exact Or.inr ⟨(by unfold evS; rw [if_neg (by omega), if_pos hK]; exact hq), rfl, (Fr.tr Fr.rf hF2 (by decide))⟩
    · refine tt_to (b' := 3) (by rw [hK]; rfl) ?_
      refine tt_ar rfl ?_
      have hx := hS.2 e he
      have hxA := hx.2.2.1 (by omega)
      have hxI := hD.2.2.2.2 (σ.1 50 e).toNat (by omega)
      refine tt_ar rfl ?_
      refine tt_getR (wo_47 hW) rfl (wr_47_5 hW) ?_
      refine tt_ar rfl ?_
      refine tt_iald (e) (x := σ.1 50 (e)) (wa_50 hW) rfl (by omega) rfl ?_
      have hx := hS.2 (e) (by omega)
      refine tt_cv2 2 rfl (wo_47 hW) (c142 σ _ hW (by omega) (by omega) p hp hk1) ?_
      intro r0 σ2 hq0
      rcases hq0 with ⟨q, hq, rfl, hF2, hpq⟩ | ⟨hq, rfl, hF2⟩
      · have hW5 := Fr.wd hF2 hW
        refine tt_ifeqF (by decide) ?_
        refine tt_ar rfl ?_
        refine tt_ar rfl ?_
        refine tt_getR (wo_47 hW5) rfl (wr_47_0 hW5) ?_
        refine tt_getR (wo_5 hW5) rfl (wr_5_1 hW5) ?_
        refine tt_ar rfl ?_
        refine tt_getR (wo_47 hW5) rfl (wr_47_5 hW5) ?_
        refine tt_ar rfl ?_
        refine tt_iald (e) (x := σ.1 50 (e)) (wa_50 hW5) rfl (by omega) (hF2.2 50 (by decide) (e)) ?_
        have hx := hS.2 (e) (by omega)
        refine tt_iald ((σ.1 50 e).toNat) (x := σ.1 6 ((σ.1 50 e).toNat)) (wa_6 hW5) (by omega) (by omega) (hF2.2 6 (by decide) ((σ.1 50 e).toNat)) ?_
        have hb6 := hD.2.2.2.2 ((σ.1 50 e).toNat) (by omega)
        refine tt_cv2 2 rfl (wo_47 hW5) (c140 σ2 _ hW5 (by omega) q hpq (lvN_ok (by omega) hk1 hq)) ?_
        intro r0 σ3 hq0
        rcases hq0 with ⟨q2, hq2, rfl, hF3, hpq2⟩ | ⟨hq2, rfl, hF3⟩
        · have hW6 := Fr.wd hF3 hW5
          refine tt_ifeqF (by decide) ?_
          refine tt_ar rfl ?_
          refine tt_goto ?_
          refine tt_zret (by omega) ?_
          exact Or.inl ⟨q2, (by unfold evS; rw [if_neg (by omega), if_neg (by omega), if_pos hK, hq]; exact hq2), rfl, (Fr.tr (Fr.tr Fr.rf hF2 (by decide)) hF3 (by decide)), hpq2⟩
        · have hW7 := Fr.wd hF3 hW5
          refine tt_ifeqT (by decide) ?_
          refine tt_ar rfl ?_
          refine tt_nop ?_
          refine tt_zret (by omega) ?_
          exact Or.inr ⟨(by unfold evS; rw [if_neg (by omega), if_neg (by omega), if_pos hK, hq]; first | rfl | exact hq2), rfl, (Fr.tr (Fr.tr Fr.rf hF2 (by decide)) hF3 (by decide))⟩
      · have hW8 := Fr.wd hF2 hW
        refine tt_ifeqT (by decide) ?_
        refine tt_ar rfl ?_
        refine tt_nop ?_
        refine tt_zret (by omega) ?_
        exact Or.inr ⟨(by unfold evS; rw [if_neg (by omega), if_neg (by omega), if_pos hK, hq]; first | rfl | exact hq2), rfl, (Fr.tr Fr.rf hF2 (by decide))⟩

theorem c138 (σ : am_S) (k n : Nat) (hW : Wd σ) (hD : LD k σ) (hT : ST n σ) (hS : SH k n (σ.1 48) (σ.1 49) (σ.1 50) (σ.1 51)) (m : Nat) (hm : m < 12) : CC 138 [vR 47, vI (((m : Nat) : Int))] σ (fun r σ' => (∃ q, toS (σ.1 6) (σ.1 48) (σ.1 49) (σ.1 50) n (m + 1) = some q ∧ r = some (vI 1) ∧ Fr [52] σ σ' ∧ ∀ j, j < 6 → σ'.1 52 j = q j) ∨ (toS (σ.1 6) (σ.1 48) (σ.1 49) (σ.1 50) n (m + 1) = none ∧ r = some (vI 0) ∧ Fr [52] σ σ')) := by
  show TT am_b138 (am_b138.getD 0 []) [(0, vR 47), (1, vI (((m : Nat) : Int)))] [] σ _
  have hk6 := hD.2.1
  have hn16 := hT.2
  refine tt_ar rfl ?_
  refine tt_getR (wo_47 hW) rfl (wr_47_7 hW) ?_
  refine tt_ar rfl ?_
  refine tt_cs2 2 rfl (c4 σ 52 6 0 (wa_52 hW) (by decide) (by rfl)) ?_
  intro r0 σ0 hq0
  obtain ⟨rfl, hF0, hC0⟩ := hq0
  have hW1 := Fr.wd hF0 hW
  have hp0 : ∀ j, j < 6 → σ0.1 52 j = (fun _ => (0 : Int)) j := fun j hj => (hC0 j).trans (if_pos hj)
  refine tt_ar rfl ?_
  refine tt_ar rfl ?_
  refine tt_nop ?_
  have lp1_2 : ∀ (μ : Nat) (d : Nat) (p : Nat → Int) (σ1 : am_S), m + 1 - d < μ → Fr [52] σ σ1 → (d ≤ m + 1) → (∀ j, j < 6 → σ1.1 52 j = p j) → (pOK p) → (toS (σ.1 6) (σ.1 48) (σ.1 49) (σ.1 50) n d = some p) → TT am_b138 (am_b138.getD 1 []) [(0, vR 47), (1, vI (((m : Nat) : Int))), (2, vI (((d : Nat) : Int)))] [] σ1 (fun r σ' => (∃ q, toS (σ.1 6) (σ.1 48) (σ.1 49) (σ.1 50) n (m + 1) = some q ∧ r = some (vI 1) ∧ Fr [52] σ σ' ∧ ∀ j, j < 6 → σ'.1 52 j = q j) ∨ (toS (σ.1 6) (σ.1 48) (σ.1 49) (σ.1 50) n (m + 1) = none ∧ r = some (vI 0) ∧ Fr [52] σ σ')) := by
    intro μ
    induction μ with
    | zero => intro d p σ1 hμ; exact absurd hμ (Nat.not_lt_zero _)
    | succ μ ih1 =>
      intro d p σ1 hμ hF_σ1 hdm hp hk1 hd
      have hW_σ1 := Fr.wd hF_σ1 hW
      refine tt_ar rfl ?_
      refine tt_ar rfl ?_
      refine tt_icgt (fun h1_2 => ?_) (fun h1_2 => ?_)
      · refine tt_ar rfl ?_
        refine tt_zret (by omega) ?_
        have e1 : d = m + 1 := by omega
        subst e1
        exact Or.inl ⟨p, hd, rfl, hF_σ1, hp⟩
      · obtain ⟨p0, hp0eq⟩ : ∃ x, x = p := ⟨_, rfl⟩
        have hd0 := hp0eq ▸ hd
        refine tt_ar rfl ?_
        refine tt_ar rfl ?_
        refine tt_nop ?_
        have lp2_3 : ∀ (μ : Nat) (e : Nat) (p : Nat → Int) (σ1 : am_S), n - e < μ → Fr [52] σ σ1 → (e ≤ n) → (∀ j, j < 6 → σ1.1 52 j = p j) → (pOK p) → (dyS (σ.1 6) (σ.1 48) (σ.1 49) (σ.1 50) d e p0 = some p) → TT am_b138 (am_b138.getD 2 []) [(0, vR 47), (1, vI (((m : Nat) : Int))), (2, vI (((d : Nat) : Int))), (3, vI (((e : Nat) : Int)))] [] σ1 (fun r σ' => (∃ q, toS (σ.1 6) (σ.1 48) (σ.1 49) (σ.1 50) n (m + 1) = some q ∧ r = some (vI 1) ∧ Fr [52] σ σ' ∧ ∀ j, j < 6 → σ'.1 52 j = q j) ∨ (toS (σ.1 6) (σ.1 48) (σ.1 49) (σ.1 50) n (m + 1) = none ∧ r = some (vI 0) ∧ Fr [52] σ σ')) := by
          intro μ
          induction μ with
          | zero => intro e p σ1 hμ; exact absurd hμ (Nat.not_lt_zero _)
          | succ μ ih2 =>
            intro e p σ1 hμ hF_σ1 hen hp hk1 he2
            have hW_σ1 := Fr.wd hF_σ1 hW
            have e6 : σ1.1 6 = σ.1 6 := funext (hF_σ1.2 6 (by decide))
            have e48 : σ1.1 48 = σ.1 48 := funext (hF_σ1.2 48 (by decide))
            have e49 : σ1.1 49 = σ.1 49 := funext (hF_σ1.2 49 (by decide))
            have e50 : σ1.1 50 = σ.1 50 := funext (hF_σ1.2 50 (by decide))
            have e51 : σ1.1 51 = σ.1 51 := funext (hF_σ1.2 51 (by decide))
            refine tt_ar rfl ?_
            refine tt_ar rfl ?_
            refine tt_getI (x := ((n : Nat) : Int)) (wo_47 hW_σ1) rfl ((hF_σ1.2 47 (by decide) (2)).trans hT.1) ?_
            refine tt_icge (fun h2_3 => ?_) (fun h2_3 => ?_)
            · refine tt_iinc (y := ((d + 1 : Nat) : Int)) rfl (iinc_fit (by omega) (by omega) (by omega)) ?_
              refine tt_goto ?_
              refine tt_loc [(0, vR 47), (1, vI (((m : Nat) : Int))), (2, vI (((d + 1 : Nat) : Int)))] rfl rfl ⟨rfl, rfl, rfl, trivial⟩ ?_
              exact ih1 (d + 1) (p) σ1 (by omega) (Fr.tr Fr.rf hF_σ1 (by decide)) (by omega) hp hk1 (by unfold toS; rw [hd0, show n = e by omega]; exact he2)
            · refine tt_ar rfl ?_
              refine tt_getR (wo_47 hW_σ1) rfl (wr_47_4 hW_σ1) ?_
              refine tt_ar rfl ?_
              refine tt_iald (e) (x := σ.1 49 (e)) (wa_49 hW_σ1) rfl (by omega) (hF_σ1.2 49 (by decide) (e)) ?_
              have hx := hS.2 (e) (by omega)
              refine tt_ar rfl ?_
              refine tt_icne (fun h2_9 => ?_) (fun h2_9 => ?_)
              · refine tt_iinc (y := ((e + 1 : Nat) : Int)) rfl (iinc_fit (by omega) (by omega) (by omega)) ?_
                refine tt_goto ?_
                refine tt_loc [(0, vR 47), (1, vI (((m : Nat) : Int))), (2, vI (((d : Nat) : Int))), (3, vI (((e + 1 : Nat) : Int)))] rfl rfl ⟨rfl, rfl, rfl, rfl, trivial⟩ ?_
                exact ih2 (e + 1) (p) σ1 (by omega) (Fr.tr Fr.rf hF_σ1 (by decide)) (by omega) (by first | exact hpq | exact hp) (by first | exact evS_ok hk6 hD.2.2.2.2 hS (show e < n by omega) hk1 hq | exact hk1) (by conv => { lhs; unfold dyS }; rw [he2]; show (if _ then _ else _) = _; first | (rw [if_pos (by omega)]; exact hq) | (rw [if_neg (by omega)]))
              · refine tt_ar rfl ?_
                refine tt_ar rfl ?_
                refine tt_cv2 2 rfl (wo_47 hW_σ1) (c139 σ1 k n hW_σ1 (LD.fr (L := [52]) (Fr.tr Fr.rf hF_σ1 (by decide)) (by decide) hD) (ST.fr (L := [52]) (Fr.tr Fr.rf hF_σ1 (by decide)) (by decide) hT) (by rw [e48, e49, e50, e51]; exact hS) e (by omega) p hp hk1) ?_
                intro r0 σ2 hq0
                rcases hq0 with ⟨q, hq, rfl, hF2, hpq⟩ | ⟨hq, rfl, hF2⟩
                · have hW4 := Fr.wd hF2 hW_σ1
                  rw [e6, e48, e50] at hq
                  refine tt_ifneT (by decide) ?_
                  refine tt_iinc (y := ((e + 1 : Nat) : Int)) rfl (iinc_fit (by omega) (by omega) (by omega)) ?_
                  refine tt_goto ?_
                  refine tt_loc [(0, vR 47), (1, vI (((m : Nat) : Int))), (2, vI (((d : Nat) : Int))), (3, vI (((e + 1 : Nat) : Int)))] rfl rfl ⟨rfl, rfl, rfl, rfl, trivial⟩ ?_
                  exact ih2 (e + 1) (q) σ2 (by omega) (Fr.tr (Fr.tr Fr.rf hF_σ1 (by decide)) hF2 (by decide)) (by omega) (by first | exact hpq | exact hp) (by first | exact evS_ok hk6 hD.2.2.2.2 hS (show e < n by omega) hk1 hq | exact hk1) (by conv => { lhs; unfold dyS }; rw [he2]; show (if _ then _ else _) = _; first | (rw [if_pos (by omega)]; exact hq) | (rw [if_neg (by omega)]))
                · have hW5 := Fr.wd hF2 hW_σ1
                  rw [e6, e48, e50] at hq
                  refine tt_ifneF (by decide) ?_
                  refine tt_ar rfl ?_
                  refine tt_zret (by omega) ?_
                  have hn1 : dyS (σ.1 6) (σ.1 48) (σ.1 49) (σ.1 50) d (e + 1) p0 = none := by
                    unfold dyS
                    rw [he2]
                    show (if _ then _ else _) = _
                    rw [if_pos (by omega)]
                    exact hq
                  have hn2 := dyS_none hn1 (n - (e + 1))
                  rw [show e + 1 + (n - (e + 1)) = n by omega] at hn2
                  have hn3 : toS (σ.1 6) (σ.1 48) (σ.1 49) (σ.1 50) n (d + 1) = none := by
                    unfold toS
                    rw [hd0]
                    exact hn2
                  have hn4 := toS_none hn3 (m - d)
                  rw [show d + 1 + (m - d) = m + 1 by omega] at hn4
                  exact Or.inr ⟨hn4, rfl, (Fr.tr (Fr.tr Fr.rf hF_σ1 (by decide)) hF2 (by decide))⟩
        refine tt_loc [(0, vR 47), (1, vI (((m : Nat) : Int))), (2, vI (((d : Nat) : Int))), (3, vI (((0 : Nat) : Int)))] rfl rfl ⟨rfl, rfl, rfl, lv_to rfl (by omega), trivial⟩ ?_
        exact lp2_3 _ (0) (p0) σ1 (Nat.lt_succ_self _) (Fr.tr Fr.rf hF_σ1 (by decide)) (by omega) (by rw [hp0eq]; exact hp) (by rw [hp0eq]; exact hk1) rfl
  refine tt_loc [(0, vR 47), (1, vI (((m : Nat) : Int))), (2, vI (((0 : Nat) : Int)))] rfl rfl ⟨rfl, rfl, lv_to rfl (by omega), trivial⟩ ?_
  exact lp1_2 _ (0) ((fun _ => (0 : Int))) σ0 (Nat.lt_succ_self _) (Fr.tr Fr.rf hF0 (by decide)) (by omega) hp0 ⟨fun _ _ => ⟨Int.le_refl 0, (by decide : (0 : Int) ≤ 5)⟩, by decide⟩ rfl

theorem c144 (σ : am_S) (hW : Wd σ) (hw : ∀ j, j < 6 → σ.1 0 j = 10 ^ j) (p : Nat → Int) (hp : ∀ j, j < 6 → σ.1 52 j = p j) (hk1 : pOK p) : CC 144 [vR 47] σ (fun r σ' => r = some (vI (sumN 6 (fun s => p s * 10 ^ s))) ∧ σ' = σ) := by
  show TT am_b144 (am_b144.getD 0 []) [(0, vR 47)] [] σ _
  refine tt_ar rfl ?_
  refine tt_ar rfl ?_
  refine tt_ar rfl ?_
  refine tt_ar rfl ?_
  refine tt_nop ?_
  have lp1_1 : ∀ (μ : Nat) (i : Nat), 6 - i < μ → (i ≤ 6) → TT am_b144 (am_b144.getD 1 []) [(0, vR 47), (1, vI (sumN i (fun s => p s * 10 ^ s))), (2, vI (((i : Nat) : Int)))] [] σ (fun r σ' => r = some (vI (sumN 6 (fun s => p s * 10 ^ s))) ∧ σ' = σ) := by
    intro μ
    induction μ with
    | zero => intro i hμ; exact absurd hμ (Nat.not_lt_zero _)
    | succ μ ih1 =>
      intro i hμ hi
      refine tt_ar rfl ?_
      refine tt_ar rfl ?_
      refine tt_icge (fun h1_2 => ?_) (fun h1_2 => ?_)
      · refine tt_ar rfl ?_
        refine tt_iret ?_
        have e : 6 = i := by omega
        subst e
        exact ⟨rfl, rfl⟩
      · have hpw : 0 ≤ p i * 10 ^ i ∧ p i * 10 ^ i ≤ 500000 := pw_bd (hk1.1 i (by omega)) (by omega)
        have hsb : 0 ≤ sumN i (fun s => p s * 10 ^ s) ∧ sumN i (fun s => p s * 10 ^ s) ≤ i * 500000 := by
          have := sumN_bd (f := fun s => p s * 10 ^ s) (a := 0) (b := 500000) (n := i) (fun j hj => pw_bd (hk1.1 j (by omega)) (by omega))
          omega
        refine tt_ar rfl ?_
        refine tt_ar rfl ?_
        refine tt_getR (wo_47 hW) rfl (wr_47_7 hW) ?_
        refine tt_ar rfl ?_
        refine tt_iald (i) (x := p i) (wa_52 hW) rfl (by omega) (hp i (by omega)) ?_
        have hb52 := hk1.1 i (by omega)
        refine tt_gets ?_
        refine tt_ar rfl ?_
        refine tt_iald (i) (x := 10 ^ i) (wa_0 hW) rfl (by omega) (hw i (by omega)) ?_
        refine tt_imul (by omega) (by omega) ?_
        refine tt_iadd (by omega) (by omega) ?_
        refine tt_ar rfl ?_
        refine tt_iinc (y := ((i + 1 : Nat) : Int)) rfl (iinc_fit (by omega) (by omega) (by omega)) ?_
        refine tt_goto ?_
        refine tt_loc [(0, vR 47), (1, vI (sumN (i + 1) (fun s => p s * 10 ^ s))), (2, vI (((i + 1 : Nat) : Int)))] rfl rfl ⟨rfl, lv_to rfl rfl, rfl, trivial⟩ ?_
        exact ih1 (i + 1) (by omega) (by omega)
  refine tt_loc [(0, vR 47), (1, vI (sumN 0 (fun s => p s * 10 ^ s))), (2, vI (((0 : Nat) : Int)))] rfl rfl ⟨rfl, lv_to rfl rfl, lv_to rfl (by omega), trivial⟩ ?_
  exact lp1_1 _ (0) (Nat.lt_succ_self _) (by omega)

def hdL (K D A B : Nat → Int) (d : Nat) : Nat → (Nat → Int) → (Nat → Int)
  | 0, L => L
  | e + 1, L => if D e = (d : Int) ∧ K e = 6 then upI (upI (hdL K D A B d e L) (A e).toNat (dm (hdL K D A B d e L (A e).toNat - 1))) (B e).toNat (upI (hdL K D A B d e L) (A e).toNat (dm (hdL K D A B d e L (A e).toNat - 1)) (B e).toNat + 1) else hdL K D A B d e L
def hdM (K D A B : Nat → Int) (n : Nat) : Nat → (Nat → Int) → (Nat → Int)
  | 0, L => L
  | d + 1, L => hdL K D A B d n (hdM K D A B n d L)
/-- within 0 and c -/
def wiN (L : Nat → Int) (c : Int) : Prop := ∀ x, x < 8 → 0 ≤ L x ∧ L x ≤ c
theorem wiN.mono {L : Nat → Int} {c c' : Int} (h : wiN L c) (hc : c ≤ c') : wiN L c' := fun x hx => ⟨(h x hx).1, Int.le_trans (h x hx).2 hc⟩
theorem wiN.ho {L : Nat → Int} {c : Int} {a b : Nat} (h : wiN L c) (ha : a < 8) (hb : b < 8) : wiN (upI (upI L a (dm (L a - 1))) b (upI L a (dm (L a - 1)) b + 1)) (c + 1) := by
  intro x hx
  have h1 := h x hx
  have h2 := h a ha
  have h3 := h b hb
  have h4 := dm_bd (L a - 1)
  unfold upI
  split
  · split <;> omega
  · split <;> omega
