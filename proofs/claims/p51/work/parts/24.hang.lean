/-! WHAT THE TOLD HOUSEHOLD HANGS -/
def gsN (σ : am_S) (m n s : Nat) : Int := amN (σ.1 48) (σ.1 49) (σ.1 50) m 5 s n
def ilN (σ : am_S) (p : Nat → Int) (m n s : Nat) : Int := if p s < amN (σ.1 48) (σ.1 49) (σ.1 50) m 4 s n then p s else amN (σ.1 48) (σ.1 49) (σ.1 50) m 4 s n
def fLN (σ : am_S) (p : Nat → Int) (m n x s : Nat) : Int := (p s + gsN σ m n s - ilN σ p m n s) * σ.1 7 (s * 8 + x)
def fMN (σ : am_S) (p : Nat → Int) (m n x s : Nat) : Int := (p s + gsN σ m n s) * σ.1 8 (s * 8 + x)
def hgL0 (σ : am_S) (k : Nat) (p : Nat → Int) (m n x : Nat) : Int := sumN k (fLN σ p m n x)
def hgM0 (σ : am_S) (k : Nat) (p : Nat → Int) (m n x : Nat) : Int := sumN k (fMN σ p m n x)
def hgL (σ : am_S) (k : Nat) (p : Nat → Int) (m n x : Nat) : Int := if isIn (σ.1 5 4) (σ.1 28 m) (x : Int) then 0 else hdM (σ.1 48) (σ.1 49) (σ.1 50) (σ.1 51) n (m + 1) (hgL0 σ k p m n) x
def hgM (σ : am_S) (k : Nat) (p : Nat → Int) (m n x : Nat) : Int := hdM (σ.1 48) (σ.1 49) (σ.1 50) (σ.1 51) n (m + 1) (hgM0 σ k p m n) x
theorem ilN_bd {σ : am_S} {p : Nat → Int} {m n s : Nat} (hp : pOK p) (hs : s < 6) : 0 ≤ ilN σ p m n s ∧ ilN σ p m n s ≤ p s := by
  have h1 := hp.1 s hs
  have h2 := amN_bd (σ.1 48) (σ.1 49) (σ.1 50) m 4 s n
  unfold ilN
  split <;> omega
theorem fLN_bd {σ : am_S} {k : Nat} {p : Nat → Int} {m n x s : Nat} (hD : LD k σ) (hn : n ≤ 16) (hp : pOK p) (hs : s < 6) (hx : x < 8) : 0 ≤ fLN σ p m n x s ∧ fLN σ p m n x s ≤ 189 := by
  have h1 := hp.1 s hs
  have h2 := ilN_bd (σ := σ) (m := m) (n := n) hp hs
  have h3 := amN_bd (σ.1 48) (σ.1 49) (σ.1 50) m 5 s n
  have h4 := hD.2.2.1 (s * 8 + x) (by omega)
  exact mul_bd (A := 21) (B := 9) (by unfold gsN; omega) (by unfold gsN; omega) h4.1 (by omega)
theorem fMN_bd {σ : am_S} {k : Nat} {p : Nat → Int} {m n x s : Nat} (hD : LD k σ) (hn : n ≤ 16) (hp : pOK p) (hs : s < 6) (hx : x < 8) : 0 ≤ fMN σ p m n x s ∧ fMN σ p m n x s ≤ 189 := by
  have h1 := hp.1 s hs
  have h3 := amN_bd (σ.1 48) (σ.1 49) (σ.1 50) m 5 s n
  have h4 := hD.2.2.1 (s * 8 + x) (by omega)
  exact mul_bd (A := 21) (B := 9) (by unfold gsN; omega) (by unfold gsN; omega) (by omega) (by omega)
theorem sL_bd {σ : am_S} {k : Nat} {p : Nat → Int} {m n x : Nat} (hD : LD k σ) (hn : n ≤ 16) (hp : pOK p) (hx : x < 8) {t : Nat} (ht : t ≤ 6) : 0 ≤ sumN t (fLN σ p m n x) ∧ sumN t (fLN σ p m n x) ≤ 1134 := by
  have := sumN_bd (f := fLN σ p m n x) (a := 0) (b := 189) (n := t) (fun i hi => fLN_bd hD hn hp (by omega) hx)
  omega
theorem sM_bd {σ : am_S} {k : Nat} {p : Nat → Int} {m n x : Nat} (hD : LD k σ) (hn : n ≤ 16) (hp : pOK p) (hx : x < 8) {t : Nat} (ht : t ≤ 6) : 0 ≤ sumN t (fMN σ p m n x) ∧ sumN t (fMN σ p m n x) ≤ 1134 := by
  have := sumN_bd (f := fMN σ p m n x) (a := 0) (b := 189) (n := t) (fun i hi => fMN_bd hD hn hp (by omega) hx)
  omega
theorem acc_step {σ1 : am_S} {a s x : Nat} {F : Nat → Nat → Int} {v : Int} (h : ∀ y, y < 8 → σ1.1 a y = sumN (if y < x then s + 1 else s) (F y)) (hx : x < 8) (hv : v = σ1.1 a x + F x s) : ∀ y, y < 8 → (am_set σ1 a x v).1 a y = sumN (if y < x + 1 then s + 1 else s) (F y) := by
  intro y hy
  rw [am_set_at]
  by_cases e : y = x
  · subst e
    rw [if_pos rfl, if_pos (by omega), hv, h y hy, if_neg (by omega)]
    rfl
  · rw [if_neg e, h y hy]
    congr 1
    by_cases e2 : y < x
    · rw [if_pos e2, if_pos (by omega)]
    · rw [if_neg e2, if_neg (by omega)]
theorem rain_a {σ σ5 : am_S} {k m n x : Nat} {p : Nat → Int} (h : ∀ y, y < 8 → σ5.1 53 y = if y < x then hgL σ k p m n y else hdM (σ.1 48) (σ.1 49) (σ.1 50) (σ.1 51) n (m + 1) (hgL0 σ k p m n) y) (hx : x < 8) (hr : isIn (σ.1 5 4) (σ.1 28 m) (x : Int)) : ∀ y, y < 8 → (am_set σ5 53 x 0).1 53 y = if y < x + 1 then hgL σ k p m n y else hdM (σ.1 48) (σ.1 49) (σ.1 50) (σ.1 51) n (m + 1) (hgL0 σ k p m n) y := by
  intro y hy
  rw [am_set_at]
  by_cases e : y = x
  · subst e
    rw [if_pos rfl, if_pos (by omega)]
    unfold hgL
    rw [if_pos hr]
  · rw [if_neg e, h y hy]
    by_cases e2 : y < x
    · rw [if_pos e2, if_pos (by omega)]
    · rw [if_neg e2, if_neg (by omega)]
theorem rain_b {σ σ5 : am_S} {k m n x : Nat} {p : Nat → Int} (h : ∀ y, y < 8 → σ5.1 53 y = if y < x then hgL σ k p m n y else hdM (σ.1 48) (σ.1 49) (σ.1 50) (σ.1 51) n (m + 1) (hgL0 σ k p m n) y) (hx : x < 8) (hr : ¬ isIn (σ.1 5 4) (σ.1 28 m) (x : Int)) : ∀ y, y < 8 → σ5.1 53 y = if y < x + 1 then hgL σ k p m n y else hdM (σ.1 48) (σ.1 49) (σ.1 50) (σ.1 51) n (m + 1) (hgL0 σ k p m n) y := by
  intro y hy
  rw [h y hy]
  by_cases e : y = x
  · subst e
    rw [if_neg (by omega), if_pos (by omega)]
    unfold hgL
    rw [if_neg hr]
  · by_cases e2 : y < x
    · rw [if_pos e2, if_pos (by omega)]
    · rw [if_neg e2, if_neg (by omega)]
def badN (σ : am_S) (k : Nat) (p : Nat → Int) (m n x : Nat) : Bool := decide (σ.1 30 (m * 8 + x) - σ.1 29 m > hgM σ k p m n x ∨ σ.1 30 (m * 8 + x) + σ.1 29 m < hgL σ k p m n x)
def jdN (σ : am_S) (k n m : Nat) : Option Int := match toS (σ.1 6) (σ.1 48) (σ.1 49) (σ.1 50) n (m + 1) with
  | none => some (-9)
  | some p => if fstN (badN σ k p m n) 8 < 8 then some (fstN (badN σ k p m n) 8 : Int) else none
def tlN (σ : am_S) (n e : Nat) (kind : Int) : Int := if kind = 6 then 10 * σ.1 50 e + σ.1 51 e else if kind = 5 then (match toS (σ.1 6) (σ.1 48) (σ.1 49) (σ.1 50) n ((σ.1 49 e).toNat + 1) with
  | none => -9
  | some p => evN p) else σ.1 50 e
