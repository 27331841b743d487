/-! PARTED -/
def loF (σ : am_S) (w : Int) (x : Nat) (z : Int) : Int := if isIn (σ.1 5 4) w (x : Int) then 0 else σ.1 25 (z.toNat * 8 + x)
def hiF (σ : am_S) (x : Nat) (z : Int) : Int := σ.1 26 (z.toNat * 8 + x)
/-- how many pairs, of which the most of the one is less than the least of the other -/
def ptM (N : Nat) (p : Nat → Bool) (lo hi : Nat → Int) : Int := sumN N (fun a => if p a then sumN N (fun b => if p b then (if hi a + 1 ≤ lo b then 1 else 0) else 0) else 0)
theorem lo_bd {N : Nat} {σ : am_S} {w : Int} {x h : Nat} (hB : HB N σ) (hh : h < N) (hx : x < 8) : 0 ≤ loF σ w x (h : Int) ∧ loF σ w x (h : Int) ≤ 45 ∧ 0 ≤ hiF σ x (h : Int) ∧ hiF σ x (h : Int) ≤ 45 := by
  have := hB.2.2.2.1 (h * 8 + x) (by omega)
  unfold loF hiF
  rw [Int.toNat_natCast]
  split <;> omega
theorem pt_list {N c : Nat} {p : Nat → Bool} {L : Nat → Int} {lo hi : Int → Int} (hL : LI p N L) (hc : c = ctN p N) : sumN c (fun i => sumN c (fun j => if hi (L i) + 1 ≤ lo (L j) then 1 else 0)) = ptM N p (fun b => lo (b : Int)) (fun a => hi (a : Int)) := by
  subst hc
  rw [LI.sum (f := fun z => sumN (ctN p N) (fun j => if hi z + 1 ≤ lo (L j) then 1 else 0)) hL]
  unfold ptM
  refine sumN_congr (fun a _ => ?_)
  split
  · exact LI.sum (f := fun z => if hi (a : Int) + 1 ≤ lo z then 1 else 0) hL
  · rfl
theorem ge_step {n : Nat} {f : Nat → Int} {v : Int} : sumN n (fun j => if f j = v then 1 else 0) + sumN n (fun j => if v + 1 ≤ f j then 1 else 0) = sumN n (fun j => if v ≤ f j then 1 else 0) := by
  rw [← sumN_add]
  refine sumN_congr (fun j _ => ?_)
  by_cases h1 : f j = v
  · rw [if_pos h1, if_neg (by omega), if_pos (by omega)]
    rfl
  · rw [if_neg h1]
    by_cases h2 : v + 1 ≤ f j
    · rw [if_pos h2, if_pos (by omega)]
      rfl
    · rw [if_neg h2, if_neg (by omega)]
      rfl
theorem ct_bd {n : Nat} {c : Nat → Prop} [DecidablePred c] : 0 ≤ sumN n (fun j => if c j then 1 else 0) ∧ sumN n (fun j => if c j then 1 else 0) ≤ (n : Int) := by
  have := sumN_bd (n := n) (f := fun j => if c j then 1 else 0) (a := 0) (b := 1) (fun i _ => by
    split <;> omega)
  omega
