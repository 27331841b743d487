/-! WHAT IS TRUE OF HOUSEHOLDS HELD AGAINST MONDAYS -/
section FLOOK
variable {k nm m h : Nat} {A : am_S}
theorem ag_0 : cAg A m h 0 0 0 ↔ ∀ x, x < 8 → A.1 30 (m * 8 + x) - A.1 29 m ≤ A.1 26 (h * 8 + x) ∧ (A.1 30 (m * 8 + x) + A.1 29 m < A.1 25 (h * 8 + x) → isIn (A.1 5 4) (A.1 28 m) (x : Int)) := by
  show (∀ x, x < 8 → A.1 30 (m * 8 + x) - A.1 29 m ≤ A.1 26 (h * 8 + x) + 0 * A.1 8 (0 * 8 + x) ∧ (A.1 30 (m * 8 + x) + A.1 29 m < A.1 25 (h * 8 + x) + 0 * A.1 7 (0 * 8 + x) → isIn (A.1 5 4) (A.1 28 m) (x : Int))) ↔ _
  simp only [Int.zero_mul, Int.add_zero]
theorem ex_ag (e : cAg A m h 0 0 0) : cEx A k m h = 0 := by
  unfold cEx exN
  rw [if_pos (decide_eq_true e)]
theorem ex_no (hk : k ≤ 6) (e : ¬ cAg A m h 0 0 0) : cEx A k m h = -9 ∨ (10 ≤ cEx A k m h ∧ cEx A k m h < 30) := by
  unfold cEx exN
  have h1 := fstN_le (p := cIll A m h) k
  have h2 := fstN_le (p := cGst A m h) k
  rw [if_neg (by simpa using e)]
  split
  · omega
  · split <;> omega
set_option maxRecDepth 100000 in
theorem or_nat_b : ((List.range 256).all (fun v => (List.range 8).all (fun n => decide (a_or (v : Int) (a_shl 1 (n : Int)) = ((v ||| 2 ^ n : Nat) : Int))))) = true := by decide +kernel
theorem or_nat {v n : Nat} (hv : v < 256) (hn : n < 8) : a_or (v : Int) (a_shl 1 (n : Int)) = ((v ||| 2 ^ n : Nat) : Int) :=
  of_decide_eq_true (List.all_eq_true.mp (List.all_eq_true.mp or_nat_b v (List.mem_range.mpr hv)) n (List.mem_range.mpr hn))
theorem or_is (p : Nat → Bool) : ∀ n, n ≤ 8 → ∃ v : Nat, orN n p = (v : Int) ∧ v < 2 ^ n ∧ ∀ i, v.testBit i = (decide (i < n) && p i)
  | 0, _ => ⟨0, rfl, by decide, fun i => by simp⟩
  | n + 1, hn => by
    obtain ⟨v, h1, h2, h3⟩ := or_is p n (by omega)
    have h8 : 2 ^ n ≤ 2 ^ 7 := Nat.pow_le_pow_right (by decide) (by omega)
    have hs : 2 ^ (n + 1) = 2 * 2 ^ n := by rw [Nat.pow_succ]; omega
    show ∃ v : Nat, (if p n then a_or (orN n p) (a_shl 1 (n : Int)) else orN n p) = (v : Int) ∧ _
    by_cases e : p n = true
    · rw [if_pos e, h1, or_nat (by omega) (by omega)]
      refine ⟨_, rfl, Nat.or_lt_two_pow (by omega) (by omega), fun i => ?_⟩
      rw [Nat.testBit_or, h3, Nat.testBit_two_pow]
      by_cases ei : i = n
      · subst ei
        simp [e]
      · have e2 : (i < n + 1) = (i < n) := propext ⟨fun q => by omega, fun q => by omega⟩
        simp only [e2]
        have e3 : (decide (n = i)) = false := decide_eq_false (fun q => ei q.symm)
        rw [e3, Bool.or_false]
    · rw [if_neg e]
      refine ⟨v, h1, by omega, fun i => ?_⟩
      rw [h3]
      by_cases ei : i = n
      · subst ei
        have : p i = false := by simpa using e
        simp [this]
      · have e2 : (i < n + 1) = (i < n) := propext ⟨fun q => by omega, fun q => by omega⟩
        simp only [e2]
theorem or_0 {p : Nat → Bool} : orN 8 p = 0 ↔ ∀ i, i < 8 → p i = false := by
  obtain ⟨v, h1, h2, h3⟩ := or_is p 8 (Nat.le_refl _)
  rw [h1]
  constructor
  · intro e i hi
    have e : v = 0 := by omega
    have := h3 i
    rw [e, Nat.zero_testBit, decide_eq_true hi, Bool.true_and] at this
    exact this.symm
  · intro e
    have : v = 0 := Nat.eq_of_testBit_eq (fun i => by
      rw [h3 i, Nat.zero_testBit]
      by_cases hi : i < 8
      · rw [e i hi, Bool.and_false]
      · rw [decide_eq_false hi, Bool.false_and])
    rw [this]
    rfl
set_option maxRecDepth 100000 in
theorem and_nat_b : ((List.range 256).all (fun u => (List.range 256).all (fun v => decide (a_and (u : Int) (v : Int) = ((u &&& v : Nat) : Int))))) = true := by decide +kernel
theorem and_nat {u v : Nat} (hu : u < 256) (hv : v < 256) : a_and (u : Int) (v : Int) = ((u &&& v : Nat) : Int) :=
  of_decide_eq_true (List.all_eq_true.mp (List.all_eq_true.mp and_nat_b u (List.mem_range.mpr hu)) v (List.mem_range.mpr hv))
theorem or_and {p q : Nat → Bool} (e : ∀ i, i < 8 → ¬ (p i = true ∧ q i = true)) : a_and (orN 8 p) (orN 8 q) = 0 := by
  obtain ⟨u, h1, h2, h3⟩ := or_is p 8 (Nat.le_refl _)
  obtain ⟨v, g1, g2, g3⟩ := or_is q 8 (Nat.le_refl _)
  rw [h1, g1, and_nat h2 g2]
  have : u &&& v = 0 := Nat.eq_of_testBit_eq (fun i => by
    rw [Nat.testBit_and, h3, g3, Nat.zero_testBit]
    by_cases hi : i < 8
    · have := e i hi
      rw [decide_eq_true hi]
      cases hp : p i <;> cases hq : q i <;> simp_all
    · rw [decide_eq_false hi]
      rfl)
  rw [this]
  rfl
theorem tl_tm (hL : LN nm A) (hm : m < 12) (hB : HB (nkT k) A) (hh : h < nkT k) : ((cTl A m h = 0 ∧ cTm A m h = 0) ↔ cAg A m h 0 0 0) ∧ a_and (cTl A m h) (cTm A m h) = 0 := by
  have hu : ∀ x, x < 8 → 0 ≤ A.1 30 (m * 8 + x) := fun x hx => (hL.2.2.2 (m * 8 + x) (by omega)).1
  have hd := (hL.2.2.1 m hm).2.2.1
  have hb : ∀ x, x < 8 → 0 ≤ A.1 25 (h * 8 + x) ∧ A.1 25 (h * 8 + x) ≤ A.1 26 (h * 8 + x) := fun x hx => by
    have := hB.2.2.2.1 (h * 8 + x) (by omega)
    omega
  refine ⟨?_, ?_⟩
  · rw [ag_0]
    unfold cTl cTm
    rw [or_0, or_0]
    constructor
    · rintro ⟨e1, e2⟩ x hx
      have f1 := of_decide_eq_false (e1 x hx)
      have f2 := of_decide_eq_false (e2 x hx)
      refine ⟨by omega, fun q => ?_⟩
      by_cases z : isIn (A.1 5 4) (A.1 28 m) (x : Int)
      · exact z
      · rw [if_neg z] at f1
        exact absurd q f1
    · intro e
      refine ⟨fun x hx => ?_, fun x hx => ?_⟩
      · obtain ⟨e1, e2⟩ := e x hx
        have := hu x hx
        refine decide_eq_false (fun q => ?_)
        by_cases z : isIn (A.1 5 4) (A.1 28 m) (x : Int)
        · rw [if_pos z] at q
          omega
        · rw [if_neg z] at q
          exact z (e2 q)
      · obtain ⟨e1, e2⟩ := e x hx
        refine decide_eq_false (fun q => ?_)
        omega
  · unfold cTl cTm
    refine or_and (fun x hx => ?_)
    rintro ⟨q1, q2⟩
    have q1 := of_decide_eq_true q1
    have q2 := of_decide_eq_true q2
    have := hu x hx
    have := hb x hx
    split at q1 <;> omega
theorem sm_ok {all : Nat → Int} {p : Nat → Bool} : ∀ {n : Nat}, 0 ≤ smN all p n → ∃ s : Nat, smN all p n = (s : Int) ∧ s < n ∧ p s = true
  | 0, e => by
    unfold smN at e
    omega
  | n + 1, e => by
    by_cases c : (smN all p n < 0 ∨ all n < all (smN all p n).toNat) ∧ p n = true
    · refine ⟨n, ?_, by omega, c.2⟩
      show (if _ then _ else _) = _
      rw [if_pos c]
    · have e2 : smN all p (n + 1) = smN all p n := by
        show (if _ then _ else _) = _
        rw [if_neg c]
      rw [e2] at e ⊢
      obtain ⟨s, h1, h2, h3⟩ := sm_ok e
      exact ⟨s, h1, by omega, h3⟩
theorem maxN_ge {f : Nat → Int} : ∀ {n i : Nat}, i < n → f i ≤ maxN n f
  | 0, i, hi => absurd hi (Nat.not_lt_zero _)
  | n + 1, i, hi => by
    unfold maxN
    by_cases e : i = n
    · subst e
      split <;> omega
    · have := maxN_ge (f := f) (n := n) (i := i) (by omega)
      split <;> omega
theorem hg_mo {num x : Nat} {w : Nat → Int} {M : Int} (hM : 0 ≤ M) (hk : k ≤ 6) (h : ∀ s, s < k → w (s * 8 + x) ≤ M) : hgS k num w x ≤ ((dsN 6 num : Nat) : Int) * M := by
  have h1 : hgS k num w x ≤ sumN k (fun s => (dg num s : Int) * M) := sumN_le (fun s hs => Int.mul_le_mul_of_nonneg_left (h s hs) (by omega))
  have h2 : sumN k (fun s => (dg num s : Int) * M) ≤ sumN 6 (fun s => (dg num s : Int) * M) := sumN_le_n (fun s _ => Int.mul_nonneg (by omega) hM) hk
  rw [dsN_cast, sumN_mul]
  omega
theorem pb_le {hu mo : Nat → Int} {p : Nat} (hp : p ≤ 5) : ∀ {n : Nat}, (∀ x, x < n → hu x ≤ (p : Int) * mo x ∧ hu x ≤ 100 ∧ 0 ≤ mo x ∧ mo x ≤ 9) → ∃ b, pbN hu mo n = some b ∧ 0 ≤ b ∧ b ≤ (p : Int)
  | 0, _ => ⟨0, rfl, by omega, by omega⟩
  | n + 1, e => by
    obtain ⟨b, h1, h2, h3⟩ := pb_le (hu := hu) (mo := mo) hp (n := n) (fun x hx => e x (by omega))
    obtain ⟨e1, e2, e3, e4⟩ := e n (by omega)
    unfold pbN
    rw [h1]
    show ∃ b', (if 0 < hu n then (if mo n ≤ 0 then none else some (if b < w32 (Int.tdiv (hu n + mo n - 1) (mo n)) then w32 (Int.tdiv (hu n + mo n - 1) (mo n)) else b)) else some b) = some b' ∧ _
    by_cases c : 0 < hu n
    · rw [if_pos c]
      by_cases c2 : mo n ≤ 0
      · have : mo n = 0 := by omega
        rw [this, Int.mul_zero] at e1
        omega
      · rw [if_neg c2]
        have q1 : Int.tdiv (hu n + mo n - 1) (mo n) = (hu n + mo n - 1) / mo n := Int.tdiv_eq_ediv_of_nonneg (by omega)
        have q2 : (hu n + mo n - 1) / mo n < (p : Int) + 1 := Int.ediv_lt_of_lt_mul (by omega) (by rw [Int.add_mul]; omega)
        have q3 : 0 ≤ (hu n + mo n - 1) / mo n := Int.ediv_nonneg (by omega) (by omega)
        have q4 : w32 ((hu n + mo n - 1) / mo n) = (hu n + mo n - 1) / mo n := by
          unfold w32
          rw [Int.bmod_eq_of_le (by omega) (by omega)]
        rw [q1, q4]
        refine ⟨_, rfl, ?_, ?_⟩ <;> split <;> omega
    · rw [if_neg c]
      exact ⟨b, rfl, h2, h3⟩
theorem bd_ok (hD : LD k A) (hL : LN nm A) (hH : HT k A) (hm : m < 12) (hh : h < nkT k) (e : cAg A m h 0 0 0) : ∃ b, cPb A k m 8 = some b ∧ 0 ≤ b ∧ b ≤ ((dsN 6 (tb k h) : Nat) : Int) := by
  have hk := hD.2.1
  have he := en_at hk hh
  have hd := (hL.2.2.1 m hm).2.2.1
  rw [ag_0] at e
  refine pb_le (p := dsN 6 (tb k h)) he.2.1 (fun x hx => ?_)
  obtain ⟨e1, -⟩ := e x hx
  have h30 := hL.2.2.2 (m * 8 + x) (by omega)
  have hmo := maxN_bd (f := fun s => A.1 8 (s * 8 + x)) (B := 9) (by omega) (n := k) (fun i hi => (hD.2.2.1 (i * 8 + x) (by omega)).2.2)
  have h26 := (hH.2.2.2.2 h hh x hx).2
  have hg := hg_mo (k := k) (num := tb k h) (x := x) (w := A.1 8) (M := cMo A k x) hmo.1 hk (fun s hs => maxN_ge (f := fun s => A.1 8 (s * 8 + x)) hs)
  refine ⟨?_, ?_, hmo.1, hmo.2⟩
  · show A.1 30 (m * 8 + x) - A.1 29 m ≤ _
    omega
  · show A.1 30 (m * 8 + x) - A.1 29 m ≤ _
    omega
theorem cn_mono {q q' : Int} (hq : q ≤ q') {n : Nat} : cCnt A k m q n ≤ cCnt A k m q' n := sumN_le (fun i _ => by
  split
  · rename_i c
    rw [if_pos ⟨c.1, by omega⟩]
    exact Int.le_refl _
  · split <;> omega)
theorem cn_pos {q : Int} {n : Nat} (hh : h < n) (e : cEx A k m h = 0) (hq : 0 ≤ q) : 1 ≤ cCnt A k m q n := by
  have := sumN_one (f := fun h => if ¬ cEx A k m h = -9 ∧ prOf (A.1 9) (cEx A k m h) ≤ q then 1 else 0) (n := n) (fun i _ => by split <;> omega) hh
  have this : (if ¬ cEx A k m h = -9 ∧ prOf (A.1 9) (cEx A k m h) ≤ q then 1 else 0) ≤ cCnt A k m q n := this
  rw [if_pos ⟨by omega, by rw [e]; unfold prOf; rw [if_pos (by omega)]; exact hq⟩] at this
  exact this
theorem pr_of {pr : Nat → Int} {how : Int} (h : 0 < prOf pr how) : 10 ≤ how ∧ prOf pr how = if how < 20 then pr 3 else pr 4 := by
  unfold prOf at h ⊢
  split at h
  · omega
  · rename_i c
    rw [if_neg c]
    exact ⟨by omega, rfl⟩
end FLOOK
/-! who comes, goes -/
theorem dyS_congr {into K D A K' D' A' : Nat → Int} {d n : Nat} (h : ∀ e, e < n → K e = K' e ∧ D e = D' e ∧ A e = A' e) : ∀ e, e ≤ n → ∀ p, dyS into K D A d e p = dyS into K' D' A' d e p
  | 0, _, p => rfl
  | e + 1, he, p => by
    show (dyS into K D A d e p).bind _ = (dyS into K' D' A' d e p).bind _
    rw [dyS_congr h e (by omega) p]
    congr 1
    funext q
    obtain ⟨h1, h2, h3⟩ := h e (by omega)
    unfold evS
    rw [h1, h2, h3]
theorem toS_congr {into K D A K' D' A' : Nat → Int} {n : Nat} (h : ∀ e, e < n → K e = K' e ∧ D e = D' e ∧ A e = A' e) : ∀ d, toS into K D A n d = toS into K' D' A' n d
  | 0 => rfl
  | d + 1 => by
    show (toS into K D A n d).bind _ = (toS into K' D' A' n d).bind _
    rw [toS_congr h d]
    congr 1
    funext p
    exact dyS_congr h n (Nat.le_refl _) p
def hpK : Nat → Int := fun e => if e = 0 then 1 else 2
def hpD : Nat → Int := fun e => if e = 0 then 0 else if e = 1 then 3 else 5
theorem hp_0 (into K D A : Nat → Int) : hoN (toS into K D A 0 12) = 0 := rfl
theorem hp_1 (into : Nat → Int) : ∀ a : Nat, a < 3 → hoN (toS into hpK hpD (fun _ => (a : Int)) 1 1) = ((10 ^ a : Nat) : Int)
  | 0, _ => rfl
  | 1, _ => rfl
  | 2, _ => rfl
theorem hp_2 (into : Nat → Int) : ∀ a : Nat, a < 3 → hoN (toS into hpK hpD (fun _ => (a : Int)) 2 3) = ((10 ^ a : Nat) : Int) ∧ hoN (toS into hpK hpD (fun _ => (a : Int)) 2 4) = 0
  | 0, _ => ⟨rfl, rfl⟩
  | 1, _ => ⟨rfl, rfl⟩
  | 2, _ => ⟨rfl, rfl⟩
theorem hp_3 (into : Nat → Int) : ∀ a : Nat, a < 3 → hoN (toS into hpK hpD (fun _ => (a : Int)) 3 5) = 0 ∧ hoN (toS into hpK hpD (fun _ => (a : Int)) 3 6) = -9 ∧ hoN (toS into hpK hpD (fun _ => (a : Int)) 3 12) = -9
  | 0, _ => ⟨rfl, rfl, rfl⟩
  | 1, _ => ⟨rfl, rfl, rfl⟩
  | 2, _ => ⟨rfl, rfl, rfl⟩
