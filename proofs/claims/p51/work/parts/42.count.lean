/-! TALES COUNTED -/
theorem sumN_s {n : Nat} {f : Nat → Int} : sumN (n + 1) f = sumN n f + f n := rfl
theorem sumN_nn {f : Nat → Int} : ∀ {n : Nat}, (∀ i, i < n → 0 ≤ f i) → 0 ≤ sumN n f
  | 0, _ => Int.le_refl _
  | n + 1, h => by
    have h1 := sumN_nn (n := n) (fun i hi => h i (by omega))
    have h2 := h n (by omega)
    rw [sumN_s]
    omega
theorem sumN_one {f : Nat → Int} : ∀ {n i : Nat}, (∀ i, i < n → 0 ≤ f i) → i < n → f i ≤ sumN n f
  | 0, i, _, hi => absurd hi (Nat.not_lt_zero _)
  | n + 1, i, h, hi => by
    have h2 := h n (by omega)
    rw [sumN_s]
    by_cases e : i = n
    · subst e
      have h1 := sumN_nn (n := i) (fun i hi => h i (by omega))
      omega
    · have := sumN_one (n := n) (i := i) (fun i hi => h i (by omega)) (by omega)
      omega
theorem sumN_le {f g : Nat → Int} : ∀ {n : Nat}, (∀ i, i < n → f i ≤ g i) → sumN n f ≤ sumN n g
  | 0, _ => Int.le_refl _
  | n + 1, h => by
    have h1 := sumN_le (n := n) (fun i hi => h i (by omega))
    have h2 := h n (by omega)
    rw [sumN_s, sumN_s]
    omega
theorem sumN_le_n {f : Nat → Int} : ∀ {m n : Nat}, (∀ i, i < n → 0 ≤ f i) → m ≤ n → sumN m f ≤ sumN n f
  | m, 0, _, h => by rw [show m = 0 by omega]; exact Int.le_refl _
  | m, n + 1, hf, h => by
    by_cases e : m = n + 1
    · rw [e]
      exact Int.le_refl _
    · have := sumN_le_n (m := m) (n := n) (fun i hi => hf i (by omega)) (by omega)
      have := hf n (by omega)
      rw [sumN_s]
      omega
theorem sumN_mul {f : Nat → Int} {c : Int} : ∀ {n : Nat}, sumN n f * c = sumN n (fun i => f i * c)
  | 0 => Int.zero_mul _
  | n + 1 => by rw [sumN_s, sumN_s, Int.add_mul, sumN_mul]
theorem sumN_mulL {f : Nat → Int} {c : Int} : ∀ {n : Nat}, c * sumN n f = sumN n (fun i => c * f i)
  | 0 => Int.mul_zero _
  | n + 1 => by rw [sumN_s, sumN_s, Int.mul_add, sumN_mulL]
theorem sumN_add {f g : Nat → Int} : ∀ {n : Nat}, sumN n (fun i => f i + g i) = sumN n f + sumN n g
  | 0 => rfl
  | n + 1 => by
    rw [sumN_s, sumN_s, sumN_s, sumN_add]
    omega
theorem sumN_zero : ∀ {n : Nat}, sumN n (fun _ => 0) = 0
  | 0 => rfl
  | n + 1 => by rw [sumN_s, sumN_zero]; rfl
theorem sumN_swap {f : Nat → Nat → Int} {M : Nat} : ∀ {n : Nat}, sumN n (fun a => sumN M (fun b => f a b)) = sumN M (fun b => sumN n (fun a => f a b))
  | 0 => sumN_zero.symm
  | n + 1 => by
    rw [sumN_s, sumN_swap, ← sumN_add]
    rfl
section COUNT
variable {F : Int} {N n : Nat} {D ex : Nat → Nat → Int}
/-- in how many ways up to a household of a Monday -/
def toM (F : Int) (N n : Nat) (D ex : Nat → Nat → Int) : Nat → Nat → Int
  | 0, h => if plM F N n D ex 0 h then 1 else 0
  | m + 1, h => if plM F N n D ex (m + 1) h then sumN N (fun g => if foM F N D ex m g h then toM F N n D ex m g else 0) else 0
/-- in how many ways on from it, j Mondays ahead of the last one -/
def onM (F : Int) (N n : Nat) (D ex : Nat → Nat → Int) : Nat → Nat → Int
  | 0, h => if plM F N n D ex (n - 1) h then 1 else 0
  | j + 1, h => if plM F N n D ex (n - 1 - (j + 1)) h then sumN N (fun g => if foM F N D ex (n - 1 - (j + 1)) h g then onM F N n D ex j g else 0) else 0
def wyM (F : Int) (N n : Nat) (D ex : Nat → Nat → Int) : Int := if n = 0 then 1 else sumN N (fun h => onM F N n D ex (n - 1) h)
/-- what tales want -/
def TH (F : Int) (N n : Nat) (D ex : Nat → Nat → Int) : Prop := 0 ≤ F ∧ 0 < N ∧ (∀ a b, a < N → b < N → 0 ≤ D a b) ∧ (∀ m h, h < N → 0 ≤ ex m h) ∧ bsN F N n D ex < F
theorem to_nn : ∀ (m : Nat) {h : Nat}, 0 ≤ toM F N n D ex m h
  | 0, h => by
    unfold toM
    split <;> omega
  | m + 1, h => by
    unfold toM
    split
    · refine sumN_nn (fun g _ => ?_)
      split
      · exact to_nn m
      · exact Int.le_refl _
    · exact Int.le_refl _
theorem on_nn : ∀ (j : Nat) {h : Nat}, 0 ≤ onM F N n D ex j h
  | 0, h => by
    unfold onM
    split <;> omega
  | m + 1, h => by
    unfold onM
    split
    · refine sumN_nn (fun g _ => ?_)
      split
      · exact on_nn m
      · exact Int.le_refl _
    · exact Int.le_refl _
theorem to_z : ∀ {m h : Nat}, plM F N n D ex m h = false → toM F N n D ex m h = 0
  | 0, h, hp => by unfold toM; rw [hp]; rfl
  | m + 1, h, hp => by unfold toM; rw [hp]; rfl
theorem on_z : ∀ {j h : Nat}, plM F N n D ex (n - 1 - j) h = false → onM F N n D ex j h = 0
  | 0, h, hp => by unfold onM; rw [show n - 1 = n - 1 - 0 by omega, hp]; rfl
  | m + 1, h, hp => by unfold onM; rw [hp]; rfl
theorem on_zz {m h : Nat} (hm : m < n) (hp : plM F N n D ex m h = false) : onM F N n D ex (n - 1 - m) h = 0 := on_z (by rw [show n - 1 - (n - 1 - m) = m by omega]; exact hp)
theorem on_pos (T : TH F N n D ex) : ∀ {j m h : Nat}, m < n → j = n - 1 - m → h < N → plM F N n D ex m h = true → 1 ≤ onM F N n D ex j h
  | 0, m, h, hm, hj, hh, hp => by
    unfold onM
    rw [show n - 1 = m by omega, hp]
    exact Int.le_refl _
  | j + 1, m, h, hm, hj, hh, hp => by
    obtain ⟨t1, t2, t3, t4, t5⟩ := T
    obtain ⟨g, g1, g2, g3⟩ := first_s t1 t2 t3 t4 (by omega) t5 (show m + 1 < n by omega) hh hp
    have ih := on_pos ⟨t1, t2, t3, t4, t5⟩ (j := j) (m := m + 1) (h := g) (by omega) (by omega) g1 g2
    unfold onM
    rw [show n - 1 - (j + 1) = m by omega, hp, if_pos rfl]
    have h1 := sumN_one (n := N) (i := g) (f := fun g => if foM F N D ex m h g then onM F N n D ex j g else 0) (fun i _ => by
      split
      · exact on_nn j
      · exact Int.le_refl _) g1
    rw [if_pos g3] at h1
    omega
theorem pred_s (T : TH F N n D ex) {m h : Nat} (hm : m + 1 < n) (h1 : h < N) (hp : plM F N n D ex (m + 1) h = true) : ∃ g, g < N ∧ plM F N n D ex m g = true ∧ foM F N D ex m g h = true := by
  obtain ⟨hF, hN, hD, he, ht⟩ := T
  have h2 := of_decide_eq_true hp
  unfold ctM at h2
  have hb := (bkN_bd (n := n) hF hD he (n - 1 - (m + 1)) h1).1
  have hahF : ahN F N D ex (m + 1) h < F := by omega
  have hah : ahN F N D ex (m + 1) h = mnN F N (fun g => ahN F N D ex m g + D g h) + ex (m + 1) h := by
    have : ahN F N D ex (m + 1) h = miN F (mnN F N (fun g => ahN F N D ex m g + D g h) + ex (m + 1) h) := rfl
    rw [this] at hahF ⊢
    unfold miN at hahF ⊢
    split at hahF
    · rename_i hc
      rw [if_pos hc]
    · omega
  have hx := he (m + 1) h h1
  rcases mnN_or (F := F) (f := fun g => ahN F N D ex m g + D g h) N with q | ⟨g, q1, q2⟩
  · omega
  · have q2 : mnN F N (fun g => ahN F N D ex m g + D g h) = ahN F N D ex m g + D g h := q2
    refine ⟨g, q1, decide_eq_true ?_, decide_eq_true (by omega)⟩
    have lb := tale_lb hF hN hD he (by omega) (n - 1 - m) (m := m) (h := g) rfl (by omega) q1
    have d := hD g h q1 h1
    have hag := (ahN_bd hF hN hD he m q1).1
    have ub : bkN F N n D ex (n - 1 - m) g ≤ miN F (bkN F N n D ex (n - 1 - (m + 1)) h + ex (m + 1) h) + D g h := by
      rw [bk_at hF hm]
      exact mnN_lt (f := fun g' => miN F (bkN F N n D ex (n - 1 - (m + 1)) g' + ex (m + 1) g') + D g g') h1
    have hmi : miN F (bkN F N n D ex (n - 1 - (m + 1)) h + ex (m + 1) h) ≤ bkN F N n D ex (n - 1 - (m + 1)) h + ex (m + 1) h := by
      unfold miN
      split <;> omega
    unfold ctM at lb ⊢
    omega
theorem to_pos (T : TH F N n D ex) : ∀ {m h : Nat}, m < n → h < N → plM F N n D ex m h = true → 1 ≤ toM F N n D ex m h
  | 0, h, hm, hh, hp => by
    unfold toM
    rw [hp]
    exact Int.le_refl _
  | m + 1, h, hm, hh, hp => by
    obtain ⟨g, g1, g2, g3⟩ := pred_s T hm hh hp
    have ih := to_pos T (m := m) (h := g) (by omega) g1 g2
    unfold toM
    rw [hp, if_pos rfl]
    have h1 := sumN_one (n := N) (i := g) (f := fun g => if foM F N D ex m g h then toM F N n D ex m g else 0) (fun i _ => by
      split
      · exact to_nn m
      · exact Int.le_refl _) g1
    rw [if_pos g3] at h1
    omega
theorem to_on : ∀ {m : Nat}, m < n → sumN N (fun h => toM F N n D ex m h * onM F N n D ex (n - 1 - m) h) = wyM F N n D ex
  | 0, hm => by
    unfold wyM
    rw [if_neg (by omega)]
    refine sumN_congr (fun h _ => ?_)
    show toM F N n D ex 0 h * _ = _
    cases hp : plM F N n D ex 0 h with
    | false =>
      rw [on_z (j := n - 1) (by rw [show n - 1 - (n - 1) = 0 by omega]; exact hp), to_z hp]
      exact Int.zero_mul _
    | true =>
      have : toM F N n D ex 0 h = 1 := by unfold toM; rw [hp]; rfl
      rw [this, Int.one_mul]
      rfl
  | m + 1, hm => by
    rw [← to_on (m := m) (by omega)]
    have e1 : ∀ h, toM F N n D ex (m + 1) h * onM F N n D ex (n - 1 - (m + 1)) h = sumN N (fun g => (if foM F N D ex m g h then toM F N n D ex m g else 0) * onM F N n D ex (n - 1 - (m + 1)) h) := by
      intro h
      rw [← sumN_mul]
      cases hp : plM F N n D ex (m + 1) h with
      | false => rw [on_zz hm hp, Int.mul_zero, Int.mul_zero]
      | true =>
        have : toM F N n D ex (m + 1) h = sumN N (fun g => if foM F N D ex m g h then toM F N n D ex m g else 0) := by
          show (if plM F N n D ex (m + 1) h then _ else _) = _
          rw [hp]
          rfl
        rw [this]
    have e2 : ∀ g, toM F N n D ex m g * onM F N n D ex (n - 1 - m) g = sumN N (fun h => toM F N n D ex m g * (if foM F N D ex m g h then onM F N n D ex (n - 1 - (m + 1)) h else 0)) := by
      intro g
      rw [← sumN_mulL]
      cases hp : plM F N n D ex m g with
      | false => rw [to_z hp, Int.zero_mul, Int.zero_mul]
      | true =>
        have : onM F N n D ex (n - 1 - m) g = sumN N (fun h => if foM F N D ex m g h then onM F N n D ex (n - 1 - (m + 1)) h else 0) := by
          rw [show n - 1 - m = (n - 1 - (m + 1)) + 1 by omega]
          show (if plM F N n D ex (n - 1 - ((n - 1 - (m + 1)) + 1)) g then _ else _) = _
          rw [show n - 1 - ((n - 1 - (m + 1)) + 1) = m by omega, hp]
          rfl
        rw [this]
    rw [sumN_congr (fun h _ => e1 h), sumN_congr (fun g _ => e2 g), sumN_swap]
    refine sumN_congr (fun g _ => sumN_congr (fun h _ => ?_))
    cases foM F N D ex m g h with
    | false =>
      show 0 * _ = _ * 0
      rw [Int.zero_mul, Int.mul_zero]
    | true => rfl
theorem to_last (hn : 0 < n) : sumN N (fun h => toM F N n D ex (n - 1) h) = wyM F N n D ex := by
  rw [← to_on (m := n - 1) (by omega)]
  refine sumN_congr (fun h _ => ?_)
  rw [show n - 1 - (n - 1) = 0 by omega]
  cases hp : plM F N n D ex (n - 1) h with
  | false => rw [to_z hp, Int.zero_mul]
  | true =>
    have : onM F N n D ex 0 h = 1 := by unfold onM; rw [hp]; rfl
    rw [this, Int.mul_one]
theorem to_le_pr (T : TH F N n D ex) {m h : Nat} (hm : m < n) (hh : h < N) : toM F N n D ex m h ≤ toM F N n D ex m h * onM F N n D ex (n - 1 - m) h := by
  cases hp : plM F N n D ex m h with
  | false => rw [to_z hp, Int.zero_mul]; exact Int.le_refl _
  | true =>
    have h1 := on_pos T hm rfl hh hp
    have h2 := to_nn (F := F) (N := N) (n := n) (D := D) (ex := ex) m (h := h)
    have := Int.mul_le_mul_of_nonneg_left h1 h2
    rw [Int.mul_one] at this
    exact this
theorem on_le_pr (T : TH F N n D ex) {m h : Nat} (hm : m < n) (hh : h < N) : onM F N n D ex (n - 1 - m) h ≤ toM F N n D ex m h * onM F N n D ex (n - 1 - m) h := by
  cases hp : plM F N n D ex m h with
  | false => rw [on_zz hm hp, Int.mul_zero]; exact Int.le_refl _
  | true =>
    have h1 := to_pos T hm hh hp
    have h2 := on_nn (F := F) (N := N) (n := n) (D := D) (ex := ex) (n - 1 - m) (h := h)
    have := Int.mul_le_mul_of_nonneg_right h1 h2
    rw [Int.one_mul] at this
    exact this
theorem pr_nn {m h : Nat} : 0 ≤ toM F N n D ex m h * onM F N n D ex (n - 1 - m) h := Int.mul_nonneg (to_nn m) (on_nn _)
theorem pr_le {m h : Nat} (hm : m < n) (hh : h < N) : toM F N n D ex m h * onM F N n D ex (n - 1 - m) h ≤ wyM F N n D ex := by
  rw [← to_on hm]
  exact sumN_one (n := N) (i := h) (f := fun h => toM F N n D ex m h * onM F N n D ex (n - 1 - m) h) (fun i _ => pr_nn) hh
theorem to_le (T : TH F N n D ex) {m h : Nat} (hm : m < n) (hh : h < N) : toM F N n D ex m h ≤ wyM F N n D ex := Int.le_trans (to_le_pr T hm hh) (pr_le hm hh)
theorem on_le (T : TH F N n D ex) {m h : Nat} (hm : m < n) (hh : h < N) : onM F N n D ex (n - 1 - m) h ≤ wyM F N n D ex := Int.le_trans (on_le_pr T hm hh) (pr_le hm hh)
theorem to_sum (T : TH F N n D ex) {m : Nat} (hm : m < n) : sumN N (fun h => toM F N n D ex m h) ≤ wyM F N n D ex := by
  rw [← to_on hm]
  exact sumN_le (fun h hh => to_le_pr T hm hh)
theorem wy_nn : 0 ≤ wyM F N n D ex := by
  unfold wyM
  split
  · decide
  · exact sumN_nn (fun h _ => on_nn _)
end COUNT
/-- no more than a number -/
def cpM (C x : Int) : Int := if C < x then C else x
theorem cpM_add {C a b : Int} (ha : 0 ≤ a) (hb : 0 ≤ b) (hC : 0 ≤ C) : cpM C (cpM C a + cpM C b) = cpM C (a + b) := by
  unfold cpM
  by_cases h1 : C < a <;> by_cases h2 : C < b <;> by_cases h3 : C < a + b <;> simp only [h1, h2, h3, if_true, if_false] <;> split <;> omega
theorem cpM_bd {C a : Int} (ha : 0 ≤ a) (hC : 0 ≤ C) : 0 ≤ cpM C a ∧ cpM C a ≤ C := by
  unfold cpM
  split <;> omega
theorem cpM_0 {C : Int} (hC : 0 ≤ C) : cpM C 0 = 0 := by
  unfold cpM
  split <;> omega
theorem cpM_eq {C a : Int} (h : a ≤ C) : cpM C a = a := by
  unfold cpM
  split <;> omega
