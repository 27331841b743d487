/-! WHAT IS TRUE OF STEPS, OF TALES -/
section FSTEP
variable {k : Nat} {into pr : Nat → Int} {D : Nat → Nat → Int}
theorem DI.self (hk : k ≤ 6) (hpr : ∀ i, i < 5 → 0 ≤ pr i ∧ pr i ≤ 9) (h : DI k into pr D) {a : Nat} (ha : a < nkT k) : D a a = 0 := by
  have h1 := (DI.bd hk hpr h ha ha).1
  have h2 := (h a ha).1 a ha
  have h3 : dlN a a = 0 := if_pos rfl
  omega
theorem DI.tri (hk : k ≤ 6) (hpr : ∀ i, i < 5 → 0 ≤ pr i ∧ pr i ≤ 9) (h : DI k into pr D) {a b c : Nat} (ha : a < nkT k) (hb : b < nkT k) (hc : c < nkT k) : D a b ≤ D a c + D c b := by
  have hbn : bnN (nkT k) (D a) := fun x hx => by
    have := DI.bd hk hpr h ha hx
    omega
  obtain ⟨-, c1, c2, c3, -⟩ := h a ha
  have hS : SP k (GP into) (pr 1) (pr 2) (pr 0) (D a) (D a) := ⟨fun x _ => Int.le_refl _, c1, c2, c3, fun x hx => ⟨x, x, x, 0, 0, 0, hx, rfl, rfl, rfl, by simp⟩⟩
  have e := spread_min h hbn hS hb
  have l : mnN 1000000 (nkT k) (fun g => D a g + D g b) ≤ D a c + D c b := mnN_lt (f := fun g => D a g + D g b) hc
  omega
theorem DI.up (hk : k ≤ 6) (hpr : ∀ i, i < 5 → 0 ≤ pr i ∧ pr i ≤ 9) (h : DI k into pr D) : ∀ (d : Nat) {b : Nat}, b < nkT k → dsN 6 (tb k b) = d → D 0 b ≤ (d : Int) * pr 0
  | 0, b, hb, hd => by
    have h0 : 0 < nkT k := by omega
    have e : tb k b = 0 := by
      have := (en_at hk hb).2.2.1
      rw [lw_zero hd] at this
      exact this.symm
    have : b = 0 := tb_inj hk hb h0 (by rw [e, tb_0 k (by omega)])
    subst this
    have := DI.self hk hpr h h0
    show D 0 0 ≤ (0 : Int) * pr 0
    omega
  | d + 1, b, hb, hd => by
    have h0 : 0 < nkT k := by omega
    obtain ⟨s, h1, h2⟩ := ds_pos (num := tb k b) (n := 6) (by omega)
    have hs : s < k := by
      rcases Nat.lt_or_ge s k with e | e
      · exact e
      · have := (en_at hk hb).2.2.2 s h1 e
        omega
    obtain ⟨g, hg⟩ := MM2.less hk hb hs h2
    have ih := DI.up hk hpr h d hg.2.1 (by have := hg.ds hk; omega)
    have c := (h 0 h0).2.2.2.1 g b hg.2.1 hb ⟨s, hg⟩
    rw [nsucc]
    omega
theorem DI.dn (hk : k ≤ 6) (hpr : ∀ i, i < 5 → 0 ≤ pr i ∧ pr i ≤ 9) (h : DI k into pr D) {b : Nat} (hb : b < nkT k) : ∀ (d : Nat) {x : Nat}, x < nkT k → dsN 6 (tb k x) = d → D b 0 ≤ D b x + (d : Int) * pr 1
  | 0, x, hx, hd => by
    have h0 : 0 < nkT k := by omega
    have e : tb k x = 0 := by
      have := (en_at hk hx).2.2.1
      rw [lw_zero hd] at this
      exact this.symm
    have : x = 0 := tb_inj hk hx h0 (by rw [e, tb_0 k (by omega)])
    subst this
    show D b 0 ≤ D b 0 + (0 : Int) * pr 1
    omega
  | d + 1, x, hx, hd => by
    obtain ⟨s, h1, h2⟩ := ds_pos (num := tb k x) (n := 6) (by omega)
    have hs : s < k := by
      rcases Nat.lt_or_ge s k with e | e
      · exact e
      · have := (en_at hk hx).2.2.2 s h1 e
        omega
    obtain ⟨g, hg⟩ := MM2.less hk hx hs h2
    have ih := DI.dn hk hpr h hb d hg.2.1 (by have := hg.ds hk; omega)
    have c := (h b hb).2.1 x g hx hg.2.1 ⟨s, hg⟩
    rw [nsucc]
    omega
end FSTEP
section FTALE
variable {F : Int} {N n : Nat} {D ex : Nat → Nat → Int}
theorem bs_nn (hF : 0 ≤ F) (hN : 0 < N) (hD : ∀ a b, a < N → b < N → 0 ≤ D a b) (he : ∀ m h, h < N → 0 ≤ ex m h) : 0 ≤ bsN F N n D ex := by
  unfold bsN
  split
  · exact Int.le_refl _
  · exact (mnN_bd hF (fun i hi => (ahN_bd hF hN hD he (n - 1) hi).1)).1
/-- what the first m Mondays of the first tale cost -/
def coN (F : Int) (N n : Nat) (D ex : Nat → Nat → Int) : Nat → Int
  | 0 => 0
  | m + 1 => coN F N n D ex m + (D (if m = 0 then 0 else frM F N n D ex (m - 1)) (frM F N n D ex m) + ex m (frM F N n D ex m))
/-- a household of a plain tale: its costs -/
theorem pl_ah (hF : 0 ≤ F) (hD : ∀ a b, a < N → b < N → 0 ≤ D a b) (he : ∀ m h, h < N → 0 ≤ ex m h) (ht : bsN F N n D ex < F) {m h : Nat} (hh : h < N) (hp : plM F N n D ex m h = true) : ahN F N D ex m h < F := by
  have e : ctM F N n D ex m h = bsN F N n D ex := of_decide_eq_true hp
  have := (bkN_bd (n := n) hF hD he (n - 1 - m) hh).1
  unfold ctM at e
  omega
theorem fr_ex (hF : 0 ≤ F) (hN : 0 < N) (hD : ∀ a b, a < N → b < N → 0 ≤ D a b) (he : ∀ m h, h < N → 0 ≤ ex m h) (ht : bsN F N n D ex < F) : ∀ {m : Nat}, m < n → ex m (frM F N n D ex m) < F ∧ coN F N n D ex (m + 1) = ahN F N D ex m (frM F N n D ex m)
  | 0, hm => by
    obtain ⟨f1, f2⟩ := frM_ok hF hN hD he ht hm
    have h1 := pl_ah hF hD he ht f1 f2
    have h2 := hD 0 (frM F N n D ex 0) hN f1
    have h3 := he 0 (frM F N n D ex 0) f1
    have e : ahN F N D ex 0 (frM F N n D ex 0) = miN F (D 0 (frM F N n D ex 0) + ex 0 (frM F N n D ex 0)) := rfl
    have c : coN F N n D ex 1 = 0 + (D 0 (frM F N n D ex 0) + ex 0 (frM F N n D ex 0)) := rfl
    rw [e] at h1 ⊢
    rw [c]
    unfold miN at h1 ⊢
    split at h1
    · omega
    · rename_i q
      rw [if_neg q]
      omega
  | m + 1, hm => by
    obtain ⟨i1, i2⟩ := fr_ex hF hN hD he ht (show m < n by omega)
    obtain ⟨f1, f2⟩ := frM_ok hF hN hD he ht (show m < n by omega)
    obtain ⟨g1, g2⟩ := frM_ok hF hN hD he ht hm
    have h1 := pl_ah hF hD he ht g1 g2
    have h2 := hD (frM F N n D ex m) (frM F N n D ex (m + 1)) f1 g1
    have h3 := (ahN_bd hF hN hD he m f1).1
    have hf := frM_pf hF hN hD he ht hm
    unfold PFM at hf
    rw [Bool.and_eq_true, Bool.or_eq_true] at hf
    have hf := hf.2.resolve_left (by simp)
    rw [show m + 1 - 1 = m by omega] at hf
    have hf : ahN F N D ex m (frM F N n D ex m) + D (frM F N n D ex m) (frM F N n D ex (m + 1)) + ex (m + 1) (frM F N n D ex (m + 1)) = ahN F N D ex (m + 1) (frM F N n D ex (m + 1)) := of_decide_eq_true hf
    refine ⟨by omega, ?_⟩
    have c : coN F N n D ex (m + 1 + 1) = coN F N n D ex (m + 1) + (D (if m + 1 = 0 then 0 else frM F N n D ex (m + 1 - 1)) (frM F N n D ex (m + 1)) + ex (m + 1) (frM F N n D ex (m + 1))) := rfl
    rw [c, if_neg (by omega), show m + 1 - 1 = m by omega, i2]
    omega
theorem co_end (hF : 0 ≤ F) (hN : 0 < N) (hD : ∀ a b, a < N → b < N → 0 ≤ D a b) (he : ∀ m h, h < N → 0 ≤ ex m h) (ht : bsN F N n D ex < F) (hn : 0 < n) : coN F N n D ex n = bsN F N n D ex := by
  have h1 := (fr_ex hF hN hD he ht (show n - 1 < n by omega)).2
  have h2 := (frM_ok hF hN hD he ht (show n - 1 < n by omega)).2
  have h3 : ctM F N n D ex (n - 1) (frM F N n D ex (n - 1)) = bsN F N n D ex := of_decide_eq_true h2
  unfold ctM at h3
  rw [show n - 1 - (n - 1) = 0 by omega] at h3
  have h3 : ahN F N D ex (n - 1) (frM F N n D ex (n - 1)) + 0 = bsN F N n D ex := h3
  have e : coN F N n D ex n = coN F N n D ex (n - 1 + 1) := congrArg _ (by omega)
  rw [e, h1]
  omega
theorem fr_ct (hF : 0 ≤ F) (hN : 0 < N) (hD : ∀ a b, a < N → b < N → 0 ≤ D a b) (he : ∀ m h, h < N → 0 ≤ ex m h) (ht : bsN F N n D ex < F) {m : Nat} (hm : m < n) : ctM F N n D ex m (frM F N n D ex m) = bsN F N n D ex := of_decide_eq_true (frM_ok hF hN hD he ht hm).2
theorem rvI_ne {sk : Nat} {f : Nat → Int} : ∀ (m : Nat) {h : Nat}, rvI F sk f m = (h : Int) → h ≠ sk
  | 0, h, e => by
    have e : (-1 : Int) = (h : Int) := e
    omega
  | m + 1, h, e => by
    rw [rvI_s] at e
    split at e
    · rename_i c
      have : m = h := by omega
      rw [← this]
      exact c.1
    · exact rvI_ne m e
/-- costs rest on the Mondays ahead -/
theorem ah_c {ex' : Nat → Nat → Int} : ∀ (m : Nat), (∀ q, q ≤ m → ∀ h, ex q h = ex' q h) → ∀ h, ahN F N D ex m h = ahN F N D ex' m h
  | 0, e, h => by
    show miN F (D 0 h + ex 0 h) = miN F (D 0 h + ex' 0 h)
    rw [e 0 (Nat.le_refl _) h]
  | m + 1, e, h => by
    show miN F (mnN F N (fun g => ahN F N D ex m g + D g h) + ex (m + 1) h) = miN F (mnN F N (fun g => ahN F N D ex' m g + D g h) + ex' (m + 1) h)
    rw [e (m + 1) (Nat.le_refl _) h, mnN_congr (fun g _ => by rw [ah_c m (fun q hq => e q (by omega)) g])]
theorem bs_c {ex' : Nat → Nat → Int} (e : ∀ q, q < n → ∀ h, ex q h = ex' q h) : bsN F N n D ex = bsN F N n D ex' := by
  unfold bsN
  by_cases hn : n = 0
  · rw [if_pos hn, if_pos hn]
  · rw [if_neg hn, if_neg hn]
    exact mnN_congr (fun g _ => ah_c (n - 1) (fun q hq => e q (by omega)) g)
/-- a Monday more costs no less -/
theorem bs_more (hF : 0 ≤ F) (hD : ∀ a b, a < N → b < N → 0 ≤ D a b) (he : ∀ m h, h < N → 0 ≤ ex m h) (hn : 0 < n) : bsN F N n D ex ≤ bsN F N (n + 1) D ex := by
  obtain ⟨d, rfl⟩ : ∃ d, n = d + 1 := ⟨n - 1, by omega⟩
  unfold bsN
  rw [if_neg (by omega), if_neg (by omega), show d + 1 - 1 = d by omega, show d + 1 + 1 - 1 = d + 1 by omega]
  have hle := mnN_le (F := F) (f := ahN F N D ex d) N
  rcases mnN_or (F := F) (f := ahN F N D ex (d + 1)) N with e | ⟨i, h1, h2⟩
  · omega
  · rw [h2]
    show _ ≤ miN F (mnN F N (fun g => ahN F N D ex d g + D g i) + ex (d + 1) i)
    have h3 := he (d + 1) i h1
    have h4 : mnN F N (ahN F N D ex d) ≤ mnN F N (fun g => ahN F N D ex d g + D g i) := by
      rcases mnN_or (F := F) (f := fun g => ahN F N D ex d g + D g i) N with e | ⟨g, g1, g2⟩
      · omega
      · rw [g2]
        have := mnN_lt (F := F) (f := ahN F N D ex d) g1
        have := hD g i g1 h1
        show _ ≤ ahN F N D ex d g + D g i
        omega
    unfold miN
    split <;> omega
end FTALE
/-! least and most of those that there are -/
theorem foMn {b : Int} {p : Nat → Bool} {f : Nat → Int} : ∀ {n : Nat}, (∀ h, h < n → p h = true → foQ mnS b p n f ≤ f h) ∧ (foQ mnS b p n f = b ∨ ∃ h, h < n ∧ p h = true ∧ foQ mnS b p n f = f h) ∧ foQ mnS b p n f ≤ b
  | 0 => ⟨fun h hh => absurd hh (Nat.not_lt_zero _), Or.inl rfl, Int.le_refl _⟩
  | n + 1 => by
    obtain ⟨i1, i2, i3⟩ := foMn (b := b) (p := p) (f := f) (n := n)
    show (∀ h, h < n + 1 → p h = true → (if p n then mnS (foQ mnS b p n f) (f n) else foQ mnS b p n f) ≤ f h) ∧ ((if p n then mnS (foQ mnS b p n f) (f n) else foQ mnS b p n f) = b ∨ ∃ h, h < n + 1 ∧ p h = true ∧ (if p n then mnS (foQ mnS b p n f) (f n) else foQ mnS b p n f) = f h) ∧ (if p n then mnS (foQ mnS b p n f) (f n) else foQ mnS b p n f) ≤ b
    by_cases e : p n = true
    · rw [if_pos e]
      rw [show mnS (foQ mnS b p n f) (f n) = if f n < foQ mnS b p n f then f n else foQ mnS b p n f from rfl]
      refine ⟨fun h hh hp => ?_, ?_, by split <;> omega⟩
      · by_cases e2 : h = n
        · subst e2
          split <;> omega
        · have := i1 h (by omega) hp
          split <;> omega
      · split
        · exact Or.inr ⟨n, by omega, e, rfl⟩
        · rcases i2 with i2 | ⟨h, h1, h2, h3⟩
          · exact Or.inl i2
          · exact Or.inr ⟨h, by omega, h2, h3⟩
    · rw [if_neg e]
      refine ⟨fun h hh hp => ?_, ?_, i3⟩
      · by_cases e2 : h = n
        · subst e2
          exact absurd hp e
        · exact i1 h (by omega) hp
      · rcases i2 with i2 | ⟨h, h1, h2, h3⟩
        · exact Or.inl i2
        · exact Or.inr ⟨h, by omega, h2, h3⟩
theorem foMx {b : Int} {p : Nat → Bool} {f : Nat → Int} : ∀ {n : Nat}, (∀ h, h < n → p h = true → f h ≤ foQ mxS b p n f) ∧ (foQ mxS b p n f = b ∨ ∃ h, h < n ∧ p h = true ∧ foQ mxS b p n f = f h) ∧ b ≤ foQ mxS b p n f
  | 0 => ⟨fun h hh => absurd hh (Nat.not_lt_zero _), Or.inl rfl, Int.le_refl _⟩
  | n + 1 => by
    obtain ⟨i1, i2, i3⟩ := foMx (b := b) (p := p) (f := f) (n := n)
    show (∀ h, h < n + 1 → p h = true → f h ≤ (if p n then mxS (foQ mxS b p n f) (f n) else foQ mxS b p n f)) ∧ ((if p n then mxS (foQ mxS b p n f) (f n) else foQ mxS b p n f) = b ∨ ∃ h, h < n + 1 ∧ p h = true ∧ (if p n then mxS (foQ mxS b p n f) (f n) else foQ mxS b p n f) = f h) ∧ b ≤ (if p n then mxS (foQ mxS b p n f) (f n) else foQ mxS b p n f)
    by_cases e : p n = true
    · rw [if_pos e]
      rw [show mxS (foQ mxS b p n f) (f n) = if foQ mxS b p n f < f n then f n else foQ mxS b p n f from rfl]
      refine ⟨fun h hh hp => ?_, ?_, by split <;> omega⟩
      · by_cases e2 : h = n
        · subst e2
          split <;> omega
        · have := i1 h (by omega) hp
          split <;> omega
      · split
        · exact Or.inr ⟨n, by omega, e, rfl⟩
        · rcases i2 with i2 | ⟨h, h1, h2, h3⟩
          · exact Or.inl i2
          · exact Or.inr ⟨h, by omega, h2, h3⟩
    · rw [if_neg e]
      refine ⟨fun h hh hp => ?_, ?_, i3⟩
      · by_cases e2 : h = n
        · subst e2
          exact absurd hp e
        · exact i1 h (by omega) hp
      · rcases i2 with i2 | ⟨h, h1, h2, h3⟩
        · exact Or.inl i2
        · exact Or.inr ⟨h, by omega, h2, h3⟩
/-! the parts of tales -/
section FSHARE
variable {k nm m s : Nat} {D ex : Nat → Nat → Int}
theorem hv_nn {w : Int} : 0 ≤ hvM k nm m s D ex w := sumN_nn (fun h _ => by
  split
  · exact pr_nn
  · exact Int.le_refl _)
theorem hv_pos (T : TH 1000000 (nkT k) nm D ex) (hm : m < nm) {h : Nat} (hh : h < nkT k) (hp : plM 1000000 (nkT k) nm D ex m h = true) {w : Int} (hw : ((dg (tb k h) s : Nat) : Int) = w) : 1 ≤ hvM k nm m s D ex w := by
  have h1 := to_pos T hm hh hp
  have h2 := on_pos T hm rfl hh hp
  have h3 : toM 1000000 (nkT k) nm D ex m h ≤ toM 1000000 (nkT k) nm D ex m h * onM 1000000 (nkT k) nm D ex (nm - 1 - m) h := to_le_pr T hm hh
  have h4 := sumN_one (f := fun h => if ((dg (tb k h) s : Nat) : Int) = w then toM 1000000 (nkT k) nm D ex m h * onM 1000000 (nkT k) nm D ex (nm - 1 - m) h else 0) (n := nkT k) (fun i _ => by
    split
    · exact pr_nn
    · exact Int.le_refl _) hh
  have h4 : (if ((dg (tb k h) s : Nat) : Int) = w then toM 1000000 (nkT k) nm D ex m h * onM 1000000 (nkT k) nm D ex (nm - 1 - m) h else 0) ≤ hvM k nm m s D ex w := h4
  rw [if_pos hw] at h4
  omega
theorem sumN_pos {f : Nat → Int} : ∀ {n : Nat}, 0 < sumN n f → ∃ i, i < n ∧ 0 < f i
  | 0, h => by
    have h : (0 : Int) < 0 := h
    omega
  | n + 1, h => by
    rw [sumN_s] at h
    by_cases e : 0 < f n
    · exact ⟨n, by omega, e⟩
    · obtain ⟨i, h1, h2⟩ := sumN_pos (f := f) (n := n) (by omega)
      exact ⟨i, by omega, h2⟩
theorem hv_some {w : Int} (h : 0 < hvM k nm m s D ex w) : ∃ x, x < nkT k ∧ plM 1000000 (nkT k) nm D ex m x = true ∧ ((dg (tb k x) s : Nat) : Int) = w := by
  obtain ⟨x, h1, h2⟩ := sumN_pos h
  have h2 : 0 < (if ((dg (tb k x) s : Nat) : Int) = w then toM 1000000 (nkT k) nm D ex m x * onM 1000000 (nkT k) nm D ex (nm - 1 - m) x else 0) := h2
  split at h2
  · rename_i e
    refine ⟨x, h1, ?_, e⟩
    cases hp : plM 1000000 (nkT k) nm D ex m x with
    | true => rfl
    | false =>
      rw [to_z hp, Int.zero_mul] at h2
      omega
  · omega
/-- all parts together are all -/
theorem hv_all (hk : k ≤ 6) (hs : s < 6) (hm : m < nm) : sumN 6 (fun v => hvM k nm m s D ex (v : Int)) = wyM 1000000 (nkT k) nm D ex := by
  rw [← to_on hm]
  show sumN 6 (fun v => sumN (nkT k) (fun h => if ((dg (tb k h) s : Nat) : Int) = (v : Int) then toM 1000000 (nkT k) nm D ex m h * onM 1000000 (nkT k) nm D ex (nm - 1 - m) h else 0)) = _
  rw [sumN_swap]
  refine sumN_congr (fun h hh => ?_)
  have h5 : dg (tb k h) s ≤ 5 := by
    have h1 := dsN_le (num := tb k h) (s := s + 1) (by omega)
    have h2 : dsN (s + 1) (tb k h) = dsN s (tb k h) + dg (tb k h) s := rfl
    have h3 := (en_at hk hh).2.1
    omega
  generalize toM 1000000 (nkT k) nm D ex m h * onM 1000000 (nkT k) nm D ex (nm - 1 - m) h = z
  generalize dg (tb k h) s = d at h5
  have q : ∀ v, ((d : Int) = (v : Nat)) = (d = v) := fun v => propext ⟨fun e => by omega, fun e => by rw [e]⟩
  show (((((((0 : Int) + _) + _) + _) + _) + _) + _) = z
  rcases (show d = 0 ∨ d = 1 ∨ d = 2 ∨ d = 3 ∨ d = 4 ∨ d = 5 by omega) with rfl | rfl | rfl | rfl | rfl | rfl <;> simp
end FSHARE
