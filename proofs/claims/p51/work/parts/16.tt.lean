/-! THE SMALL MACHINE COMES TO AN END: rows, one an instruction. Fewer locals do no harm. -/
def lin (a : Nat) : am_Lc → Bool
  | [] => false
  | q :: r => (q.1 == a) || lin a r
def lwf : am_Lc → Bool
  | [] => true
  | q :: r => !(lin q.1 r) && lwf r
theorem lget_lin {a : Nat} : ∀ {l : am_Lc}, lin a l = false → lget l a = none
  | [], _ => rfl
  | q :: r, h => by
    unfold lin at h
    rw [Bool.or_eq_false_iff] at h
    unfold lget
    rw [if_neg (by simpa using h.1)]
    exact lget_lin h.2
theorem lin_filter {p : Nat × am_V → Bool} {a : Nat} : ∀ {l : am_Lc}, lin a l = false → lin a (l.filter p) = false
  | [], _ => rfl
  | q :: r, h => by
    unfold lin at h
    rw [Bool.or_eq_false_iff] at h
    rw [List.filter_cons]
    split
    · unfold lin
      rw [Bool.or_eq_false_iff]
      exact ⟨h.1, lin_filter h.2⟩
    · exact lin_filter h.2
theorem lwf_filter {p : Nat × am_V → Bool} : ∀ {l : am_Lc}, lwf l = true → lwf (l.filter p) = true
  | [], _ => rfl
  | q :: r, h => by
    unfold lwf at h
    rw [Bool.and_eq_true, Bool.not_eq_true'] at h
    rw [List.filter_cons]
    split
    · unfold lwf
      rw [Bool.and_eq_true, Bool.not_eq_true']
      exact ⟨lin_filter h.1, lwf_filter h.2⟩
    · exact lwf_filter h.2
theorem lget_filter {p : Nat × am_V → Bool} {k : Nat} {u : am_V} : ∀ {l : am_Lc}, lwf l = true → (lget (l.filter p) k = some u ↔ lget l k = some u ∧ p (k, u) = true)
  | [], _ => by simp [lget]
  | (a, x) :: r, h => by
    unfold lwf at h
    rw [Bool.and_eq_true, Bool.not_eq_true'] at h
    have ih := lget_filter (p := p) (k := k) (u := u) h.2
    have hn := lget_lin h.1
    rw [List.filter_cons]
    by_cases hk : a = k
    · subst hk
      split
      · rename_i hp
        unfold lget
        rw [if_pos rfl, if_pos rfl]
        constructor
        · intro e
          cases e
          exact ⟨rfl, hp⟩
        · exact fun e => e.1
      · rename_i hp
        rw [ih, hn]
        unfold lget
        rw [if_pos rfl]
        constructor
        · intro e
          cases e.1
        · intro e
          obtain ⟨e1, e2⟩ := e
          cases e1
          exact absurd e2 hp
    · have h2 : lget ((a, x) :: r) k = lget r k := if_neg hk
      split
      · rw [h2]
        rw [show lget ((a, x) :: List.filter p r) k = lget (List.filter p r) k from if_neg hk]
        exact ih
      · rw [h2]
        exact ih
def lle (l0 l : am_Lc) : Prop := lwf l0 = true ∧ lwf l = true ∧ ∀ k v, lget l0 k = some v → lget l k = some v
theorem lle_put {l0 l : am_Lc} {p : Nat × am_V → Bool} {i : Nat} {v : am_V} (hp : ∀ u, p (i, u) = false) (h : lle l0 l) : lle ((i, v) :: l0.filter p) ((i, v) :: l.filter p) := by
  have hli : ∀ {l : am_Lc}, lwf l = true → lin i (l.filter p) = false := by
    intro l
    induction l with
    | nil => intro _; rfl
    | cons q r ih =>
      intro hl
      unfold lwf at hl
      rw [Bool.and_eq_true] at hl
      rw [List.filter_cons]
      split
      · rename_i hq
        unfold lin
        rw [Bool.or_eq_false_iff]
        refine ⟨?_, ih hl.2⟩
        by_cases e : q.1 = i
        · have := hp q.2
          rw [← e] at this
          exact absurd hq (by rw [show q = (q.1, q.2) from rfl, this]; exact Bool.false_ne_true)
        · simpa using e
      · exact ih hl.2
  refine ⟨?_, ?_, ?_⟩
  · unfold lwf
    rw [Bool.and_eq_true, Bool.not_eq_true']
    exact ⟨hli h.1, lwf_filter h.1⟩
  · unfold lwf
    rw [Bool.and_eq_true, Bool.not_eq_true']
    exact ⟨hli h.2.1, lwf_filter h.2.1⟩
  · intro k u hk
    by_cases e : i = k
    · subst e
      unfold lget at hk ⊢
      rw [if_pos rfl] at hk ⊢
      exact hk
    · rw [show lget ((i, v) :: l0.filter p) k = lget (l0.filter p) k from if_neg e, lget_filter h.1] at hk
      rw [show lget ((i, v) :: l.filter p) k = lget (l.filter p) k from if_neg e, lget_filter h.2.1]
      exact ⟨h.2.2 _ _ hk.1, hk.2⟩
theorem lle_set1 {l0 l : am_Lc} {i : Nat} {v : am_V} (h : lle l0 l) : lle (lset1 l0 i v) (lset1 l i v) := lle_put (by intro u; simp) h
theorem lle_set2 {l0 l : am_Lc} {i : Nat} {v : am_V} (h : lle l0 l) : lle (lset2 l0 i v) (lset2 l i v) := lle_put (by intro u; simp) h
def MM (l0 l : am_Lc) (f : am_Lc → Option (am_Lc × List am_V)) : Prop := ∀ l0' st', f l0 = some (l0', st') → ∃ l', f l = some (l', st') ∧ lle l0' l'
section MMS
variable {l0 l : am_Lc} {k : Nat} {st : List am_V}
theorem mm_ldI (h : lle l0 l) : MM l0 l (fun l => am_ldI l k st) := by
  intro l0' st' e
  dsimp only at e ⊢
  unfold am_ldI at e ⊢
  split at e
  · rename_i x hx
    cases e
    exact ⟨l, by rw [h.2.2 _ _ hx], h⟩
  · cases e
theorem mm_ldL (h : lle l0 l) : MM l0 l (fun l => am_ldL l k st) := by
  intro l0' st' e
  dsimp only at e ⊢
  unfold am_ldL at e ⊢
  split at e
  · rename_i x hx
    cases e
    exact ⟨l, by rw [h.2.2 _ _ hx], h⟩
  · cases e
theorem mm_ldR (h : lle l0 l) : MM l0 l (fun l => am_ldR l k st) := by
  intro l0' st' e
  dsimp only at e ⊢
  unfold am_ldR at e ⊢
  split at e
  · rename_i x hx
    cases e
    exact ⟨l, by rw [h.2.2 _ _ hx], h⟩
  · cases e
theorem mm_inc {n : Int} (h : lle l0 l) : MM l0 l (fun l => am_inc l k n st) := by
  intro l0' st' e
  dsimp only at e ⊢
  unfold am_inc at e ⊢
  split at e
  · rename_i x hx
    cases e
    exact ⟨_, by rw [h.2.2 _ _ hx], lle_set1 h⟩
  · cases e
theorem mm_stI (h : lle l0 l) : MM l0 l (fun l => am_stI l k st) := by
  intro l0' st' e
  dsimp only at e ⊢
  unfold am_stI at e ⊢
  split at e
  · cases e
    exact ⟨_, rfl, lle_set1 h⟩
  · cases e
theorem mm_stL (h : lle l0 l) : MM l0 l (fun l => am_stL l k st) := by
  intro l0' st' e
  dsimp only at e ⊢
  unfold am_stL at e ⊢
  split at e
  · cases e
    exact ⟨_, rfl, lle_set2 h⟩
  · cases e
theorem mm_stR (h : lle l0 l) : MM l0 l (fun l => am_stR l k st) := by
  intro l0' st' e
  dsimp only at e ⊢
  unfold am_stR at e ⊢
  split at e
  · cases e
    exact ⟨_, rfl, lle_set1 h⟩
  · cases e
theorem mm_bI {f : Int → Int → Int} (h : lle l0 l) : MM l0 l (fun l => am_bI f l st) := by
  intro l0' st' e
  dsimp only at e ⊢
  unfold am_bI at e ⊢
  split at e
  · cases e
    exact ⟨_, rfl, h⟩
  · cases e
theorem mm_bL {f : Int → Int → Int} (h : lle l0 l) : MM l0 l (fun l => am_bL f l st) := by
  intro l0' st' e
  dsimp only at e ⊢
  unfold am_bL at e ⊢
  split at e
  · cases e
    exact ⟨_, rfl, h⟩
  · cases e
theorem mm_dI {f : Int → Int → Int} (h : lle l0 l) : MM l0 l (fun l => am_dI f l st) := by
  intro l0' st' e
  dsimp only at e ⊢
  unfold am_dI at e ⊢
  split at e
  · split at e
    · cases e
    · rename_i hy
      cases e
      exact ⟨l, if_neg hy, h⟩
  · cases e
theorem mm_dL {f : Int → Int → Int} (h : lle l0 l) : MM l0 l (fun l => am_dL f l st) := by
  intro l0' st' e
  dsimp only at e ⊢
  unfold am_dL at e ⊢
  split at e
  · split at e
    · cases e
    · rename_i hy
      cases e
      exact ⟨l, if_neg hy, h⟩
  · cases e
theorem mm_cL (h : lle l0 l) : MM l0 l (fun l => am_cL l st) := by
  intro l0' st' e
  dsimp only at e ⊢
  unfold am_cL at e ⊢
  split at e
  · cases e
    exact ⟨_, rfl, h⟩
  · cases e
theorem mm_uI {f : Int → am_V} (h : lle l0 l) : MM l0 l (fun l => am_uI f l st) := by
  intro l0' st' e
  dsimp only at e ⊢
  unfold am_uI at e ⊢
  split at e
  · cases e
    exact ⟨_, rfl, h⟩
  · cases e
theorem mm_uL {f : Int → am_V} (h : lle l0 l) : MM l0 l (fun l => am_uL f l st) := by
  intro l0' st' e
  dsimp only at e ⊢
  unfold am_uL at e ⊢
  split at e
  · cases e
    exact ⟨_, rfl, h⟩
  · cases e
theorem mm_dup (h : lle l0 l) : MM l0 l (fun l => am_dup l st) := by
  intro l0' st' e
  dsimp only at e ⊢
  unfold am_dup at e ⊢
  split at e
  · split at e
    · cases e
    · rename_i hy
      cases e
      exact ⟨l, if_neg hy, h⟩
  · cases e
theorem mm_dup2 (h : lle l0 l) : MM l0 l (fun l => am_dup2 l st) := by
  intro l0' st' e
  dsimp only at e ⊢
  unfold am_dup2 at e ⊢
  split at e
  · split at e
    · cases e
    · rename_i hy
      cases e
      exact ⟨l, if_neg hy, h⟩
  · cases e
theorem mm_pop (h : lle l0 l) : MM l0 l (fun l => am_pop l st) := by
  intro l0' st' e
  dsimp only at e ⊢
  unfold am_pop at e ⊢
  split at e
  · split at e
    · cases e
    · rename_i hy
      cases e
      exact ⟨l, if_neg hy, h⟩
  · cases e
end MMS
set_option maxHeartbeats 4000000 in
theorem am_ar_mono {i : Instr} {v : Int} {l0 l : am_Lc} {st : List am_V} (h : lle l0 l) : MM l0 l (fun l => am_ar i v l st) := by
  intro l0' st' e
  dsimp only at e ⊢
  unfold am_ar at e
  split at e
  all_goals first
    | (cases e; exact ⟨l, rfl, h⟩)
    | exact mm_ldI h _ _ e
    | exact mm_ldL h _ _ e
    | exact mm_ldR h _ _ e
    | exact mm_stI h _ _ e
    | exact mm_stL h _ _ e
    | exact mm_stR h _ _ e
    | exact mm_inc h _ _ e
    | exact mm_bI h _ _ e
    | exact mm_dI h _ _ e
    | exact mm_bL h _ _ e
    | exact mm_dL h _ _ e
    | exact mm_cL h _ _ e
    | exact mm_uI h _ _ e
    | exact mm_uL h _ _ e
    | exact mm_dup h _ _ e
    | exact mm_dup2 h _ _ e
    | exact mm_pop h _ _ e
    | cases e
set_option maxHeartbeats 4000000 in
theorem am_ar_excl {i : Instr} {v : Int} {l : am_Lc} {st : List am_V} {q : am_Lc × List am_V} (h : am_ar i v l st = some q) (ops : List Nat) (σ : am_S) : am_me i ops st σ = none ∧ am_ct i ops st = none ∧ am_ca i ops v st σ = none ∧ am_rt i ops st = none := by
  unfold am_ar at h
  split at h
  all_goals first
    | exact ⟨rfl, rfl, rfl, rfl⟩
    | cases h
set_option maxHeartbeats 1000000 in
theorem am_run_wk (P : Nat → List (List am_I)) : ∀ (n : Nat) (bs : List (List am_I)) (is : List am_I) (l0 l : am_Lc) (st : List am_V) (σ : am_S) (o : Option am_V × am_S), lle l0 l → am_run P n bs is l0 st σ = some o → am_run P n bs is l st σ = some o := by
  intro n
  induction n with
  | zero => intro bs is l0 l st σ o _ h; simp [am_run] at h
  | succ n ih =>
    intro bs is l0 l st σ o hle h
    cases is with
    | nil => simp [am_run] at h
    | cons i is =>
      obtain ⟨i, ops, v⟩ := i
      rw [am_run] at h ⊢
      cases h1 : am_ar i v l0 st with
      | some q =>
        obtain ⟨l0', st'⟩ := q
        obtain ⟨l', e1, e2⟩ := am_ar_mono hle _ _ h1
        have e1 : am_ar i v l st = some (l', st') := e1
        rw [h1] at h
        rw [e1]
        exact ih _ _ _ _ _ _ _ e2 h
      | none =>
        rw [h1] at h
        dsimp only at h
        cases h0 : am_ar i v l st with
        | some q =>
          obtain ⟨x1, x2, x3, x4⟩ := am_ar_excl h0 ops σ
          rw [x1] at h
          dsimp only at h
          rw [x2] at h
          dsimp only at h
          rw [x3] at h
          dsimp only at h
          rw [x4] at h
          cases h
        | none =>
          dsimp only
          cases h2 : am_me i ops st σ with
          | some q => rw [h2] at h; exact ih _ _ _ _ _ _ _ hle h
          | none =>
            rw [h2] at h
            dsimp only at h ⊢
            cases h3 : am_ct i ops st with
            | some q =>
              obtain ⟨b, st'⟩ := q
              rw [h3] at h
              cases b with
              | some b => exact ih _ _ _ _ _ _ _ hle h
              | none => exact ih _ _ _ _ _ _ _ hle h
            | none =>
              rw [h3] at h
              dsimp only at h ⊢
              cases h4 : am_ca i ops v st σ with
              | some q =>
                obtain ⟨m, as, st'⟩ := q
                rw [h4] at h
                dsimp only at h ⊢
                cases h5 : am_run P n (P m) ((P m).getD 0 []) (am_args 0 as) [] σ with
                | none => rw [h5] at h; cases h
                | some r =>
                  obtain ⟨r, σ'⟩ := r
                  rw [h5] at h
                  exact ih _ _ _ _ _ _ _ hle h
              | none =>
                rw [h4] at h
                exact h
/-- it comes to an end, with Q -/
def TT (bs : List (List am_I)) (is : List am_I) (l : am_Lc) (st : List am_V) (σ : am_S) (Q : Option am_V → am_S → Prop) : Prop := ∃ n r σ', am_run am_P n bs is l st σ = some (r, σ') ∧ Q r σ'
/-- a call comes to an end, with Q -/
def CC (m : Nat) (as : List am_V) (σ : am_S) (Q : Option am_V → am_S → Prop) : Prop := TT (am_P m) ((am_P m).getD 0 []) (am_args 0 as) [] σ Q
/-- a call that changes nothing, and its value; one that answers a question -/
abbrev CP (m : Nat) (as : List am_V) (σ : am_S) (v : am_V) : Prop := CC m as σ (fun r σ' => r = some v ∧ σ' = σ)
abbrev CB (m : Nat) (as : List am_V) (σ : am_S) (c : Prop) : Prop := CC m as σ (fun r σ' => σ' = σ ∧ ((c ∧ r = some (vI 1)) ∨ (¬ c ∧ r = some (vI 0))))
def lsub : am_Lc → am_Lc → Prop
  | [], _ => True
  | q :: r, l => lget l q.1 = some q.2 ∧ lsub r l
theorem lsub_get {l : am_Lc} : ∀ {l0 : am_Lc}, lsub l0 l → ∀ k v, lget l0 k = some v → lget l k = some v
  | [], _, k, v, h => by cases h
  | q :: r, hs, k, v, h => by
    unfold lget at h
    split at h
    · rename_i e
      cases h
      rw [← e]
      exact hs.1
    · exact lsub_get hs.2 k v h
theorem lv_to {l : am_Lc} {k : Nat} {e e' : Int} (h : lget l k = some (vI e)) (he : e = e') : lget l k = some (vI e') := he ▸ h
theorem lv_toL {l : am_Lc} {k : Nat} {e e' : Int} (h : lget l k = some (vL e)) (he : e = e') : lget l k = some (vL e') := he ▸ h
theorem am_cond_eq {x y : Int} : am_cond .eq x y = true ↔ x = y := am_condI
section ROWS
variable {bs : List (List am_I)} {is : List am_I} {l : am_Lc} {st : List am_V} {σ : am_S} {Q : Option am_V → am_S → Prop} {ops : List Nat} {v : Int}
theorem TT.imp {Q' : Option am_V → am_S → Prop} (h : TT bs is l st σ Q) (hQ : ∀ r σ', Q r σ' → Q' r σ') : TT bs is l st σ Q' := by
  obtain ⟨n, r, s, h1, h2⟩ := h
  exact ⟨n, r, s, h1, hQ _ _ h2⟩
theorem CC.imp {m : Nat} {as : List am_V} {Q' : Option am_V → am_S → Prop} (h : CC m as σ Q) (hQ : ∀ r σ', Q r σ' → Q' r σ') : CC m as σ Q' := TT.imp h hQ
theorem tt_wk {l0 : am_Lc} (h : lle l0 l) (K : TT bs is l0 st σ Q) : TT bs is l st σ Q := by
  obtain ⟨n, r, s, h1, h2⟩ := K
  exact ⟨n, r, s, am_run_wk _ _ _ _ _ _ _ _ _ h h1, h2⟩
theorem tt_loc (l0 : am_Lc) (h0 : lwf l0 = true) (h1 : lwf l = true) (hs : lsub l0 l) (K : TT bs is l0 st σ Q) : TT bs is l st σ Q := tt_wk ⟨h0, h1, lsub_get hs⟩ K
theorem tt_ar {i : Instr} {l' : am_Lc} {st' : List am_V} (h : am_ar i v l st = some (l', st')) (K : TT bs is l' st' σ Q) : TT bs ((i, ops, v) :: is) l st σ Q := by
  obtain ⟨n, r, s, h1, h2⟩ := K
  exact ⟨n + 1, r, s, by rw [am_run, h]; exact h1, h2⟩
theorem tt_me {i : Instr} {st' : List am_V} {σ' : am_S} (h : am_ar i v l st = none) (hm : am_me i ops st σ = some (st', σ')) (K : TT bs is l st' σ' Q) : TT bs ((i, ops, v) :: is) l st σ Q := by
  obtain ⟨n, r, s, h1, h2⟩ := K
  refine ⟨n + 1, r, s, ?_, h2⟩
  rw [am_run, h]
  dsimp only
  rw [hm]
  exact h1
theorem tt_ctN {i : Instr} {st' : List am_V} (h : am_ar i v l st = none) (hm : am_me i ops st σ = none) (hc : am_ct i ops st = some (none, st')) (K : TT bs is l st' σ Q) : TT bs ((i, ops, v) :: is) l st σ Q := by
  obtain ⟨n, r, s, h1, h2⟩ := K
  refine ⟨n + 1, r, s, ?_, h2⟩
  rw [am_run, h]
  dsimp only
  rw [hm]
  dsimp only
  rw [hc]
  exact h1
theorem tt_ctJ {i : Instr} {b : Nat} {st' : List am_V} (h : am_ar i v l st = none) (hm : am_me i ops st σ = none) (hc : am_ct i ops st = some (some b, st')) (K : TT bs (bs.getD b []) l st' σ Q) : TT bs ((i, ops, v) :: is) l st σ Q := by
  obtain ⟨n, r, s, h1, h2⟩ := K
  refine ⟨n + 1, r, s, ?_, h2⟩
  rw [am_run, h]
  dsimp only
  rw [hm]
  dsimp only
  rw [hc]
  exact h1
theorem tt_call {i : Instr} {m : Nat} {as st' : List am_V} {Q1 : Option am_V → am_S → Prop} (h : am_ar i v l st = none) (hm : am_me i ops st σ = none) (hc : am_ct i ops st = none) (ha : am_ca i ops v st σ = some (m, as, st')) (C : CC m as σ Q1) (K : ∀ r σ1, Q1 r σ1 → TT bs is l (r.toList ++ st') σ1 Q) : TT bs ((i, ops, v) :: is) l st σ Q := by
  obtain ⟨n1, r1, s1, h1, h2⟩ := C
  obtain ⟨n2, r2, s2, h3, h4⟩ := K r1 s1 h2
  refine ⟨n1 + n2 + 1, r2, s2, ?_, h4⟩
  rw [am_run, h]
  dsimp only
  rw [hm]
  dsimp only
  rw [hc]
  dsimp only
  rw [ha]
  dsimp only
  rw [am_run_le am_P (Nat.le_add_right n1 n2) h1]
  exact am_run_le am_P (Nat.le_add_left n2 n1) h3
theorem tt_rt {i : Instr} {r : Option am_V} (h : am_ar i v l st = none) (hm : am_me i ops st σ = none) (hc : am_ct i ops st = none) (ha : am_ca i ops v st σ = none) (hr : am_rt i ops st = some r) (K : Q r σ) : TT bs ((i, ops, v) :: is) l st σ Q := by
  refine ⟨1, r, σ, ?_, K⟩
  rw [am_run, h]
  dsimp only
  rw [hm]
  dsimp only
  rw [hc]
  dsimp only
  rw [ha]
  dsimp only
  rw [hr]
theorem tt_st {σ2 : am_S} (h : σ2 = σ) (K : TT bs is l st σ Q) : TT bs is l st σ2 Q := h ▸ K
/-! cells -/
theorem tt_getI {f a c k : Nat} {x : Int} (hO : am_isO σ a c = true) (hT : am_fty c k = .int) (hx : σ.1 a k = x) (K : TT bs is l (vI x :: st) σ Q) : TT bs ((.getfield f, [c, k], v) :: is) l (vR a :: st) σ Q := by
  subst hx
  refine tt_me rfl ?_ K
  show am_getf c k (vR a :: st) σ = _
  unfold am_getf
  dsimp only
  rw [if_pos hO, hT]
  rfl
theorem tt_getZ {f a c k : Nat} {x : Int} (hO : am_isO σ a c = true) (hT : am_fty c k = .boolean) (hx : σ.1 a k = x) (K : TT bs is l (vI x :: st) σ Q) : TT bs ((.getfield f, [c, k], v) :: is) l (vR a :: st) σ Q := by
  subst hx
  refine tt_me rfl ?_ K
  show am_getf c k (vR a :: st) σ = _
  unfold am_getf
  dsimp only
  rw [if_pos hO, hT]
  rfl
theorem tt_getL {f a c k : Nat} {x : Int} (hO : am_isO σ a c = true) (hT : am_fty c k = .long) (hx : σ.1 a k = x) (K : TT bs is l (vL x :: st) σ Q) : TT bs ((.getfield f, [c, k], v) :: is) l (vR a :: st) σ Q := by
  subst hx
  refine tt_me rfl ?_ K
  show am_getf c k (vR a :: st) σ = _
  unfold am_getf
  dsimp only
  rw [if_pos hO, hT]
  rfl
theorem tt_getR {f a c k b : Nat} (hO : am_isO σ a c = true) (hT : am_gv (am_fty c k) a k σ = vO (σ.2.1 a k)) (hx : σ.2.1 a k = some b) (K : TT bs is l (vR b :: st) σ Q) : TT bs ((.getfield f, [c, k], v) :: is) l (vR a :: st) σ Q := by
  refine tt_me rfl ?_ K
  show am_getf c k (vR a :: st) σ = _
  unfold am_getf
  dsimp only
  rw [if_pos hO, hT, hx]
theorem tt_putI {f a c k : Nat} {x : Int} (hO : am_isO σ a c = true) (hT : am_fty c k = .int) (K : TT bs is l st (am_set σ a k x) Q) : TT bs ((.putfield f, [c, k], v) :: is) l (vI x :: vR a :: st) σ Q := by
  refine tt_me rfl ?_ K
  show am_putf c k (vI x :: vR a :: st) σ = _
  unfold am_putf
  dsimp only
  rw [if_pos hO, hT]
  rfl
theorem tt_putZ {f a c k : Nat} {x : Int} (hO : am_isO σ a c = true) (hT : am_fty c k = .boolean) (hx : x = 0 ∨ x = 1) (K : TT bs is l st (am_set σ a k x) Q) : TT bs ((.putfield f, [c, k], v) :: is) l (vI x :: vR a :: st) σ Q := by
  refine tt_me rfl ?_ K
  show am_putf c k (vI x :: vR a :: st) σ = _
  unfold am_putf
  dsimp only
  rw [if_pos hO, hT]
  show Option.map _ (if x = 0 ∨ x = 1 then _ else none) = _
  rw [if_pos hx]
  rfl
theorem tt_putL {f a c k : Nat} {x : Int} (hO : am_isO σ a c = true) (hT : am_fty c k = .long) (K : TT bs is l st (am_set σ a k x) Q) : TT bs ((.putfield f, [c, k], v) :: is) l (vL x :: vR a :: st) σ Q := by
  refine tt_me rfl ?_ K
  show am_putf c k (vL x :: vR a :: st) σ = _
  unfold am_putf
  dsimp only
  rw [if_pos hO, hT]
  rfl
theorem tt_putR {f a c k b : Nat} (hO : am_isO σ a c = true) (hT : am_pv (am_fty c k) a k (vR b) σ = some (am_setR σ a k (some b))) (K : TT bs is l st (am_setR σ a k (some b)) Q) : TT bs ((.putfield f, [c, k], v) :: is) l (vR b :: vR a :: st) σ Q := by
  refine tt_me rfl ?_ K
  show am_putf c k (vR b :: vR a :: st) σ = _
  unfold am_putf
  dsimp only
  rw [if_pos hO, hT]
  rfl
theorem tt_gets {f : Nat} (K : TT bs is l (vR 0 :: st) σ Q) : TT bs ((.getstatic f, ops, v) :: is) l st σ Q := tt_me rfl rfl K
theorem am_aget_at {t : FieldType} {a n j : Nat} {i : Int} (hA : σ.2.2.1[a]? = some (.inl t, n)) (hi : i = (j : Int)) (hj : j < n) : am_aget t (vI i :: vR a :: st) σ = some (am_gv t a j σ :: st, σ) := by
  subst hi
  unfold am_aget
  dsimp only
  rw [hA]
  dsimp only
  rw [if_pos ⟨rfl, by omega, by omega⟩]
  rfl
theorem am_aput_at {t : FieldType} {g : Int → Int} {a n j : Nat} {i x : Int} (hA : σ.2.2.1[a]? = some (.inl t, n)) (ha : 2 ≤ a) (hi : i = (j : Int)) (hj : j < n) : am_aput t g (vI x :: vI i :: vR a :: st) σ = some (st, am_set σ a j (g x)) := by
  subst hi
  unfold am_aput
  dsimp only
  rw [hA]
  dsimp only
  rw [if_pos ⟨rfl, by omega, by omega, ha⟩]
  rfl
theorem tt_iald {a n : Nat} (j : Nat) {i x : Int} (hA : σ.2.2.1[a]? = some (.inl .int, n)) (hi : i = (j : Int)) (hj : j < n) (hx : σ.1 a j = x) (K : TT bs is l (vI x :: st) σ Q) : TT bs ((.iaload, ops, v) :: is) l (vI i :: vR a :: st) σ Q := by
  subst hx
  exact tt_me rfl (am_aget_at hA hi hj) K
theorem tt_lald {a n : Nat} (j : Nat) {i x : Int} (hA : σ.2.2.1[a]? = some (.inl .long, n)) (hi : i = (j : Int)) (hj : j < n) (hx : σ.1 a j = x) (K : TT bs is l (vL x :: st) σ Q) : TT bs ((.laload, ops, v) :: is) l (vI i :: vR a :: st) σ Q := by
  subst hx
  exact tt_me rfl (am_aget_at hA hi hj) K
theorem tt_baldB {a n : Nat} (j : Nat) {i x : Int} (hA : σ.2.2.1[a]? = some (.inl .byte, n)) (hi : i = (j : Int)) (hj : j < n) (hx : σ.1 a j = x) (K : TT bs is l (vI x :: st) σ Q) : TT bs ((.baload, ops, v) :: is) l (vI i :: vR a :: st) σ Q := by
  subst hx
  refine tt_me rfl ?_ K
  show am_bget (vI i :: vR a :: st) σ = _
  unfold am_bget
  rw [am_aget_at hA hi hj]
  rfl
theorem tt_baldZ {a n : Nat} (j : Nat) {i x : Int} (hA : σ.2.2.1[a]? = some (.inl .boolean, n)) (hi : i = (j : Int)) (hj : j < n) (hx : σ.1 a j = x) (K : TT bs is l (vI x :: st) σ Q) : TT bs ((.baload, ops, v) :: is) l (vI i :: vR a :: st) σ Q := by
  subst hx
  refine tt_me rfl ?_ K
  show am_bget (vI i :: vR a :: st) σ = _
  unfold am_bget
  rw [show am_aget .byte (vI i :: vR a :: st) σ = none by
    unfold am_aget
    dsimp only
    rw [hA]
    dsimp only
    rw [if_neg (fun h => by cases h.1)], am_aget_at hA hi hj]
  rfl
theorem tt_aald {a n b : Nat} (j : Nat) {i : Int} (hA : σ.2.2.1[a]? = some (.inl am_strip, n)) (hi : i = (j : Int)) (hj : j < n) (hx : σ.2.1 a j = some b) (K : TT bs is l (vR b :: st) σ Q) : TT bs ((.aaload, ops, v) :: is) l (vI i :: vR a :: st) σ Q := by
  refine tt_me rfl ?_ K
  show am_aget am_strip (vI i :: vR a :: st) σ = _
  rw [am_aget_at hA hi hj]
  show some (vO (σ.2.1 a j) :: st, σ) = _
  rw [hx]
theorem tt_iast {a n : Nat} (j : Nat) {i x : Int} (hA : σ.2.2.1[a]? = some (.inl .int, n)) (ha : 2 ≤ a) (hi : i = (j : Int)) (hj : j < n) (K : TT bs is l st (am_set σ a j x) Q) : TT bs ((.iastore, ops, v) :: is) l (vI x :: vI i :: vR a :: st) σ Q := tt_me rfl (am_aput_at (g := fun x => x) hA ha hi hj) K
theorem tt_last {a n : Nat} (j : Nat) {i x : Int} (hA : σ.2.2.1[a]? = some (.inl .long, n)) (ha : 2 ≤ a) (hi : i = (j : Int)) (hj : j < n) (K : TT bs is l st (am_set σ a j x) Q) : TT bs ((.lastore, ops, v) :: is) l (vL x :: vI i :: vR a :: st) σ Q := by
  refine tt_me rfl ?_ K
  subst hi
  show am_aputL (vL x :: vI (j : Int) :: vR a :: st) σ = _
  unfold am_aputL
  dsimp only
  rw [hA]
  dsimp only
  rw [if_pos ⟨rfl, by omega, by omega, ha⟩]
  rfl
theorem tt_bastB {a n : Nat} (j : Nat) {i x : Int} (hA : σ.2.2.1[a]? = some (.inl .byte, n)) (ha : 2 ≤ a) (hi : i = (j : Int)) (hj : j < n) (K : TT bs is l st (am_set σ a j (w8 x)) Q) : TT bs ((.bastore, ops, v) :: is) l (vI x :: vI i :: vR a :: st) σ Q := by
  refine tt_me rfl ?_ K
  show am_bput (vI x :: vI i :: vR a :: st) σ = _
  unfold am_bput
  rw [am_aput_at hA ha hi hj]
  rfl
theorem tt_bastZ {a n : Nat} (j : Nat) {i x : Int} (hA : σ.2.2.1[a]? = some (.inl .boolean, n)) (ha : 2 ≤ a) (hi : i = (j : Int)) (hj : j < n) (K : TT bs is l st (am_set σ a j (x % 2)) Q) : TT bs ((.bastore, ops, v) :: is) l (vI x :: vI i :: vR a :: st) σ Q := by
  refine tt_me rfl ?_ K
  show am_bput (vI x :: vI i :: vR a :: st) σ = _
  unfold am_bput
  rw [show am_aput .byte w8 (vI x :: vI i :: vR a :: st) σ = none by
    unfold am_aput
    dsimp only
    rw [hA]
    dsimp only
    rw [if_neg (fun h => by cases h.1)], am_aput_at (g := fun x => x % 2) hA ha hi hj]
  rfl
theorem tt_aast {a n b : Nat} (j : Nat) {i : Int} {nb : Nat} (hA : σ.2.2.1[a]? = some (.inl am_strip, n)) (hB : σ.2.2.1[b]? = some (.inr 6, nb)) (ha : 2 ≤ a) (hb : 2 ≤ b) (hi : i = (j : Int)) (hj : j < n) (K : TT bs is l st (am_setR σ a j (some b)) Q) : TT bs ((.aastore, ops, v) :: is) l (vR b :: vI i :: vR a :: st) σ Q := by
  refine tt_me rfl ?_ K
  subst hi
  show am_aputR (vR b :: vI (j : Int) :: vR a :: st) σ = _
  unfold am_aputR
  dsimp only
  rw [hA, hB]
  show (if am_strip = am_strip ∧ _ ∧ _ ∧ _ ∧ _ then _ else _) = _
  rw [if_pos ⟨rfl, by omega, by omega, ha, hb⟩]
  rfl
theorem tt_alen {a n : Nat} {t : FieldType} (hA : σ.2.2.1[a]? = some (.inl t, n)) (hn : Nat.blt n 1000000 = true) (K : TT bs is l (vI (n : Int) :: st) σ Q) : TT bs ((.arraylength, ops, v) :: is) l (vR a :: st) σ Q := by
  refine tt_me rfl ?_ K
  show am_alen (vR a :: st) σ = _
  unfold am_alen
  dsimp only
  rw [hA]
  dsimp only
  have : n < 1000000 := by simpa using hn
  rw [if_pos (by omega)]
theorem tt_newa {t : ArrayType} {n : Int} (h0 : 0 ≤ n) (h1 : n ≤ 1000000) (K : TT bs is l (vR σ.2.2.1.length :: st) (am_new σ (.inl (am_newT t), n.toNat)) Q) : TT bs ((.newarray t, ops, v) :: is) l (vI n :: st) σ Q := by
  refine tt_me rfl ?_ K
  show am_newa (am_newT t) (vI n :: st) σ = _
  unfold am_newa
  dsimp only
  rw [if_pos ⟨h0, h1⟩]
theorem tt_newq {f : Nat} {n : Int} (h0 : 0 ≤ n) (h1 : n ≤ 1000000) (K : TT bs is l (vR σ.2.2.1.length :: st) (am_new σ (.inl am_strip, n.toNat)) Q) : TT bs ((.anewarray f, ops, v) :: is) l (vI n :: st) σ Q := by
  refine tt_me rfl ?_ K
  show am_newa am_strip (vI n :: st) σ = _
  unfold am_newa
  dsimp only
  rw [if_pos ⟨h0, h1⟩]
theorem tt_new {f c : Nat} (hc : c < 11) (K : TT bs is l (vR σ.2.2.1.length :: st) (am_new σ (.inr c, am_cN c)) Q) : TT bs ((.new f, [c], v) :: is) l st σ Q := by
  refine tt_me rfl ?_ K
  show am_newo c st σ = _
  unfold am_newo
  rw [if_pos hc]
theorem tt_objinit {f a : Nat} (h8 : Nat.ble (st.map am_cat).sum 8 = true) (K : TT bs is l st σ Q) : TT bs ((.invokespecial f, [], v) :: is) l (vR a :: st) σ Q := by
  refine tt_me rfl ?_ K
  show am_initO (vR a :: st) σ = _
  unfold am_initO
  dsimp only
  rw [if_pos (Nat.le_of_ble_eq_true h8)]
theorem tt_acopy {f a b n0 n1 sp dp n : Nat} {isp idp inn : Int} (hA : σ.2.2.1[a]? = some (.inl .int, n0)) (hB : σ.2.2.1[b]? = some (.inl .int, n1)) (e1 : isp = (sp : Int)) (e2 : idp = (dp : Int)) (e3 : inn = (n : Int)) (h1 : sp + n ≤ n0) (h2 : dp + n ≤ n1) (ha : 2 ≤ a) (hb : 2 ≤ b) (h8 : Nat.ble (st.map am_cat).sum 8 = true) (K : TT bs is l st (am_cpy σ a sp b dp n) Q) : TT bs ((.invokestatic f, [], v) :: is) l (vI inn :: vI idp :: vR b :: vI isp :: vR a :: st) σ Q := by
  refine tt_me rfl ?_ K
  subst e1 e2 e3
  show am_acopy (vI (n : Int) :: vI (dp : Int) :: vR b :: vI (sp : Int) :: vR a :: st) σ = _
  unfold am_acopy
  dsimp only
  rw [hA, hB]
  dsimp only
  rw [if_pos ⟨rfl, rfl, by omega, by omega, by omega, by omega, by omega, ha, hb, Nat.le_of_ble_eq_true h8⟩]
  rfl
theorem tt_max {f : Nat} {x y z : Int} (h8 : Nat.ble (st.map am_cat).sum 8 = true) (hz : (if x < y then y else x) = z) (K : TT bs is l (vI z :: st) σ Q) : TT bs ((.invokestatic f, [0], v) :: is) l (vI y :: vI x :: st) σ Q := by
  subst hz
  refine tt_me rfl ?_ K
  show (if (st.map am_cat).sum ≤ 8 then some (vI (if x < y then y else x) :: st, σ) else none) = _
  rw [if_pos (Nat.le_of_ble_eq_true h8)]
theorem tt_min {f : Nat} {x y z : Int} (h8 : Nat.ble (st.map am_cat).sum 8 = true) (hz : (if y < x then y else x) = z) (K : TT bs is l (vI z :: st) σ Q) : TT bs ((.invokestatic f, [1], v) :: is) l (vI y :: vI x :: st) σ Q := by
  subst hz
  refine tt_me rfl ?_ K
  show (if (st.map am_cat).sum ≤ 8 then some (vI (if y < x then y else x) :: st, σ) else none) = _
  rw [if_pos (Nat.le_of_ble_eq_true h8)]
theorem tt_lmin {f : Nat} {x y z : Int} (h8 : Nat.ble (st.map am_cat).sum 8 = true) (hz : (if y < x then y else x) = z) (K : TT bs is l (vL z :: st) σ Q) : TT bs ((.invokestatic f, [2], v) :: is) l (vL y :: vL x :: st) σ Q := by
  subst hz
  refine tt_me rfl ?_ K
  show (if (st.map am_cat).sum ≤ 8 then some (vL (if y < x then y else x) :: st, σ) else none) = _
  rw [if_pos (Nat.le_of_ble_eq_true h8)]
/-! numbers: sums that fit -/
theorem w32_i {x : Int} (h0 : -2147483648 ≤ x) (h1 : x ≤ 2147483647) : w32 x = x := by
  unfold w32
  rw [Int.bmod_def]
  split <;> omega
theorem w64_i {x : Int} (h0 : -9223372036854775808 ≤ x) (h1 : x ≤ 9223372036854775807) : w64 x = x := by
  unfold w64
  rw [Int.bmod_def]
  split <;> omega
theorem w8_i {x : Int} (h0 : -128 ≤ x) (h1 : x ≤ 127) : w8 x = x := by
  unfold w8
  rw [Int.bmod_def]
  split <;> omega
theorem tt_iadd {x y : Int} (h0 : -2147483648 ≤ x + y) (h1 : x + y ≤ 2147483647) (K : TT bs is l (vI (x + y) :: st) σ Q) : TT bs ((.iadd, ops, v) :: is) l (vI y :: vI x :: st) σ Q := by
  refine tt_ar (l' := l) (st' := vI (x + y) :: st) ?_ K
  show some (l, vI (w32 (x + y)) :: st) = _
  rw [w32_i h0 h1]
theorem tt_isub {x y : Int} (h0 : -2147483648 ≤ x - y) (h1 : x - y ≤ 2147483647) (K : TT bs is l (vI (x - y) :: st) σ Q) : TT bs ((.isub, ops, v) :: is) l (vI y :: vI x :: st) σ Q := by
  refine tt_ar (l' := l) (st' := vI (x - y) :: st) ?_ K
  show some (l, vI (w32 (x - y)) :: st) = _
  rw [w32_i h0 h1]
theorem tt_imul {x y : Int} (h0 : -2147483648 ≤ x * y) (h1 : x * y ≤ 2147483647) (K : TT bs is l (vI (x * y) :: st) σ Q) : TT bs ((.imul, ops, v) :: is) l (vI y :: vI x :: st) σ Q := by
  refine tt_ar (l' := l) (st' := vI (x * y) :: st) ?_ K
  show some (l, vI (w32 (x * y)) :: st) = _
  rw [w32_i h0 h1]
/-- an int operation, its value named -/
theorem tt_bI {i : Instr} {g : Int → Int → Int} {x y z : Int} (hi : am_ar i v l (vI y :: vI x :: st) = am_bI g l (vI y :: vI x :: st)) (hz : g x y = z) (K : TT bs is l (vI z :: st) σ Q) : TT bs ((i, ops, v) :: is) l (vI y :: vI x :: st) σ Q := by
  subst hz
  exact tt_ar hi K
theorem tt_dI {i : Instr} {g : Int → Int → Int} {x y z : Int} (hi : am_ar i v l (vI y :: vI x :: st) = am_dI g l (vI y :: vI x :: st)) (hy : y ≠ 0) (hz : g x y = z) (K : TT bs is l (vI z :: st) σ Q) : TT bs ((i, ops, v) :: is) l (vI y :: vI x :: st) σ Q := by
  subst hz
  exact tt_ar (hi.trans (if_neg hy)) K
theorem tt_bL {i : Instr} {g : Int → Int → Int} {x y z : Int} (hi : am_ar i v l (vL y :: vL x :: st) = am_bL g l (vL y :: vL x :: st)) (hz : g x y = z) (K : TT bs is l (vL z :: st) σ Q) : TT bs ((i, ops, v) :: is) l (vL y :: vL x :: st) σ Q := by
  subst hz
  exact tt_ar hi K
theorem tt_dL {i : Instr} {g : Int → Int → Int} {x y z : Int} (hi : am_ar i v l (vL y :: vL x :: st) = am_dL g l (vL y :: vL x :: st)) (hy : y ≠ 0) (hz : g x y = z) (K : TT bs is l (vL z :: st) σ Q) : TT bs ((i, ops, v) :: is) l (vL y :: vL x :: st) σ Q := by
  subst hz
  exact tt_ar (hi.trans (if_neg hy)) K
theorem tt_iinc {k : Nat} {n x y : Int} (hk : lget l k = some (vI x)) (hy : w32 (x + n) = y) (K : TT bs is (lset1 l k (vI y)) st σ Q) : TT bs ((.iinc k n, ops, v) :: is) l st σ Q := by
  subst hy
  refine tt_ar ?_ K
  show am_inc l k n st = _
  unfold am_inc
  rw [hk]
theorem iinc_fit {x n y : Int} (h : x + n = y) (h0 : -2147483648 ≤ y) (h1 : y ≤ 2147483647) : w32 (x + n) = y := by
  subst h
  exact w32_i h0 h1
theorem tt_lcmp {x y : Int} (K1 : x < y → TT bs is l (vI (-1) :: st) σ Q) (K2 : x = y → TT bs is l (vI 0 :: st) σ Q) (K3 : y < x → TT bs is l (vI 1 :: st) σ Q) : TT bs ((.lcmp, ops, v) :: is) l (vL y :: vL x :: st) σ Q := by
  have hc : ∀ z, a_cmp x y = z → TT bs is l (vI z :: st) σ Q → TT bs ((.lcmp, ops, v) :: is) l (vL y :: vL x :: st) σ Q := by
    intro z hz K
    subst hz
    exact tt_ar rfl K
  by_cases h1 : y < x
  · exact hc 1 (if_pos h1) (K3 h1)
  · by_cases h2 : x = y
    · exact hc 0 (by unfold a_cmp; rw [if_neg h1, if_pos h2]) (K2 h2)
    · exact hc (-1) (by unfold a_cmp; rw [if_neg h1, if_neg h2]) (K1 (by omega))
/-! jumps -/
theorem tt_goto {o : Int} {b : Nat} (K : TT bs (bs.getD b []) l st σ Q) : TT bs ((.goto o, [b], v) :: is) l st σ Q := tt_ctJ rfl rfl rfl K
theorem tt_nop {b : Nat} (K : TT bs (bs.getD b []) l st σ Q) : TT bs ((.nop, [b], v) :: is) l st σ Q := tt_ctJ rfl rfl rfl K
theorem tt_if {c : Jvm.ClassFile.Cond} {o : Int} {b : Nat} {x : Int} (K1 : am_cond c x 0 = true → TT bs (bs.getD b []) l st σ Q) (K2 : am_cond c x 0 = false → TT bs is l st σ Q) : TT bs ((.ifCond c o, [b], v) :: is) l (vI x :: st) σ Q := by
  cases h : am_cond c x 0 with
  | true => exact tt_ctJ rfl rfl (show some ((if am_cond c x 0 then some b else none), st) = some (some b, st) by rw [h]; rfl) (K1 h)
  | false => exact tt_ctN rfl rfl (show some ((if am_cond c x 0 then some b else none), st) = some (none, st) by rw [h]; rfl) (K2 h)
theorem tt_ic {c : Jvm.ClassFile.Cond} {o : Int} {b : Nat} {x y : Int} (K1 : am_cond c x y = true → TT bs (bs.getD b []) l st σ Q) (K2 : am_cond c x y = false → TT bs is l st σ Q) : TT bs ((.if_icmp c o, [b], v) :: is) l (vI y :: vI x :: st) σ Q := by
  cases h : am_cond c x y with
  | true => exact tt_ctJ rfl rfl (show some ((if am_cond c x y then some b else none), st) = some (some b, st) by rw [h]; rfl) (K1 h)
  | false => exact tt_ctN rfl rfl (show some ((if am_cond c x y then some b else none), st) = some (none, st) by rw [h]; rfl) (K2 h)

theorem tt_iceq {o : Int} {b : Nat} {x y : Int} (K1 : x = y → TT bs (bs.getD b []) l st σ Q) (K2 : ¬ x = y → TT bs is l st σ Q) : TT bs ((.if_icmp .eq o, [b], v) :: is) l (vI y :: vI x :: st) σ Q :=
  tt_ic (fun h => K1 (of_decide_eq_true h)) (fun h => K2 (by have := of_decide_eq_false h; omega))
theorem tt_ifeq {o : Int} {b : Nat} {x : Int} (K1 : x = 0 → TT bs (bs.getD b []) l st σ Q) (K2 : ¬ x = 0 → TT bs is l st σ Q) : TT bs ((.ifCond .eq o, [b], v) :: is) l (vI x :: st) σ Q :=
  tt_if (fun h => K1 (of_decide_eq_true h)) (fun h => K2 (by have := of_decide_eq_false h; omega))
theorem tt_ifeqT {o : Int} {b : Nat} {x : Int} (h : x = 0) (K : TT bs (bs.getD b []) l st σ Q) : TT bs ((.ifCond .eq o, [b], v) :: is) l (vI x :: st) σ Q :=
  tt_ifeq (fun _ => K) (fun h' => absurd h (by omega))
theorem tt_ifeqF {o : Int} {b : Nat} {x : Int} (h : ¬ x = 0) (K : TT bs is l st σ Q) : TT bs ((.ifCond .eq o, [b], v) :: is) l (vI x :: st) σ Q :=
  tt_ifeq (fun h' => absurd h (by omega)) (fun _ => K)
theorem tt_icne {o : Int} {b : Nat} {x y : Int} (K1 : ¬ x = y → TT bs (bs.getD b []) l st σ Q) (K2 : x = y → TT bs is l st σ Q) : TT bs ((.if_icmp .ne o, [b], v) :: is) l (vI y :: vI x :: st) σ Q :=
  tt_ic (fun h => K1 (of_decide_eq_true h)) (fun h => K2 (by have := of_decide_eq_false h; omega))
theorem tt_ifne {o : Int} {b : Nat} {x : Int} (K1 : ¬ x = 0 → TT bs (bs.getD b []) l st σ Q) (K2 : x = 0 → TT bs is l st σ Q) : TT bs ((.ifCond .ne o, [b], v) :: is) l (vI x :: st) σ Q :=
  tt_if (fun h => K1 (of_decide_eq_true h)) (fun h => K2 (by have := of_decide_eq_false h; omega))
theorem tt_ifneT {o : Int} {b : Nat} {x : Int} (h : ¬ x = 0) (K : TT bs (bs.getD b []) l st σ Q) : TT bs ((.ifCond .ne o, [b], v) :: is) l (vI x :: st) σ Q :=
  tt_ifne (fun _ => K) (fun h' => absurd h (by omega))
theorem tt_ifneF {o : Int} {b : Nat} {x : Int} (h : x = 0) (K : TT bs is l st σ Q) : TT bs ((.ifCond .ne o, [b], v) :: is) l (vI x :: st) σ Q :=
  tt_ifne (fun h' => absurd h (by omega)) (fun _ => K)
theorem tt_iclt {o : Int} {b : Nat} {x y : Int} (K1 : x < y → TT bs (bs.getD b []) l st σ Q) (K2 : y ≤ x → TT bs is l st σ Q) : TT bs ((.if_icmp .lt o, [b], v) :: is) l (vI y :: vI x :: st) σ Q :=
  tt_ic (fun h => K1 (of_decide_eq_true h)) (fun h => K2 (by have := of_decide_eq_false h; omega))
theorem tt_iflt {o : Int} {b : Nat} {x : Int} (K1 : x < 0 → TT bs (bs.getD b []) l st σ Q) (K2 : 0 ≤ x → TT bs is l st σ Q) : TT bs ((.ifCond .lt o, [b], v) :: is) l (vI x :: st) σ Q :=
  tt_if (fun h => K1 (of_decide_eq_true h)) (fun h => K2 (by have := of_decide_eq_false h; omega))
theorem tt_ifltT {o : Int} {b : Nat} {x : Int} (h : x < 0) (K : TT bs (bs.getD b []) l st σ Q) : TT bs ((.ifCond .lt o, [b], v) :: is) l (vI x :: st) σ Q :=
  tt_iflt (fun _ => K) (fun h' => absurd h (by omega))
theorem tt_ifltF {o : Int} {b : Nat} {x : Int} (h : 0 ≤ x) (K : TT bs is l st σ Q) : TT bs ((.ifCond .lt o, [b], v) :: is) l (vI x :: st) σ Q :=
  tt_iflt (fun h' => absurd h (by omega)) (fun _ => K)
theorem tt_icge {o : Int} {b : Nat} {x y : Int} (K1 : y ≤ x → TT bs (bs.getD b []) l st σ Q) (K2 : x < y → TT bs is l st σ Q) : TT bs ((.if_icmp .ge o, [b], v) :: is) l (vI y :: vI x :: st) σ Q :=
  tt_ic (fun h => K1 (of_decide_eq_true h)) (fun h => K2 (by have := of_decide_eq_false h; omega))
theorem tt_ifge {o : Int} {b : Nat} {x : Int} (K1 : 0 ≤ x → TT bs (bs.getD b []) l st σ Q) (K2 : x < 0 → TT bs is l st σ Q) : TT bs ((.ifCond .ge o, [b], v) :: is) l (vI x :: st) σ Q :=
  tt_if (fun h => K1 (of_decide_eq_true h)) (fun h => K2 (by have := of_decide_eq_false h; omega))
theorem tt_ifgeT {o : Int} {b : Nat} {x : Int} (h : 0 ≤ x) (K : TT bs (bs.getD b []) l st σ Q) : TT bs ((.ifCond .ge o, [b], v) :: is) l (vI x :: st) σ Q :=
  tt_ifge (fun _ => K) (fun h' => absurd h (by omega))
theorem tt_ifgeF {o : Int} {b : Nat} {x : Int} (h : x < 0) (K : TT bs is l st σ Q) : TT bs ((.ifCond .ge o, [b], v) :: is) l (vI x :: st) σ Q :=
  tt_ifge (fun h' => absurd h (by omega)) (fun _ => K)
theorem tt_icgt {o : Int} {b : Nat} {x y : Int} (K1 : y < x → TT bs (bs.getD b []) l st σ Q) (K2 : x ≤ y → TT bs is l st σ Q) : TT bs ((.if_icmp .gt o, [b], v) :: is) l (vI y :: vI x :: st) σ Q :=
  tt_ic (fun h => K1 (of_decide_eq_true h)) (fun h => K2 (by have := of_decide_eq_false h; omega))
theorem tt_ifgt {o : Int} {b : Nat} {x : Int} (K1 : 0 < x → TT bs (bs.getD b []) l st σ Q) (K2 : x ≤ 0 → TT bs is l st σ Q) : TT bs ((.ifCond .gt o, [b], v) :: is) l (vI x :: st) σ Q :=
  tt_if (fun h => K1 (of_decide_eq_true h)) (fun h => K2 (by have := of_decide_eq_false h; omega))
theorem tt_ifgtT {o : Int} {b : Nat} {x : Int} (h : 0 < x) (K : TT bs (bs.getD b []) l st σ Q) : TT bs ((.ifCond .gt o, [b], v) :: is) l (vI x :: st) σ Q :=
  tt_ifgt (fun _ => K) (fun h' => absurd h (by omega))
theorem tt_ifgtF {o : Int} {b : Nat} {x : Int} (h : x ≤ 0) (K : TT bs is l st σ Q) : TT bs ((.ifCond .gt o, [b], v) :: is) l (vI x :: st) σ Q :=
  tt_ifgt (fun h' => absurd h (by omega)) (fun _ => K)
theorem tt_icle {o : Int} {b : Nat} {x y : Int} (K1 : x ≤ y → TT bs (bs.getD b []) l st σ Q) (K2 : y < x → TT bs is l st σ Q) : TT bs ((.if_icmp .le o, [b], v) :: is) l (vI y :: vI x :: st) σ Q :=
  tt_ic (fun h => K1 (of_decide_eq_true h)) (fun h => K2 (by have := of_decide_eq_false h; omega))
theorem tt_ifle {o : Int} {b : Nat} {x : Int} (K1 : x ≤ 0 → TT bs (bs.getD b []) l st σ Q) (K2 : 0 < x → TT bs is l st σ Q) : TT bs ((.ifCond .le o, [b], v) :: is) l (vI x :: st) σ Q :=
  tt_if (fun h => K1 (of_decide_eq_true h)) (fun h => K2 (by have := of_decide_eq_false h; omega))
theorem tt_ifleT {o : Int} {b : Nat} {x : Int} (h : x ≤ 0) (K : TT bs (bs.getD b []) l st σ Q) : TT bs ((.ifCond .le o, [b], v) :: is) l (vI x :: st) σ Q :=
  tt_ifle (fun _ => K) (fun h' => absurd h (by omega))
theorem tt_ifleF {o : Int} {b : Nat} {x : Int} (h : 0 < x) (K : TT bs is l st σ Q) : TT bs ((.ifCond .le o, [b], v) :: is) l (vI x :: st) σ Q :=
  tt_ifle (fun h' => absurd h (by omega)) (fun _ => K)
theorem tt_tsw {d lo hi : Int} {offs : Array Int} {b : Nat} {bl : List Nat} {x : Int} (K1 : (x < lo ∨ hi < x) → TT bs (bs.getD b []) l st σ Q) (K2 : lo ≤ x → x ≤ hi → TT bs (bs.getD (bl.getD (x - lo).toNat 0) []) l st σ Q) : TT bs ((.tableswitch d lo hi offs, b :: bl, v) :: is) l (vI x :: st) σ Q := by
  by_cases h : x < lo ∨ hi < x
  · exact tt_ctJ rfl rfl (show some (some (if x < lo ∨ hi < x then b else bl.getD (x - lo).toNat 0), st) = some (some b, st) by rw [if_pos h]) (K1 h)
  · exact tt_ctJ rfl rfl (show some (some (if x < lo ∨ hi < x then b else bl.getD (x - lo).toNat 0), st) = some (some (bl.getD (x - lo).toNat 0), st) by rw [if_neg h]) (K2 (by omega) (by omega))
theorem tt_lsw {d : Int} {ps : Array (Int × Int)} {b : Nat} {bl : List Nat} {x : Int} (K : TT bs (bs.getD (am_look ps.toList bl b x) []) l st σ Q) : TT bs ((.lookupswitch d ps, b :: bl, v) :: is) l (vI x :: st) σ Q := tt_ctJ rfl rfl rfl K
theorem tt_to {b b' : Nat} (h : b = b') (K : TT bs (bs.getD b' []) l st σ Q) : TT bs (bs.getD b []) l st σ Q := h ▸ K
/-! ends -/
theorem tt_vret (K : Q none σ) : TT bs ((.return_, ops, v) :: is) l [] σ Q := tt_rt rfl rfl rfl rfl rfl K
theorem tt_iret {x : Int} (K : Q (some (vI x)) σ) : TT bs ((.ireturn, [0], v) :: is) l [vI x] σ Q := tt_rt rfl rfl rfl rfl (show (if ((0 : Nat) = 0 ∨ x = 0 ∨ x = 1) then some (some (vI x)) else none) = some (some (vI x)) from if_pos (Or.inl rfl)) K
theorem tt_zret {b : Nat} {x : Int} (hx : x = 0 ∨ x = 1) (K : Q (some (vI x)) σ) : TT bs ((.ireturn, [b], v) :: is) l [vI x] σ Q := tt_rt rfl rfl rfl rfl (show (if (b = 0 ∨ x = 0 ∨ x = 1) then some (some (vI x)) else none) = some (some (vI x)) from if_pos (Or.inr hx)) K
theorem tt_lret {x : Int} (K : Q (some (vL x)) σ) : TT bs ((.lreturn, ops, v) :: is) l [vL x] σ Q := tt_rt rfl rfl rfl rfl rfl K
/-! calls -/
def am_cok (as st' : List am_V) (N : Nat) : Bool := Nat.ble (as.map am_cat).sum N && Nat.ble (st'.map am_cat).sum 8
theorem am_cokS {as st' : List am_V} {N : Nat} (h : am_cok as st' N = true) : (st'.map am_cat).sum ≤ 8 ∧ ((as.map am_cat).sum : Int) ≤ (N : Int) := by
  unfold am_cok at h
  rw [Bool.and_eq_true] at h
  have h1 := Nat.le_of_ble_eq_true h.1
  exact ⟨Nat.le_of_ble_eq_true h.2, by omega⟩
theorem kp {u : am_V} (K : TT bs is l (u :: st) σ Q) : ∀ r σ1, (r = some u ∧ σ1 = σ) → TT bs is l (r.toList ++ st) σ1 Q := by
  intro r σ1 h
  obtain ⟨rfl, rfl⟩ := h
  exact K
theorem ks {u : am_V} {σ2 : am_S} (K : TT bs is l (u :: st) σ2 Q) : ∀ r σ1, (σ1 = σ2 ∧ r = some u) → TT bs is l (r.toList ++ st) σ1 Q := by
  intro r σ1 h
  obtain ⟨rfl, rfl⟩ := h
  exact K
theorem ksn {σ2 : am_S} (K : TT bs is l st σ2 Q) : ∀ r σ1, (σ1 = σ2 ∧ r = none) → TT bs is l (r.toList ++ st) σ1 Q := by
  intro r σ1 h
  obtain ⟨rfl, rfl⟩ := h
  exact K
theorem kor {P1 P2 : Option am_V → am_S → Prop} (h1 : ∀ r σ1, P1 r σ1 → TT bs is l (r.toList ++ st) σ1 Q) (h2 : ∀ r σ1, P2 r σ1 → TT bs is l (r.toList ++ st) σ1 Q) : ∀ r σ1, (P1 r σ1 ∨ P2 r σ1) → TT bs is l (r.toList ++ st) σ1 Q := fun r σ1 h => h.elim (h1 r σ1) (h2 r σ1)
theorem kex {X : Type} {P1 : X → Option am_V → am_S → Prop} (h1 : ∀ x r σ1, P1 x r σ1 → TT bs is l (r.toList ++ st) σ1 Q) : ∀ r σ1, (∃ x, P1 x r σ1) → TT bs is l (r.toList ++ st) σ1 Q := fun r σ1 h => h.elim (fun x hx => h1 x r σ1 hx)
theorem kand {c : Prop} {P1 : Option am_V → am_S → Prop} (h1 : c → ∀ r σ1, P1 r σ1 → TT bs is l (r.toList ++ st) σ1 Q) : ∀ r σ1, (c ∧ P1 r σ1) → TT bs is l (r.toList ++ st) σ1 Q := fun r σ1 h => h1 h.1 r σ1 h.2
theorem kb {c : Prop} (K1 : c → TT bs is l (vI 1 :: st) σ Q) (K2 : ¬ c → TT bs is l (vI 0 :: st) σ Q) : ∀ r σ1, (σ1 = σ ∧ ((c ∧ r = some (vI 1)) ∨ (¬ c ∧ r = some (vI 0)))) → TT bs is l (r.toList ++ st) σ1 Q := by
  intro r σ1 h
  obtain ⟨rfl, ⟨hc, rfl⟩ | ⟨hc, rfl⟩⟩ := h
  · exact K1 hc
  · exact K2 hc

theorem tt_cs0 {f m : Nat} (N : Nat) {Q1 : Option am_V → am_S → Prop} (ok : am_cok [] st N = true) (C : CC m [] σ Q1) (K : ∀ r σ1, Q1 r σ1 → TT bs is l (r.toList ++ st) σ1 Q) : TT bs ((.invokestatic f, [m, 0], (N : Int)) :: is) l (st) σ Q :=
  tt_call rfl rfl rfl (if_pos ⟨by simp, (am_cokS ok).1, (am_cokS ok).2⟩) C K
theorem tt_cs1 {f m : Nat} {u0 : am_V} (N : Nat) {Q1 : Option am_V → am_S → Prop} (ok : am_cok [u0] st N = true) (C : CC m [u0] σ Q1) (K : ∀ r σ1, Q1 r σ1 → TT bs is l (r.toList ++ st) σ1 Q) : TT bs ((.invokestatic f, [m, 1], (N : Int)) :: is) l (u0 :: st) σ Q :=
  tt_call rfl rfl rfl (if_pos ⟨by simp, (am_cokS ok).1, (am_cokS ok).2⟩) C K
theorem tt_cv1 {f m a c : Nat} (N : Nat) {Q1 : Option am_V → am_S → Prop} (ok : am_cok [vR a] st N = true) (hO : am_isO σ a c = true) (C : CC m [vR a] σ Q1) (K : ∀ r σ1, Q1 r σ1 → TT bs is l (r.toList ++ st) σ1 Q) : TT bs ((.invokevirtual f, [m, 1, c], (N : Int)) :: is) l (vR a :: st) σ Q :=
  tt_call rfl rfl rfl (if_pos ⟨by simp, (am_cokS ok).1, (am_cokS ok).2, hO⟩) C K
theorem tt_cx1 {f m a : Nat} (N : Nat) {Q1 : Option am_V → am_S → Prop} (ok : am_cok [vR a] st N = true) (C : CC m [vR a] σ Q1) (K : ∀ r σ1, Q1 r σ1 → TT bs is l (r.toList ++ st) σ1 Q) : TT bs ((.invokespecial f, [m, 1], (N : Int)) :: is) l (vR a :: st) σ Q :=
  tt_call rfl rfl rfl (if_pos ⟨by simp, (am_cokS ok).1, (am_cokS ok).2⟩) C K
theorem tt_cs2 {f m : Nat} {u0 u1 : am_V} (N : Nat) {Q1 : Option am_V → am_S → Prop} (ok : am_cok [u0, u1] st N = true) (C : CC m [u0, u1] σ Q1) (K : ∀ r σ1, Q1 r σ1 → TT bs is l (r.toList ++ st) σ1 Q) : TT bs ((.invokestatic f, [m, 2], (N : Int)) :: is) l (u1 :: u0 :: st) σ Q :=
  tt_call rfl rfl rfl (if_pos ⟨by simp, (am_cokS ok).1, (am_cokS ok).2⟩) C K
theorem tt_cv2 {f m a c : Nat} {u1 : am_V} (N : Nat) {Q1 : Option am_V → am_S → Prop} (ok : am_cok [vR a, u1] st N = true) (hO : am_isO σ a c = true) (C : CC m [vR a, u1] σ Q1) (K : ∀ r σ1, Q1 r σ1 → TT bs is l (r.toList ++ st) σ1 Q) : TT bs ((.invokevirtual f, [m, 2, c], (N : Int)) :: is) l (u1 :: vR a :: st) σ Q :=
  tt_call rfl rfl rfl (if_pos ⟨by simp, (am_cokS ok).1, (am_cokS ok).2, hO⟩) C K
theorem tt_cx2 {f m a : Nat} {u1 : am_V} (N : Nat) {Q1 : Option am_V → am_S → Prop} (ok : am_cok [vR a, u1] st N = true) (C : CC m [vR a, u1] σ Q1) (K : ∀ r σ1, Q1 r σ1 → TT bs is l (r.toList ++ st) σ1 Q) : TT bs ((.invokespecial f, [m, 2], (N : Int)) :: is) l (u1 :: vR a :: st) σ Q :=
  tt_call rfl rfl rfl (if_pos ⟨by simp, (am_cokS ok).1, (am_cokS ok).2⟩) C K
theorem tt_cs3 {f m : Nat} {u0 u1 u2 : am_V} (N : Nat) {Q1 : Option am_V → am_S → Prop} (ok : am_cok [u0, u1, u2] st N = true) (C : CC m [u0, u1, u2] σ Q1) (K : ∀ r σ1, Q1 r σ1 → TT bs is l (r.toList ++ st) σ1 Q) : TT bs ((.invokestatic f, [m, 3], (N : Int)) :: is) l (u2 :: u1 :: u0 :: st) σ Q :=
  tt_call rfl rfl rfl (if_pos ⟨by simp, (am_cokS ok).1, (am_cokS ok).2⟩) C K
theorem tt_cv3 {f m a c : Nat} {u1 u2 : am_V} (N : Nat) {Q1 : Option am_V → am_S → Prop} (ok : am_cok [vR a, u1, u2] st N = true) (hO : am_isO σ a c = true) (C : CC m [vR a, u1, u2] σ Q1) (K : ∀ r σ1, Q1 r σ1 → TT bs is l (r.toList ++ st) σ1 Q) : TT bs ((.invokevirtual f, [m, 3, c], (N : Int)) :: is) l (u2 :: u1 :: vR a :: st) σ Q :=
  tt_call rfl rfl rfl (if_pos ⟨by simp, (am_cokS ok).1, (am_cokS ok).2, hO⟩) C K
theorem tt_cx3 {f m a : Nat} {u1 u2 : am_V} (N : Nat) {Q1 : Option am_V → am_S → Prop} (ok : am_cok [vR a, u1, u2] st N = true) (C : CC m [vR a, u1, u2] σ Q1) (K : ∀ r σ1, Q1 r σ1 → TT bs is l (r.toList ++ st) σ1 Q) : TT bs ((.invokespecial f, [m, 3], (N : Int)) :: is) l (u2 :: u1 :: vR a :: st) σ Q :=
  tt_call rfl rfl rfl (if_pos ⟨by simp, (am_cokS ok).1, (am_cokS ok).2⟩) C K
theorem tt_cs4 {f m : Nat} {u0 u1 u2 u3 : am_V} (N : Nat) {Q1 : Option am_V → am_S → Prop} (ok : am_cok [u0, u1, u2, u3] st N = true) (C : CC m [u0, u1, u2, u3] σ Q1) (K : ∀ r σ1, Q1 r σ1 → TT bs is l (r.toList ++ st) σ1 Q) : TT bs ((.invokestatic f, [m, 4], (N : Int)) :: is) l (u3 :: u2 :: u1 :: u0 :: st) σ Q :=
  tt_call rfl rfl rfl (if_pos ⟨by simp, (am_cokS ok).1, (am_cokS ok).2⟩) C K
theorem tt_cv4 {f m a c : Nat} {u1 u2 u3 : am_V} (N : Nat) {Q1 : Option am_V → am_S → Prop} (ok : am_cok [vR a, u1, u2, u3] st N = true) (hO : am_isO σ a c = true) (C : CC m [vR a, u1, u2, u3] σ Q1) (K : ∀ r σ1, Q1 r σ1 → TT bs is l (r.toList ++ st) σ1 Q) : TT bs ((.invokevirtual f, [m, 4, c], (N : Int)) :: is) l (u3 :: u2 :: u1 :: vR a :: st) σ Q :=
  tt_call rfl rfl rfl (if_pos ⟨by simp, (am_cokS ok).1, (am_cokS ok).2, hO⟩) C K
theorem tt_cx4 {f m a : Nat} {u1 u2 u3 : am_V} (N : Nat) {Q1 : Option am_V → am_S → Prop} (ok : am_cok [vR a, u1, u2, u3] st N = true) (C : CC m [vR a, u1, u2, u3] σ Q1) (K : ∀ r σ1, Q1 r σ1 → TT bs is l (r.toList ++ st) σ1 Q) : TT bs ((.invokespecial f, [m, 4], (N : Int)) :: is) l (u3 :: u2 :: u1 :: vR a :: st) σ Q :=
  tt_call rfl rfl rfl (if_pos ⟨by simp, (am_cokS ok).1, (am_cokS ok).2⟩) C K
theorem tt_cs5 {f m : Nat} {u0 u1 u2 u3 u4 : am_V} (N : Nat) {Q1 : Option am_V → am_S → Prop} (ok : am_cok [u0, u1, u2, u3, u4] st N = true) (C : CC m [u0, u1, u2, u3, u4] σ Q1) (K : ∀ r σ1, Q1 r σ1 → TT bs is l (r.toList ++ st) σ1 Q) : TT bs ((.invokestatic f, [m, 5], (N : Int)) :: is) l (u4 :: u3 :: u2 :: u1 :: u0 :: st) σ Q :=
  tt_call rfl rfl rfl (if_pos ⟨by simp, (am_cokS ok).1, (am_cokS ok).2⟩) C K
theorem tt_cv5 {f m a c : Nat} {u1 u2 u3 u4 : am_V} (N : Nat) {Q1 : Option am_V → am_S → Prop} (ok : am_cok [vR a, u1, u2, u3, u4] st N = true) (hO : am_isO σ a c = true) (C : CC m [vR a, u1, u2, u3, u4] σ Q1) (K : ∀ r σ1, Q1 r σ1 → TT bs is l (r.toList ++ st) σ1 Q) : TT bs ((.invokevirtual f, [m, 5, c], (N : Int)) :: is) l (u4 :: u3 :: u2 :: u1 :: vR a :: st) σ Q :=
  tt_call rfl rfl rfl (if_pos ⟨by simp, (am_cokS ok).1, (am_cokS ok).2, hO⟩) C K
theorem tt_cx5 {f m a : Nat} {u1 u2 u3 u4 : am_V} (N : Nat) {Q1 : Option am_V → am_S → Prop} (ok : am_cok [vR a, u1, u2, u3, u4] st N = true) (C : CC m [vR a, u1, u2, u3, u4] σ Q1) (K : ∀ r σ1, Q1 r σ1 → TT bs is l (r.toList ++ st) σ1 Q) : TT bs ((.invokespecial f, [m, 5], (N : Int)) :: is) l (u4 :: u3 :: u2 :: u1 :: vR a :: st) σ Q :=
  tt_call rfl rfl rfl (if_pos ⟨by simp, (am_cokS ok).1, (am_cokS ok).2⟩) C K
theorem tt_cs6 {f m : Nat} {u0 u1 u2 u3 u4 u5 : am_V} (N : Nat) {Q1 : Option am_V → am_S → Prop} (ok : am_cok [u0, u1, u2, u3, u4, u5] st N = true) (C : CC m [u0, u1, u2, u3, u4, u5] σ Q1) (K : ∀ r σ1, Q1 r σ1 → TT bs is l (r.toList ++ st) σ1 Q) : TT bs ((.invokestatic f, [m, 6], (N : Int)) :: is) l (u5 :: u4 :: u3 :: u2 :: u1 :: u0 :: st) σ Q :=
  tt_call rfl rfl rfl (if_pos ⟨by simp, (am_cokS ok).1, (am_cokS ok).2⟩) C K
theorem tt_cv6 {f m a c : Nat} {u1 u2 u3 u4 u5 : am_V} (N : Nat) {Q1 : Option am_V → am_S → Prop} (ok : am_cok [vR a, u1, u2, u3, u4, u5] st N = true) (hO : am_isO σ a c = true) (C : CC m [vR a, u1, u2, u3, u4, u5] σ Q1) (K : ∀ r σ1, Q1 r σ1 → TT bs is l (r.toList ++ st) σ1 Q) : TT bs ((.invokevirtual f, [m, 6, c], (N : Int)) :: is) l (u5 :: u4 :: u3 :: u2 :: u1 :: vR a :: st) σ Q :=
  tt_call rfl rfl rfl (if_pos ⟨by simp, (am_cokS ok).1, (am_cokS ok).2, hO⟩) C K
theorem tt_cx6 {f m a : Nat} {u1 u2 u3 u4 u5 : am_V} (N : Nat) {Q1 : Option am_V → am_S → Prop} (ok : am_cok [vR a, u1, u2, u3, u4, u5] st N = true) (C : CC m [vR a, u1, u2, u3, u4, u5] σ Q1) (K : ∀ r σ1, Q1 r σ1 → TT bs is l (r.toList ++ st) σ1 Q) : TT bs ((.invokespecial f, [m, 6], (N : Int)) :: is) l (u5 :: u4 :: u3 :: u2 :: u1 :: vR a :: st) σ Q :=
  tt_call rfl rfl rfl (if_pos ⟨by simp, (am_cokS ok).1, (am_cokS ok).2⟩) C K
end ROWS
