/-! THE SMALL MACHINE, second half: cells, calls, a run -/
def am_isO (σ : am_S) (a c : Nat) : Bool := match σ.2.2.1[a]? with
  | some (.inr c', _) => decide (c' = c) && decide (2 ≤ a)
  | _ => false
def am_getf (c k : Nat) (st : List am_V) (σ : am_S) : Option (List am_V × am_S) := match st with
  | .inr (.inr (some a)) :: st' => if am_isO σ a c then some (am_gv (am_fty c k) a k σ :: st', σ) else none
  | _ => none
def am_putf (c k : Nat) (st : List am_V) (σ : am_S) : Option (List am_V × am_S) := match st with
  | v :: .inr (.inr (some a)) :: st' => if am_isO σ a c then (am_pv (am_fty c k) a k v σ).map (fun σ' => (st', σ')) else none
  | _ => none
def am_newo (c : Nat) (st : List am_V) (σ : am_S) : Option (List am_V × am_S) := if c < 11 then some (vR σ.2.2.1.length :: st, am_new σ (.inr c, am_cN c)) else none
def am_newq (st : List am_V) (σ : am_S) : Option (List am_V × am_S) := am_newa am_strip st σ
def am_initO (st : List am_V) (σ : am_S) : Option (List am_V × am_S) := match st with
  | .inr (.inr (some _)) :: st' => if (st'.map am_cat).sum ≤ 8 then some (st', σ) else none
  | _ => none
def am_bget (st : List am_V) (σ : am_S) : Option (List am_V × am_S) := (am_aget .byte st σ).or (am_aget .boolean st σ)
def am_bput (st : List am_V) (σ : am_S) : Option (List am_V × am_S) := (am_aput .byte w8 st σ).or (am_aput .boolean (fun x => x % 2) st σ)
def am_math (k : Nat) (st : List am_V) (σ : am_S) : Option (List am_V × am_S) := match k with
  | 0 => match st with
    | .inl y :: .inl x :: st' => if (st'.map am_cat).sum ≤ 8 then some (vI (if x < y then y else x) :: st', σ) else none
    | _ => none
  | 1 => match st with
    | .inl y :: .inl x :: st' => if (st'.map am_cat).sum ≤ 8 then some (vI (if y < x then y else x) :: st', σ) else none
    | _ => none
  | 2 => match st with
    | .inr (.inl y) :: .inr (.inl x) :: st' => if (st'.map am_cat).sum ≤ 8 then some (vL (if y < x then y else x) :: st', σ) else none
    | _ => none
  | _ => none
/-- cells -/
def am_me (i : Instr) (ops : List Nat) (st : List am_V) (σ : am_S) : Option (List am_V × am_S) := match i with
  | .getfield _ => match ops with
    | [c, k] => am_getf c k st σ
    | _ => none
  | .putfield _ => match ops with
    | [c, k] => am_putf c k st σ
    | _ => none
  | .getstatic _ => some (vR 0 :: st, σ)
  | .iaload => am_aget .int st σ
  | .laload => am_aget .long st σ
  | .baload => am_bget st σ
  | .aaload => am_aget am_strip st σ
  | .iastore => am_aput .int (fun x => x) st σ
  | .lastore => am_aputL st σ
  | .bastore => am_bput st σ
  | .aastore => am_aputR st σ
  | .arraylength => am_alen st σ
  | .newarray t => am_newa (am_newT t) st σ
  | .anewarray _ => am_newq st σ
  | .new _ => match ops with
    | [c] => am_newo c st σ
    | _ => none
  | .invokespecial _ => match ops with
    | [] => am_initO st σ
    | _ => none
  | .invokestatic _ => match ops with
    | [] => am_acopy st σ
    | [k] => am_math k st σ
    | _ => none
  | _ => none
/-- calls: which method, its arguments, what stays on the stack -/
def am_ca (i : Instr) (ops : List Nat) (v : Int) (st : List am_V) (σ : am_S) : Option (Nat × List am_V × List am_V) := match i with
  | .invokestatic _ => match ops with
    | [m, n] => if n ≤ st.length ∧ ((st.drop n).map am_cat).sum ≤ 8 ∧ (((st.take n).reverse.map am_cat).sum : Int) ≤ v then some (m, (st.take n).reverse, st.drop n) else none
    | _ => none
  | .invokevirtual _ => match ops with
    | [m, n, c] => match (st.take n).reverse with
      | .inr (.inr (some a)) :: as => if n ≤ st.length ∧ ((st.drop n).map am_cat).sum ≤ 8 ∧ (((vR a :: as).map am_cat).sum : Int) ≤ v ∧ am_isO σ a c = true then some (m, vR a :: as, st.drop n) else none
      | _ => none
    | _ => none
  | .invokespecial _ => match ops with
    | [m, n] => match (st.take n).reverse with
      | .inr (.inr (some a)) :: as => if n ≤ st.length ∧ ((st.drop n).map am_cat).sum ≤ 8 ∧ (((vR a :: as).map am_cat).sum : Int) ≤ v then some (m, vR a :: as, st.drop n) else none
      | _ => none
    | _ => none
  | _ => none
/-- ends -/
def am_rt (i : Instr) (ops : List Nat) (st : List am_V) : Option (Option am_V) := match i with
  | .return_ => match st with
    | [] => some none
    | _ => none
  | .ireturn => match st with
    | [.inl x] => if ops.headD 0 = 0 ∨ x = 0 ∨ x = 1 then some (some (vI x)) else none
    | _ => none
  | .lreturn => match st with
    | [.inr (.inl x)] => some (some (vL x))
    | _ => none
  | .areturn => match st with
    | [.inr (.inr (some a))] => some (some (vR a))
    | _ => none
  | _ => none
def am_args : Nat → List am_V → am_Lc
  | _, [] => []
  | i, v :: vs => (i, v) :: am_args (if am_two v then i + 2 else i + 1) vs
def am_run (P : Nat → List (List am_I)) : Nat → List (List am_I) → List am_I → am_Lc → List am_V → am_S → Option (Option am_V × am_S)
  | 0, _, _, _, _, _ => none
  | _ + 1, _, [], _, _, _ => none
  | n + 1, bs, (i, ops, v) :: is, l, st, σ =>
    match am_ar i v l st with
    | some (l', st') => am_run P n bs is l' st' σ
    | none => match am_me i ops st σ with
      | some (st', σ') => am_run P n bs is l st' σ'
      | none => match am_ct i ops st with
        | some (some b, st') => am_run P n bs (bs.getD b []) l st' σ
        | some (none, st') => am_run P n bs is l st' σ
        | none => match am_ca i ops v st σ with
          | some (m, as, st') => match am_run P n (P m) ((P m).getD 0 []) (am_args 0 as) [] σ with
            | some (r, σ') => am_run P n bs is l (r.toList ++ st') σ'
            | none => none
          | none => match am_rt i ops st with
            | some r => some (r, σ)
            | none => none
/-! more fuel does no harm; a run's end is one -/
set_option maxHeartbeats 1000000 in
theorem am_run_mono (P : Nat → List (List am_I)) : ∀ (n : Nat) (bs : List (List am_I)) (is : List am_I) (l : am_Lc) (st : List am_V) (σ : am_S) (o : Option am_V × am_S), am_run P n bs is l st σ = some o → am_run P (n + 1) bs is l st σ = some o := by
  intro n
  induction n with
  | zero => intro bs is l st σ o h; simp [am_run] at h
  | succ n ih =>
    intro bs is l st σ o h
    cases is with
    | nil => simp [am_run] at h
    | cons i is =>
      obtain ⟨i, ops, v⟩ := i
      rw [am_run] at h ⊢
      cases h1 : am_ar i v l st with
      | some q => rw [h1] at h; exact ih _ _ _ _ _ _ h
      | none =>
        rw [h1] at h
        dsimp only at h ⊢
        cases h2 : am_me i ops st σ with
        | some q => rw [h2] at h; exact ih _ _ _ _ _ _ h
        | none =>
          rw [h2] at h
          dsimp only at h ⊢
          cases h3 : am_ct i ops st with
          | some q =>
            obtain ⟨b, st'⟩ := q
            rw [h3] at h
            cases b with
            | some b => exact ih _ _ _ _ _ _ h
            | none => exact ih _ _ _ _ _ _ h
          | none =>
            rw [h3] at h
            dsimp only at h ⊢
            cases h4 : am_ca i ops v st σ with
            | some q =>
              obtain ⟨m, as, st'⟩ := q
              rw [h4] at h
              dsimp only at h ⊢
              cases h5 : am_run P n (P m) ((P m).getD 0 []) (am_args 0 as) [] σ with
              | none => rw [h5] at h; cases h
              | some r =>
                obtain ⟨r, σ'⟩ := r
                rw [h5] at h
                rw [ih _ _ _ _ _ _ h5]
                exact ih _ _ _ _ _ _ h
            | none =>
              rw [h4] at h
              exact h
theorem am_run_le (P : Nat → List (List am_I)) {n k : Nat} (hk : n ≤ k) {bs : List (List am_I)} {is : List am_I} {l : am_Lc} {st : List am_V} {σ : am_S} {o : Option am_V × am_S} (h : am_run P n bs is l st σ = some o) : am_run P k bs is l st σ = some o := by
  obtain ⟨d, rfl⟩ := Nat.le.dest hk
  induction d with
  | zero => exact h
  | succ d ih => exact am_run_mono P (n + d) bs is l st σ o (ih (Nat.le_add_right n d))
