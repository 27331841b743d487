/-! A RUN OF THE SMALL MACHINE IS ONE OF THE LARGE ONE -/
theorem am_pv_al {ty : FieldType} {a k : Nat} {v : am_V} {σ σ' : am_S} (h : am_pv ty a k v σ = some σ') : σ'.2.2 = σ.2.2 := by
  unfold am_pv at h
  split at h
  · cases h; rfl
  · split at h
    · cases h; rfl
    · cases h
  · cases h; rfl
  · cases h; rfl
  · cases h; rfl
  · cases h
/-- what was made stays made -/
def am_up (σ σ' : am_S) : Prop := σ.2.2.2.1 ≤ σ'.2.2.2.1 ∧ σ.2.2.2.2 ≤ σ'.2.2.2.2
theorem am_up_rf (σ : am_S) : am_up σ σ := ⟨Nat.le_refl _, Nat.le_refl _⟩
theorem am_up_tr {a b c : am_S} (h1 : am_up a b) (h2 : am_up b c) : am_up a c := ⟨Nat.le_trans h1.1 h2.1, Nat.le_trans h1.2 h2.2⟩
theorem am_up_al {σ σ' : am_S} (h : σ'.2.2 = σ.2.2) : am_up σ σ' := by unfold am_up; rw [h]; exact ⟨Nat.le_refl _, Nat.le_refl _⟩
theorem am_up_new (σ : am_S) (q : am_Ly) : am_up σ (am_new σ q) := ⟨Nat.le_succ _, Nat.le_add_right _ _⟩
theorem am_up_me {i : Instr} {ops : List Nat} {st st' : List am_V} {σ σ' : am_S} (h : am_me i ops st σ = some (st', σ')) : am_up σ σ' := by
  unfold am_me at h
  split at h
  · split at h
    · obtain ⟨_, _, _, _, _, _, _, rfl⟩ := am_getf_inv h; exact am_up_rf _
    · cases h
  · split at h
    · obtain ⟨_, _, _, _, _, _, h1⟩ := am_putf_inv h; exact am_up_al (am_pv_al h1)
    · cases h
  · cases h; exact am_up_rf _
  · obtain ⟨_, _, _, _, _, _, _, _, _, rfl⟩ := am_aget_inv h; exact am_up_rf _
  · obtain ⟨_, _, _, _, _, _, _, _, _, rfl⟩ := am_aget_inv h; exact am_up_rf _
  · unfold am_bget at h
    rw [Option.or_eq_some_iff] at h
    rcases h with h | ⟨-, h⟩
    · obtain ⟨_, _, _, _, _, _, _, _, _, rfl⟩ := am_aget_inv h; exact am_up_rf _
    · obtain ⟨_, _, _, _, _, _, _, _, _, rfl⟩ := am_aget_inv h; exact am_up_rf _
  · obtain ⟨_, _, _, _, _, _, _, _, _, rfl⟩ := am_aget_inv h; exact am_up_rf _
  · obtain ⟨_, _, _, _, _, _, _, _, _, rfl⟩ := am_aput_inv h; exact am_up_al rfl
  · obtain ⟨_, _, _, _, _, _, _, _, _, rfl⟩ := am_aputL_inv h; exact am_up_al rfl
  · unfold am_bput at h
    rw [Option.or_eq_some_iff] at h
    rcases h with h | ⟨-, h⟩
    · obtain ⟨_, _, _, _, _, _, _, _, _, rfl⟩ := am_aput_inv h; exact am_up_al rfl
    · obtain ⟨_, _, _, _, _, _, _, _, _, rfl⟩ := am_aput_inv h; exact am_up_al rfl
  · obtain ⟨_, _, _, _, _, _, _, _, _, _, _, _, rfl⟩ := am_aputR_inv h; exact am_up_al rfl
  · obtain ⟨_, _, _, _, _, _, _, _, rfl⟩ := am_alen_inv h; exact am_up_rf _
  · obtain ⟨_, _, _, _, _, _, rfl⟩ := am_newa_inv h; exact am_up_new _ _
  · unfold am_newq at h; obtain ⟨_, _, _, _, _, _, rfl⟩ := am_newa_inv h; exact am_up_new _ _
  · split at h
    · unfold am_newo at h
      split at h
      · cases h; exact am_up_new _ _
      · cases h
    · cases h
  · split at h
    · unfold am_initO at h
      split at h
      · split at h
        · cases h; exact am_up_rf _
        · cases h
      · cases h
    · cases h
  · split at h
    · obtain ⟨_, _, _, _, _, _, _, _, _, _, _, _, _, _, _, _, _, _, rfl⟩ := am_acopy_inv h; exact am_up_al rfl
    · unfold am_math at h
      split at h
      · split at h
        · split at h
          · cases h; exact am_up_rf _
          · cases h
        · cases h
      · split at h
        · split at h
          · cases h; exact am_up_rf _
          · cases h
        · cases h
      · split at h
        · split at h
          · cases h; exact am_up_rf _
          · cases h
        · cases h
      · cases h
    · cases h
  · cases h
theorem am_up_run (P : Nat → List (List am_I)) : ∀ (n : Nat) (bs : List (List am_I)) (is : List am_I) (l : am_Lc) (st : List am_V) (σ : am_S) (r : Option am_V) (σ' : am_S), am_run P n bs is l st σ = some (r, σ') → am_up σ σ' := by
  intro n
  induction n with
  | zero => intro bs is l st σ r σ' h; simp [am_run] at h
  | succ n ih =>
    intro bs is l st σ r σ' h
    cases is with
    | nil => simp [am_run] at h
    | cons i is =>
      obtain ⟨i, ops, v⟩ := i
      rw [am_run] at h
      cases h1 : am_ar i v l st with
      | some q => rw [h1] at h; exact ih _ _ _ _ _ _ _ h
      | none =>
        rw [h1] at h
        dsimp only at h
        cases h2 : am_me i ops st σ with
        | some q => rw [h2] at h; exact am_up_tr (am_up_me h2) (ih _ _ _ _ _ _ _ h)
        | none =>
          rw [h2] at h
          dsimp only at h
          cases h3 : am_ct i ops st with
          | some q =>
            obtain ⟨b, st'⟩ := q
            rw [h3] at h
            cases b with
            | some b => exact ih _ _ _ _ _ _ _ h
            | none => exact ih _ _ _ _ _ _ _ h
          | none =>
            rw [h3] at h
            dsimp only at h
            cases h4 : am_ca i ops v st σ with
            | some q =>
              obtain ⟨m, as, st'⟩ := q
              rw [h4] at h
              dsimp only at h
              cases h5 : am_run P n (P m) ((P m).getD 0 []) (am_args 0 as) [] σ with
              | none => rw [h5] at h; cases h
              | some q =>
                obtain ⟨r1, σ1⟩ := q
                rw [h5] at h
                exact am_up_tr (ih _ _ _ _ _ _ _ h5) (ih _ _ _ _ _ _ _ h)
            | none =>
              rw [h4] at h
              dsimp only at h
              cases h6 : am_rt i ops st with
              | some r1 => rw [h6] at h; cases h; exact am_up_rf _
              | none => rw [h6] at h; cases h
theorem am_condI {c : Jvm.ClassFile.Cond} {x y : Int} : am_cond c x y = true ↔ (match c with
  | .eq => x = y
  | .ne => ¬ x = y
  | .lt => x < y
  | .ge => y ≤ x
  | .gt => y < x
  | .le => x ≤ y) := by
  cases c <;> simp [am_cond]
theorem am_jmp_inv {sts : List Nat} {pc : Nat} {off : Int} {k : Nat} (h : am_jmp sts pc off k = true) : ∃ t, sts[k]? = some t ∧ (pc : Int) + off = (t : Int) := by
  unfold am_jmp at h
  split at h
  · rename_i t ht
    exact ⟨t, ht, of_decide_eq_true h⟩
  · cases h
theorem am_jmps_inv {sts : List Nat} {pc : Nat} : ∀ {os : List Int} {ks : List Nat}, am_jmps sts pc os ks = true → os.length = ks.length ∧ ∀ (j : Nat) (off : Int), os[j]? = some off → ∃ t, sts[ks.getD j 0]? = some t ∧ (pc : Int) + off = (t : Int)
  | [], [], _ => ⟨rfl, fun j off h => by simp at h⟩
  | o :: os, k :: ks, h => by
    unfold am_jmps at h
    rw [Bool.and_eq_true] at h
    obtain ⟨h1, h2⟩ := am_jmps_inv h.2
    refine ⟨by simp [h1], fun j off hj => ?_⟩
    cases j with
    | zero =>
      cases hj
      exact am_jmp_inv h.1
    | succ j => exact h2 j off (by simpa using hj)
  | [], _ :: _, h => by cases h
  | _ :: _, [], h => by cases h
theorem am_look_inv {sts : List Nat} {pc : Nat} {d x : Int} {kd : Nat} {td : Nat} (hd : sts[kd]? = some td) (hd2 : (pc : Int) + d = (td : Int)) : ∀ {ps : List (Int × Int)} {ks : List Nat}, am_jmps sts pc (ps.map (fun q => q.2)) ks = true → ∃ t, sts[am_look ps ks kd x]? = some t ∧ (pc : Int) + Op.lookupswitch.offset ps d x = (t : Int)
  | [], [], _ => ⟨td, hd, hd2⟩
  | q :: ps, k :: ks, h => by
    have h : (am_jmp sts pc q.2 k && am_jmps sts pc (ps.map (fun q => q.2)) ks) = true := h
    rw [Bool.and_eq_true] at h
    obtain ⟨a, o⟩ := q
    unfold am_look Op.lookupswitch.offset
    by_cases hx : x = a
    · rw [if_pos hx]
      obtain ⟨t, h1, h2⟩ := am_jmp_inv h.1
      refine ⟨t, h1, ?_⟩
      first
        | (rw [if_pos hx]; exact h2)
        | (rw [if_pos hx.symm]; exact h2)
        | (simp [hx]; exact h2)
    · rw [if_neg hx]
      obtain ⟨t, h1, h2⟩ := am_look_inv hd hd2 (x := x) h.2
      refine ⟨t, h1, ?_⟩
      first
        | (rw [if_neg hx]; exact h2)
        | (rw [if_neg (Ne.symm hx)]; exact h2)
        | (simp [hx]; exact h2)
  | [], _ :: _, h => by cases h
  | _ :: _, [], h => by cases h
section SIMCT
variable {p : Program} {l0 : Launch} {e : Env} {R : Room} {s : State} {m : MethodId} {args : Array Value} {below : List Frame} {meth : Method} {c : Code} {H : Heap} {locs : List Loc} {cells slots : Nat} {Q : State → Prop} {cc : ByteArray} {pc : Nat} {ls : Array Slot}
variable {z w b L : Nat} {xs : Nat → Int32} {D : va_G} {o : Nat} {ini : Bool} {maxL : Nat} {ret : Option FieldType} {RF RL : Nat} {sts : List Nat} {len : Nat}
theorem am_brI {P : Prop} {c : Bool} (h : c = true ↔ P) {k : Nat} {st' : List am_V} {q : Option Nat × List am_V} (he : some ((if c then some k else none), st') = some q) : (P → q = (some k, st')) ∧ (¬ P → q = (none, st')) := by
  cases he
  refine ⟨fun hp => by rw [if_pos (h.mpr hp)], fun hp => by rw [if_neg (fun hc => hp (h.mp hc))]⟩
set_option maxHeartbeats 4000000 in
theorem am_sim_ct (hx : p.tables.exec = Jvm.exec) (hb : c.code = cc) {i : Instr} {ops : List Nat} {v : Int} {st st' : List am_V} {r : Option Nat} (h : am_ct i ops st = some (r, st')) (hnop : i ≠ .nop) (hdg : decode cc pc = .ok (i, len)) (hs : am_side o ini maxL ret RF RL sts pc len i ops v = true)
    (gs : ∀ u ∈ st, am_rg u)
    (kn : r = none → (∀ u ∈ st', am_rg u) → W p l0 e R s m args below meth c H locs cells slots Q (F0 m (pc + len) ls (st'.map (am_tv z w b))))
    (kj : ∀ k t, r = some k → sts[k]? = some t → (∀ u ∈ st', am_rg u) → W p l0 e R s m args below meth c H locs cells slots Q (F0 m t ls (st'.map (am_tv z w b)))) :
    W p l0 e R s m args below meth c H locs cells slots Q (F0 m pc ls (st.map (am_tv z w b))) := by
  unfold am_ct at h
  split at h
  · rename_i cd off
    split at h
    · rename_i x r0
      simp only [am_side, Bool.and_eq_true, beq_iff_eq] at hs
      obtain ⟨rfl, hj⟩ := hs
      obtain ⟨t, ht, ht2⟩ := am_jmp_inv hj
      have gx : am_r32 x := rg_h gs
      obtain ⟨b1, b2⟩ := am_brI am_condI h
      have e1 : ∀ k, (r, st') = (some k, r0) → r = some k ∧ st' = r0 := fun k h => by cases h; exact ⟨rfl, rfl⟩
      have e2 : (r, st') = (none, r0) → r = none ∧ st' = r0 := fun h => by cases h; exact ⟨rfl, rfl⟩
      cases cd
      · refine lv_if_eq hx hb hdg ht2 (fun hc => ?_) (fun hc => ?_)
        · obtain ⟨q1, q2⟩ := e1 _ (b1 ((i32_eq gx r32_0).mp hc)); exact kj _ t q1 ht (q2 ▸ rg_t gs) |> (q2 ▸ ·)
        · obtain ⟨q1, q2⟩ := e2 (b2 (fun h => hc ((i32_eq gx r32_0).mpr h))); exact kn q1 (q2 ▸ rg_t gs) |> (q2 ▸ ·)
      · refine lv_if_ne hx hb hdg ht2 (fun hc => ?_) (fun hc => ?_)
        · obtain ⟨q1, q2⟩ := e1 _ (b1 (fun h => hc ((i32_eq gx r32_0).mpr h))); exact kj _ t q1 ht (q2 ▸ rg_t gs) |> (q2 ▸ ·)
        · obtain ⟨q1, q2⟩ := e2 (b2 (fun h => h ((i32_eq gx r32_0).mp hc))); exact kn q1 (q2 ▸ rg_t gs) |> (q2 ▸ ·)
      · refine lv_if_lt hx hb hdg ht2 (fun hc => ?_) (fun hc => ?_)
        · obtain ⟨q1, q2⟩ := e1 _ (b1 ((i32_lt gx r32_0).mp hc)); exact kj _ t q1 ht (q2 ▸ rg_t gs) |> (q2 ▸ ·)
        · obtain ⟨q1, q2⟩ := e2 (b2 (fun h => hc ((i32_lt gx r32_0).mpr h))); exact kn q1 (q2 ▸ rg_t gs) |> (q2 ▸ ·)
      · refine lv_if_ge hx hb hdg ht2 (fun hc => ?_) (fun hc => ?_)
        · obtain ⟨q1, q2⟩ := e1 _ (b1 ((i32_le r32_0 gx).mp hc)); exact kj _ t q1 ht (q2 ▸ rg_t gs) |> (q2 ▸ ·)
        · obtain ⟨q1, q2⟩ := e2 (b2 (fun h => hc ((i32_le r32_0 gx).mpr h))); exact kn q1 (q2 ▸ rg_t gs) |> (q2 ▸ ·)
      · refine lv_if_gt hx hb hdg ht2 (fun hc => ?_) (fun hc => ?_)
        · obtain ⟨q1, q2⟩ := e1 _ (b1 ((i32_lt r32_0 gx).mp hc)); exact kj _ t q1 ht (q2 ▸ rg_t gs) |> (q2 ▸ ·)
        · obtain ⟨q1, q2⟩ := e2 (b2 (fun h => hc ((i32_lt r32_0 gx).mpr h))); exact kn q1 (q2 ▸ rg_t gs) |> (q2 ▸ ·)
      · refine lv_if_le hx hb hdg ht2 (fun hc => ?_) (fun hc => ?_)
        · obtain ⟨q1, q2⟩ := e1 _ (b1 ((i32_le gx r32_0).mp hc)); exact kj _ t q1 ht (q2 ▸ rg_t gs) |> (q2 ▸ ·)
        · obtain ⟨q1, q2⟩ := e2 (b2 (fun h => hc ((i32_le gx r32_0).mpr h))); exact kn q1 (q2 ▸ rg_t gs) |> (q2 ▸ ·)
    · cases h
  · rename_i cd off
    split at h
    · rename_i y x r0
      simp only [am_side, Bool.and_eq_true, beq_iff_eq] at hs
      obtain ⟨rfl, hj⟩ := hs
      obtain ⟨t, ht, ht2⟩ := am_jmp_inv hj
      have gy : am_r32 y := rg_h gs
      have gx : am_r32 x := rg_h (rg_t gs)
      obtain ⟨b1, b2⟩ := am_brI am_condI h
      have e1 : ∀ k, (r, st') = (some k, r0) → r = some k ∧ st' = r0 := fun k h => by cases h; exact ⟨rfl, rfl⟩
      have e2 : (r, st') = (none, r0) → r = none ∧ st' = r0 := fun h => by cases h; exact ⟨rfl, rfl⟩
      have gt := rg_t (rg_t gs)
      cases cd
      · refine lv_icmp_eq hx hb hdg ht2 (fun hc => ?_) (fun hc => ?_)
        · obtain ⟨q1, q2⟩ := e1 _ (b1 ((i32_eq gx gy).mp hc)); exact kj _ t q1 ht (q2 ▸ gt) |> (q2 ▸ ·)
        · obtain ⟨q1, q2⟩ := e2 (b2 (fun h => hc ((i32_eq gx gy).mpr h))); exact kn q1 (q2 ▸ gt) |> (q2 ▸ ·)
      · refine lv_icmp_ne hx hb hdg ht2 (fun hc => ?_) (fun hc => ?_)
        · obtain ⟨q1, q2⟩ := e1 _ (b1 (fun h => hc ((i32_eq gx gy).mpr h))); exact kj _ t q1 ht (q2 ▸ gt) |> (q2 ▸ ·)
        · obtain ⟨q1, q2⟩ := e2 (b2 (fun h => h ((i32_eq gx gy).mp hc))); exact kn q1 (q2 ▸ gt) |> (q2 ▸ ·)
      · refine lv_icmp_lt hx hb hdg ht2 (fun hc => ?_) (fun hc => ?_)
        · obtain ⟨q1, q2⟩ := e1 _ (b1 ((i32_lt gx gy).mp hc)); exact kj _ t q1 ht (q2 ▸ gt) |> (q2 ▸ ·)
        · obtain ⟨q1, q2⟩ := e2 (b2 (fun h => hc ((i32_lt gx gy).mpr h))); exact kn q1 (q2 ▸ gt) |> (q2 ▸ ·)
      · refine lv_icmp_ge hx hb hdg ht2 (fun hc => ?_) (fun hc => ?_)
        · obtain ⟨q1, q2⟩ := e1 _ (b1 ((i32_le gy gx).mp hc)); exact kj _ t q1 ht (q2 ▸ gt) |> (q2 ▸ ·)
        · obtain ⟨q1, q2⟩ := e2 (b2 (fun h => hc ((i32_le gy gx).mpr h))); exact kn q1 (q2 ▸ gt) |> (q2 ▸ ·)
      · refine lv_icmp_gt hx hb hdg ht2 (fun hc => ?_) (fun hc => ?_)
        · obtain ⟨q1, q2⟩ := e1 _ (b1 ((i32_lt gy gx).mp hc)); exact kj _ t q1 ht (q2 ▸ gt) |> (q2 ▸ ·)
        · obtain ⟨q1, q2⟩ := e2 (b2 (fun h => hc ((i32_lt gy gx).mpr h))); exact kn q1 (q2 ▸ gt) |> (q2 ▸ ·)
      · refine lv_icmp_le hx hb hdg ht2 (fun hc => ?_) (fun hc => ?_)
        · obtain ⟨q1, q2⟩ := e1 _ (b1 ((i32_le gx gy).mp hc)); exact kj _ t q1 ht (q2 ▸ gt) |> (q2 ▸ ·)
        · obtain ⟨q1, q2⟩ := e2 (b2 (fun h => hc ((i32_le gx gy).mpr h))); exact kn q1 (q2 ▸ gt) |> (q2 ▸ ·)
    · cases h
  · simp only [am_side, Bool.and_eq_true, beq_iff_eq] at hs
    obtain ⟨rfl, hj⟩ := hs
    obtain ⟨t, ht, ht2⟩ := am_jmp_inv hj
    cases h
    exact lv_goto hx hb hdg ht2 (kj _ t rfl ht gs)
  · exact absurd rfl hnop
  · rename_i d lo hi offs
    split at h
    · rename_i x r0
      simp only [am_side, Bool.and_eq_true, decide_eq_true_eq] at hs
      obtain ⟨⟨hd, hjs⟩, hsz⟩ := hs
      obtain ⟨td, hd1, hd2⟩ := am_jmp_inv hd
      obtain ⟨hlen, hall⟩ := am_jmps_inv hjs
      have gx : am_r32 x := rg_h gs
      cases h
      by_cases hc : x < lo ∨ hi < x
      · rw [if_pos hc] at kj
        exact lv_tableOut hx hb hdg (by rw [i32_id gx]; exact hc) hd2 (kj _ td rfl hd1 (rg_t gs))
      · rw [if_neg hc] at kj
        have hlt : (x - lo).toNat < offs.size := by omega
        obtain ⟨t, ht1, ht2⟩ := hall (x - lo).toNat offs[(x - lo).toNat] (by rw [Array.getElem?_toList]; exact Array.getElem?_eq_getElem hlt)
        exact lv_tableIn hx hb hdg (by rw [i32_id gx]; omega) (by rw [i32_id gx]; omega) (by rw [i32_id gx]; exact Array.getElem?_eq_getElem hlt) ht2 (kj _ t rfl ht1 (rg_t gs))
    · cases h
  · rename_i d ps
    split at h
    · rename_i x r0
      simp only [am_side, Bool.and_eq_true] at hs
      obtain ⟨⟨hd, hjs⟩, hsz⟩ := hs
      obtain ⟨td, hd1, hd2⟩ := am_jmp_inv hd
      have gx : am_r32 x := rg_h gs
      cases h
      obtain ⟨t, ht1, ht2⟩ := am_look_inv hd1 hd2 (x := x) hjs
      exact lv_lookup hx hb hdg hsz (by rw [i32_id gx]) ht2 (kj _ t rfl ht1 (rg_t gs))
    · cases h
  · cases h
end SIMCT
