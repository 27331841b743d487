/-! NUMBERS OF THE SMALL MACHINE AGAINST THOSE OF THE LARGE ONE -/
def am_r32 (x : Int) : Prop := -2147483648 ≤ x ∧ x < 2147483648
def am_r64 (x : Int) : Prop := -9223372036854775808 ≤ x ∧ x < 9223372036854775808
theorem w32_rg (x : Int) : am_r32 (w32 x) := by
  unfold am_r32 w32
  have h1 := Int.le_bmod (x := x) (m := 4294967296) (by omega)
  have h2 := Int.bmod_lt (x := x) (m := 4294967296) (by omega)
  omega
theorem w64_rg (x : Int) : am_r64 (w64 x) := by
  unfold am_r64 w64
  have h1 := Int.le_bmod (x := x) (m := 18446744073709551616) (by omega)
  have h2 := Int.bmod_lt (x := x) (m := 18446744073709551616) (by omega)
  omega
theorem w8_rg (x : Int) : am_r32 (w8 x) := by
  unfold am_r32 w8
  have h1 := Int.le_bmod (x := x) (m := 256) (by omega)
  have h2 := Int.bmod_lt (x := x) (m := 256) (by omega)
  omega
theorem i32_id {x : Int} (h : am_r32 x) : (Int32.ofInt x).toInt = x := Int32.toInt_ofInt_of_le (by have := h.1; omega) (by have := h.2; omega)
theorem i64_id {x : Int} (h : am_r64 x) : (Int64.ofInt x).toInt = x := Int64.toInt_ofInt_of_le (by have := h.1; omega) (by have := h.2; omega)
theorem i32_rg (v : Int32) : am_r32 v.toInt := ⟨by have := v.le_toInt; omega, by have := v.toInt_lt; omega⟩
theorem i64_rg (v : Int64) : am_r64 v.toInt := ⟨by have := v.le_toInt; omega, by have := v.toInt_lt; omega⟩
theorem w32_of (x : Int) : Int32.ofInt (w32 x) = Int32.ofInt x := by
  apply Int32.toInt_inj.mp
  rw [Int32.toInt_ofInt, Int32.toInt_ofInt]
  show Int.bmod (Int.bmod x 4294967296) 4294967296 = Int.bmod x 4294967296
  exact Int.bmod_bmod
theorem w64_of (x : Int) : Int64.ofInt (w64 x) = Int64.ofInt x := by
  apply Int64.toInt_inj.mp
  rw [Int64.toInt_ofInt, Int64.toInt_ofInt]
  show Int.bmod (Int.bmod x 18446744073709551616) 18446744073709551616 = Int.bmod x 18446744073709551616
  exact Int.bmod_bmod
theorem w32_id {x : Int} (h : am_r32 x) : w32 x = x := by
  have e := w32_of x
  have := congrArg Int32.toInt e
  rwa [i32_id (w32_rg x), i32_id h] at this
theorem w64_id {x : Int} (h : am_r64 x) : w64 x = x := by
  have e := w64_of x
  have := congrArg Int64.toInt e
  rwa [i64_id (w64_rg x), i64_id h] at this
theorem of_toInt (v : Int32) : Int32.ofInt v.toInt = v := Int32.ofInt_toInt v
theorem e_add (x y : Int) : Int32.ofInt (w32 (x + y)) = Int32.ofInt x + Int32.ofInt y := by rw [w32_of, Int32.ofInt_add]
theorem e_sub (x y : Int) : Int32.ofInt (w32 (x - y)) = Int32.ofInt x - Int32.ofInt y := by rw [w32_of, Int32.ofInt_sub]
theorem e_mul (x y : Int) : Int32.ofInt (w32 (x * y)) = Int32.ofInt x * Int32.ofInt y := by rw [w32_of, Int32.ofInt_mul]
theorem e_ladd (x y : Int) : Int64.ofInt (w64 (x + y)) = Int64.ofInt x + Int64.ofInt y := by rw [w64_of, Int64.ofInt_add]
theorem e_lmul (x y : Int) : Int64.ofInt (w64 (x * y)) = Int64.ofInt x * Int64.ofInt y := by rw [w64_of, Int64.ofInt_mul]
theorem e_div {x y : Int} (hx : am_r32 x) (hy : am_r32 y) : Int32.ofInt (w32 (Int.tdiv x y)) = Int32.ofInt x / Int32.ofInt y := by
  apply Int32.toInt_inj.mp
  rw [Int32.toInt_div, i32_id hx, i32_id hy, i32_id (w32_rg _)]
  rfl
theorem e_ldiv {x y : Int} (hx : am_r64 x) (hy : am_r64 y) : Int64.ofInt (w64 (Int.tdiv x y)) = Int64.ofInt x / Int64.ofInt y := by
  apply Int64.toInt_inj.mp
  rw [Int64.toInt_div, i64_id hx, i64_id hy, i64_id (w64_rg _)]
  rfl
theorem tmod_eq (x y : Int) : Int.tmod x y = x - Int.tdiv x y * y := by
  have := Int.tmod_add_mul_tdiv x y
  rw [Int.mul_comm] at this
  omega
theorem e_rem {x y : Int} (hx : am_r32 x) (hy : am_r32 y) : Int32.ofInt (Int.tmod x y) = Int32.ofInt x - Int32.ofInt x / Int32.ofInt y * Int32.ofInt y := by
  rw [tmod_eq, Int32.ofInt_sub, Int32.ofInt_mul, ← e_div hx hy, w32_of]
theorem e_lrem {x y : Int} (hx : am_r64 x) (hy : am_r64 y) : Int64.ofInt (Int.tmod x y) = Int64.ofInt x - Int64.ofInt x / Int64.ofInt y * Int64.ofInt y := by
  rw [tmod_eq, Int64.ofInt_sub, Int64.ofInt_mul, ← e_ldiv hx hy, w64_of]
theorem tmod_rg {x y m : Int} (h1 : -m ≤ x) (h2 : x < m) : -m ≤ Int.tmod x y ∧ Int.tmod x y < m := by
  have h3 : (Int.tmod x y).natAbs ≤ x.natAbs := by
    rw [Int.natAbs_tmod]
    exact Nat.mod_le _ _
  rcases Int.le_total 0 x with h | h
  · have a := Int.tmod_nonneg y h
    omega
  · have a : 0 ≤ Int.tmod (-x) y := Int.tmod_nonneg y (by omega)
    rw [Int.neg_tmod] at a
    omega
theorem i32_ne {y : Int} (hy : am_r32 y) (h : y ≠ 0) : ¬ Int32.ofInt y = 0 := by
  intro e
  have := congrArg Int32.toInt e
  rw [i32_id hy] at this
  exact h this
theorem i64_ne {y : Int} (hy : am_r64 y) (h : y ≠ 0) : ¬ Int64.ofInt y = 0 := by
  intro e
  have := congrArg Int64.toInt e
  rw [i64_id hy] at this
  exact h this
theorem i32_lt {x y : Int} (hx : am_r32 x) (hy : am_r32 y) : Int32.ofInt x < Int32.ofInt y ↔ x < y := by rw [Int32.lt_iff_toInt_lt, i32_id hx, i32_id hy]
theorem i32_le {x y : Int} (hx : am_r32 x) (hy : am_r32 y) : Int32.ofInt x ≤ Int32.ofInt y ↔ x ≤ y := by rw [Int32.le_iff_toInt_le, i32_id hx, i32_id hy]
theorem i32_eq {x y : Int} (hx : am_r32 x) (hy : am_r32 y) : Int32.ofInt x = Int32.ofInt y ↔ x = y := by rw [← Int32.toInt_inj, i32_id hx, i32_id hy]
theorem i64_lt {x y : Int} (hx : am_r64 x) (hy : am_r64 y) : Int64.ofInt x < Int64.ofInt y ↔ x < y := by rw [Int64.lt_iff_toInt_lt, i64_id hx, i64_id hy]
theorem i64_eq {x y : Int} (hx : am_r64 x) (hy : am_r64 y) : Int64.ofInt x = Int64.ofInt y ↔ x = y := by rw [← Int64.toInt_inj, i64_id hx, i64_id hy]
theorem r32_0 : am_r32 0 := by unfold am_r32; omega
theorem i32_clamp {x : Int} (hx : am_r32 x) : (Int32.ofInt x).toNatClampNeg = x.toNat := by
  show (Int32.ofInt x).toInt.toNat = x.toNat
  rw [i32_id hx]
theorem e_cmp {x y : Int} (hx : am_r64 x) (hy : am_r64 y) : lg_cmp (Int64.ofInt x) (Int64.ofInt y) = Int32.ofInt (a_cmp x y) := by
  unfold lg_cmp a_cmp
  simp only [gt_iff_lt, i64_lt hy hx, i64_eq hx hy]
  split
  · rfl
  · split <;> rfl
theorem a_cmp_rg (x y : Int) : am_r32 (a_cmp x y) := by
  unfold a_cmp am_r32
  split
  · omega
  · split <;> omega
theorem e_i2l {x : Int} (hx : am_r32 x) : (Int32.ofInt x).toInt64 = Int64.ofInt x := by
  apply Int64.toInt_inj.mp
  rw [Int32.toInt_toInt64, i32_id hx, i64_id (by unfold am_r32 at hx; unfold am_r64; omega)]
theorem e_l2i {x : Int} (hx : am_r64 x) : (Int64.ofInt x).toInt32 = Int32.ofInt (w32 x) := by
  apply Int32.toInt_inj.mp
  rw [Int64.toInt_toInt32, i64_id hx, i32_id (w32_rg x)]
  rfl
theorem e_i2b {x : Int} (hx : am_r32 x) : (Int32.ofInt x).toInt8.toInt32 = Int32.ofInt (w8 x) := by
  apply Int32.toInt_inj.mp
  rw [Int8.toInt_toInt32, Int32.toInt_toInt8, i32_id hx, i32_id (w8_rg x)]
  rfl
def am_rg (v : am_V) : Prop := match v with
  | .inl x => am_r32 x
  | .inr (.inl x) => am_r64 x
  | _ => True
/-- where the cells lie: z the heap's size at the law's start, w the static table's place, b the script's -/
def am_ad (z w b a : Nat) : Nat := if a = 0 then w else if a = 1 then b else z + (a - 2)
def am_tv (z w b : Nat) (v : am_V) : Value := match v with
  | .inl x => .int (Int32.ofInt x)
  | .inr (.inl x) => .long (Int64.ofInt x)
  | .inr (.inr none) => .null
  | .inr (.inr (some a)) => .ref (am_ad z w b a)
def am_t2 (z w b : Nat) (q : Nat × am_V) : Nat × Value := (q.1, am_tv z w b q.2)
theorem am_tv_cat (z w b : Nat) (v : am_V) : (am_tv z w b v).category = am_cat v := by
  rcases v with x | x | _ | a <;> rfl
theorem am_two_cat (z w b : Nat) (v : am_V) : ((am_tv z w b v).category == 2) = am_two v := by
  rcases v with x | x | _ | a <;> rfl
theorem lget_mem {l : am_Lc} {i : Nat} {v : am_V} (h : lget l i = some v) : (i, v) ∈ l := by
  induction l with
  | nil => cases h
  | cons q l ih =>
    unfold lget at h
    split at h
    · rename_i e
      cases h
      subst e
      exact List.mem_cons_self
    · exact List.mem_cons_of_mem _ (ih h)
theorem lget_has {z w b : Nat} {ls : Array Slot} {nL : Nat} {l : am_Lc} {i : Nat} {v : am_V} (hl : lv_has ls nL (l.map (am_t2 z w b))) (h : lget l i = some v) : ls[i]? = some (.val (am_tv z w b v)) :=
  hl.2.2 (i, am_tv z w b v) (List.mem_map.mpr ⟨(i, v), lget_mem h, rfl⟩)
theorem lget_pos {z w b : Nat} {l : am_Lc} {i : Nat} {v : am_V} (h : lget l i = some v) : ∃ k : Nat, (l.map (am_t2 z w b))[k]? = some (i, am_tv z w b v) := by
  obtain ⟨k, hk⟩ := List.getElem?_of_mem (lget_mem h)
  exact ⟨k, by rw [List.getElem?_map, hk]; rfl⟩
theorem lset1_map (z w b : Nat) (l : am_Lc) (i : Nat) (v : am_V) : (i, am_tv z w b v) :: (l.map (am_t2 z w b)).filter (fun q => !(q.1 == i) && !(q.1 + 1 == i && q.2.category == 2)) = (lset1 l i v).map (am_t2 z w b) := by
  unfold lset1
  rw [List.map_cons, List.filter_map]
  congr 2
  apply List.filter_congr
  intro q _
  show (!(q.1 == i) && !(q.1 + 1 == i && ((am_tv z w b q.2).category == 2))) = _
  rw [am_two_cat]
theorem lset2_map (z w b : Nat) (l : am_Lc) (i : Nat) (v : am_V) : (i, am_tv z w b v) :: (l.map (am_t2 z w b)).filter (fun q => !(q.1 == i) && (!(q.1 == i + 1) && !(q.1 + 1 == i && q.2.category == 2))) = (lset2 l i v).map (am_t2 z w b) := by
  unfold lset2
  rw [List.map_cons, List.filter_map]
  congr 2
  apply List.filter_congr
  intro q _
  show (!(q.1 == i) && (!(q.1 == i + 1) && !(q.1 + 1 == i && ((am_tv z w b q.2).category == 2)))) = _
  rw [am_two_cat]
theorem lset1_rg {l : am_Lc} {i : Nat} {v : am_V} (hl : ∀ q ∈ l, am_rg q.2) (hv : am_rg v) : ∀ q ∈ lset1 l i v, am_rg q.2 := by
  intro q hq
  rcases List.mem_cons.mp hq with rfl | h
  · exact hv
  · exact hl q ((List.mem_filter.mp h).1)
theorem lset2_rg {l : am_Lc} {i : Nat} {v : am_V} (hl : ∀ q ∈ l, am_rg q.2) (hv : am_rg v) : ∀ q ∈ lset2 l i v, am_rg q.2 := by
  intro q hq
  rcases List.mem_cons.mp hq with rfl | h
  · exact hv
  · exact hl q ((List.mem_filter.mp h).1)
theorem am_args_map (z w b : Nat) : ∀ (i : Nat) (as : List am_V), lv_args i (as.map (am_tv z w b)) = (am_args i as).map (am_t2 z w b)
  | _, [] => rfl
  | i, v :: vs => by
    show (i, am_tv z w b v) :: lv_args _ _ = (i, am_tv z w b v) :: _
    rw [am_args_map z w b _ vs]
    have e : (if (am_tv z w b v).category = 2 then i + 2 else i + 1) = (if am_two v then i + 2 else i + 1) := by
      rcases v with x | x | _ | a <;> rfl
    rw [e]
theorem am_args_rg : ∀ (i : Nat) (as : List am_V), (∀ v ∈ as, am_rg v) → ∀ q ∈ am_args i as, am_rg q.2
  | _, [], _ => fun q hq => by cases hq
  | i, v :: vs, h => fun q hq => by
    rcases List.mem_cons.mp hq with rfl | hq
    · exact h _ List.mem_cons_self
    · exact am_args_rg _ vs (fun u hu => h u (List.mem_cons_of_mem _ hu)) q hq
theorem lget_rg {l : am_Lc} {i : Nat} {v : am_V} (hl : ∀ q ∈ l, am_rg q.2) (h : lget l i = some v) : am_rg v := hl _ (lget_mem h)
