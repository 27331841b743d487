/-! THE SMALL MACHINE: ints are integers, cells are numbered from 2 on in the order of their making (0: the static table WORTHS, 1: the script) -/
abbrev am_V : Type := Int ⊕ (Int ⊕ Option Nat)
abbrev vI (x : Int) : am_V := .inl x
abbrev vL (x : Int) : am_V := .inr (.inl x)
abbrev vO (r : Option Nat) : am_V := .inr (.inr r)
abbrev vR (a : Nat) : am_V := .inr (.inr (some a))
abbrev am_Lc : Type := List (Nat × am_V)
/-- an array's kind, or an object's class; its length -/
abbrev am_Ly : Type := (FieldType ⊕ Nat) × Nat
/-- numbers in cells, references in cells, the cells' kinds, how many were made, of how many slots -/
abbrev am_S : Type := (Nat → Nat → Int) × (Nat → Nat → Option Nat) × List am_Ly × Nat × Nat
abbrev am_I : Type := Instr × List Nat × Int
def w32 (x : Int) : Int := Int.bmod x 4294967296
def w64 (x : Int) : Int := Int.bmod x 18446744073709551616
def w8 (x : Int) : Int := Int.bmod x 256
def a_and (x y : Int) : Int := (Int32.ofInt x &&& Int32.ofInt y).toInt
def a_or (x y : Int) : Int := (Int32.ofInt x ||| Int32.ofInt y).toInt
def a_shl (x y : Int) : Int := (Int32.ofInt x <<< (Int32.ofInt y &&& 31)).toInt
def a_shr (x y : Int) : Int := (Int32.ofInt x >>> (Int32.ofInt y &&& 31)).toInt
def a_cmp (x y : Int) : Int := if y < x then 1 else if x = y then 0 else -1
def am_two (v : am_V) : Bool := match v with
  | .inr (.inl _) => true
  | _ => false
def am_cat (v : am_V) : Nat := match v with
  | .inr (.inl _) => 2
  | _ => 1
def lget : am_Lc → Nat → Option am_V
  | [], _ => none
  | q :: l, i => if q.1 = i then some q.2 else lget l i
def lset1 (l : am_Lc) (i : Nat) (v : am_V) : am_Lc := (i, v) :: l.filter (fun q => !(q.1 == i) && !(q.1 + 1 == i && am_two q.2))
def lset2 (l : am_Lc) (i : Nat) (v : am_V) : am_Lc := (i, v) :: l.filter (fun q => !(q.1 == i) && (!(q.1 == i + 1) && !(q.1 + 1 == i && am_two q.2)))
def am_ldI (l : am_Lc) (k : Nat) (st : List am_V) : Option (am_Lc × List am_V) := match lget l k with
  | some (.inl x) => some (l, vI x :: st)
  | _ => none
def am_ldL (l : am_Lc) (k : Nat) (st : List am_V) : Option (am_Lc × List am_V) := match lget l k with
  | some (.inr (.inl x)) => some (l, vL x :: st)
  | _ => none
def am_ldR (l : am_Lc) (k : Nat) (st : List am_V) : Option (am_Lc × List am_V) := match lget l k with
  | some (.inr (.inr (some a))) => some (l, vR a :: st)
  | _ => none
def am_stI (l : am_Lc) (k : Nat) (st : List am_V) : Option (am_Lc × List am_V) := match st with
  | .inl x :: st' => some (lset1 l k (vI x), st')
  | _ => none
def am_stL (l : am_Lc) (k : Nat) (st : List am_V) : Option (am_Lc × List am_V) := match st with
  | .inr (.inl x) :: st' => some (lset2 l k (vL x), st')
  | _ => none
def am_stR (l : am_Lc) (k : Nat) (st : List am_V) : Option (am_Lc × List am_V) := match st with
  | .inr (.inr (some a)) :: st' => some (lset1 l k (vR a), st')
  | _ => none
def am_inc (l : am_Lc) (k : Nat) (n : Int) (st : List am_V) : Option (am_Lc × List am_V) := match lget l k with
  | some (.inl x) => some (lset1 l k (vI (w32 (x + n))), st)
  | _ => none
def am_bI (f : Int → Int → Int) (l : am_Lc) (st : List am_V) : Option (am_Lc × List am_V) := match st with
  | .inl y :: .inl x :: st' => some (l, vI (f x y) :: st')
  | _ => none
def am_dI (f : Int → Int → Int) (l : am_Lc) (st : List am_V) : Option (am_Lc × List am_V) := match st with
  | .inl y :: .inl x :: st' => if y = 0 then none else some (l, vI (f x y) :: st')
  | _ => none
def am_bL (f : Int → Int → Int) (l : am_Lc) (st : List am_V) : Option (am_Lc × List am_V) := match st with
  | .inr (.inl y) :: .inr (.inl x) :: st' => some (l, vL (f x y) :: st')
  | _ => none
def am_dL (f : Int → Int → Int) (l : am_Lc) (st : List am_V) : Option (am_Lc × List am_V) := match st with
  | .inr (.inl y) :: .inr (.inl x) :: st' => if y = 0 then none else some (l, vL (f x y) :: st')
  | _ => none
def am_cL (l : am_Lc) (st : List am_V) : Option (am_Lc × List am_V) := match st with
  | .inr (.inl y) :: .inr (.inl x) :: st' => some (l, vI (a_cmp x y) :: st')
  | _ => none
def am_uI (f : Int → am_V) (l : am_Lc) (st : List am_V) : Option (am_Lc × List am_V) := match st with
  | .inl x :: st' => some (l, f x :: st')
  | _ => none
def am_uL (f : Int → am_V) (l : am_Lc) (st : List am_V) : Option (am_Lc × List am_V) := match st with
  | .inr (.inl x) :: st' => some (l, f x :: st')
  | _ => none
def am_dup (l : am_Lc) (st : List am_V) : Option (am_Lc × List am_V) := match st with
  | v :: st' => if am_two v then none else some (l, v :: v :: st')
  | _ => none
def am_dup2 (l : am_Lc) (st : List am_V) : Option (am_Lc × List am_V) := match st with
  | v :: u :: st' => if am_two v || am_two u then none else some (l, v :: u :: v :: u :: st')
  | _ => none
def am_pop (l : am_Lc) (st : List am_V) : Option (am_Lc × List am_V) := match st with
  | v :: st' => if am_two v then none else some (l, st')
  | _ => none
/-- locals, the stack and numbers -/
def am_ar (i : Instr) (v : Int) (l : am_Lc) (st : List am_V) : Option (am_Lc × List am_V) := match i with
  | .iconst n => some (l, vI n :: st)
  | .bipush n => some (l, vI n :: st)
  | .sipush n => some (l, vI n :: st)
  | .ldc _ => some (l, vI v :: st)
  | .ldc_w _ => some (l, vI v :: st)
  | .lconst n => some (l, vL ((n : Nat) : Int) :: st)
  | .ldc2_w _ => some (l, vL v :: st)
  | .iload_n k => am_ldI l k st
  | .iload k => am_ldI l k st
  | .lload_n k => am_ldL l k st
  | .lload k => am_ldL l k st
  | .aload_n k => am_ldR l k st
  | .aload k => am_ldR l k st
  | .istore_n k => am_stI l k st
  | .istore k => am_stI l k st
  | .lstore_n k => am_stL l k st
  | .lstore k => am_stL l k st
  | .astore_n k => am_stR l k st
  | .astore k => am_stR l k st
  | .iinc k n => am_inc l k n st
  | .iadd => am_bI (fun x y => w32 (x + y)) l st
  | .isub => am_bI (fun x y => w32 (x - y)) l st
  | .imul => am_bI (fun x y => w32 (x * y)) l st
  | .iand => am_bI a_and l st
  | .ior => am_bI a_or l st
  | .ishl => am_bI a_shl l st
  | .ishr => am_bI a_shr l st
  | .idiv => am_dI (fun x y => w32 (Int.tdiv x y)) l st
  | .irem => am_dI (fun x y => Int.tmod x y) l st
  | .ladd => am_bL (fun x y => w64 (x + y)) l st
  | .lmul => am_bL (fun x y => w64 (x * y)) l st
  | .ldiv => am_dL (fun x y => w64 (Int.tdiv x y)) l st
  | .lrem => am_dL (fun x y => Int.tmod x y) l st
  | .lcmp => am_cL l st
  | .i2l => am_uI (fun x => vL x) l st
  | .l2i => am_uL (fun x => vI (w32 x)) l st
  | .i2b => am_uI (fun x => vI (w8 x)) l st
  | .dup => am_dup l st
  | .dup2 => am_dup2 l st
  | .pop => am_pop l st
  | _ => none
def am_cond (c : Jvm.ClassFile.Cond) (x y : Int) : Bool := match c with
  | .eq => decide (x = y)
  | .ne => decide (¬ x = y)
  | .lt => decide (x < y)
  | .ge => decide (y ≤ x)
  | .gt => decide (y < x)
  | .le => decide (x ≤ y)
def am_look : List (Int × Int) → List Nat → Nat → Int → Nat
  | p :: ps, t :: ts, d, x => if x = p.1 then t else am_look ps ts d x
  | _, _, d, _ => d
/-- jumps: to which block, or on -/
def am_ct (i : Instr) (ops : List Nat) (st : List am_V) : Option (Option Nat × List am_V) := match i with
  | .ifCond c _ => match st with
    | .inl x :: st' => some (if am_cond c x 0 then some (ops.headD 0) else none, st')
    | _ => none
  | .if_icmp c _ => match st with
    | .inl y :: .inl x :: st' => some (if am_cond c x y then some (ops.headD 0) else none, st')
    | _ => none
  | .goto _ => some (some (ops.headD 0), st)
  | .nop => some (some (ops.headD 0), st)
  | .tableswitch _ lo hi _ => match st with
    | .inl x :: st' => some (some (if x < lo ∨ hi < x then ops.headD 0 else ops.tail.getD (x - lo).toNat 0), st')
    | _ => none
  | .lookupswitch _ ps => match st with
    | .inl x :: st' => some (some (am_look ps.toList ops.tail (ops.headD 0) x), st')
    | _ => none
  | _ => none
/-- what a cell's place of a type holds -/
def am_gv (ty : FieldType) (a k : Nat) (σ : am_S) : am_V := match ty with
  | .long => vL (σ.1 a k)
  | .object _ => vO (σ.2.1 a k)
  | .array _ => vO (σ.2.1 a k)
  | _ => vI (σ.1 a k)
def am_set (σ : am_S) (a k : Nat) (x : Int) : am_S := (fun b j => if b = a ∧ j = k then x else σ.1 b j, σ.2)
def am_setR (σ : am_S) (a k : Nat) (r : Option Nat) : am_S := (σ.1, fun b j => if b = a ∧ j = k then r else σ.2.1 b j, σ.2.2)
/-- a value stored into a place of a type: it must be one of it -/
def am_pv (ty : FieldType) (a k : Nat) (v : am_V) (σ : am_S) : Option am_S := match ty, v with
  | .int, .inl x => some (am_set σ a k x)
  | .boolean, .inl x => if x = 0 ∨ x = 1 then some (am_set σ a k x) else none
  | .long, .inr (.inl x) => some (am_set σ a k x)
  | .object _, .inr (.inr (some b)) => some (am_setR σ a k (some b))
  | .array _, .inr (.inr (some b)) => some (am_setR σ a k (some b))
  | _, _ => none
def am_new (σ : am_S) (L : am_Ly) : am_S := (fun b j => if b = σ.2.2.1.length then 0 else σ.1 b j, fun b j => if b = σ.2.2.1.length then none else σ.2.1 b j, σ.2.2.1 ++ [L], σ.2.2.2.1 + 1, σ.2.2.2.2 + L.2)
def am_aget (t : FieldType) (st : List am_V) (σ : am_S) : Option (List am_V × am_S) := match st with
  | .inl i :: .inr (.inr (some a)) :: st' => match σ.2.2.1[a]? with
    | some (.inl t', n) => if t' = t ∧ 0 ≤ i ∧ i < (n : Int) then some (am_gv t a i.toNat σ :: st', σ) else none
    | _ => none
  | _ => none
def am_aput (t : FieldType) (f : Int → Int) (st : List am_V) (σ : am_S) : Option (List am_V × am_S) := match st with
  | .inl x :: .inl i :: .inr (.inr (some a)) :: st' => match σ.2.2.1[a]? with
    | some (.inl t', n) => if t' = t ∧ 0 ≤ i ∧ i < (n : Int) ∧ 2 ≤ a then some (st', am_set σ a i.toNat (f x)) else none
    | _ => none
  | _ => none
def am_aputL (st : List am_V) (σ : am_S) : Option (List am_V × am_S) := match st with
  | .inr (.inl x) :: .inl i :: .inr (.inr (some a)) :: st' => match σ.2.2.1[a]? with
    | some (.inl t', n) => if t' = .long ∧ 0 ≤ i ∧ i < (n : Int) ∧ 2 ≤ a then some (st', am_set σ a i.toNat x) else none
    | _ => none
  | _ => none
def am_strip : FieldType := .object "WashLine$Strip"
/-- a reference stored: of the one class of which there are such arrays (number 6) -/
def am_aputR (st : List am_V) (σ : am_S) : Option (List am_V × am_S) := match st with
  | .inr (.inr (some b)) :: .inl i :: .inr (.inr (some a)) :: st' => match σ.2.2.1[a]?, σ.2.2.1[b]? with
    | some (.inl t', n), some (.inr 6, _) => if t' = am_strip ∧ 0 ≤ i ∧ i < (n : Int) ∧ 2 ≤ a ∧ 2 ≤ b then some (st', am_setR σ a i.toNat (some b)) else none
    | _, _ => none
  | _ => none
def am_alen (st : List am_V) (σ : am_S) : Option (List am_V × am_S) := match st with
  | .inr (.inr (some a)) :: st' => match σ.2.2.1[a]? with
    | some (.inl _, n) => if (n : Int) < 1000000 then some (vI n :: st', σ) else none
    | _ => none
  | _ => none
def am_newa (t : FieldType) (st : List am_V) (σ : am_S) : Option (List am_V × am_S) := match st with
  | .inl n :: st' => if 0 ≤ n ∧ n ≤ 1000000 then some (vR σ.2.2.1.length :: st', am_new σ (.inl t, n.toNat)) else none
  | _ => none
def am_cpy (σ : am_S) (a sp b dp n : Nat) : am_S := (fun c j => if c = b ∧ dp ≤ j ∧ j < dp + n then σ.1 a (sp + (j - dp)) else σ.1 c j, σ.2)
def am_acopy (st : List am_V) (σ : am_S) : Option (List am_V × am_S) := match st with
  | .inl n :: .inl dp :: .inr (.inr (some b)) :: .inl sp :: .inr (.inr (some a)) :: st' => match σ.2.2.1[a]?, σ.2.2.1[b]? with
    | some (.inl t0, n0), some (.inl t1, n1) => if t0 = .int ∧ t1 = .int ∧ 0 ≤ n ∧ 0 ≤ dp ∧ 0 ≤ sp ∧ sp + n ≤ (n0 : Int) ∧ dp + n ≤ (n1 : Int) ∧ 2 ≤ a ∧ 2 ≤ b ∧ (st'.map am_cat).sum ≤ 8 then some (st', am_cpy σ a sp.toNat b dp.toNat n.toNat) else none
    | _, _ => none
  | _ => none
def am_newT (t : ArrayType) : FieldType := newarray.typeOf t
