/-! ALL HOUSEHOLDS OF k SORTS, BY THEIR NUMBERS -/
def nkT : Nat → Nat
  | 0 => 1
  | 1 => 6
  | 2 => 21
  | 3 => 56
  | 4 => 126
  | 5 => 252
  | _ => 462
def tbR : Nat → Nat → List Nat
  | 0, _ => [0]
  | k + 1, r => (List.range (r + 1)).flatMap (fun d => (tbR k (r - d)).map (fun y => d * 10 ^ k + y))
def tbL (k : Nat) : List Nat := tbR k 5
def tb (k h : Nat) : Nat := (tbL k).getD h 0
/-- how many of a sort -/
def dg (num s : Nat) : Nat := num / 10 ^ s % 10
def dsN : Nat → Nat → Nat
  | 0, _ => 0
  | s + 1, num => dsN s num + dg num s
/-- the worth of the first s figures -/
def lwN : Nat → Nat → Nat
  | 0, _ => 0
  | s + 1, num => lwN s num + dg num s * 10 ^ s
def fwS (k num : Nat) : Nat := fstN (fun s => decide (dsN 6 num - dsN s num < 5)) k
set_option maxRecDepth 100000 in
theorem tb_len : ∀ k, k < 7 → (tbL k).length = nkT k := by decide +kernel
def nxOK (k h : Nat) : Bool :=
  let a := tb k h
  let b := tb k (h + 1)
  let s := fwS k a
  if s < k then decide (h + 1 < nkT k) && decide (a < b) && decide (b = a - lwN s a + 10 ^ s) && decide (dsN 6 b = dsN 6 a - dsN s a + 1) && (List.range 6).all (fun i => decide (dg b i = if i < s then 0 else if i = s then dg a i + 1 else dg a i)) else decide (h + 1 = nkT k)
def enOK (k h : Nat) : Bool :=
  let a := tb k h
  decide (a < 10 ^ k) && decide (dsN 6 a ≤ 5) && decide (lwN 6 a = a) && (List.range 6).all (fun i => decide (i < k) || decide (dg a i = 0))
set_option maxRecDepth 100000 in
theorem nx_all : ∀ k, k < 7 → ∀ h, h < nkT k → nxOK k h = true := by decide +kernel
set_option maxRecDepth 100000 in
theorem en_all : ∀ k, k < 7 → ∀ h, h < nkT k → enOK k h = true := by decide +kernel
theorem tb_0 : ∀ k, k < 7 → tb k 0 = 0 := by decide +kernel
