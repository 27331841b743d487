def am_OW : List Nat := [11, 9, 8, 8, 12, 3, 6, 0, 0, 0, 12, 12, 0, 0, 0, 0, 1, 2, 4, 7, 5, 9, 9, 9, 9, 6, 9, 6, 6, 6, 9, 9, 9, 9, 9, 9, 9, 9, 9, 9, 9, 3, 3, 3, 3, 3, 3, 3, 3, 3, 8, 9, 8, 4, 7, 9, 9, 9, 9, 9, 9, 9, 9, 6, 1, 9, 9, 9, 9, 9, 9, 0, 8, 9, 2, 2, 2, 1, 1, 2, 2, 2, 9, 2, 2, 9, 2, 9, 2, 2, 9, 2, 9, 4, 4, 4, 4, 4, 4, 4, 4, 9, 7, 7, 7, 7, 7, 7, 4, 4, 7, 7, 7, 7, 9, 9, 7, 7, 7, 7, 9, 7, 7, 9, 7, 9, 9, 9, 9, 7, 9, 5, 9, 9, 9, 9, 9, 9, 5, 5, 5, 5, 5, 9, 5, 9, 9, 9, 9, 9, 9, 9, 9, 2, 9, 2, 9, 9, 9, 9, 9, 9, 9, 9, 9, 9, 9, 9, 9, 9, 9, 9, 11, 11, 11, 11, 11, 11, 11]
/-! THE WORDS THAT A CALL HANDS ON -/
def lw_gt : List Jvm.Cond := lw_tbl.filter goodWord
theorem am_gm {w : Jvm.Cond} (h : w ∈ lw_tbl) (hg : goodWord w = true) : w ∈ lw_gt := List.mem_filter.mpr ⟨h, hg⟩
theorem am_gg : GoodIn lw_gt lw_gt := fun w h => ⟨h, good_of_word (List.mem_filter.mp h).2⟩
theorem am_gt {w : Jvm.Cond} (h : w ∈ lw_gt) : w ∈ lw_tbl := (List.mem_filter.mp h).1
/-! A METHOD'S BLOCKS AGAINST ITS BYTES -/
def am_jmp (sts : List Nat) (pc : Nat) (off : Int) (b : Nat) : Bool := match sts[b]? with
  | some t => decide ((pc : Int) + off = (t : Int))
  | none => false
def am_jmps (sts : List Nat) (pc : Nat) : List Int → List Nat → Bool
  | [], [] => true
  | o :: os, b :: bs => am_jmp sts pc o b && am_jmps sts pc os bs
  | _, _ => false
def am_side (o : Nat) (ini : Bool) (maxL : Nat) (ret : Option FieldType) (RF RL : Nat) (sts : List Nat) (pc len : Nat) (i : Instr) (ops : List Nat) (v : Int) : Bool := match i with
  | .iconst n => len == 1 && decide (-10 ≤ n ∧ n ≤ 10)
  | .bipush n => len == 2 && decide (-128 ≤ n ∧ n < 128)
  | .sipush n => len == 3 && decide (-32768 ≤ n ∧ n < 32768)
  | .ldc x => len == 2 && am_CT.any (fun e => e.1 == o && e.2.1 == x && e.2.2.1 == v) && decide (-2147483648 ≤ v ∧ v < 2147483648)
  | .ldc_w x => len == 3 && am_CT.any (fun e => e.1 == o && e.2.1 == x && e.2.2.1 == v) && decide (-2147483648 ≤ v ∧ v < 2147483648)
  | .lconst _ => len == 1
  | .ldc2_w x => len == 3 && am_CJ.any (fun e => e.1 == o && e.2.1 == x && e.2.2.1 == v) && decide (-9223372036854775808 ≤ v ∧ v < 9223372036854775808)
  | .iload_n _ => len == 1
  | .iload _ => len == 2
  | .lload_n _ => len == 1
  | .lload _ => len == 2
  | .aload_n _ => len == 1
  | .aload _ => len == 2
  | .istore_n k => len == 1 && decide ((k : Nat) < maxL)
  | .istore k => len == 2 && decide (k < maxL)
  | .lstore_n k => len == 1 && decide ((k : Nat) + 1 < maxL)
  | .lstore k => len == 2 && decide (k + 1 < maxL)
  | .astore_n k => len == 1 && decide ((k : Nat) < maxL)
  | .astore k => len == 2 && decide (k < maxL)
  | .iinc k _ => len == 3 && decide (k < maxL)
  | .ifCond _ off => len == 3 && am_jmp sts pc off (ops.headD 0)
  | .if_icmp _ off => len == 3 && am_jmp sts pc off (ops.headD 0)
  | .goto off => len == 3 && am_jmp sts pc off (ops.headD 0)
  | .tableswitch d lo hi offs => am_jmp sts pc d (ops.headD 0) && am_jmps sts pc offs.toList ops.tail && decide (hi - lo < (offs.size : Int))
  | .lookupswitch d ps => am_jmp sts pc d (ops.headD 0) && am_jmps sts pc (ps.toList.map (fun q => q.2)) ops.tail && (ps.toList.zip (ps.toList.drop 1)).all (fun (a, next) => a.1 < next.1)
  | .getfield x => len == 3 && (match ops with
    | [c, k] => decide (c < 11) && decide (k < am_cN c) && am_FL.any (fun e => e.1 == o && e.2.1 == x && e.2.2.1 == c && e.2.2.2.1 == k)
    | _ => false)
  | .putfield x => len == 3 && (match ops with
    | [c, k] => decide (c < 11) && decide (k < am_cN c) && am_FL.any (fun e => e.1 == o && e.2.1 == x && e.2.2.1 == c && e.2.2.2.1 == k) && (!(am_Tt c k).2.2.2 || (ini && decide (c = o)))
    | _ => false)
  | .getstatic x => len == 3 && am_NG.any (fun e => e.1 == o && e.2 == x)
  | .newarray t => len == 2 && decide (newarray.typeOf t = .int ∨ newarray.typeOf t = .long ∨ newarray.typeOf t = .byte ∨ newarray.typeOf t = .boolean)
  | .anewarray x => len == 3 && am_CK.any (fun e => e.1 == o && e.2.1 == x && e.2.2.1 == 6)
  | .new x => len == 3 && (match ops with
    | [c] => decide (c < 11) && am_CK.any (fun e => e.1 == o && e.2.1 == x && e.2.2.1 == c)
    | _ => false)
  | .invokespecial x => len == 3 && (match ops with
    | [] => am_OI.any (fun e => e.1 == o && e.2.1 == x) && decide (1 ≤ RF) && decide (20 ≤ RL)
    | [m, n] => (match am_RM[m]? with
      | some (a, b, c, d, k) => decide (d = n) && decide (a + 1 ≤ RF) && decide (8 + (c + 11) + b ≤ RL) && decide (v ≤ (c : Int)) && ((decide (k = 2) && am_ML.any (fun e => e.1 == o && e.2.1 == x && e.2.2.1 == m)) || (decide (k = 3) && am_NM.any (fun e => e.1 == o && e.2.1 == x && e.2.2 == m)))
      | none => false)
    | _ => false)
  | .invokestatic x => len == 3 && (match ops with
    | [] => am_AC.any (fun e => e.1 == o && e.2.1 == x) && decide (1 ≤ RF) && decide (26 ≤ RL)
    | [m] => am_MA.any (fun e => e.1 == o && e.2.1 == x && e.2.2.1 == m) && decide (1 ≤ RF) && decide (23 ≤ RL)
    | [m, n] => (match am_RM[m]? with
      | some (a, b, c, d, k) => decide (d = n) && decide (a + 1 ≤ RF) && decide (8 + (c + 11) + b ≤ RL) && decide (v ≤ (c : Int)) && decide (k = 0) && am_ML.any (fun e => e.1 == o && e.2.1 == x && e.2.2.1 == m)
      | none => false)
    | _ => false)
  | .invokevirtual x => len == 3 && (match ops with
    | [m, n, cc] => (match am_RM[m]? with
      | some (a, b, c, d, k) => decide (d = n) && decide (a + 1 ≤ RF) && decide (8 + (c + 11) + b ≤ RL) && decide (v ≤ (c : Int)) && decide (k = 1) && decide (cc < 11) && decide (am_OW.getD m 99 = cc) && am_ML.any (fun e => e.1 == o && e.2.1 == x && e.2.2.1 == m)
      | none => false)
    | _ => false)
  | .return_ => len == 1 && decide (ret = none)
  | .ireturn => len == 1 && decide ((ops = [0] ∧ ret = some .int) ∨ (ops = [1] ∧ ret = some .boolean))
  | .lreturn => len == 1 && decide (ret = some .long)
  | .areturn => len == 1 && decide (ret = some (.array .int))
  | _ => len == 1
def am_chk (o : Nat) (ini : Bool) (maxL : Nat) (ret : Option FieldType) (RF RL : Nat) (sts : List Nat) (code : ByteArray) : Nat → List am_I → Bool
  | _, [] => true
  | pc, (i, ops, v) :: is => if i = .nop then (match sts[ops.headD 0]? with
      | some t => decide (t = pc)
      | none => false)
    else match decode code pc with
    | .ok (j, len) => decide (j = i) && am_side o ini maxL ret RF RL sts pc len i ops v && am_chk o ini maxL ret RF RL sts code (pc + len) is
    | .error _ => false
def am_chkM (o : Nat) (m : am_M) : Bool := match m with
  | (y, bytes, maxL, ret, (RF, RL), _, _, sts, bs) => decide (sts[0]? = some 0) && decide (sts.length = bs.length) && (sts.zip bs).all (fun q => am_chk o (y.name == "<init>") maxL ret RF RL sts bytes q.1 q.2)
/-- the words of a method, by how it is called -/
def am_kw (y : MethodName) (n : Nat) (k : Nat) : Prop := match k with
  | 0 => Jvm.Cond.static y ∈ lw_gt ∧ (parseMethodDescriptor y.desc).map (fun d => d.parameters.length) = some n
  | 1 => Jvm.Cond.instanceMethod y ∈ lw_gt ∧ Jvm.Cond.selects y.cls y y ∈ lw_gt ∧ (parseMethodDescriptor y.desc).map (fun d => d.parameters.length) = some (n - 1)
  | _ => Jvm.Cond.instanceMethod y ∈ lw_gt ∧ y.name = "<init>" ∧ (parseMethodDescriptor y.desc).map (fun d => d.parameters.length) = some (n - 1)
def am_good (j : Nat) (m : am_M) : Prop := match m with
  | (y, bytes, maxL, ret, (RF, RL), n, k, sts, bs) => ∃ o, o < 14 ∧ am_OW[j]? = some o ∧ y.cls = am_cn o ∧ am_chkM o (y, bytes, maxL, ret, (RF, RL), n, k, sts, bs) = true ∧ am_RM[j]? = some (RF, RL, maxL, n, k) ∧ plainName y.cls = true ∧ Jvm.Cond.code y bytes maxL ret ∈ lw_gt ∧ Jvm.Cond.initialized y.cls ∈ lw_gt ∧ am_kw y n k

