/-! THE LAW'S SMALL METHODS -/
section ROWS2
variable {bs : List (List am_I)} {is : List am_I} {l : am_Lc} {st : List am_V} {σ : am_S} {Q : Option am_V → am_S → Prop} {v : Int} {ops : List Nat}
theorem tt_cs7 {f m : Nat} {u0 u1 u2 u3 u4 u5 u6 : am_V} (N : Nat) {Q1 : Option am_V → am_S → Prop} (ok : am_cok [u0, u1, u2, u3, u4, u5, u6] st N = true) (C : CC m [u0, u1, u2, u3, u4, u5, u6] σ Q1) (K : ∀ r σ1, Q1 r σ1 → TT bs is l (r.toList ++ st) σ1 Q) : TT bs ((.invokestatic f, [m, 7], (N : Int)) :: is) l (u6 :: u5 :: u4 :: u3 :: u2 :: u1 :: u0 :: st) σ Q :=
  tt_call rfl rfl rfl (if_pos ⟨by simp, (am_cokS ok).1, (am_cokS ok).2⟩) C K
theorem tt_cs8 {f m : Nat} {u0 u1 u2 u3 u4 u5 u6 u7 : am_V} (N : Nat) {Q1 : Option am_V → am_S → Prop} (ok : am_cok [u0, u1, u2, u3, u4, u5, u6, u7] st N = true) (C : CC m [u0, u1, u2, u3, u4, u5, u6, u7] σ Q1) (K : ∀ r σ1, Q1 r σ1 → TT bs is l (r.toList ++ st) σ1 Q) : TT bs ((.invokestatic f, [m, 8], (N : Int)) :: is) l (u7 :: u6 :: u5 :: u4 :: u3 :: u2 :: u1 :: u0 :: st) σ Q :=
  tt_call rfl rfl rfl (if_pos ⟨by simp, (am_cokS ok).1, (am_cokS ok).2⟩) C K
theorem tt_cs9 {f m : Nat} {u0 u1 u2 u3 u4 u5 u6 u7 u8 : am_V} (N : Nat) {Q1 : Option am_V → am_S → Prop} (ok : am_cok [u0, u1, u2, u3, u4, u5, u6, u7, u8] st N = true) (C : CC m [u0, u1, u2, u3, u4, u5, u6, u7, u8] σ Q1) (K : ∀ r σ1, Q1 r σ1 → TT bs is l (r.toList ++ st) σ1 Q) : TT bs ((.invokestatic f, [m, 9], (N : Int)) :: is) l (u8 :: u7 :: u6 :: u5 :: u4 :: u3 :: u2 :: u1 :: u0 :: st) σ Q :=
  tt_call rfl rfl rfl (if_pos ⟨by simp, (am_cokS ok).1, (am_cokS ok).2⟩) C K
theorem tt_aret {x : Nat} (K : Q (some (vR x)) σ) : TT bs ((.areturn, ops, v) :: is) l [vR x] σ Q := tt_rt rfl rfl rfl rfl rfl K
end ROWS2
/-- the cells of the class as they were, the steps known too: the class stands -/
theorem CI.cls {k nm ns : Nat} {D : Nat → Nat → Int} {σ σ' : am_S} (h : CI k nm ns D σ) (hW : Wd σ') (m : ∀ a, a < 76 → ∀ j, σ'.1 a j = σ.1 a j) (hk : KNs k D σ') : CI k nm ns D σ' := by
  have m : ∀ a, a < 76 → σ'.1 a = σ.1 a := fun a ha => funext (m a ha)
  have ecp : (fun m h => cPr σ' k m h) = (fun m h => cPr σ k m h) := by
    funext q x
    unfold cPr
    rw [cEx_eq (σ := σ) (σ' := σ') (m 5 (by omega)) (m 7 (by omega)) (m 8 (by omega)) (m 21 (by omega)) (m 25 (by omega)) (m 26 (by omega)) (m 28 (by omega)) (m 29 (by omega)) (m 30 (by omega)), m 9 (by omega)]
  have q : ∀ a, a < 76 → ∀ j, σ'.1 a j = σ.1 a j := fun a ha j => by rw [m a ha]
  obtain ⟨x1, x2, ⟨g1, g2, g3, g4⟩, x4⟩ := h.x
  refine ⟨hW, fun j hj => by rw [m 0 (by omega)]; exact h.wr j hj, ⟨LD.eq x1 (fun a _ _ => q a (by omega)), HT.eq x2 (fun a _ => q a (by omega)), ⟨by rw [m 27 (by omega)]; exact g1, g2, fun i hi => by rw [m 28 (by omega), m 29 (by omega)]; exact g3 i hi, fun i hi => by rw [m 30 (by omega)]; exact g4 i hi⟩, by rw [m 6 (by omega), m 9 (by omega)]; exact x4⟩, ⟨by rw [m 47 (by omega)]; exact h.st.1, h.st.2⟩, by rw [m 48 (by omega), m 49 (by omega), m 50 (by omega), m 51 (by omega)]; exact h.sh, hk, fun r hr => by rw [m _ (by omega)]; exact h.row r hr, fun t ht => by rw [m (68 + 2 * t) (by omega), m (69 + 2 * t) (by omega)]; exact h.txt t ht, ?_, ?_⟩
  · rw [m 36 (by omega), ecp]
    rcases h.m4 with z | ⟨z1, ⟨w1, w2, w3⟩, z3⟩
    · exact Or.inl z
    · refine Or.inr ⟨z1, ⟨by rw [m 36 (by omega)]; exact w1, fun a ha x hx => by rw [m 39 (by omega), m 40 (by omega)]; exact w2 a ha x hx, fun t a ha x hx => by rw [m 41 (by omega)]; exact w3 t a ha x hx⟩, fun t => ?_⟩
      obtain ⟨t1, t2⟩ := z3 t
      exact ⟨fun a ha => ⟨fun x hx hp => by show σ'.1 42 _ = _; rw [m 42 (by omega)]; exact (t1 a ha).1 x hx hp, by rw [m 43 (by omega)]; exact (t1 a ha).2⟩, fun y hy => by rw [m 37 (by omega)]; exact t2 y hy⟩
  · rw [m 36 (by omega), ecp]
    rcases h.m5 with z | ⟨z1, z2, z3⟩
    · exact Or.inl z
    · exact Or.inr ⟨z1, by rw [m 36 (by omega)]; exact z2, fun t1 t2 a ha x hx hp => by rw [m 44 (by omega), m 45 (by omega)]; exact z3 t1 t2 a ha x hx hp⟩
/-- a row of ints made -/
theorem CI.new {k nm ns n : Nat} {D : Nat → Nat → Int} {σ : am_S} (h : CI k nm ns D σ) : CI k nm ns D (am_new σ (.inl .int, n)) := by
  have hl := h.w.len
  have c : ∀ a, a < σ.2.2.1.length → ∀ j, (am_new σ (.inl .int, n)).1 a j = σ.1 a j := fun a ha j => if_neg (by omega)
  refine h.cls (Wd.new h.w) (fun a ha => c a (by omega)) ?_
  obtain ⟨kn, i, ⟨h1, h2, h3, h4, h5, h6⟩, h7, h8⟩ := h.kn
  have hkn : kn < σ.2.2.1.length := (List.getElem?_eq_some_iff.mp h2).1
  refine ⟨kn, i, ⟨(if_neg (by omega)).trans h1, ?_, h3, h4, ?_, ?_⟩, fun x hx => by rw [c 35 (by omega)]; exact h7 x hx, fun x hx e => ?_⟩
  · show (σ.2.2.1 ++ [_])[kn]? = _
    rw [List.getElem?_append_left hkn]
    exact h2
  · show σ.2.2.2.1 + 1 ≤ 105 + i + nIN (σ.2.2.1 ++ [_])
    rw [nIN_app, if_pos rfl]
    omega
  · show σ.2.2.2.2 + n ≤ 310290 + i * 213444 + sIN (σ.2.2.1 ++ [_])
    rw [sIN_app, if_pos rfl]
    show _ ≤ _ + (_ + n)
    omega
  · rw [c 35 (by omega)] at e
    refine ⟨(h8 x hx e).1, fun g hg => ?_⟩
    rw [c kn hkn]
    exact (h8 x hx e).2 g hg
/-- a row of ints of the law's own changed -/
theorem CI.law {W : List Nat} {k nm ns : Nat} {D : Nat → Nat → Int} {σ σ' : am_S} (h : CI k nm ns D σ) (hF : Fr W σ σ') (hw : ∀ a ∈ W, 76 ≤ a ∧ ∃ n, σ.2.2.1[a]? = some (.inl .int, n)) : CI k nm ns D σ' := by
  refine h.cls (hF.wd h.w) (fun a ha => hF.2 a (fun e => by have := (hw a e).1; omega)) ?_
  obtain ⟨kn, i, ⟨h1, h2, h3, h4, h5, h6⟩, h7, h8⟩ := h.kn
  have hkn : kn ∉ W := fun e => by
    obtain ⟨-, z, hz⟩ := hw kn e
    rw [h2] at hz
    cases hz
  have h35 : ∀ j, σ'.1 35 j = σ.1 35 j := hF.2 35 (fun e => by have := (hw 35 e).1; omega)
  refine ⟨kn, i, ⟨by rw [hF.1]; exact h1, by rw [hF.1]; exact h2, h3, h4, by rw [hF.1]; exact h5, by rw [hF.1]; exact h6⟩, fun x hx => by rw [h35]; exact h7 x hx, fun x hx e => ?_⟩
  rw [h35] at e
  refine ⟨(h8 x hx e).1, fun g hg => ?_⟩
  rw [hF.2 kn hkn]
  exact (h8 x hx e).2 g hg
theorem and_nn (x : Int) : 0 ≤ a_and x 2147483647 := by
  have h : ((Int32.ofInt x).toBitVec &&& (Int32.ofInt 2147483647).toBitVec).msb = false := by
    rw [BitVec.msb_and, show (Int32.ofInt 2147483647).toBitVec.msb = false from by decide, Bool.and_false]
  exact BitVec.toInt_nonneg_of_msb_false h
theorem low_ex {x n : Int} (hn : 0 < n) : ∃ i : Nat, Int.tmod (a_and x 2147483647) n = (i : Int) ∧ (i : Int) < n := by
  have h0 := and_nn x
  have h1 : 0 ≤ Int.tmod (a_and x 2147483647) n := Int.tmod_nonneg _ h0
  have h2 := Int.tmod_lt_of_pos (a_and x 2147483647) hn
  exact ⟨_, (Int.toNat_of_nonneg h1).symm, by omega⟩
/-- the script -/
def Sc (L : Nat) (xs : Nat → Int32) (σ : am_S) : Prop := (∀ j, σ.1 1 j = (xs j).toInt) ∧ σ.2.2.1[1]? = some (.inl .int, L)
theorem xs_bd (x : Int32) : -2147483648 ≤ x.toInt ∧ x.toInt ≤ 2147483647 := by
  have h1 := Int32.le_toInt x
  have h2 := Int32.toInt_lt x
  omega
/-! digits of numbers below a thousand -/
theorem ds_3 {v : Nat} (h : v < 1000) : dsN 6 v = v % 10 + v / 10 % 10 + v / 100 := by
  show 0 + v / 10 ^ 0 % 10 + v / 10 ^ 1 % 10 + v / 10 ^ 2 % 10 + v / 10 ^ 3 % 10 + v / 10 ^ 4 % 10 + v / 10 ^ 5 % 10 = _
  have e0 : (10 : Nat) ^ 0 = 1 := rfl
  have e1 : (10 : Nat) ^ 1 = 10 := rfl
  have e2 : (10 : Nat) ^ 2 = 100 := rfl
  have e3 : (10 : Nat) ^ 3 = 1000 := rfl
  have e4 : (10 : Nat) ^ 4 = 10000 := rfl
  have e5 : (10 : Nat) ^ 5 = 100000 := rfl
  rw [e0, e1, e2, e3, e4, e5]
  omega
def hoP (v : Nat) : Bool := decide (v % 10 + v / 10 % 10 + v / 100 ≤ 5)
set_option maxRecDepth 100000 in
theorem ho_ct : ctN hoP 10 = nkT 1 ∧ ctN hoP 100 = nkT 2 ∧ ctN hoP 1000 = nkT 3 := by decide +kernel

theorem c172 (σ : am_S) (x n : Int) (hn : 0 < n) : CC 172 [vI (x), vI (n)] σ (fun r σ' => σ' = σ ∧ ∃ i : Nat, (i : Int) < n ∧ r = some (vI (i : Int))) := by
  show TT am_b172 (am_b172.getD 0 []) [(0, vI (x)), (1, vI (n))] [] σ _
  refine tt_ar rfl ?_
  refine tt_ar rfl ?_
  refine tt_bI (g := a_and) (z := a_and (x) (2147483647)) rfl rfl ?_
  refine tt_ar rfl ?_
  refine tt_dI (g := (fun a b => Int.tmod a b)) (z := Int.tmod (a_and (x) (2147483647)) (n)) rfl (by omega) rfl ?_
  refine tt_iret ?_
  obtain ⟨i, h1, h2⟩ := low_ex (x := x) hn
  exact ⟨rfl, i, h2, by rw [h1]⟩

theorem c173 (σ : am_S) (L : Nat) (xs : Nat → Int32) (hS : Sc L xs σ) (hL : L ≤ 260) (i : Nat) (hi : i ≤ 40) : CC 173 [vR 1, vI (((i : Nat) : Int))] σ (fun r σ' => σ' = σ ∧ ∃ x : Int, (-2147483648 ≤ x ∧ x ≤ 2147483647) ∧ r = some (vI x)) := by
  show TT am_b173 (am_b173.getD 0 []) [(0, vR 1), (1, vI (((i : Nat) : Int)))] [] σ _
  refine tt_ar rfl ?_
  refine tt_ar rfl ?_
  refine tt_alen hS.2 (Nat.blt_eq.mpr (by omega)) ?_
  refine tt_icge (fun h0_3 => ?_) (fun h0_3 => ?_)
  · refine tt_ar rfl ?_
    refine tt_ar rfl ?_
    refine tt_imul (by omega) (by omega) ?_
    refine tt_ar rfl ?_
    refine tt_iadd (by omega) (by omega) ?_
    refine tt_nop ?_
    refine tt_iret ?_
    first | exact ⟨rfl, _, ⟨by omega, by omega⟩, rfl⟩ | exact ⟨rfl, _, xs_bd (xs i), by rw [← hS.1 i]⟩
  · have hb := xs_bd (xs i)
    have e1 := hS.1 i
    refine tt_ar rfl ?_
    refine tt_ar rfl ?_
    refine tt_iald (i) (x := σ.1 1 (i)) hS.2 rfl (by omega) rfl ?_
    refine tt_goto ?_
    refine tt_iret ?_
    first | exact ⟨rfl, _, ⟨by omega, by omega⟩, rfl⟩ | exact ⟨rfl, _, xs_bd (xs i), by rw [← hS.1 i]⟩

theorem c174 (σ : am_S) (k nm ns : Nat) (D : Nat → Nat → Int) (hCI : CI k nm ns D σ) : CC 174 [vR 2, vI 1] σ (fun r σ' => PKc k nm ns D σ (x_asked σ) r σ') := by
  show TT am_b174 (am_b174.getD 0 []) [(0, vR 2), (1, vI 1)] [] σ _
  have hW := hCI.w
  refine tt_ar rfl ?_
  refine tt_ar rfl ?_
  refine tt_icne (fun h => absurd h (by omega)) (fun _ => ?_)
  refine tt_ar rfl ?_
  refine tt_cv1 1 rfl (wo_2 hW) (c158 σ k nm ns D hCI) ?_
  intro r1 σ1 hq1
  obtain ⟨g1, rfl, g3, g4⟩ := hq1
  · refine tt_goto ?_
    refine tt_iret ?_
    exact ⟨g1, rfl, g3, g4⟩

