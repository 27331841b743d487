/-! THE REFERENCE: HOUSEHOLDS LOOKED AT -/
def plR (k : Nat) (u : Int) : Int := if ix k u < 0 then -9 else ix k u
theorem plR_c (k : Nat) (u : Int) : (ix k u < 0 ∧ plR k u = -9) ∨ (0 ≤ ix k u ∧ plR k u = ix k u) := by
  unfold plR
  split <;> omega
theorem a_or_0 {v : Int32} : a_or v.toInt 0 = v.toInt := by
  unfold a_or
  rw [Int32.ofInt_toInt]
  show (v ||| 0).toInt = _
  rw [Int32.or_zero]
theorem orN_0 {p : Nat → Bool} : ∀ n, a_or (orN n p) 0 = orN n p
  | 0 => by
    show a_or 0 0 = 0
    decide
  | n + 1 => by
    unfold orN
    split
    · exact a_or_0
    · exact orN_0 n
theorem orN_t {p : Nat → Bool} {n : Nat} (h : p n = true) : orN (n + 1) p = a_or (orN n p) (a_shl 1 (n : Int)) := by
  show (if p n = true then _ else _) = _
  rw [if_pos h]
theorem orN_f {p : Nat → Bool} {n : Nat} (h : p n = false) : orN (n + 1) p = orN n p := by
  show (if p n = true then _ else _) = _
  rw [if_neg (by rw [h]; decide)]
theorem ag_no {A : am_S} {k m h s t : Nat} (hD : LD k A) (ht : t < 6) (h0 : ¬ cAg A m h 0 0 0) (h1 : cAg A m h (-1) 0 s) : ¬ cAg A m h 1 1 t := fun h2 => h0 (fun x hx => by
  have a1 := h1 x hx
  have a2 := h2 x hx
  have b1 := (hD.2.2.1 (t * 8 + x) (by omega)).1
  have e1 : (0 : Int) * A.1 8 (s * 8 + x) = 0 := Int.zero_mul _
  have e2 : (0 : Int) * A.1 8 (0 * 8 + x) = 0 := Int.zero_mul _
  have e3 : (0 : Int) * A.1 7 (0 * 8 + x) = 0 := Int.zero_mul _
  have e4 : (1 : Int) * A.1 7 (t * 8 + x) = A.1 7 (t * 8 + x) := Int.one_mul _
  refine ⟨by have := a1.1; simp only at *; omega, fun q => a2.2 (by simp only at *; omega)⟩)
/-- the least price at which the reference explains -/
def epR (A : am_S) (k m h : Nat) : Int := if cEx A k m h = -9 then 100000 else prOf (A.1 9) (cEx A k m h)
section ILL
variable {A : am_S} {k m h s s0 : Nat}
theorem ill_t (h1 : 0 < A.1 21 (h * 6 + s)) (h2 : cAg A m h (-1) 0 s) : cIll A m h s = true := decide_eq_true ⟨h1, h2⟩
theorem ill_f (h1 : ¬ (0 < A.1 21 (h * 6 + s) ∧ cAg A m h (-1) 0 s)) : cIll A m h s = false := decide_eq_false h1
theorem ex_0 (h1 : cAg A m h 0 0 0) : cEx A k m h = 0 := by
  unfold cEx exN
  rw [if_pos (decide_eq_true h1)]
theorem ex_i (h1 : ¬ cAg A m h 0 0 0) (hs : s0 < k) (h2 : cIll A m h s0 = true) (h3 : ∀ t, t < s0 → cIll A m h t = false) : cEx A k m h = 10 + (s0 : Int) := by
  unfold cEx exN
  rw [if_neg (fun e => h1 (of_decide_eq_true e)), fstN_eq h2 h3 hs, if_pos hs]
theorem ex_g (h1 : ¬ cAg A m h 0 0 0) (hi : ∀ t, t < k → cIll A m h t = false) (hs : s0 < k) (h2 : cGst A m h s0 = true) (h3 : ∀ t, t < s0 → cGst A m h t = false) : cEx A k m h = 20 + (s0 : Int) := by
  unfold cEx exN
  rw [if_neg (fun e => h1 (of_decide_eq_true e)), fstN_none hi, if_neg (by omega), fstN_eq h2 h3 hs, if_pos hs]
theorem ex_n (h1 : ¬ cAg A m h 0 0 0) (hi : ∀ t, t < k → cIll A m h t = false) (h3 : ∀ t, t < k → cGst A m h t = false) : cEx A k m h = -9 := by
  unfold cEx exN
  rw [if_neg (fun e => h1 (of_decide_eq_true e)), fstN_none hi, if_neg (by omega), fstN_none h3, if_neg (by omega)]
end ILL
theorem c214 (A σ : am_S) (k nm ns : Nat) (D : Nat → Nat → Int) (hA : CI k nm ns D A) (hW : Wd σ) (hR : RRb k nm ns D A σ) (u : Int) : CC 214 [vR 76, vI (u)] σ (fun r σ' => r = some (vI (plR k u)) ∧ σ' = σ) := by
  show TT am_b214 (am_b214.getD 0 []) [(0, vR 76), (1, vI (u))] [] σ _
  have hk5 := hR.aa.1
  have hl27 := hR.aa.2.1
  have hs47 := hR.aa.2.2
  have hk6 := hA.x.1.2.1
  have hm12 := hA.x.2.2.1.2.1
  have hs16 := hA.st.2
  have hDA := hA.x.1
  have hHT := hA.x.2.1
  have hLA := hA.x.2.2.1
  have hHB := HB_of hDA hHT
  have hnb := nkT_bd k
  refine tt_ar rfl ?_
  refine tt_ar rfl ?_
  refine tt_ar rfl ?_
  refine tt_getI (x := ((nkT k : Nat) : Int)) (wo_76 hW) rfl hR.hs.1 ?_
  refine tt_ar rfl ?_
  refine tt_isub (by omega) (by omega) ?_
  refine tt_ar rfl ?_
  refine tt_nop ?_
  have lp1_1 : ∀ (μ : Nat) (lo : Nat) (hn : Nat), hn - lo < μ → (lo ≤ hn) → (hn < nkT k) → (∀ t, t < lo → (tb k t : Int) < u) → (∀ t, t < nkT k → hn < t → u < (tb k t : Int)) → TT am_b214 (am_b214.getD 1 []) [(0, vR 76), (1, vI (u)), (2, vI (((lo : Nat) : Int))), (3, vI (((hn : Nat) : Int)))] [] σ (fun r σ' => r = some (vI (plR k u)) ∧ σ' = σ) := by
    intro μ
    induction μ with
    | zero => intro lo hn hμ; exact absurd hμ (Nat.not_lt_zero _)
    | succ μ ih1 =>
      intro lo hn hμ hlo hhn hB1 hB2
      refine tt_ar rfl ?_
      refine tt_ar rfl ?_
      refine tt_icge (fun h1_2 => ?_) (fun h1_2 => ?_)
      · refine tt_ar rfl ?_
        refine tt_getR (wo_76 hW) rfl (wr_76_28 hW) ?_
        refine tt_ar rfl ?_
        refine tt_iald (lo) (x := ((tb k lo : Nat) : Int)) (wa_92 hW) rfl (by omega) (hR.hs.2 lo (by omega)).1 ?_
        refine tt_ar rfl ?_
        refine tt_icne (fun h4_5 => ?_) (fun h4_5 => ?_)
        · refine tt_ar rfl ?_
          refine tt_nop ?_
          refine tt_iret ?_
          have ei : lo = hn := by omega
          subst ei
          have q := ix_no (k := k) (w := u) (fun t ht e => by rcases Nat.lt_trichotomy t lo with z | z | z; (have := hB1 t z; omega); (subst z; omega); (have := hB2 t ht z; omega))
          exact ⟨rv (by unfold plR; rw [q]; rfl), rfl⟩
        · refine tt_ar rfl ?_
          refine tt_goto ?_
          refine tt_iret ?_
          have ei : lo = hn := by omega
          subst ei
          have q := ix_of hk6 hhn (by omega : (tb k lo : Int) = u)
          exact ⟨rv (by unfold plR; rw [q, if_neg (by omega)]), rfl⟩
      · refine tt_ar rfl ?_
        refine tt_ar rfl ?_
        refine tt_iadd (by omega) (by omega) ?_
        refine tt_ar rfl ?_
        refine tt_dI (g := (fun a b => w32 (Int.tdiv a b))) (z := (((lo + hn) / 2 : Nat) : Int)) rfl (by omega) (tdiv2 (by omega) (by omega)) ?_
        refine tt_ar rfl ?_
        refine tt_ar rfl ?_
        refine tt_getR (wo_76 hW) rfl (wr_76_28 hW) ?_
        refine tt_ar rfl ?_
        refine tt_iald (((lo + hn) / 2)) (x := ((tb k (((lo + hn) / 2)) : Nat) : Int)) (wa_92 hW) (by omega) (by omega) (hR.hs.2 (((lo + hn) / 2)) (by omega)).1 ?_
        refine tt_ar rfl ?_
        refine tt_icge (fun h1_14 => ?_) (fun h1_14 => ?_)
        · refine tt_ar rfl ?_
          refine tt_ar rfl ?_
          refine tt_nop ?_
          refine tt_goto ?_
          refine tt_loc [(0, vR 76), (1, vI (u)), (2, vI (((lo : Nat) : Int))), (3, vI ((((lo + hn) / 2 : Nat) : Int)))] rfl rfl ⟨rfl, rfl, rfl, rfl, trivial⟩ ?_
          exact ih1 (lo) ((lo + hn) / 2) (by omega) (by omega) (by omega) (by first | exact hB1 | exact fun t ht => by have := tb_lt hk6 (a := t) (b := (lo + hn) / 2) (by omega); have e : t = (lo + hn) / 2 ∨ t < (lo + hn) / 2 := (by omega); (rcases e with e | e; (subst e; omega); (have := this e; omega))) (by first | exact hB2 | exact fun t h1 h2 => by have := tb_lt hk6 h1 h2; omega)
        · refine tt_ar rfl ?_
          refine tt_ar rfl ?_
          refine tt_iadd (by omega) (by omega) ?_
          refine tt_ar rfl ?_
          refine tt_goto ?_
          refine tt_goto ?_
          refine tt_loc [(0, vR 76), (1, vI (u)), (2, vI ((((lo + hn) / 2 + 1 : Nat) : Int))), (3, vI (((hn : Nat) : Int)))] rfl rfl ⟨rfl, rfl, lv_to rfl (by omega), rfl, trivial⟩ ?_
          exact ih1 ((lo + hn) / 2 + 1) (hn) (by omega) (by omega) (by omega) (by first | exact hB1 | exact fun t ht => by have := tb_lt hk6 (a := t) (b := (lo + hn) / 2) (by omega); have e : t = (lo + hn) / 2 ∨ t < (lo + hn) / 2 := (by omega); (rcases e with e | e; (subst e; omega); (have := this e; omega))) (by first | exact hB2 | exact fun t h1 h2 => by have := tb_lt hk6 h1 h2; omega)
  refine tt_loc [(0, vR 76), (1, vI (u)), (2, vI (((0 : Nat) : Int))), (3, vI (((nkT k - 1 : Nat) : Int)))] rfl rfl ⟨rfl, rfl, lv_to rfl (by omega), lv_to rfl (by omega), trivial⟩ ?_
  exact lp1_1 _ (0) (nkT k - 1) (Nat.lt_succ_self _) (by omega) (by omega) (fun t ht => absurd ht (Nat.not_lt_zero t)) (fun t h1 h2 => absurd h1 (by omega))

theorem c224 (A σ : am_S) (k nm ns : Nat) (D : Nat → Nat → Int) (hA : CI k nm ns D A) (hW : Wd σ) (hR : RRb k nm ns D A σ) (h : Nat) (hh : h < nkT k) : CC 224 [vR 76, vI (((h : Nat) : Int))] σ (fun r σ' => r = some (vI ((dsN 6 (tb k h) : Nat) : Int)) ∧ σ' = σ) := by
  show TT am_b224 (am_b224.getD 0 []) [(0, vR 76), (1, vI (((h : Nat) : Int)))] [] σ _
  have hk5 := hR.aa.1
  have hl27 := hR.aa.2.1
  have hs47 := hR.aa.2.2
  have hk6 := hA.x.1.2.1
  have hm12 := hA.x.2.2.1.2.1
  have hs16 := hA.st.2
  have hDA := hA.x.1
  have hHT := hA.x.2.1
  have hLA := hA.x.2.2.1
  have hHB := HB_of hDA hHT
  have hnb := nkT_bd k
  refine tt_ar rfl ?_
  refine tt_ar rfl ?_
  refine tt_ar rfl ?_
  refine tt_ar rfl ?_
  refine tt_nop ?_
  have lp1_1 : ∀ (μ : Nat) (i : Nat) (d : Nat), 6 - i < μ → (i ≤ 6) → (d = dsN i (tb k h)) → TT am_b224 (am_b224.getD 1 []) [(0, vR 76), (1, vI (((h : Nat) : Int))), (2, vI (((d : Nat) : Int))), (3, vI (((i : Nat) : Int)))] [] σ (fun r σ' => r = some (vI ((dsN 6 (tb k h) : Nat) : Int)) ∧ σ' = σ) := by
    intro μ
    induction μ with
    | zero => intro i d hμ; exact absurd hμ (Nat.not_lt_zero _)
    | succ μ ih1 =>
      intro i d hμ hi hd
      have h9 := ds_9 (x := tb k h) i
      refine tt_ar rfl ?_
      refine tt_ar rfl ?_
      refine tt_icge (fun h1_2 => ?_) (fun h1_2 => ?_)
      · refine tt_ar rfl ?_
        refine tt_iret ?_
        have e : i = 6 := by omega
        subst e
        subst hd
        exact ⟨rfl, rfl⟩
      · refine tt_ar rfl ?_
        refine tt_ar rfl ?_
        refine tt_getR (wo_76 hW) rfl (wr_76_29 hW) ?_
        refine tt_ar rfl ?_
        refine tt_ar rfl ?_
        refine tt_imul (by omega) (by omega) ?_
        refine tt_ar rfl ?_
        refine tt_iadd (by omega) (by omega) ?_
        refine tt_iald (((6 * h) + i)) (x := ((dg (tb k h) i : Nat) : Int)) (wa_93 hW) (by omega) (by omega) ((hR.hs.2 h hh).2 i (by omega)) ?_
        have hd9 := dg_lt (tb k h) i
        refine tt_iadd (by omega) (by omega) ?_
        refine tt_ar rfl ?_
        refine tt_iinc (y := ((i + 1 : Nat) : Int)) rfl (iinc_fit (by omega) (by omega) (by omega)) ?_
        refine tt_goto ?_
        refine tt_loc [(0, vR 76), (1, vI (((h : Nat) : Int))), (2, vI (((d + dg (tb k h) i : Nat) : Int))), (3, vI (((i + 1 : Nat) : Int)))] rfl rfl ⟨rfl, rfl, lv_to rfl (by omega), rfl, trivial⟩ ?_
        exact ih1 (i + 1) (d + dg (tb k h) i) (by omega) (by omega) (by rw [ds_s, ← hd])
  refine tt_loc [(0, vR 76), (1, vI (((h : Nat) : Int))), (2, vI (((0 : Nat) : Int))), (3, vI (((0 : Nat) : Int)))] rfl rfl ⟨rfl, rfl, lv_to rfl (by omega), lv_to rfl (by omega), trivial⟩ ?_
  exact lp1_1 _ (0) (0) (Nat.lt_succ_self _) (by omega) rfl

theorem c215_84 (A σ : am_S) (k nm ns : Nat) (D : Nat → Nat → Int) (hA : CI k nm ns D A) (hW : Wd σ) (hR : RRb k nm ns D A σ) (h x : Nat) (hh : h < nkT k) (hx : x < 8) : CC 215 [vR 76, vR 84, vI (((h : Nat) : Int)), vI (((x : Nat) : Int))] σ (fun r σ' => r = some (vI (A.1 25 (h * 8 + x))) ∧ σ' = σ) := by
  show TT am_b215 (am_b215.getD 0 []) [(0, vR 76), (1, vR 84), (2, vI (((h : Nat) : Int))), (3, vI (((x : Nat) : Int)))] [] σ _
  have hk5 := hR.aa.1
  have hl27 := hR.aa.2.1
  have hs47 := hR.aa.2.2
  have hk6 := hA.x.1.2.1
  have hm12 := hA.x.2.2.1.2.1
  have hs16 := hA.st.2
  have hDA := hA.x.1
  have hHT := hA.x.2.1
  have hLA := hA.x.2.2.1
  have hHB := HB_of hDA hHT
  have hnb := nkT_bd k
  have hen := (en_at hk6 hh).2.1
  have hw9 : ∀ i, i < 48 → 0 ≤ A.1 7 i ∧ A.1 7 i ≤ 9 := fun i hi => by have := hDA.2.2.1 i hi; omega
  refine tt_ar rfl ?_
  refine tt_ar rfl ?_
  refine tt_ar rfl ?_
  refine tt_ar rfl ?_
  refine tt_nop ?_
  have lp1_1 : ∀ (μ : Nat) (s : Nat), k - s < μ → (s ≤ k) → TT am_b215 (am_b215.getD 1 []) [(0, vR 76), (1, vR 84), (2, vI (((h : Nat) : Int))), (3, vI (((x : Nat) : Int))), (4, vI (hgS s (tb k h) (A.1 7) x)), (5, vI (((s : Nat) : Int)))] [] σ (fun r σ' => r = some (vI (A.1 25 (h * 8 + x))) ∧ σ' = σ) := by
    intro μ
    induction μ with
    | zero => intro s hμ; exact absurd hμ (Nat.not_lt_zero _)
    | succ μ ih1 =>
      intro s hμ hs
      have hgb := hgS_bd (k := k) (num := tb k h) (s := s) hw9 hx (by omega) hen
      refine tt_ar rfl ?_
      refine tt_ar rfl ?_
      refine tt_getI (x := ((k : Nat) : Int)) (wo_76 hW) rfl hR.wl.1 ?_
      refine tt_icge (fun h1_3 => ?_) (fun h1_3 => ?_)
      · refine tt_ar rfl ?_
        refine tt_iret ?_
        have e : s = k := by omega
        subst e
        exact ⟨rv (hHT.2.2.2.2 h hh x hx).1.symm, rfl⟩
      · refine tt_ar rfl ?_
        refine tt_ar rfl ?_
        refine tt_getR (wo_76 hW) rfl (wr_76_29 hW) ?_
        refine tt_ar rfl ?_
        refine tt_ar rfl ?_
        refine tt_imul (by omega) (by omega) ?_
        refine tt_ar rfl ?_
        refine tt_iadd (by omega) (by omega) ?_
        refine tt_iald (((6 * h) + s)) (x := ((dg (tb k h) s : Nat) : Int)) (wa_93 hW) (by omega) (by omega) ((hR.hs.2 h hh).2 s (by omega)) ?_
        have hd9 := dg_lt (tb k h) s
        refine tt_ar rfl ?_
        refine tt_ar rfl ?_
        refine tt_ar rfl ?_
        refine tt_imul (by omega) (by omega) ?_
        refine tt_ar rfl ?_
        refine tt_iadd (by omega) (by omega) ?_
        refine tt_iald (((8 * s) + x)) (x := A.1 7 (s * 8 + x)) (wa_84 hW) (by omega) (by omega) ((hR.wl.2.2.2.1 (8 * s + x) (by omega)).1.trans (by rw [Nat.mul_comm])) ?_
        have hw1 := hw9 (s * 8 + x) (by omega)
        have hmb := mul_bd (a := ((dg (tb k h) s : Nat) : Int)) (b := A.1 7 (s * 8 + x)) (A := 9) (B := 9) (by omega) (by omega) hw1.1 hw1.2
        refine tt_bI (g := fun a b => w32 (a * b)) (z := (((dg (tb k h) s : Nat) : Int) * A.1 7 (s * 8 + x))) rfl (w32_i (by omega) (by omega)) ?_
        refine tt_iadd (by omega) (by omega) ?_
        refine tt_ar rfl ?_
        refine tt_iinc (y := ((s + 1 : Nat) : Int)) rfl (iinc_fit (by omega) (by omega) (by omega)) ?_
        refine tt_goto ?_
        refine tt_loc [(0, vR 76), (1, vR 84), (2, vI (((h : Nat) : Int))), (3, vI (((x : Nat) : Int))), (4, vI (hgS (s + 1) (tb k h) (A.1 7) x)), (5, vI (((s + 1 : Nat) : Int)))] rfl rfl ⟨rfl, rfl, rfl, rfl, lv_to rfl rfl, rfl, trivial⟩ ?_
        exact ih1 (s + 1) (by omega) (by omega)
  refine tt_loc [(0, vR 76), (1, vR 84), (2, vI (((h : Nat) : Int))), (3, vI (((x : Nat) : Int))), (4, vI (hgS 0 (tb k h) (A.1 7) x)), (5, vI (((0 : Nat) : Int)))] rfl rfl ⟨rfl, rfl, rfl, rfl, lv_to rfl rfl, lv_to rfl (by omega), trivial⟩ ?_
  exact lp1_1 _ (0) (Nat.lt_succ_self _) (by omega)

theorem c215_85 (A σ : am_S) (k nm ns : Nat) (D : Nat → Nat → Int) (hA : CI k nm ns D A) (hW : Wd σ) (hR : RRb k nm ns D A σ) (h x : Nat) (hh : h < nkT k) (hx : x < 8) : CC 215 [vR 76, vR 85, vI (((h : Nat) : Int)), vI (((x : Nat) : Int))] σ (fun r σ' => r = some (vI (A.1 26 (h * 8 + x))) ∧ σ' = σ) := by
  show TT am_b215 (am_b215.getD 0 []) [(0, vR 76), (1, vR 85), (2, vI (((h : Nat) : Int))), (3, vI (((x : Nat) : Int)))] [] σ _
  have hk5 := hR.aa.1
  have hl27 := hR.aa.2.1
  have hs47 := hR.aa.2.2
  have hk6 := hA.x.1.2.1
  have hm12 := hA.x.2.2.1.2.1
  have hs16 := hA.st.2
  have hDA := hA.x.1
  have hHT := hA.x.2.1
  have hLA := hA.x.2.2.1
  have hHB := HB_of hDA hHT
  have hnb := nkT_bd k
  have hen := (en_at hk6 hh).2.1
  have hw9 : ∀ i, i < 48 → 0 ≤ A.1 8 i ∧ A.1 8 i ≤ 9 := fun i hi => by have := hDA.2.2.1 i hi; omega
  refine tt_ar rfl ?_
  refine tt_ar rfl ?_
  refine tt_ar rfl ?_
  refine tt_ar rfl ?_
  refine tt_nop ?_
  have lp1_1 : ∀ (μ : Nat) (s : Nat), k - s < μ → (s ≤ k) → TT am_b215 (am_b215.getD 1 []) [(0, vR 76), (1, vR 85), (2, vI (((h : Nat) : Int))), (3, vI (((x : Nat) : Int))), (4, vI (hgS s (tb k h) (A.1 8) x)), (5, vI (((s : Nat) : Int)))] [] σ (fun r σ' => r = some (vI (A.1 26 (h * 8 + x))) ∧ σ' = σ) := by
    intro μ
    induction μ with
    | zero => intro s hμ; exact absurd hμ (Nat.not_lt_zero _)
    | succ μ ih1 =>
      intro s hμ hs
      have hgb := hgS_bd (k := k) (num := tb k h) (s := s) hw9 hx (by omega) hen
      refine tt_ar rfl ?_
      refine tt_ar rfl ?_
      refine tt_getI (x := ((k : Nat) : Int)) (wo_76 hW) rfl hR.wl.1 ?_
      refine tt_icge (fun h1_3 => ?_) (fun h1_3 => ?_)
      · refine tt_ar rfl ?_
        refine tt_iret ?_
        have e : s = k := by omega
        subst e
        exact ⟨rv (hHT.2.2.2.2 h hh x hx).2.symm, rfl⟩
      · refine tt_ar rfl ?_
        refine tt_ar rfl ?_
        refine tt_getR (wo_76 hW) rfl (wr_76_29 hW) ?_
        refine tt_ar rfl ?_
        refine tt_ar rfl ?_
        refine tt_imul (by omega) (by omega) ?_
        refine tt_ar rfl ?_
        refine tt_iadd (by omega) (by omega) ?_
        refine tt_iald (((6 * h) + s)) (x := ((dg (tb k h) s : Nat) : Int)) (wa_93 hW) (by omega) (by omega) ((hR.hs.2 h hh).2 s (by omega)) ?_
        have hd9 := dg_lt (tb k h) s
        refine tt_ar rfl ?_
        refine tt_ar rfl ?_
        refine tt_ar rfl ?_
        refine tt_imul (by omega) (by omega) ?_
        refine tt_ar rfl ?_
        refine tt_iadd (by omega) (by omega) ?_
        refine tt_iald (((8 * s) + x)) (x := A.1 8 (s * 8 + x)) (wa_85 hW) (by omega) (by omega) ((hR.wl.2.2.2.1 (8 * s + x) (by omega)).2.trans (by rw [Nat.mul_comm])) ?_
        have hw1 := hw9 (s * 8 + x) (by omega)
        have hmb := mul_bd (a := ((dg (tb k h) s : Nat) : Int)) (b := A.1 8 (s * 8 + x)) (A := 9) (B := 9) (by omega) (by omega) hw1.1 hw1.2
        refine tt_bI (g := fun a b => w32 (a * b)) (z := (((dg (tb k h) s : Nat) : Int) * A.1 8 (s * 8 + x))) rfl (w32_i (by omega) (by omega)) ?_
        refine tt_iadd (by omega) (by omega) ?_
        refine tt_ar rfl ?_
        refine tt_iinc (y := ((s + 1 : Nat) : Int)) rfl (iinc_fit (by omega) (by omega) (by omega)) ?_
        refine tt_goto ?_
        refine tt_loc [(0, vR 76), (1, vR 85), (2, vI (((h : Nat) : Int))), (3, vI (((x : Nat) : Int))), (4, vI (hgS (s + 1) (tb k h) (A.1 8) x)), (5, vI (((s + 1 : Nat) : Int)))] rfl rfl ⟨rfl, rfl, rfl, rfl, lv_to rfl rfl, rfl, trivial⟩ ?_
        exact ih1 (s + 1) (by omega) (by omega)
  refine tt_loc [(0, vR 76), (1, vR 85), (2, vI (((h : Nat) : Int))), (3, vI (((x : Nat) : Int))), (4, vI (hgS 0 (tb k h) (A.1 8) x)), (5, vI (((0 : Nat) : Int)))] rfl rfl ⟨rfl, rfl, rfl, rfl, lv_to rfl rfl, lv_to rfl (by omega), trivial⟩ ?_
  exact lp1_1 _ (0) (Nat.lt_succ_self _) (by omega)

theorem c217 (A σ : am_S) (k nm ns : Nat) (D : Nat → Nat → Int) (hA : CI k nm ns D A) (hW : Wd σ) (hR : RRb k nm ns D A σ) (w x : Int) : CC 217 [vR 76, vI (w), vI (x)] σ (fun r σ' => σ' = σ ∧ ((isIn (A.1 5 4) w x) ∧ r = some (vI 1) ∨ ¬(isIn (A.1 5 4) w x) ∧ r = some (vI 0))) := by
  show TT am_b217 (am_b217.getD 0 []) [(0, vR 76), (1, vI (w)), (2, vI (x))] [] σ _
  refine tt_ar rfl ?_
  refine tt_ar rfl ?_
  refine tt_icne (fun h0_2 => ?_) (fun h0_2 => ?_)
  · refine tt_ar rfl ?_
    refine tt_nop ?_
    refine tt_zret (by omega) ?_
    exact ⟨rfl, Or.inr ⟨by omega, rfl⟩⟩
  · refine tt_ar rfl ?_
    refine tt_getI (x := A.1 5 4) (wo_76 hW) rfl hR.wl.2.1 ?_
    refine tt_ar rfl ?_
    refine tt_bI (g := a_shr) (z := a_shr (A.1 5 4) (x)) rfl rfl ?_
    refine tt_ar rfl ?_
    refine tt_bI (g := a_and) (z := a_and (a_shr (A.1 5 4) (x)) (1)) rfl rfl ?_
    refine tt_ar rfl ?_
    refine tt_icne (fun h0_10 => ?_) (fun h0_10 => ?_)
    · refine tt_ar rfl ?_
      refine tt_nop ?_
      refine tt_zret (by omega) ?_
      exact ⟨rfl, Or.inr ⟨by omega, rfl⟩⟩
    · refine tt_ar rfl ?_
      refine tt_goto ?_
      refine tt_zret (by omega) ?_
      exact ⟨rfl, Or.inl ⟨by omega, rfl⟩⟩

theorem c216 (A σ : am_S) (k nm ns : Nat) (D : Nat → Nat → Int) (hA : CI k nm ns D A) (hW : Wd σ) (hR : RRb k nm ns D A σ) (h x : Nat) (w : Int) (hh : h < nkT k) (hx : x < 8) : CC 216 [vR 76, vI (((h : Nat) : Int)), vI (w), vI (((x : Nat) : Int))] σ (fun r σ' => r = some (vI (loF A w x (h : Int))) ∧ σ' = σ) := by
  show TT am_b216 (am_b216.getD 0 []) [(0, vR 76), (1, vI (((h : Nat) : Int))), (2, vI (w)), (3, vI (((x : Nat) : Int)))] [] σ _
  have hk5 := hR.aa.1
  have hl27 := hR.aa.2.1
  have hs47 := hR.aa.2.2
  have hk6 := hA.x.1.2.1
  have hm12 := hA.x.2.2.1.2.1
  have hs16 := hA.st.2
  have hDA := hA.x.1
  have hHT := hA.x.2.1
  have hLA := hA.x.2.2.1
  have hHB := HB_of hDA hHT
  have hnb := nkT_bd k
  refine tt_ar rfl ?_
  refine tt_ar rfl ?_
  refine tt_ar rfl ?_
  refine tt_cv3 3 rfl (wo_76 hW) (c217 A σ k nm ns D hA hW hR _ _) (kb (fun h0_3 => ?_) (fun h0_3 => ?_))
  · refine tt_ifeqF (by decide) ?_
    refine tt_ar rfl ?_
    refine tt_goto ?_
    refine tt_iret ?_
    exact ⟨rv (by unfold loF; rw [if_pos h0_3]), rfl⟩
  · refine tt_ifeqT (by decide) ?_
    refine tt_ar rfl ?_
    refine tt_ar rfl ?_
    refine tt_getR (wo_76 hW) rfl (wr_76_13 hW) ?_
    refine tt_ar rfl ?_
    refine tt_ar rfl ?_
    have hhb := hHB.2.2.2.1 (h * 8 + x) (by omega)
    refine tt_cv4 4 rfl (wo_76 hW) (c215_84 A σ k nm ns D hA hW hR h x (by omega) (by omega)) (kp ?_)
    refine tt_nop ?_
    refine tt_iret ?_
    exact ⟨rv (by unfold loF; rw [if_neg h0_3]; rfl), rfl⟩

theorem c221 (A σ : am_S) (k nm ns : Nat) (D : Nat → Nat → Int) (hA : CI k nm ns D A) (hW : Wd σ) (hR : RRb k nm ns D A σ) (m x : Nat) (lo hi : Int) (hm : m < nm) (hx : x < 8) : CC 221 [vR 76, vI (((m : Nat) : Int)), vI (((x : Nat) : Int)), vI (lo), vI (hi)] σ (fun r σ' => σ' = σ ∧ ((A.1 30 (m * 8 + x) - A.1 29 m ≤ hi ∧ lo ≤ A.1 30 (m * 8 + x) + A.1 29 m) ∧ r = some (vI 1) ∨ ¬(A.1 30 (m * 8 + x) - A.1 29 m ≤ hi ∧ lo ≤ A.1 30 (m * 8 + x) + A.1 29 m) ∧ r = some (vI 0))) := by
  show TT am_b221 (am_b221.getD 0 []) [(0, vR 76), (1, vI (((m : Nat) : Int))), (2, vI (((x : Nat) : Int))), (3, vI (lo)), (4, vI (hi))] [] σ _
  have hk5 := hR.aa.1
  have hl27 := hR.aa.2.1
  have hs47 := hR.aa.2.2
  have hk6 := hA.x.1.2.1
  have hm12 := hA.x.2.2.1.2.1
  have hs16 := hA.st.2
  have hDA := hA.x.1
  have hHT := hA.x.2.1
  have hLA := hA.x.2.2.1
  have hHB := HB_of hDA hHT
  have hnb := nkT_bd k
  have hlb := hLA.2.2.1 m (by omega)
  have hlh := hLA.2.2.2 (m * 8 + x) (by omega)
  have e2 : lnD A m (2 + x) = A.1 30 (m * 8 + x) := by unfold lnD; rw [if_neg (by omega), if_neg (by omega), show m * 8 + (2 + x) - 2 = m * 8 + x by omega]
  have e1 : lnD A m 1 = A.1 29 m := rfl
  refine tt_ar rfl ?_
  refine tt_ar rfl ?_
  refine tt_ar rfl ?_
  refine tt_ar rfl ?_
  refine tt_iadd (by omega) (by omega) ?_
  refine tt_cv3 3 rfl (wo_76 hW) (c210 A σ k nm ns D hA hW hR m ((2 + x)) (by omega) (by omega)) (kp ?_)
  refine tt_ar rfl ?_
  refine tt_ar rfl ?_
  refine tt_ar rfl ?_
  refine tt_ar rfl ?_
  refine tt_cv3 3 rfl (wo_76 hW) (c210 A σ k nm ns D hA hW hR m 1 (by omega) (by omega)) (kp ?_)
  refine tt_ar rfl ?_
  refine tt_ar rfl ?_
  refine tt_ar rfl ?_
  refine tt_isub (by omega) (by omega) ?_
  refine tt_ar rfl ?_
  refine tt_icgt (fun h0_16 => ?_) (fun h0_16 => ?_)
  · refine tt_ar rfl ?_
    refine tt_nop ?_
    refine tt_zret (by omega) ?_
    exact ⟨rfl, Or.inr ⟨by omega, rfl⟩⟩
  · refine tt_ar rfl ?_
    refine tt_ar rfl ?_
    refine tt_iadd (by omega) (by omega) ?_
    refine tt_ar rfl ?_
    refine tt_iclt (fun h0_21 => ?_) (fun h0_21 => ?_)
    · refine tt_ar rfl ?_
      refine tt_nop ?_
      refine tt_zret (by omega) ?_
      exact ⟨rfl, Or.inr ⟨by omega, rfl⟩⟩
    · refine tt_ar rfl ?_
      refine tt_goto ?_
      refine tt_zret (by omega) ?_
      exact ⟨rfl, Or.inl ⟨by omega, rfl⟩⟩

theorem c220_0 (A σ : am_S) (k nm ns : Nat) (D : Nat → Nat → Int) (hA : CI k nm ns D A) (hW : Wd σ) (hR : RRb k nm ns D A σ) (m h : Nat) (hm : m < nm) (hh : h < nkT k) : CC 220 [vR 76, vI (((m : Nat) : Int)), vI (((h : Nat) : Int)), vI (-9), vI (-9)] σ (fun r σ' => σ' = σ ∧ ((cAg A m h 0 0 0) ∧ r = some (vI 1) ∨ ¬(cAg A m h 0 0 0) ∧ r = some (vI 0))) := by
  show TT am_b220 (am_b220.getD 0 []) [(0, vR 76), (1, vI (((m : Nat) : Int))), (2, vI (((h : Nat) : Int))), (3, vI (-9)), (4, vI (-9))] [] σ _
  have hk5 := hR.aa.1
  have hl27 := hR.aa.2.1
  have hs47 := hR.aa.2.2
  have hk6 := hA.x.1.2.1
  have hm12 := hA.x.2.2.1.2.1
  have hs16 := hA.st.2
  have hDA := hA.x.1
  have hHT := hA.x.2.1
  have hLA := hA.x.2.2.1
  have hHB := HB_of hDA hHT
  have hnb := nkT_bd k
  have hlb9 := hLA.2.2.1 m (by omega)
  refine tt_ar rfl ?_
  refine tt_ar rfl ?_
  refine tt_ar rfl ?_
  refine tt_ar rfl ?_
  refine tt_nop ?_
  have lp1_1 : ∀ (μ : Nat) (g : Int) (x : Nat), 8 - x < μ → (x ≤ 8) → ((g = 1 ∧ ∀ y, y < x → (A.1 30 (m * 8 + y) - A.1 29 m ≤ A.1 26 (h * 8 + y) + (0) * A.1 8 (0 * 8 + y) ∧ (A.1 30 (m * 8 + y) + A.1 29 m < A.1 25 (h * 8 + y) + (0) * A.1 7 (0 * 8 + y) → isIn (A.1 5 4) (A.1 28 m) ((y : Nat) : Int)))) ∨ (g = 0 ∧ ¬ cAg A m h 0 0 0)) → TT am_b220 (am_b220.getD 1 []) [(0, vR 76), (1, vI (((m : Nat) : Int))), (2, vI (((h : Nat) : Int))), (3, vI (-9)), (4, vI (-9)), (5, vI (g)), (6, vI (((x : Nat) : Int)))] [] σ (fun r σ' => σ' = σ ∧ ((cAg A m h 0 0 0) ∧ r = some (vI 1) ∨ ¬(cAg A m h 0 0 0) ∧ r = some (vI 0))) := by
    intro μ
    induction μ with
    | zero => intro g x hμ; exact absurd hμ (Nat.not_lt_zero _)
    | succ μ ih1 =>
      intro g x hμ hx8 hg
      refine tt_ar rfl ?_
      refine tt_ar rfl ?_
      refine tt_icge (fun h1_2 => ?_) (fun h1_2 => ?_)
      · refine tt_ar rfl ?_
        refine tt_zret (by omega) ?_
        have e8 : x = 8 := by omega
        subst e8
        rcases hg with ⟨z1, z2⟩ | ⟨z1, z2⟩
        · subst z1
          exact ⟨rfl, Or.inl ⟨z2, rfl⟩⟩
        · subst z1
          exact ⟨rfl, Or.inr ⟨z2, rfl⟩⟩
      · have hw7 := hDA.2.2.1 (0 * 8 + x) (by omega)
        have hlh := hLA.2.2.2 (m * 8 + x) (by omega)
        refine tt_ar rfl ?_
        refine tt_ar rfl ?_
        refine tt_getR (wo_76 hW) rfl (wr_76_13 hW) ?_
        refine tt_ar rfl ?_
        refine tt_ar rfl ?_
        have hhb := hHB.2.2.2.1 (h * 8 + x) (by omega)
        refine tt_cv4 4 rfl (wo_76 hW) (c215_84 A σ k nm ns D hA hW hR h x (by omega) (by omega)) (kp ?_)
        refine tt_ar rfl ?_
        refine tt_ifgeF (by decide) ?_
        refine tt_ar rfl ?_
        refine tt_goto ?_
        refine tt_isub (by omega) (by omega) ?_
        refine tt_ar rfl ?_
        refine tt_ifgeF (by decide) ?_
        refine tt_ar rfl ?_
        refine tt_goto ?_
        refine tt_iadd (by omega) (by omega) ?_
        refine tt_ar rfl ?_
        refine tt_ar rfl ?_
        refine tt_ar rfl ?_
        refine tt_getR (wo_76 hW) rfl (wr_76_14 hW) ?_
        refine tt_ar rfl ?_
        refine tt_ar rfl ?_
        have hhb := hHB.2.2.2.1 (h * 8 + x) (by omega)
        refine tt_cv4 4 rfl (wo_76 hW) (c215_85 A σ k nm ns D hA hW hR h x (by omega) (by omega)) (kp ?_)
        refine tt_ar rfl ?_
        refine tt_ifgeF (by decide) ?_
        refine tt_ar rfl ?_
        refine tt_goto ?_
        refine tt_iadd (by omega) (by omega) ?_
        refine tt_ar rfl ?_
        refine tt_ar rfl ?_
        refine tt_ifeq (fun h7_3 => ?_) (fun h7_3 => ?_)
        · refine tt_ar rfl ?_
          refine tt_nop ?_
          refine tt_ar rfl ?_
          refine tt_iinc (y := ((x + 1 : Nat) : Int)) rfl (iinc_fit (by omega) (by omega) (by omega)) ?_
          refine tt_goto ?_
          refine tt_loc [(0, vR 76), (1, vI (((m : Nat) : Int))), (2, vI (((h : Nat) : Int))), (3, vI (-9)), (4, vI (-9)), (5, vI (0)), (6, vI (((x + 1 : Nat) : Int)))] rfl rfl ⟨rfl, rfl, rfl, rfl, rfl, rfl, rfl, trivial⟩ ?_
          exact ih1 (0) (x + 1) (by omega) (by omega) (by rcases hg with ⟨z1, z2⟩ | ⟨z1, z2⟩ <;> first | (exfalso; omega) | exact Or.inr ⟨rfl, z2⟩ | exact Or.inl ⟨rfl, fun y hy => by by_cases e : y = x; (subst e; exact hok); exact z2 y (by omega)⟩ | exact Or.inr ⟨rfl, fun q => hnok (q x (by omega))⟩)
        · refine tt_ar rfl ?_
          refine tt_ar rfl ?_
          refine tt_ar rfl ?_
          refine tt_ar rfl ?_
          refine tt_ar rfl ?_
          refine tt_ar rfl ?_
          refine tt_ar rfl ?_
          refine tt_cv3 3 rfl (wo_76 hW) (c210 A σ k nm ns D hA hW hR m 0 (by omega) (by omega)) (kp ?_)
          refine tt_ar rfl ?_
          refine tt_cv3 3 rfl (wo_76 hW) (c217 A σ k nm ns D hA hW hR _ _) (kb (fun h7_13 => ?_) (fun h7_13 => ?_))
          · refine tt_ifeqF (by decide) ?_
            refine tt_ar rfl ?_
            refine tt_goto ?_
            refine tt_ar rfl ?_
            refine tt_cv5 5 rfl (wo_76 hW) (c221 A σ k nm ns D hA hW hR m x _ _ (by omega) (by omega)) (kb (fun h9_1 => ?_) (fun h9_1 => ?_))
            · have z7 : (0 : Int) * A.1 7 (0 * 8 + x) = 0 := by omega
              have z8 : (0 : Int) * A.1 8 (0 * 8 + x) = 0 := by omega
              have hok : (A.1 30 (m * 8 + x) - A.1 29 m ≤ A.1 26 (h * 8 + x) + (0) * A.1 8 (0 * 8 + x) ∧ (A.1 30 (m * 8 + x) + A.1 29 m < A.1 25 (h * 8 + x) + (0) * A.1 7 (0 * 8 + x) → isIn (A.1 5 4) (A.1 28 m) ((x : Nat) : Int))) := ⟨by omega, fun q => h7_13⟩
              refine tt_ifeqF (by decide) ?_
              refine tt_ar rfl ?_
              refine tt_goto ?_
              refine tt_ar rfl ?_
              refine tt_iinc (y := ((x + 1 : Nat) : Int)) rfl (iinc_fit (by omega) (by omega) (by omega)) ?_
              refine tt_goto ?_
              refine tt_loc [(0, vR 76), (1, vI (((m : Nat) : Int))), (2, vI (((h : Nat) : Int))), (3, vI (-9)), (4, vI (-9)), (5, vI (1)), (6, vI (((x + 1 : Nat) : Int)))] rfl rfl ⟨rfl, rfl, rfl, rfl, rfl, rfl, rfl, trivial⟩ ?_
              exact ih1 (1) (x + 1) (by omega) (by omega) (by rcases hg with ⟨z1, z2⟩ | ⟨z1, z2⟩ <;> first | (exfalso; omega) | exact Or.inr ⟨rfl, z2⟩ | exact Or.inl ⟨rfl, fun y hy => by by_cases e : y = x; (subst e; exact hok); exact z2 y (by omega)⟩ | exact Or.inr ⟨rfl, fun q => hnok (q x (by omega))⟩)
            · have z7 : (0 : Int) * A.1 7 (0 * 8 + x) = 0 := by omega
              have z8 : (0 : Int) * A.1 8 (0 * 8 + x) = 0 := by omega
              have hnok : ¬ (A.1 30 (m * 8 + x) - A.1 29 m ≤ A.1 26 (h * 8 + x) + (0) * A.1 8 (0 * 8 + x) ∧ (A.1 30 (m * 8 + x) + A.1 29 m < A.1 25 (h * 8 + x) + (0) * A.1 7 (0 * 8 + x) → isIn (A.1 5 4) (A.1 28 m) ((x : Nat) : Int))) := fun q => h9_1 ⟨by have := q.1; omega, by omega⟩
              refine tt_ifeqT (by decide) ?_
              refine tt_ar rfl ?_
              refine tt_nop ?_
              refine tt_ar rfl ?_
              refine tt_iinc (y := ((x + 1 : Nat) : Int)) rfl (iinc_fit (by omega) (by omega) (by omega)) ?_
              refine tt_goto ?_
              refine tt_loc [(0, vR 76), (1, vI (((m : Nat) : Int))), (2, vI (((h : Nat) : Int))), (3, vI (-9)), (4, vI (-9)), (5, vI (0)), (6, vI (((x + 1 : Nat) : Int)))] rfl rfl ⟨rfl, rfl, rfl, rfl, rfl, rfl, rfl, trivial⟩ ?_
              exact ih1 (0) (x + 1) (by omega) (by omega) (by rcases hg with ⟨z1, z2⟩ | ⟨z1, z2⟩ <;> first | (exfalso; omega) | exact Or.inr ⟨rfl, z2⟩ | exact Or.inl ⟨rfl, fun y hy => by by_cases e : y = x; (subst e; exact hok); exact z2 y (by omega)⟩ | exact Or.inr ⟨rfl, fun q => hnok (q x (by omega))⟩)
          · refine tt_ifeqT (by decide) ?_
            refine tt_ar rfl ?_
            refine tt_nop ?_
            refine tt_ar rfl ?_
            refine tt_cv5 5 rfl (wo_76 hW) (c221 A σ k nm ns D hA hW hR m x _ _ (by omega) (by omega)) (kb (fun h9_1 => ?_) (fun h9_1 => ?_))
            · have z7 : (0 : Int) * A.1 7 (0 * 8 + x) = 0 := by omega
              have z8 : (0 : Int) * A.1 8 (0 * 8 + x) = 0 := by omega
              have hok : (A.1 30 (m * 8 + x) - A.1 29 m ≤ A.1 26 (h * 8 + x) + (0) * A.1 8 (0 * 8 + x) ∧ (A.1 30 (m * 8 + x) + A.1 29 m < A.1 25 (h * 8 + x) + (0) * A.1 7 (0 * 8 + x) → isIn (A.1 5 4) (A.1 28 m) ((x : Nat) : Int))) := ⟨by omega, fun q => absurd q (by omega)⟩
              refine tt_ifeqF (by decide) ?_
              refine tt_ar rfl ?_
              refine tt_goto ?_
              refine tt_ar rfl ?_
              refine tt_iinc (y := ((x + 1 : Nat) : Int)) rfl (iinc_fit (by omega) (by omega) (by omega)) ?_
              refine tt_goto ?_
              refine tt_loc [(0, vR 76), (1, vI (((m : Nat) : Int))), (2, vI (((h : Nat) : Int))), (3, vI (-9)), (4, vI (-9)), (5, vI (1)), (6, vI (((x + 1 : Nat) : Int)))] rfl rfl ⟨rfl, rfl, rfl, rfl, rfl, rfl, rfl, trivial⟩ ?_
              exact ih1 (1) (x + 1) (by omega) (by omega) (by rcases hg with ⟨z1, z2⟩ | ⟨z1, z2⟩ <;> first | (exfalso; omega) | exact Or.inr ⟨rfl, z2⟩ | exact Or.inl ⟨rfl, fun y hy => by by_cases e : y = x; (subst e; exact hok); exact z2 y (by omega)⟩ | exact Or.inr ⟨rfl, fun q => hnok (q x (by omega))⟩)
            · have z7 : (0 : Int) * A.1 7 (0 * 8 + x) = 0 := by omega
              have z8 : (0 : Int) * A.1 8 (0 * 8 + x) = 0 := by omega
              have hnok : ¬ (A.1 30 (m * 8 + x) - A.1 29 m ≤ A.1 26 (h * 8 + x) + (0) * A.1 8 (0 * 8 + x) ∧ (A.1 30 (m * 8 + x) + A.1 29 m < A.1 25 (h * 8 + x) + (0) * A.1 7 (0 * 8 + x) → isIn (A.1 5 4) (A.1 28 m) ((x : Nat) : Int))) := fun q => h9_1 ⟨by have := q.1; omega, by have := q.2; by_cases e : A.1 30 (m * 8 + x) + A.1 29 m < A.1 25 (h * 8 + x) + (0) * A.1 7 (0 * 8 + x); (exact absurd (this e) h7_13); omega⟩
              refine tt_ifeqT (by decide) ?_
              refine tt_ar rfl ?_
              refine tt_nop ?_
              refine tt_ar rfl ?_
              refine tt_iinc (y := ((x + 1 : Nat) : Int)) rfl (iinc_fit (by omega) (by omega) (by omega)) ?_
              refine tt_goto ?_
              refine tt_loc [(0, vR 76), (1, vI (((m : Nat) : Int))), (2, vI (((h : Nat) : Int))), (3, vI (-9)), (4, vI (-9)), (5, vI (0)), (6, vI (((x + 1 : Nat) : Int)))] rfl rfl ⟨rfl, rfl, rfl, rfl, rfl, rfl, rfl, trivial⟩ ?_
              exact ih1 (0) (x + 1) (by omega) (by omega) (by rcases hg with ⟨z1, z2⟩ | ⟨z1, z2⟩ <;> first | (exfalso; omega) | exact Or.inr ⟨rfl, z2⟩ | exact Or.inl ⟨rfl, fun y hy => by by_cases e : y = x; (subst e; exact hok); exact z2 y (by omega)⟩ | exact Or.inr ⟨rfl, fun q => hnok (q x (by omega))⟩)
  refine tt_loc [(0, vR 76), (1, vI (((m : Nat) : Int))), (2, vI (((h : Nat) : Int))), (3, vI (-9)), (4, vI (-9)), (5, vI (1)), (6, vI (((0 : Nat) : Int)))] rfl rfl ⟨rfl, rfl, rfl, rfl, rfl, rfl, lv_to rfl (by omega), trivial⟩ ?_
  exact lp1_1 _ (1) (0) (Nat.lt_succ_self _) (by omega) (Or.inl ⟨rfl, fun y hy => absurd hy (Nat.not_lt_zero y)⟩)

theorem c220_i (A σ : am_S) (k nm ns : Nat) (D : Nat → Nat → Int) (hA : CI k nm ns D A) (hW : Wd σ) (hR : RRb k nm ns D A σ) (m h : Nat) (s : Nat) (hs : s < k) (hm : m < nm) (hh : h < nkT k) : CC 220 [vR 76, vI (((m : Nat) : Int)), vI (((h : Nat) : Int)), vI (((s : Nat) : Int)), vI (-9)] σ (fun r σ' => σ' = σ ∧ ((cAg A m h (-1) 0 s) ∧ r = some (vI 1) ∨ ¬(cAg A m h (-1) 0 s) ∧ r = some (vI 0))) := by
  show TT am_b220 (am_b220.getD 0 []) [(0, vR 76), (1, vI (((m : Nat) : Int))), (2, vI (((h : Nat) : Int))), (3, vI (((s : Nat) : Int))), (4, vI (-9))] [] σ _
  have hk5 := hR.aa.1
  have hl27 := hR.aa.2.1
  have hs47 := hR.aa.2.2
  have hk6 := hA.x.1.2.1
  have hm12 := hA.x.2.2.1.2.1
  have hs16 := hA.st.2
  have hDA := hA.x.1
  have hHT := hA.x.2.1
  have hLA := hA.x.2.2.1
  have hHB := HB_of hDA hHT
  have hnb := nkT_bd k
  have hlb9 := hLA.2.2.1 m (by omega)
  refine tt_ar rfl ?_
  refine tt_ar rfl ?_
  refine tt_ar rfl ?_
  refine tt_ar rfl ?_
  refine tt_nop ?_
  have lp1_1 : ∀ (μ : Nat) (g : Int) (x : Nat), 8 - x < μ → (x ≤ 8) → ((g = 1 ∧ ∀ y, y < x → (A.1 30 (m * 8 + y) - A.1 29 m ≤ A.1 26 (h * 8 + y) + (0) * A.1 8 (s * 8 + y) ∧ (A.1 30 (m * 8 + y) + A.1 29 m < A.1 25 (h * 8 + y) + (-1) * A.1 7 (s * 8 + y) → isIn (A.1 5 4) (A.1 28 m) ((y : Nat) : Int)))) ∨ (g = 0 ∧ ¬ cAg A m h (-1) 0 s)) → TT am_b220 (am_b220.getD 1 []) [(0, vR 76), (1, vI (((m : Nat) : Int))), (2, vI (((h : Nat) : Int))), (3, vI (((s : Nat) : Int))), (4, vI (-9)), (5, vI (g)), (6, vI (((x : Nat) : Int)))] [] σ (fun r σ' => σ' = σ ∧ ((cAg A m h (-1) 0 s) ∧ r = some (vI 1) ∨ ¬(cAg A m h (-1) 0 s) ∧ r = some (vI 0))) := by
    intro μ
    induction μ with
    | zero => intro g x hμ; exact absurd hμ (Nat.not_lt_zero _)
    | succ μ ih1 =>
      intro g x hμ hx8 hg
      refine tt_ar rfl ?_
      refine tt_ar rfl ?_
      refine tt_icge (fun h1_2 => ?_) (fun h1_2 => ?_)
      · refine tt_ar rfl ?_
        refine tt_zret (by omega) ?_
        have e8 : x = 8 := by omega
        subst e8
        rcases hg with ⟨z1, z2⟩ | ⟨z1, z2⟩
        · subst z1
          exact ⟨rfl, Or.inl ⟨z2, rfl⟩⟩
        · subst z1
          exact ⟨rfl, Or.inr ⟨z2, rfl⟩⟩
      · have hw7 := hDA.2.2.1 (s * 8 + x) (by omega)
        have hlh := hLA.2.2.2 (m * 8 + x) (by omega)
        refine tt_ar rfl ?_
        refine tt_ar rfl ?_
        refine tt_getR (wo_76 hW) rfl (wr_76_13 hW) ?_
        refine tt_ar rfl ?_
        refine tt_ar rfl ?_
        have hhb := hHB.2.2.2.1 (h * 8 + x) (by omega)
        refine tt_cv4 4 rfl (wo_76 hW) (c215_84 A σ k nm ns D hA hW hR h x (by omega) (by omega)) (kp ?_)
        refine tt_ar rfl ?_
        refine tt_ifgeT (by omega) ?_
        refine tt_ar rfl ?_
        refine tt_getR (wo_76 hW) rfl (wr_76_13 hW) ?_
        refine tt_ar rfl ?_
        refine tt_ar rfl ?_
        refine tt_imul (by omega) (by omega) ?_
        refine tt_ar rfl ?_
        refine tt_iadd (by omega) (by omega) ?_
        refine tt_iald (((8 * s) + x)) (x := A.1 7 (s * 8 + x)) (wa_84 hW) (by omega) (by omega) ((hR.wl.2.2.2.1 (8 * s + x) (by omega)).1.trans (by rw [Nat.mul_comm])) ?_
        refine tt_nop ?_
        refine tt_isub (by omega) (by omega) ?_
        refine tt_ar rfl ?_
        refine tt_ifgeF (by decide) ?_
        refine tt_ar rfl ?_
        refine tt_goto ?_
        refine tt_iadd (by omega) (by omega) ?_
        refine tt_ar rfl ?_
        refine tt_ar rfl ?_
        refine tt_ar rfl ?_
        refine tt_getR (wo_76 hW) rfl (wr_76_14 hW) ?_
        refine tt_ar rfl ?_
        refine tt_ar rfl ?_
        have hhb := hHB.2.2.2.1 (h * 8 + x) (by omega)
        refine tt_cv4 4 rfl (wo_76 hW) (c215_85 A σ k nm ns D hA hW hR h x (by omega) (by omega)) (kp ?_)
        refine tt_ar rfl ?_
        refine tt_ifgeF (by decide) ?_
        refine tt_ar rfl ?_
        refine tt_goto ?_
        refine tt_iadd (by omega) (by omega) ?_
        refine tt_ar rfl ?_
        refine tt_ar rfl ?_
        refine tt_ifeq (fun h7_3 => ?_) (fun h7_3 => ?_)
        · refine tt_ar rfl ?_
          refine tt_nop ?_
          refine tt_ar rfl ?_
          refine tt_iinc (y := ((x + 1 : Nat) : Int)) rfl (iinc_fit (by omega) (by omega) (by omega)) ?_
          refine tt_goto ?_
          refine tt_loc [(0, vR 76), (1, vI (((m : Nat) : Int))), (2, vI (((h : Nat) : Int))), (3, vI (((s : Nat) : Int))), (4, vI (-9)), (5, vI (0)), (6, vI (((x + 1 : Nat) : Int)))] rfl rfl ⟨rfl, rfl, rfl, rfl, rfl, rfl, rfl, trivial⟩ ?_
          exact ih1 (0) (x + 1) (by omega) (by omega) (by rcases hg with ⟨z1, z2⟩ | ⟨z1, z2⟩ <;> first | (exfalso; omega) | exact Or.inr ⟨rfl, z2⟩ | exact Or.inl ⟨rfl, fun y hy => by by_cases e : y = x; (subst e; exact hok); exact z2 y (by omega)⟩ | exact Or.inr ⟨rfl, fun q => hnok (q x (by omega))⟩)
        · refine tt_ar rfl ?_
          refine tt_ar rfl ?_
          refine tt_ar rfl ?_
          refine tt_ar rfl ?_
          refine tt_ar rfl ?_
          refine tt_ar rfl ?_
          refine tt_ar rfl ?_
          refine tt_cv3 3 rfl (wo_76 hW) (c210 A σ k nm ns D hA hW hR m 0 (by omega) (by omega)) (kp ?_)
          refine tt_ar rfl ?_
          refine tt_cv3 3 rfl (wo_76 hW) (c217 A σ k nm ns D hA hW hR _ _) (kb (fun h7_13 => ?_) (fun h7_13 => ?_))
          · refine tt_ifeqF (by decide) ?_
            refine tt_ar rfl ?_
            refine tt_goto ?_
            refine tt_ar rfl ?_
            refine tt_cv5 5 rfl (wo_76 hW) (c221 A σ k nm ns D hA hW hR m x _ _ (by omega) (by omega)) (kb (fun h9_1 => ?_) (fun h9_1 => ?_))
            · have z7 : (-1 : Int) * A.1 7 (s * 8 + x) = - A.1 7 (s * 8 + x) := by omega
              have z8 : (0 : Int) * A.1 8 (s * 8 + x) = 0 := by omega
              have hok : (A.1 30 (m * 8 + x) - A.1 29 m ≤ A.1 26 (h * 8 + x) + (0) * A.1 8 (s * 8 + x) ∧ (A.1 30 (m * 8 + x) + A.1 29 m < A.1 25 (h * 8 + x) + (-1) * A.1 7 (s * 8 + x) → isIn (A.1 5 4) (A.1 28 m) ((x : Nat) : Int))) := ⟨by omega, fun q => h7_13⟩
              refine tt_ifeqF (by decide) ?_
              refine tt_ar rfl ?_
              refine tt_goto ?_
              refine tt_ar rfl ?_
              refine tt_iinc (y := ((x + 1 : Nat) : Int)) rfl (iinc_fit (by omega) (by omega) (by omega)) ?_
              refine tt_goto ?_
              refine tt_loc [(0, vR 76), (1, vI (((m : Nat) : Int))), (2, vI (((h : Nat) : Int))), (3, vI (((s : Nat) : Int))), (4, vI (-9)), (5, vI (1)), (6, vI (((x + 1 : Nat) : Int)))] rfl rfl ⟨rfl, rfl, rfl, rfl, rfl, rfl, rfl, trivial⟩ ?_
              exact ih1 (1) (x + 1) (by omega) (by omega) (by rcases hg with ⟨z1, z2⟩ | ⟨z1, z2⟩ <;> first | (exfalso; omega) | exact Or.inr ⟨rfl, z2⟩ | exact Or.inl ⟨rfl, fun y hy => by by_cases e : y = x; (subst e; exact hok); exact z2 y (by omega)⟩ | exact Or.inr ⟨rfl, fun q => hnok (q x (by omega))⟩)
            · have z7 : (-1 : Int) * A.1 7 (s * 8 + x) = - A.1 7 (s * 8 + x) := by omega
              have z8 : (0 : Int) * A.1 8 (s * 8 + x) = 0 := by omega
              have hnok : ¬ (A.1 30 (m * 8 + x) - A.1 29 m ≤ A.1 26 (h * 8 + x) + (0) * A.1 8 (s * 8 + x) ∧ (A.1 30 (m * 8 + x) + A.1 29 m < A.1 25 (h * 8 + x) + (-1) * A.1 7 (s * 8 + x) → isIn (A.1 5 4) (A.1 28 m) ((x : Nat) : Int))) := fun q => h9_1 ⟨by have := q.1; omega, by omega⟩
              refine tt_ifeqT (by decide) ?_
              refine tt_ar rfl ?_
              refine tt_nop ?_
              refine tt_ar rfl ?_
              refine tt_iinc (y := ((x + 1 : Nat) : Int)) rfl (iinc_fit (by omega) (by omega) (by omega)) ?_
              refine tt_goto ?_
              refine tt_loc [(0, vR 76), (1, vI (((m : Nat) : Int))), (2, vI (((h : Nat) : Int))), (3, vI (((s : Nat) : Int))), (4, vI (-9)), (5, vI (0)), (6, vI (((x + 1 : Nat) : Int)))] rfl rfl ⟨rfl, rfl, rfl, rfl, rfl, rfl, rfl, trivial⟩ ?_
              exact ih1 (0) (x + 1) (by omega) (by omega) (by rcases hg with ⟨z1, z2⟩ | ⟨z1, z2⟩ <;> first | (exfalso; omega) | exact Or.inr ⟨rfl, z2⟩ | exact Or.inl ⟨rfl, fun y hy => by by_cases e : y = x; (subst e; exact hok); exact z2 y (by omega)⟩ | exact Or.inr ⟨rfl, fun q => hnok (q x (by omega))⟩)
          · refine tt_ifeqT (by decide) ?_
            refine tt_ar rfl ?_
            refine tt_nop ?_
            refine tt_ar rfl ?_
            refine tt_cv5 5 rfl (wo_76 hW) (c221 A σ k nm ns D hA hW hR m x _ _ (by omega) (by omega)) (kb (fun h9_1 => ?_) (fun h9_1 => ?_))
            · have z7 : (-1 : Int) * A.1 7 (s * 8 + x) = - A.1 7 (s * 8 + x) := by omega
              have z8 : (0 : Int) * A.1 8 (s * 8 + x) = 0 := by omega
              have hok : (A.1 30 (m * 8 + x) - A.1 29 m ≤ A.1 26 (h * 8 + x) + (0) * A.1 8 (s * 8 + x) ∧ (A.1 30 (m * 8 + x) + A.1 29 m < A.1 25 (h * 8 + x) + (-1) * A.1 7 (s * 8 + x) → isIn (A.1 5 4) (A.1 28 m) ((x : Nat) : Int))) := ⟨by omega, fun q => absurd q (by omega)⟩
              refine tt_ifeqF (by decide) ?_
              refine tt_ar rfl ?_
              refine tt_goto ?_
              refine tt_ar rfl ?_
              refine tt_iinc (y := ((x + 1 : Nat) : Int)) rfl (iinc_fit (by omega) (by omega) (by omega)) ?_
              refine tt_goto ?_
              refine tt_loc [(0, vR 76), (1, vI (((m : Nat) : Int))), (2, vI (((h : Nat) : Int))), (3, vI (((s : Nat) : Int))), (4, vI (-9)), (5, vI (1)), (6, vI (((x + 1 : Nat) : Int)))] rfl rfl ⟨rfl, rfl, rfl, rfl, rfl, rfl, rfl, trivial⟩ ?_
              exact ih1 (1) (x + 1) (by omega) (by omega) (by rcases hg with ⟨z1, z2⟩ | ⟨z1, z2⟩ <;> first | (exfalso; omega) | exact Or.inr ⟨rfl, z2⟩ | exact Or.inl ⟨rfl, fun y hy => by by_cases e : y = x; (subst e; exact hok); exact z2 y (by omega)⟩ | exact Or.inr ⟨rfl, fun q => hnok (q x (by omega))⟩)
            · have z7 : (-1 : Int) * A.1 7 (s * 8 + x) = - A.1 7 (s * 8 + x) := by omega
              have z8 : (0 : Int) * A.1 8 (s * 8 + x) = 0 := by omega
              have hnok : ¬ (A.1 30 (m * 8 + x) - A.1 29 m ≤ A.1 26 (h * 8 + x) + (0) * A.1 8 (s * 8 + x) ∧ (A.1 30 (m * 8 + x) + A.1 29 m < A.1 25 (h * 8 + x) + (-1) * A.1 7 (s * 8 + x) → isIn (A.1 5 4) (A.1 28 m) ((x : Nat) : Int))) := fun q => h9_1 ⟨by have := q.1; omega, by have := q.2; by_cases e : A.1 30 (m * 8 + x) + A.1 29 m < A.1 25 (h * 8 + x) + (-1) * A.1 7 (s * 8 + x); (exact absurd (this e) h7_13); omega⟩
              refine tt_ifeqT (by decide) ?_
              refine tt_ar rfl ?_
              refine tt_nop ?_
              refine tt_ar rfl ?_
              refine tt_iinc (y := ((x + 1 : Nat) : Int)) rfl (iinc_fit (by omega) (by omega) (by omega)) ?_
              refine tt_goto ?_
              refine tt_loc [(0, vR 76), (1, vI (((m : Nat) : Int))), (2, vI (((h : Nat) : Int))), (3, vI (((s : Nat) : Int))), (4, vI (-9)), (5, vI (0)), (6, vI (((x + 1 : Nat) : Int)))] rfl rfl ⟨rfl, rfl, rfl, rfl, rfl, rfl, rfl, trivial⟩ ?_
              exact ih1 (0) (x + 1) (by omega) (by omega) (by rcases hg with ⟨z1, z2⟩ | ⟨z1, z2⟩ <;> first | (exfalso; omega) | exact Or.inr ⟨rfl, z2⟩ | exact Or.inl ⟨rfl, fun y hy => by by_cases e : y = x; (subst e; exact hok); exact z2 y (by omega)⟩ | exact Or.inr ⟨rfl, fun q => hnok (q x (by omega))⟩)
  refine tt_loc [(0, vR 76), (1, vI (((m : Nat) : Int))), (2, vI (((h : Nat) : Int))), (3, vI (((s : Nat) : Int))), (4, vI (-9)), (5, vI (1)), (6, vI (((0 : Nat) : Int)))] rfl rfl ⟨rfl, rfl, rfl, rfl, rfl, rfl, lv_to rfl (by omega), trivial⟩ ?_
  exact lp1_1 _ (1) (0) (Nat.lt_succ_self _) (by omega) (Or.inl ⟨rfl, fun y hy => absurd hy (Nat.not_lt_zero y)⟩)

theorem c220_g (A σ : am_S) (k nm ns : Nat) (D : Nat → Nat → Int) (hA : CI k nm ns D A) (hW : Wd σ) (hR : RRb k nm ns D A σ) (m h : Nat) (s : Nat) (hs : s < k) (hm : m < nm) (hh : h < nkT k) : CC 220 [vR 76, vI (((m : Nat) : Int)), vI (((h : Nat) : Int)), vI (-9), vI (((s : Nat) : Int))] σ (fun r σ' => σ' = σ ∧ ((cAg A m h 1 1 s) ∧ r = some (vI 1) ∨ ¬(cAg A m h 1 1 s) ∧ r = some (vI 0))) := by
  show TT am_b220 (am_b220.getD 0 []) [(0, vR 76), (1, vI (((m : Nat) : Int))), (2, vI (((h : Nat) : Int))), (3, vI (-9)), (4, vI (((s : Nat) : Int)))] [] σ _
  have hk5 := hR.aa.1
  have hl27 := hR.aa.2.1
  have hs47 := hR.aa.2.2
  have hk6 := hA.x.1.2.1
  have hm12 := hA.x.2.2.1.2.1
  have hs16 := hA.st.2
  have hDA := hA.x.1
  have hHT := hA.x.2.1
  have hLA := hA.x.2.2.1
  have hHB := HB_of hDA hHT
  have hnb := nkT_bd k
  have hlb9 := hLA.2.2.1 m (by omega)
  refine tt_ar rfl ?_
  refine tt_ar rfl ?_
  refine tt_ar rfl ?_
  refine tt_ar rfl ?_
  refine tt_nop ?_
  have lp1_1 : ∀ (μ : Nat) (g : Int) (x : Nat), 8 - x < μ → (x ≤ 8) → ((g = 1 ∧ ∀ y, y < x → (A.1 30 (m * 8 + y) - A.1 29 m ≤ A.1 26 (h * 8 + y) + (1) * A.1 8 (s * 8 + y) ∧ (A.1 30 (m * 8 + y) + A.1 29 m < A.1 25 (h * 8 + y) + (1) * A.1 7 (s * 8 + y) → isIn (A.1 5 4) (A.1 28 m) ((y : Nat) : Int)))) ∨ (g = 0 ∧ ¬ cAg A m h 1 1 s)) → TT am_b220 (am_b220.getD 1 []) [(0, vR 76), (1, vI (((m : Nat) : Int))), (2, vI (((h : Nat) : Int))), (3, vI (-9)), (4, vI (((s : Nat) : Int))), (5, vI (g)), (6, vI (((x : Nat) : Int)))] [] σ (fun r σ' => σ' = σ ∧ ((cAg A m h 1 1 s) ∧ r = some (vI 1) ∨ ¬(cAg A m h 1 1 s) ∧ r = some (vI 0))) := by
    intro μ
    induction μ with
    | zero => intro g x hμ; exact absurd hμ (Nat.not_lt_zero _)
    | succ μ ih1 =>
      intro g x hμ hx8 hg
      refine tt_ar rfl ?_
      refine tt_ar rfl ?_
      refine tt_icge (fun h1_2 => ?_) (fun h1_2 => ?_)
      · refine tt_ar rfl ?_
        refine tt_zret (by omega) ?_
        have e8 : x = 8 := by omega
        subst e8
        rcases hg with ⟨z1, z2⟩ | ⟨z1, z2⟩
        · subst z1
          exact ⟨rfl, Or.inl ⟨z2, rfl⟩⟩
        · subst z1
          exact ⟨rfl, Or.inr ⟨z2, rfl⟩⟩
      · have hw7 := hDA.2.2.1 (s * 8 + x) (by omega)
        have hlh := hLA.2.2.2 (m * 8 + x) (by omega)
        refine tt_ar rfl ?_
        refine tt_ar rfl ?_
        refine tt_getR (wo_76 hW) rfl (wr_76_13 hW) ?_
        refine tt_ar rfl ?_
        refine tt_ar rfl ?_
        have hhb := hHB.2.2.2.1 (h * 8 + x) (by omega)
        refine tt_cv4 4 rfl (wo_76 hW) (c215_84 A σ k nm ns D hA hW hR h x (by omega) (by omega)) (kp ?_)
        refine tt_ar rfl ?_
        refine tt_ifgeF (by decide) ?_
        refine tt_ar rfl ?_
        refine tt_goto ?_
        refine tt_isub (by omega) (by omega) ?_
        refine tt_ar rfl ?_
        refine tt_ifgeT (by omega) ?_
        refine tt_ar rfl ?_
        refine tt_getR (wo_76 hW) rfl (wr_76_13 hW) ?_
        refine tt_ar rfl ?_
        refine tt_ar rfl ?_
        refine tt_imul (by omega) (by omega) ?_
        refine tt_ar rfl ?_
        refine tt_iadd (by omega) (by omega) ?_
        refine tt_iald (((8 * s) + x)) (x := A.1 7 (s * 8 + x)) (wa_84 hW) (by omega) (by omega) ((hR.wl.2.2.2.1 (8 * s + x) (by omega)).1.trans (by rw [Nat.mul_comm])) ?_
        refine tt_nop ?_
        refine tt_iadd (by omega) (by omega) ?_
        refine tt_ar rfl ?_
        refine tt_ar rfl ?_
        refine tt_ar rfl ?_
        refine tt_getR (wo_76 hW) rfl (wr_76_14 hW) ?_
        refine tt_ar rfl ?_
        refine tt_ar rfl ?_
        have hhb := hHB.2.2.2.1 (h * 8 + x) (by omega)
        refine tt_cv4 4 rfl (wo_76 hW) (c215_85 A σ k nm ns D hA hW hR h x (by omega) (by omega)) (kp ?_)
        refine tt_ar rfl ?_
        refine tt_ifgeT (by omega) ?_
        refine tt_ar rfl ?_
        refine tt_getR (wo_76 hW) rfl (wr_76_14 hW) ?_
        refine tt_ar rfl ?_
        refine tt_ar rfl ?_
        refine tt_imul (by omega) (by omega) ?_
        refine tt_ar rfl ?_
        refine tt_iadd (by omega) (by omega) ?_
        refine tt_iald (((8 * s) + x)) (x := A.1 8 (s * 8 + x)) (wa_85 hW) (by omega) (by omega) ((hR.wl.2.2.2.1 (8 * s + x) (by omega)).2.trans (by rw [Nat.mul_comm])) ?_
        refine tt_nop ?_
        refine tt_iadd (by omega) (by omega) ?_
        refine tt_ar rfl ?_
        refine tt_ar rfl ?_
        refine tt_ifeq (fun h7_3 => ?_) (fun h7_3 => ?_)
        · refine tt_ar rfl ?_
          refine tt_nop ?_
          refine tt_ar rfl ?_
          refine tt_iinc (y := ((x + 1 : Nat) : Int)) rfl (iinc_fit (by omega) (by omega) (by omega)) ?_
          refine tt_goto ?_
          refine tt_loc [(0, vR 76), (1, vI (((m : Nat) : Int))), (2, vI (((h : Nat) : Int))), (3, vI (-9)), (4, vI (((s : Nat) : Int))), (5, vI (0)), (6, vI (((x + 1 : Nat) : Int)))] rfl rfl ⟨rfl, rfl, rfl, rfl, rfl, rfl, rfl, trivial⟩ ?_
          exact ih1 (0) (x + 1) (by omega) (by omega) (by rcases hg with ⟨z1, z2⟩ | ⟨z1, z2⟩ <;> first | (exfalso; omega) | exact Or.inr ⟨rfl, z2⟩ | exact Or.inl ⟨rfl, fun y hy => by by_cases e : y = x; (subst e; exact hok); exact z2 y (by omega)⟩ | exact Or.inr ⟨rfl, fun q => hnok (q x (by omega))⟩)
        · refine tt_ar rfl ?_
          refine tt_ar rfl ?_
          refine tt_ar rfl ?_
          refine tt_ar rfl ?_
          refine tt_ar rfl ?_
          refine tt_ar rfl ?_
          refine tt_ar rfl ?_
          refine tt_cv3 3 rfl (wo_76 hW) (c210 A σ k nm ns D hA hW hR m 0 (by omega) (by omega)) (kp ?_)
          refine tt_ar rfl ?_
          refine tt_cv3 3 rfl (wo_76 hW) (c217 A σ k nm ns D hA hW hR _ _) (kb (fun h7_13 => ?_) (fun h7_13 => ?_))
          · refine tt_ifeqF (by decide) ?_
            refine tt_ar rfl ?_
            refine tt_goto ?_
            refine tt_ar rfl ?_
            refine tt_cv5 5 rfl (wo_76 hW) (c221 A σ k nm ns D hA hW hR m x _ _ (by omega) (by omega)) (kb (fun h9_1 => ?_) (fun h9_1 => ?_))
            · have z7 : (1 : Int) * A.1 7 (s * 8 + x) = A.1 7 (s * 8 + x) := by omega
              have z8 : (1 : Int) * A.1 8 (s * 8 + x) = A.1 8 (s * 8 + x) := by omega
              have hok : (A.1 30 (m * 8 + x) - A.1 29 m ≤ A.1 26 (h * 8 + x) + (1) * A.1 8 (s * 8 + x) ∧ (A.1 30 (m * 8 + x) + A.1 29 m < A.1 25 (h * 8 + x) + (1) * A.1 7 (s * 8 + x) → isIn (A.1 5 4) (A.1 28 m) ((x : Nat) : Int))) := ⟨by omega, fun q => h7_13⟩
              refine tt_ifeqF (by decide) ?_
              refine tt_ar rfl ?_
              refine tt_goto ?_
              refine tt_ar rfl ?_
              refine tt_iinc (y := ((x + 1 : Nat) : Int)) rfl (iinc_fit (by omega) (by omega) (by omega)) ?_
              refine tt_goto ?_
              refine tt_loc [(0, vR 76), (1, vI (((m : Nat) : Int))), (2, vI (((h : Nat) : Int))), (3, vI (-9)), (4, vI (((s : Nat) : Int))), (5, vI (1)), (6, vI (((x + 1 : Nat) : Int)))] rfl rfl ⟨rfl, rfl, rfl, rfl, rfl, rfl, rfl, trivial⟩ ?_
              exact ih1 (1) (x + 1) (by omega) (by omega) (by rcases hg with ⟨z1, z2⟩ | ⟨z1, z2⟩ <;> first | (exfalso; omega) | exact Or.inr ⟨rfl, z2⟩ | exact Or.inl ⟨rfl, fun y hy => by by_cases e : y = x; (subst e; exact hok); exact z2 y (by omega)⟩ | exact Or.inr ⟨rfl, fun q => hnok (q x (by omega))⟩)
            · have z7 : (1 : Int) * A.1 7 (s * 8 + x) = A.1 7 (s * 8 + x) := by omega
              have z8 : (1 : Int) * A.1 8 (s * 8 + x) = A.1 8 (s * 8 + x) := by omega
              have hnok : ¬ (A.1 30 (m * 8 + x) - A.1 29 m ≤ A.1 26 (h * 8 + x) + (1) * A.1 8 (s * 8 + x) ∧ (A.1 30 (m * 8 + x) + A.1 29 m < A.1 25 (h * 8 + x) + (1) * A.1 7 (s * 8 + x) → isIn (A.1 5 4) (A.1 28 m) ((x : Nat) : Int))) := fun q => h9_1 ⟨by have := q.1; omega, by omega⟩
              refine tt_ifeqT (by decide) ?_
              refine tt_ar rfl ?_
              refine tt_nop ?_
              refine tt_ar rfl ?_
              refine tt_iinc (y := ((x + 1 : Nat) : Int)) rfl (iinc_fit (by omega) (by omega) (by omega)) ?_
              refine tt_goto ?_
              refine tt_loc [(0, vR 76), (1, vI (((m : Nat) : Int))), (2, vI (((h : Nat) : Int))), (3, vI (-9)), (4, vI (((s : Nat) : Int))), (5, vI (0)), (6, vI (((x + 1 : Nat) : Int)))] rfl rfl ⟨rfl, rfl, rfl, rfl, rfl, rfl, rfl, trivial⟩ ?_
              exact ih1 (0) (x + 1) (by omega) (by omega) (by rcases hg with ⟨z1, z2⟩ | ⟨z1, z2⟩ <;> first | (exfalso; omega) | exact Or.inr ⟨rfl, z2⟩ | exact Or.inl ⟨rfl, fun y hy => by by_cases e : y = x; (subst e; exact hok); exact z2 y (by omega)⟩ | exact Or.inr ⟨rfl, fun q => hnok (q x (by omega))⟩)
          · refine tt_ifeqT (by decide) ?_
            refine tt_ar rfl ?_
            refine tt_nop ?_
            refine tt_ar rfl ?_
            refine tt_cv5 5 rfl (wo_76 hW) (c221 A σ k nm ns D hA hW hR m x _ _ (by omega) (by omega)) (kb (fun h9_1 => ?_) (fun h9_1 => ?_))
            · have z7 : (1 : Int) * A.1 7 (s * 8 + x) = A.1 7 (s * 8 + x) := by omega
              have z8 : (1 : Int) * A.1 8 (s * 8 + x) = A.1 8 (s * 8 + x) := by omega
              have hok : (A.1 30 (m * 8 + x) - A.1 29 m ≤ A.1 26 (h * 8 + x) + (1) * A.1 8 (s * 8 + x) ∧ (A.1 30 (m * 8 + x) + A.1 29 m < A.1 25 (h * 8 + x) + (1) * A.1 7 (s * 8 + x) → isIn (A.1 5 4) (A.1 28 m) ((x : Nat) : Int))) := ⟨by omega, fun q => absurd q (by omega)⟩
              refine tt_ifeqF (by decide) ?_
              refine tt_ar rfl ?_
              refine tt_goto ?_
              refine tt_ar rfl ?_
              refine tt_iinc (y := ((x + 1 : Nat) : Int)) rfl (iinc_fit (by omega) (by omega) (by omega)) ?_
              refine tt_goto ?_
              refine tt_loc [(0, vR 76), (1, vI (((m : Nat) : Int))), (2, vI (((h : Nat) : Int))), (3, vI (-9)), (4, vI (((s : Nat) : Int))), (5, vI (1)), (6, vI (((x + 1 : Nat) : Int)))] rfl rfl ⟨rfl, rfl, rfl, rfl, rfl, rfl, rfl, trivial⟩ ?_
              exact ih1 (1) (x + 1) (by omega) (by omega) (by rcases hg with ⟨z1, z2⟩ | ⟨z1, z2⟩ <;> first | (exfalso; omega) | exact Or.inr ⟨rfl, z2⟩ | exact Or.inl ⟨rfl, fun y hy => by by_cases e : y = x; (subst e; exact hok); exact z2 y (by omega)⟩ | exact Or.inr ⟨rfl, fun q => hnok (q x (by omega))⟩)
            · have z7 : (1 : Int) * A.1 7 (s * 8 + x) = A.1 7 (s * 8 + x) := by omega
              have z8 : (1 : Int) * A.1 8 (s * 8 + x) = A.1 8 (s * 8 + x) := by omega
              have hnok : ¬ (A.1 30 (m * 8 + x) - A.1 29 m ≤ A.1 26 (h * 8 + x) + (1) * A.1 8 (s * 8 + x) ∧ (A.1 30 (m * 8 + x) + A.1 29 m < A.1 25 (h * 8 + x) + (1) * A.1 7 (s * 8 + x) → isIn (A.1 5 4) (A.1 28 m) ((x : Nat) : Int))) := fun q => h9_1 ⟨by have := q.1; omega, by have := q.2; by_cases e : A.1 30 (m * 8 + x) + A.1 29 m < A.1 25 (h * 8 + x) + (1) * A.1 7 (s * 8 + x); (exact absurd (this e) h7_13); omega⟩
              refine tt_ifeqT (by decide) ?_
              refine tt_ar rfl ?_
              refine tt_nop ?_
              refine tt_ar rfl ?_
              refine tt_iinc (y := ((x + 1 : Nat) : Int)) rfl (iinc_fit (by omega) (by omega) (by omega)) ?_
              refine tt_goto ?_
              refine tt_loc [(0, vR 76), (1, vI (((m : Nat) : Int))), (2, vI (((h : Nat) : Int))), (3, vI (-9)), (4, vI (((s : Nat) : Int))), (5, vI (0)), (6, vI (((x + 1 : Nat) : Int)))] rfl rfl ⟨rfl, rfl, rfl, rfl, rfl, rfl, rfl, trivial⟩ ?_
              exact ih1 (0) (x + 1) (by omega) (by omega) (by rcases hg with ⟨z1, z2⟩ | ⟨z1, z2⟩ <;> first | (exfalso; omega) | exact Or.inr ⟨rfl, z2⟩ | exact Or.inl ⟨rfl, fun y hy => by by_cases e : y = x; (subst e; exact hok); exact z2 y (by omega)⟩ | exact Or.inr ⟨rfl, fun q => hnok (q x (by omega))⟩)
  refine tt_loc [(0, vR 76), (1, vI (((m : Nat) : Int))), (2, vI (((h : Nat) : Int))), (3, vI (-9)), (4, vI (((s : Nat) : Int))), (5, vI (1)), (6, vI (((0 : Nat) : Int)))] rfl rfl ⟨rfl, rfl, rfl, rfl, rfl, rfl, lv_to rfl (by omega), trivial⟩ ?_
  exact lp1_1 _ (1) (0) (Nat.lt_succ_self _) (by omega) (Or.inl ⟨rfl, fun y hy => absurd hy (Nat.not_lt_zero y)⟩)

