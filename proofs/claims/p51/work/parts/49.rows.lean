/-! THE CLASS'S CALLS: ROWS, TEXTS -/
def PKc (k nm ns : Nat) (D : Nat → Nat → Int) (σ : am_S) (c : am_V × am_S) (r : Option am_V) (σ' : am_S) : Prop := CI k nm ns D σ' ∧ r = some c.1 ∧ EqB c.2 σ' ∧ QC σ σ'
def PKw (σ : am_S) (c : am_V × am_S) (r : Option am_V) (σ' : am_S) : Prop := (∃ k nm ns D, CI k nm ns D σ') ∧ r = some c.1 ∧ EqB c.2 σ' ∧ QW σ σ'
theorem PKc.w {k nm ns : Nat} {D : Nat → Nat → Int} {σ σ' : am_S} {c : am_V × am_S} {r : Option am_V} (h : PKc k nm ns D σ c r σ') : PKw σ c r σ' := ⟨⟨k, nm, ns, D, h.1⟩, h.2.1, h.2.2.1, h.2.2.2.w⟩
section PK
variable {k nm ns f : Nat} {D : Nat → Nat → Int} {σ σ1 M : am_S} {c : am_V × am_S} {v : am_V} {x : Int}
theorem pk_any (h : CI k nm ns D σ1) (e : c = (v, M)) (hE : EqB M σ1) (hQ : QC σ σ1) : PKc k nm ns D σ c (some v) σ1 := by
  subst e
  exact ⟨h, rfl, hE, hQ⟩
theorem pkw_any {k' nm' ns' : Nat} {D' : Nat → Nat → Int} (h : CI k' nm' ns' D' σ1) (e : c = (v, M)) (hE : EqB M σ1) (hQ : QW σ σ1) : PKw σ c (some v) σ1 := by
  subst e
  exact ⟨⟨k', nm', ns', D', h⟩, rfl, hE, hQ⟩
theorem pk_same (h : CI k nm ns D σ) (e : c = (v, σ)) : PKc k nm ns D σ c (some v) σ := pk_any h e EqB.rf QC.rf
theorem EqB_upF (h : EqB σ σ1) (hf : f < 6) : EqB (upF f σ) (upF f σ1) := by
  unfold upF
  rw [h 55 f (by unfold bcP; omega)]
  exact (h.set).set
theorem pk_fF (h : CI k nm ns D σ1) (hf : f < 6) (e : c = (vI (-3), upF f σ)) (hE : EqB σ σ1) (hQ : QC σ σ1) : PKc k nm ns D σ c (some (vI (-3))) (upF f σ1) := pk_any h.upF e (EqB_upF hE hf) (hQ.tr QC.upF)
theorem pk_finds (h : CI k nm ns D σ) (hf : f < 6) (e : c = (vI (-3), upF f σ)) : PKc k nm ns D σ c (some (vI (-3))) (upF f σ) := pk_fF h hf e EqB.rf QC.rf
theorem pk_fT (h : CI k nm ns D σ1) (e : c = (v, upA x M)) (hE : EqB M σ1) (hQ : QC σ σ1) : PKc k nm ns D σ c (some v) (upA x σ1) := pk_any h.upA e hE.set (hQ.tr QC.upA)
theorem pk_tells (h : CI k nm ns D σ) (e : c = (v, upA x σ)) : PKc k nm ns D σ c (some v) (upA x σ) := pk_fT h e EqB.rf QC.rf
theorem CI.putR {r : Nat} (h : CI k nm ns D σ) (hr : r < 6) (hF : Fr [56 + 2 * r, 57 + 2 * r] σ σ1) (hn : -1 ≤ σ1.1 (56 + 2 * r) 1 ∧ σ1.1 (56 + 2 * r) 1 ≤ 40) : CI k nm ns D σ1 := by
  have m : ∀ a, a ≠ 56 + 2 * r → a ≠ 57 + 2 * r → ∀ j, σ1.1 a j = σ.1 a j := fun a h1 h2 => hF.2 a (by simp only [List.mem_cons, List.not_mem_nil, or_false, not_or]; exact ⟨h1, h2⟩)
  refine h.keep (hF.wd h.w) (by rw [hF.1]) (by rw [hF.1]) (fun a ha => m a (by unfold ciC at ha; omega) (by unfold ciC at ha; omega)) (fun q hq => ?_) (fun t ht => ?_)
  · by_cases e : q = r
    · rw [e]
      exact hn
    · rw [m _ (by omega) (by omega)]
      exact h.row q hq
  · rw [m _ (by omega) (by omega)]
    refine ⟨(h.txt t ht).1, fun j hj => ?_⟩
    rw [m _ (by omega) (by omega)]
    exact (h.txt t ht).2 j hj
theorem CI.putT {r : Nat} (h : CI k nm ns D σ) (hr : r < 4) (hF : Fr [68 + 2 * r, 69 + 2 * r] σ σ1) (hn : -1 ≤ σ1.1 (68 + 2 * r) 1 ∧ σ1.1 (68 + 2 * r) 1 ≤ 120) (hb : ∀ j, j < 120 → -128 ≤ σ1.1 (69 + 2 * r) j ∧ σ1.1 (69 + 2 * r) j ≤ 127) : CI k nm ns D σ1 := by
  have m : ∀ a, a ≠ 68 + 2 * r → a ≠ 69 + 2 * r → ∀ j, σ1.1 a j = σ.1 a j := fun a h1 h2 => hF.2 a (by simp only [List.mem_cons, List.not_mem_nil, or_false, not_or]; exact ⟨h1, h2⟩)
  refine h.keep (hF.wd h.w) (by rw [hF.1]) (by rw [hF.1]) (fun a ha => m a (by unfold ciC at ha; omega) (by unfold ciC at ha; omega)) (fun q hq => ?_) (fun t ht => ?_)
  · rw [m _ (by omega) (by omega)]
    exact h.row q hq
  · by_cases e : t = r
    · rw [e]
      exact ⟨hn, hb⟩
    · rw [m _ (by omega) (by omega)]
      refine ⟨(h.txt t ht).1, fun j hj => ?_⟩
      rw [m _ (by omega) (by omega)]
      exact (h.txt t ht).2 j hj
theorem QC.put2 {a b : Nat} (hF : Fr [a, b] σ σ1) (ha : 27 ≤ a ∧ a < 76) (hb : 27 ≤ b ∧ b < 76) : QC σ σ1 := QC.of hF (fun x hx => by
  simp only [List.mem_cons, List.not_mem_nil, or_false] at hx
  omega)
theorem w8_bd (v : Int) : -128 ≤ w8 v ∧ w8 v ≤ 127 := by
  have h1 := Int.le_bmod (x := v) (m := 256) (by omega)
  have h2 := Int.bmod_lt (x := v) (m := 256) (by omega)
  unfold w8
  omega
theorem rd_ci {s : Nat} (h : CI k nm ns D σ) (hF : Fr [10, 13, 14, 15, 16, 17] (am_setR σ 10 0 (some s)) σ1) : CI k nm ns D σ1 ∧ EqB σ σ1 ∧ QC σ σ1 := by
  have m : ∀ a, (a ≠ 10 ∧ a ≠ 13 ∧ a ≠ 14 ∧ a ≠ 15 ∧ a ≠ 16 ∧ a ≠ 17) → ∀ j, σ1.1 a j = σ.1 a j := fun a h1 => hF.2 a (by simp only [List.mem_cons, List.not_mem_nil, or_false, not_or]; omega)
  have hW := hF.wd h.w.src
  have h2 : σ1.2.2 = σ.2.2 := by rw [hF.1]; rfl
  refine ⟨h.keep hW (by rw [hF.1]; exact am_setR_ne (by omega)) h2 (fun a ha => m a (by unfold ciC at ha; omega)) (fun q hq => ?_) (fun t ht => ?_), fun a j q => m a (by unfold bcP at q; omega) j, fun _ => hW, LK.eq (by rw [h2]), fun a ha => m a (by omega)⟩
  · rw [m _ (by omega)]
    exact h.row q hq
  · rw [m _ (by omega)]
    refine ⟨(h.txt t ht).1, fun j hj => ?_⟩
    rw [m _ (by omega)]
    exact (h.txt t ht).2 j hj
end PK
/-- a strip begun anew -/
def upS (s n : Nat) (v : Nat → Int) (z : Int) (A : am_S) : am_S := (fun a j => if a = s ∧ j = 1 then z else if a = s + 1 ∧ j < n then v j else A.1 a j, A.2)
theorem EqB_upS {s n : Nat} {v : Nat → Int} {z : Int} {σ0 σ σ1 : am_S} (hE : EqB σ0 σ) (hs : 56 ≤ s ∧ s < 76 ∧ s % 2 = 0) (hF : Fr [s, s + 1] σ σ1) (h1 : σ1.1 s 1 = z) (h2 : ∀ j, σ1.1 (s + 1) j = if j < n then v j else σ.1 (s + 1) j) : EqB (upS s n v z σ0) σ1 := by
  intro a j q
  show σ1.1 a j = if a = s ∧ j = 1 then z else if a = s + 1 ∧ j < n then v j else σ0.1 a j
  by_cases e1 : a = s
  · subst e1
    have : j = 1 := by unfold bcP at q; omega
    subst this
    rw [if_pos ⟨rfl, rfl⟩]
    exact h1
  · rw [if_neg (fun e => e1 e.1)]
    by_cases e2 : a = s + 1
    · subst e2
      rw [h2]
      by_cases e3 : j < n
      · rw [if_pos e3, if_pos ⟨rfl, e3⟩]
      · rw [if_neg e3, if_neg (fun e => e3 e.2)]
        exact hE (s + 1) j q
    · rw [if_neg (fun e => e2 e.1), hF.2 a (by simp only [List.mem_cons, List.not_mem_nil, or_false, not_or]; exact ⟨e1, e2⟩) j]
      exact hE a j q
/-- places copied -/
def upC (a sp b dp n : Nat) (A : am_S) : am_S := (fun c j => if c = b ∧ dp ≤ j ∧ j < dp + n then A.1 a (sp + (j - dp)) else A.1 c j, A.2)
theorem EqB_upC {a sp b dp n : Nat} {σ σ1 : am_S} (hF : Fr [b] σ σ1) (h : ∀ j, σ1.1 b j = if dp ≤ j ∧ j < dp + n then σ.1 a (sp + (j - dp)) else σ.1 b j) : EqB (upC a sp b dp n σ) σ1 := by
  intro c j _
  show σ1.1 c j = if c = b ∧ dp ≤ j ∧ j < dp + n then σ.1 a (sp + (j - dp)) else σ.1 c j
  by_cases e : c = b
  · subst e
    rw [h]
    by_cases e2 : dp ≤ j ∧ j < dp + n
    · rw [if_pos e2, if_pos ⟨rfl, e2⟩]
    · rw [if_neg e2, if_neg (fun z => e2 z.2)]
  · rw [if_neg (fun z => e z.1)]
    exact hF.2 c (by simpa using e) j
def x_row (A : am_S) (r n : Int) : am_V × am_S := if 0 ≤ r ∧ r ≤ 5 ∧ n ≤ 40 then (if n < 0 then (vI (-3), upF 5 A) else (vI n, upS (56 + 2 * r.toNat) 40 (fun _ => 0) n A)) else (vI (-1), A)
def x_at (A : am_S) (r i : Int) : am_V × am_S := if 0 ≤ r ∧ r ≤ 5 then (if A.1 (56 + 2 * r.toNat) 1 < 0 then (vI (-3), upF 1 A) else if 0 ≤ i ∧ i < A.1 (56 + 2 * r.toNat) 1 then (vI 1, upA (A.1 (57 + 2 * r.toNat) i.toNat) A) else (vI (-3), upF 2 A)) else (vI (-1), A)
def x_lay (A : am_S) (r i v : Int) : am_V × am_S := if 0 ≤ r ∧ r ≤ 5 then (if A.1 (56 + 2 * r.toNat) 1 < 0 then (vI (-3), upF 1 A) else if 0 ≤ i ∧ i < A.1 (56 + 2 * r.toNat) 1 then (vI 1, upA (A.1 (57 + 2 * r.toNat) i.toNat) (am_set A (57 + 2 * r.toNat) i.toNat v)) else (vI (-3), upF 2 A)) else (vI (-1), A)
def x_tear (A : am_S) (r : Int) : am_V × am_S := if 0 ≤ r ∧ r ≤ 5 then (if A.1 (56 + 2 * r.toNat) 1 < 0 then (vI (-3), upF 1 A) else (vI 1, am_set A (56 + 2 * r.toNat) 1 (-1))) else (vI (-1), A)
def x_copy (A : am_S) (r i t j n : Int) : am_V × am_S := if (0 ≤ r ∧ r ≤ 5) ∧ 0 ≤ t ∧ t ≤ 5 then (if n < 0 then (vI (-3), upF 5 A) else if A.1 (56 + 2 * r.toNat) 1 < 0 ∨ A.1 (56 + 2 * t.toNat) 1 < 0 then (vI (-3), upF 1 A) else if (0 ≤ i ∧ i + n ≤ A.1 (56 + 2 * r.toNat) 1) ∧ 0 ≤ j ∧ j + n ≤ A.1 (56 + 2 * t.toNat) 1 then (vI 1, upC (57 + 2 * r.toNat) i.toNat (57 + 2 * t.toNat) j.toNat n.toNat A) else (vI (-3), upF 2 A)) else (vI (-1), A)
def x_mean (A : am_S) (r : Int) : am_V × am_S := if 0 ≤ r ∧ r ≤ 5 then (if A.1 (56 + 2 * r.toNat) 1 < 0 then (vI (-3), upF 1 A) else if A.1 (56 + 2 * r.toNat) 1 = 0 then (vI (-3), upF 4 A) else (vI 1, upA (w32 (w64 (Int.tdiv (lsN (A.1 (56 + 2 * r.toNat) 1).toNat (A.1 (57 + 2 * r.toNat))) (A.1 (56 + 2 * r.toNat) 1)))) A)) else (vI (-1), A)
def x_text (A : am_S) (r n : Int) : am_V × am_S := if 0 ≤ r ∧ r ≤ 3 ∧ n ≤ 120 then (if n < 0 then (vI (-3), upF 5 A) else (vI n, upS (68 + 2 * r.toNat) 120 (fun _ => 32) n A)) else (vI (-1), A)
def x_put (A : am_S) (r i v : Int) : am_V × am_S := if 0 ≤ r ∧ r ≤ 3 then (if A.1 (68 + 2 * r.toNat) 1 < 0 then (vI (-3), upF 1 A) else if 0 ≤ i ∧ i < A.1 (68 + 2 * r.toNat) 1 then (vI (A.1 (69 + 2 * r.toNat) i.toNat + 1000), am_set A (69 + 2 * r.toNat) i.toNat (w8 v)) else (vI (-3), upF 2 A)) else (vI (-1), A)
/-- where a text can't go on -/
def rdT (A : am_S) (t : Nat) : Nat × Option (Nat → Nat → Int) := p_run (A.1 (69 + 2 * t)) (A.1 (68 + 2 * t) 1).toNat 120 0 p_W0
def x_fault (A : am_S) (r : Int) : am_V × am_S := if 0 ≤ r ∧ r ≤ 3 then (if A.1 (68 + 2 * r.toNat) 1 < 0 then (vI (-3), upF 1 A) else (vI (if (rdT A r.toNat).2.isSome then -9 else ((rdT A r.toNat).1 : Int)), A)) else (vI (-1), A)
theorem c21 (σ : am_S) (k nm ns : Nat) (D : Nat → Nat → Int) (hCI : CI k nm ns D σ) (u n : Int) : CC 21 [vR 2, vI (u), vI (n)] σ (fun r σ' => PKc k nm ns D σ (x_row σ u n) r σ') := by
  show TT am_b21 (am_b21.getD 0 []) [(0, vR 2), (1, vI (u)), (2, vI (n))] [] σ _
  have hW := hCI.w
  refine tt_ar rfl ?_
  refine tt_cs1 1 rfl (c22 _ _) (kb (fun h0_1 => ?_) (fun h0_1 => ?_))
  · refine tt_ifeqF (by decide) ?_
    refine tt_ar rfl ?_
    refine tt_ar rfl ?_
    refine tt_icle (fun h0_5 => ?_) (fun h0_5 => ?_)
    · obtain ⟨rn, rfl⟩ : ∃ rn : Nat, u = (rn : Int) := ⟨u.toNat, by omega⟩
      refine tt_ar rfl ?_
      refine tt_ifge (fun h2_1 => ?_) (fun h2_1 => ?_)
      · refine tt_ar rfl ?_
        refine tt_getR (wo_2 hW) rfl (wr_2_0 hW) ?_
        refine tt_ar rfl ?_
        refine tt_aald (rn) (wa_3 hW) rfl (by omega) (wr_rows hW (rn) (by omega)) ?_
        refine tt_ar rfl ?_
        refine tt_ar rfl ?_
        refine tt_cv3 3 rfl (wo_row hW (rn) (by omega)) (c25 σ (56 + 2 * rn) (57 + 2 * rn) 40 _ _ (wo_row hW rn (by omega)) (wr_row hW rn (by omega)) (wa_row hW rn (by omega)) (by omega) (by rfl) (by omega)) ?_
        intro r0 σ2 hq0
        obtain ⟨rfl, hF2, hz, hC⟩ := hq0
        have hW1 := Fr.wd hF2 hW
        refine tt_ar rfl ?_
        refine tt_iret ?_
        exact pk_any (hCI.putR (by omega) hF2 (by rw [hz]; omega)) (show x_row σ rn n = (vI n, upS (56 + 2 * rn) 40 (fun _ => 0) n σ) by unfold x_row; (try simp only [Int.toNat_natCast]); (repeat (first | rw [if_pos (by omega)] | rw [if_neg (by omega)])); (first | done | rfl)) (EqB_upS EqB.rf (by omega) (by rw [show 56 + 2 * rn + 1 = 57 + 2 * rn by omega]; exact hF2) hz (by rw [show 56 + 2 * rn + 1 = 57 + 2 * rn by omega]; exact hC)) (QC.put2 hF2 (by omega) (by omega))
      · refine tt_ar rfl ?_
        refine tt_ar rfl ?_
        refine tt_cv2 2 rfl (wo_2 hW) (c24 σ 5 hW (by omega)) (ks ?_)
        refine tt_iret ?_
        exact pk_finds (f := 5) hCI (by decide) (show x_row σ (rn : Int) n = (vI (-3), upF 5 σ) by unfold x_row; (try simp only [Int.toNat_natCast]); (repeat (first | rw [if_pos (by omega)] | rw [if_neg (by omega)])); (first | done | rfl))
    · refine tt_nop ?_
      refine tt_ar rfl ?_
      refine tt_iret ?_
      exact pk_same hCI (show x_row σ u n = (vI (-1), σ) by unfold x_row; (try simp only [Int.toNat_natCast]); (repeat (first | rw [if_pos (by omega)] | rw [if_neg (by omega)])); (first | done | rfl))
  · refine tt_ifeqT (by decide) ?_
    refine tt_ar rfl ?_
    refine tt_iret ?_
    exact pk_same hCI (show x_row σ u n = (vI (-1), σ) by unfold x_row; (try simp only [Int.toNat_natCast]); (repeat (first | rw [if_pos (by omega)] | rw [if_neg (by omega)])); (first | done | rfl))

theorem c26 (σ : am_S) (k nm ns : Nat) (D : Nat → Nat → Int) (hCI : CI k nm ns D σ) (u i v : Int) : CC 26 [vR 2, vI (u), vI (i), vI (v)] σ (fun r σ' => PKc k nm ns D σ (x_lay σ u i v) r σ') := by
  show TT am_b26 (am_b26.getD 0 []) [(0, vR 2), (1, vI (u)), (2, vI (i)), (3, vI (v))] [] σ _
  have hW := hCI.w
  refine tt_ar rfl ?_
  refine tt_cs1 1 rfl (c22 _ _) (kb (fun h0_1 => ?_) (fun h0_1 => ?_))
  · refine tt_ifneT (by decide) ?_
    obtain ⟨rn, rfl⟩ : ∃ rn : Nat, u = (rn : Int) := ⟨u.toNat, by omega⟩
    refine tt_ar rfl ?_
    refine tt_getR (wo_2 hW) rfl (wr_2_0 hW) ?_
    refine tt_ar rfl ?_
    refine tt_aald (rn) (wa_3 hW) rfl (by omega) (wr_rows hW (rn) (by omega)) ?_
    refine tt_cv1 1 rfl (wo_row hW (rn) (by omega)) (c27 σ (56 + 2 * rn) (wo_row hW (rn) (by omega))) (kb (fun h1_4 => ?_) (fun h1_4 => ?_))
    · refine tt_ifeqF (by decide) ?_
      refine tt_ar rfl ?_
      refine tt_ar rfl ?_
      refine tt_cv2 2 rfl (wo_2 hW) (c24 σ 1 hW (by omega)) (ks ?_)
      refine tt_iret ?_
      exact pk_finds (f := 1) hCI (by decide) (show x_lay σ (rn : Int) i v = (vI (-3), upF 1 σ) by unfold x_lay; (try simp only [Int.toNat_natCast]); (repeat (first | rw [if_pos (by omega)] | rw [if_neg (by omega)])); (first | done | rfl))
    · refine tt_ifeqT (by decide) ?_
      have hrw := hCI.row rn (by omega)
      refine tt_ar rfl ?_
      refine tt_getR (wo_2 hW) rfl (wr_2_0 hW) ?_
      refine tt_ar rfl ?_
      refine tt_aald (rn) (wa_3 hW) rfl (by omega) (wr_rows hW (rn) (by omega)) ?_
      refine tt_ar rfl ?_
      refine tt_cv2 2 rfl (wo_row hW (rn) (by omega)) (c28 σ (56 + 2 * rn) _ (wo_row hW (rn) (by omega))) (kb (fun h2_5 => ?_) (fun h2_5 => ?_))
      · refine tt_ifneT (by decide) ?_
        obtain ⟨inn, rfl⟩ : ∃ inn : Nat, i = (inn : Int) := ⟨i.toNat, by omega⟩
        refine tt_ar rfl ?_
        refine tt_ar rfl ?_
        refine tt_getR (wo_2 hW) rfl (wr_2_0 hW) ?_
        refine tt_ar rfl ?_
        refine tt_aald (rn) (wa_3 hW) rfl (by omega) (wr_rows hW (rn) (by omega)) ?_
        refine tt_ar rfl ?_
        refine tt_ar rfl ?_
        refine tt_cv3 3 rfl (wo_row hW (rn) (by omega)) (c29 σ (56 + 2 * rn) (57 + 2 * rn) 40 inn _ (wo_row hW rn (by omega)) (wr_row hW rn (by omega)) (wa_row hW rn (by omega)) (by omega) (by omega)) (ks ?_)
        refine tt_ar rfl ?_
        refine tt_cv3 3 rfl (wo_2 hW) (c30 (am_set σ (57 + 2 * rn) (inn) (v)) _ _ hW) (ks ?_)
        refine tt_iret ?_
        exact pk_fT (x := σ.1 (57 + 2 * rn) inn) (M := am_set σ (57 + 2 * rn) inn v) (hCI.putR (r := rn) (by omega) (Fr.put Fr.rf (by simp)) (by rw [am_set_nb (by omega)]; exact hrw)) (show x_lay σ (rn : Int) (inn : Int) v = (vI 1, upA (σ.1 (57 + 2 * rn) inn) (am_set σ (57 + 2 * rn) inn v)) by unfold x_lay; (try simp only [Int.toNat_natCast]); (repeat (first | rw [if_pos (by omega)] | rw [if_neg (by omega)])); (first | done | rfl)) EqB.rf (QC.put2 (a := 56 + 2 * rn) (b := 57 + 2 * rn) (Fr.put Fr.rf (by simp)) (by omega) (by omega))
      · refine tt_ifneF (by decide) ?_
        refine tt_ar rfl ?_
        refine tt_ar rfl ?_
        refine tt_cv2 2 rfl (wo_2 hW) (c24 σ 2 hW (by omega)) (ks ?_)
        refine tt_iret ?_
        exact pk_finds (f := 2) hCI (by decide) (show x_lay σ (rn : Int) i v = (vI (-3), upF 2 σ) by unfold x_lay; (try simp only [Int.toNat_natCast]); (repeat (first | rw [if_pos (by omega)] | rw [if_neg (by omega)])); (first | done | rfl))
  · refine tt_ifneF (by decide) ?_
    refine tt_ar rfl ?_
    refine tt_iret ?_
    exact pk_same hCI (show x_lay σ u i v = (vI (-1), σ) by unfold x_lay; (try simp only [Int.toNat_natCast]); (repeat (first | rw [if_pos (by omega)] | rw [if_neg (by omega)])); (first | done | rfl))

theorem c31 (σ : am_S) (k nm ns : Nat) (D : Nat → Nat → Int) (hCI : CI k nm ns D σ) (u i : Int) : CC 31 [vR 2, vI (u), vI (i)] σ (fun r σ' => PKc k nm ns D σ (x_at σ u i) r σ') := by
  show TT am_b31 (am_b31.getD 0 []) [(0, vR 2), (1, vI (u)), (2, vI (i))] [] σ _
  have hW := hCI.w
  refine tt_ar rfl ?_
  refine tt_cs1 1 rfl (c22 _ _) (kb (fun h0_1 => ?_) (fun h0_1 => ?_))
  · refine tt_ifneT (by decide) ?_
    obtain ⟨rn, rfl⟩ : ∃ rn : Nat, u = (rn : Int) := ⟨u.toNat, by omega⟩
    refine tt_ar rfl ?_
    refine tt_getR (wo_2 hW) rfl (wr_2_0 hW) ?_
    refine tt_ar rfl ?_
    refine tt_aald (rn) (wa_3 hW) rfl (by omega) (wr_rows hW (rn) (by omega)) ?_
    refine tt_cv1 1 rfl (wo_row hW (rn) (by omega)) (c27 σ (56 + 2 * rn) (wo_row hW (rn) (by omega))) (kb (fun h1_4 => ?_) (fun h1_4 => ?_))
    · refine tt_ifeqF (by decide) ?_
      refine tt_ar rfl ?_
      refine tt_ar rfl ?_
      refine tt_cv2 2 rfl (wo_2 hW) (c24 σ 1 hW (by omega)) (ks ?_)
      refine tt_iret ?_
      exact pk_finds (f := 1) hCI (by decide) (show x_at σ (rn : Int) i = (vI (-3), upF 1 σ) by unfold x_at; (try simp only [Int.toNat_natCast]); (repeat (first | rw [if_pos (by omega)] | rw [if_neg (by omega)])); (first | done | rfl))
    · refine tt_ifeqT (by decide) ?_
      have hrw := hCI.row rn (by omega)
      refine tt_ar rfl ?_
      refine tt_getR (wo_2 hW) rfl (wr_2_0 hW) ?_
      refine tt_ar rfl ?_
      refine tt_aald (rn) (wa_3 hW) rfl (by omega) (wr_rows hW (rn) (by omega)) ?_
      refine tt_ar rfl ?_
      refine tt_cv2 2 rfl (wo_row hW (rn) (by omega)) (c28 σ (56 + 2 * rn) _ (wo_row hW (rn) (by omega))) (kb (fun h2_5 => ?_) (fun h2_5 => ?_))
      · refine tt_ifneT (by decide) ?_
        obtain ⟨inn, rfl⟩ : ∃ inn : Nat, i = (inn : Int) := ⟨i.toNat, by omega⟩
        refine tt_ar rfl ?_
        refine tt_ar rfl ?_
        refine tt_getR (wo_2 hW) rfl (wr_2_0 hW) ?_
        refine tt_ar rfl ?_
        refine tt_aald (rn) (wa_3 hW) rfl (by omega) (wr_rows hW (rn) (by omega)) ?_
        refine tt_getR (wo_row hW (rn) (by omega)) rfl (wr_row hW (rn) (by omega)) ?_
        refine tt_ar rfl ?_
        refine tt_iald (inn) (x := σ.1 (57 + 2 * rn) (inn)) (wa_row hW (rn) (by omega)) rfl (by omega) rfl ?_
        refine tt_ar rfl ?_
        refine tt_cv3 3 rfl (wo_2 hW) (c30 σ _ _ hW) (ks ?_)
        refine tt_iret ?_
        exact pk_tells (x := σ.1 (57 + 2 * rn) (inn)) hCI (show x_at σ (rn : Int) (inn : Int) = (vI 1, upA (σ.1 (57 + 2 * rn) (inn)) σ) by unfold x_at; (try simp only [Int.toNat_natCast]); (repeat (first | rw [if_pos (by omega)] | rw [if_neg (by omega)])); (first | done | rfl))
      · refine tt_ifneF (by decide) ?_
        refine tt_ar rfl ?_
        refine tt_ar rfl ?_
        refine tt_cv2 2 rfl (wo_2 hW) (c24 σ 2 hW (by omega)) (ks ?_)
        refine tt_iret ?_
        exact pk_finds (f := 2) hCI (by decide) (show x_at σ (rn : Int) i = (vI (-3), upF 2 σ) by unfold x_at; (try simp only [Int.toNat_natCast]); (repeat (first | rw [if_pos (by omega)] | rw [if_neg (by omega)])); (first | done | rfl))
  · refine tt_ifneF (by decide) ?_
    refine tt_ar rfl ?_
    refine tt_iret ?_
    exact pk_same hCI (show x_at σ u i = (vI (-1), σ) by unfold x_at; (try simp only [Int.toNat_natCast]); (repeat (first | rw [if_pos (by omega)] | rw [if_neg (by omega)])); (first | done | rfl))

theorem c37 (σ : am_S) (k nm ns : Nat) (D : Nat → Nat → Int) (hCI : CI k nm ns D σ) (u n : Int) : CC 37 [vR 2, vI (u), vI (n)] σ (fun r σ' => PKc k nm ns D σ (x_text σ u n) r σ') := by
  show TT am_b37 (am_b37.getD 0 []) [(0, vR 2), (1, vI (u)), (2, vI (n))] [] σ _
  have hW := hCI.w
  refine tt_ar rfl ?_
  refine tt_cs1 1 rfl (c38 _ _) (kb (fun h0_1 => ?_) (fun h0_1 => ?_))
  · refine tt_ifeqF (by decide) ?_
    refine tt_ar rfl ?_
    refine tt_ar rfl ?_
    refine tt_icle (fun h0_5 => ?_) (fun h0_5 => ?_)
    · obtain ⟨rn, rfl⟩ : ∃ rn : Nat, u = (rn : Int) := ⟨u.toNat, by omega⟩
      refine tt_ar rfl ?_
      refine tt_ifge (fun h2_1 => ?_) (fun h2_1 => ?_)
      · refine tt_ar rfl ?_
        refine tt_getR (wo_2 hW) rfl (wr_2_1 hW) ?_
        refine tt_ar rfl ?_
        refine tt_aald (rn) (wa_4 hW) rfl (by omega) (wr_txts hW (rn) (by omega)) ?_
        refine tt_ar rfl ?_
        refine tt_ar rfl ?_
        refine tt_cv3 3 rfl (wo_txt hW (rn) (by omega)) (c25 σ (68 + 2 * rn) (69 + 2 * rn) 120 _ _ (wo_txt hW rn (by omega)) (wr_txt hW rn (by omega)) (wa_txt hW rn (by omega)) (by omega) (by rfl) (by omega)) ?_
        intro r0 σ2 hq0
        obtain ⟨rfl, hF2, hz, hC⟩ := hq0
        have hW1 := Fr.wd hF2 hW
        refine tt_ar rfl ?_
        refine tt_iret ?_
        exact pk_any (hCI.putT (by omega) hF2 (by rw [hz]; omega) (fun j hj => by rw [hC j, if_pos hj]; omega)) (show x_text σ rn n = (vI n, upS (68 + 2 * rn) 120 (fun _ => 32) n σ) by unfold x_text; (try simp only [Int.toNat_natCast]); (repeat (first | rw [if_pos (by omega)] | rw [if_neg (by omega)])); (first | done | rfl)) (EqB_upS EqB.rf (by omega) (by rw [show 68 + 2 * rn + 1 = 69 + 2 * rn by omega]; exact hF2) hz (by rw [show 68 + 2 * rn + 1 = 69 + 2 * rn by omega]; exact hC)) (QC.put2 hF2 (by omega) (by omega))
      · refine tt_ar rfl ?_
        refine tt_ar rfl ?_
        refine tt_cv2 2 rfl (wo_2 hW) (c24 σ 5 hW (by omega)) (ks ?_)
        refine tt_iret ?_
        exact pk_finds (f := 5) hCI (by decide) (show x_text σ (rn : Int) n = (vI (-3), upF 5 σ) by unfold x_text; (try simp only [Int.toNat_natCast]); (repeat (first | rw [if_pos (by omega)] | rw [if_neg (by omega)])); (first | done | rfl))
    · refine tt_nop ?_
      refine tt_ar rfl ?_
      refine tt_iret ?_
      exact pk_same hCI (show x_text σ u n = (vI (-1), σ) by unfold x_text; (try simp only [Int.toNat_natCast]); (repeat (first | rw [if_pos (by omega)] | rw [if_neg (by omega)])); (first | done | rfl))
  · refine tt_ifeqT (by decide) ?_
    refine tt_ar rfl ?_
    refine tt_iret ?_
    exact pk_same hCI (show x_text σ u n = (vI (-1), σ) by unfold x_text; (try simp only [Int.toNat_natCast]); (repeat (first | rw [if_pos (by omega)] | rw [if_neg (by omega)])); (first | done | rfl))

theorem c39 (σ : am_S) (k nm ns : Nat) (D : Nat → Nat → Int) (hCI : CI k nm ns D σ) (u i v : Int) : CC 39 [vR 2, vI (u), vI (i), vI (v)] σ (fun r σ' => PKc k nm ns D σ (x_put σ u i v) r σ') := by
  show TT am_b39 (am_b39.getD 0 []) [(0, vR 2), (1, vI (u)), (2, vI (i)), (3, vI (v))] [] σ _
  have hW := hCI.w
  refine tt_ar rfl ?_
  refine tt_cs1 1 rfl (c38 _ _) (kb (fun h0_1 => ?_) (fun h0_1 => ?_))
  · refine tt_ifneT (by decide) ?_
    obtain ⟨rn, rfl⟩ : ∃ rn : Nat, u = (rn : Int) := ⟨u.toNat, by omega⟩
    refine tt_ar rfl ?_
    refine tt_getR (wo_2 hW) rfl (wr_2_1 hW) ?_
    refine tt_ar rfl ?_
    refine tt_aald (rn) (wa_4 hW) rfl (by omega) (wr_txts hW (rn) (by omega)) ?_
    refine tt_cv1 1 rfl (wo_txt hW (rn) (by omega)) (c27 σ (68 + 2 * rn) (wo_txt hW (rn) (by omega))) (kb (fun h1_4 => ?_) (fun h1_4 => ?_))
    · refine tt_ifeqF (by decide) ?_
      refine tt_ar rfl ?_
      refine tt_ar rfl ?_
      refine tt_cv2 2 rfl (wo_2 hW) (c24 σ 1 hW (by omega)) (ks ?_)
      refine tt_iret ?_
      exact pk_finds (f := 1) hCI (by decide) (show x_put σ (rn : Int) i v = (vI (-3), upF 1 σ) by unfold x_put; (try simp only [Int.toNat_natCast]); (repeat (first | rw [if_pos (by omega)] | rw [if_neg (by omega)])); (first | done | rfl))
    · refine tt_ifeqT (by decide) ?_
      have htx := (hCI.txt rn (by omega)).1
      refine tt_ar rfl ?_
      refine tt_getR (wo_2 hW) rfl (wr_2_1 hW) ?_
      refine tt_ar rfl ?_
      refine tt_aald (rn) (wa_4 hW) rfl (by omega) (wr_txts hW (rn) (by omega)) ?_
      refine tt_ar rfl ?_
      refine tt_cv2 2 rfl (wo_txt hW (rn) (by omega)) (c28 σ (68 + 2 * rn) _ (wo_txt hW (rn) (by omega))) (kb (fun h2_5 => ?_) (fun h2_5 => ?_))
      · refine tt_ifneT (by decide) ?_
        obtain ⟨inn, rfl⟩ : ∃ inn : Nat, i = (inn : Int) := ⟨i.toNat, by omega⟩
        have htb := (hCI.txt rn (by omega)).2 inn (by omega)
        refine tt_ar rfl ?_
        refine tt_getR (wo_2 hW) rfl (wr_2_1 hW) ?_
        refine tt_ar rfl ?_
        refine tt_aald (rn) (wa_4 hW) rfl (by omega) (wr_txts hW (rn) (by omega)) ?_
        refine tt_ar rfl ?_
        refine tt_ar rfl ?_
        refine tt_ar rfl ?_
        refine tt_cv3 3 rfl (wo_txt hW (rn) (by omega)) (c29 σ (68 + 2 * rn) (69 + 2 * rn) 120 inn _ (wo_txt hW rn (by omega)) (wr_txt hW rn (by omega)) (wa_txt hW rn (by omega)) (by omega) (by omega)) (ks ?_)
        refine tt_ar rfl ?_
        refine tt_iadd (by omega) (by omega) ?_
        refine tt_iret ?_
        exact pk_any (M := am_set σ (69 + 2 * rn) inn (w8 v)) (hCI.putT (r := rn) (by omega) (Fr.put Fr.rf (by simp)) (by rw [am_set_nb (by omega)]; exact htx) (fun j hj => by rw [am_set_at]; split; (have := w8_bd v; omega); exact (hCI.txt rn (by omega)).2 j hj)) (show x_put σ (rn : Int) (inn : Int) v = (vI ((σ.1 (69 + 2 * rn) inn + 1000)), am_set σ (69 + 2 * rn) inn (w8 v)) by unfold x_put; (try simp only [Int.toNat_natCast]); (repeat (first | rw [if_pos (by omega)] | rw [if_neg (by omega)])); (first | done | rfl)) EqB.rf (QC.put2 (a := 68 + 2 * rn) (b := 69 + 2 * rn) (Fr.put Fr.rf (by simp)) (by omega) (by omega))
      · refine tt_ifneF (by decide) ?_
        refine tt_ar rfl ?_
        refine tt_ar rfl ?_
        refine tt_cv2 2 rfl (wo_2 hW) (c24 σ 2 hW (by omega)) (ks ?_)
        refine tt_iret ?_
        exact pk_finds (f := 2) hCI (by decide) (show x_put σ (rn : Int) i v = (vI (-3), upF 2 σ) by unfold x_put; (try simp only [Int.toNat_natCast]); (repeat (first | rw [if_pos (by omega)] | rw [if_neg (by omega)])); (first | done | rfl))
  · refine tt_ifneF (by decide) ?_
    refine tt_ar rfl ?_
    refine tt_iret ?_
    exact pk_same hCI (show x_put σ u i v = (vI (-1), σ) by unfold x_put; (try simp only [Int.toNat_natCast]); (repeat (first | rw [if_pos (by omega)] | rw [if_neg (by omega)])); (first | done | rfl))

theorem c40 (σ : am_S) (k nm ns : Nat) (D : Nat → Nat → Int) (hCI : CI k nm ns D σ) (u : Int) : CC 40 [vR 2, vI (u)] σ (fun r σ' => PKc k nm ns D σ (x_fault σ u) r σ') := by
  show TT am_b40 (am_b40.getD 0 []) [(0, vR 2), (1, vI (u))] [] σ _
  have hW := hCI.w
  refine tt_ar rfl ?_
  refine tt_cs1 1 rfl (c38 _ _) (kb (fun h0_1 => ?_) (fun h0_1 => ?_))
  · refine tt_ifneT (by decide) ?_
    obtain ⟨rn, rfl⟩ : ∃ rn : Nat, u = (rn : Int) := ⟨u.toNat, by omega⟩
    refine tt_ar rfl ?_
    refine tt_getR (wo_2 hW) rfl (wr_2_1 hW) ?_
    refine tt_ar rfl ?_
    refine tt_aald (rn) (wa_4 hW) rfl (by omega) (wr_txts hW (rn) (by omega)) ?_
    refine tt_cv1 1 rfl (wo_txt hW (rn) (by omega)) (c27 σ (68 + 2 * rn) (wo_txt hW (rn) (by omega))) (kb (fun h1_4 => ?_) (fun h1_4 => ?_))
    · refine tt_ifeqF (by decide) ?_
      refine tt_ar rfl ?_
      refine tt_ar rfl ?_
      refine tt_cv2 2 rfl (wo_2 hW) (c24 σ 1 hW (by omega)) (ks ?_)
      refine tt_iret ?_
      exact pk_finds (f := 1) hCI (by decide) (show x_fault σ (rn : Int) = (vI (-3), upF 1 σ) by unfold x_fault; (try simp only [Int.toNat_natCast]); (repeat (first | rw [if_pos (by omega)] | rw [if_neg (by omega)])); (first | done | rfl))
    · refine tt_ifeqT (by decide) ?_
      have htx := (hCI.txt rn (by omega)).1
      obtain ⟨zn, hzn⟩ : ∃ zn : Nat, σ.1 (68 + 2 * rn) 1 = (zn : Int) := ⟨_, (Int.toNat_of_nonneg (by omega)).symm⟩
      refine tt_ar rfl ?_
      refine tt_getR (wo_2 hW) rfl (wr_2_3 hW) ?_
      refine tt_ar rfl ?_
      refine tt_getR (wo_2 hW) rfl (wr_2_1 hW) ?_
      refine tt_ar rfl ?_
      refine tt_aald (rn) (wa_4 hW) rfl (by omega) (wr_txts hW (rn) (by omega)) ?_
      refine tt_cv2 2 rfl (wo_10 hW) (c41 (σ.1 (69 + 2 * rn)) (68 + 2 * rn) (69 + 2 * rn) zn σ hW (wo_txt hW rn (by omega)) (wr_txt hW rn (by omega)) (wa_txt hW rn (by omega)) (by omega) (by omega) (by omega) hzn (fun j hj => ⟨rfl, (hCI.txt rn (by omega)).2 j (by omega)⟩)) ?_
      intro r0 σn hq0
      have hzt : (σ.1 (68 + 2 * rn) 1).toNat = zn := by rw [hzn]; rfl
      rcases hq0 with ⟨q, W1, hr, rfl, hF, hok, hpr⟩ | ⟨q, hr, rfl, hF⟩
      · obtain ⟨hci, heq, hqc⟩ := rd_ci hCI hF
        refine tt_iret ?_
        exact pk_any hci (show x_fault σ rn = (vI (-9), σ) by unfold x_fault rdT; (try simp only [Int.toNat_natCast]); rw [if_pos (by omega), if_neg (by omega), hzt, hr]; rfl) heq hqc
      · obtain ⟨hci, heq, hqc⟩ := rd_ci hCI hF
        refine tt_iret ?_
        exact pk_any hci (show x_fault σ rn = (vI (((q : Nat) : Int)), σ) by unfold x_fault rdT; (try simp only [Int.toNat_natCast]); rw [if_pos (by omega), if_neg (by omega), hzt, hr]; rfl) heq hqc
  · refine tt_ifneF (by decide) ?_
    refine tt_ar rfl ?_
    refine tt_iret ?_
    exact pk_same hCI (show x_fault σ u = (vI (-1), σ) by unfold x_fault; (try simp only [Int.toNat_natCast]); (repeat (first | rw [if_pos (by omega)] | rw [if_neg (by omega)])); (first | done | rfl))

