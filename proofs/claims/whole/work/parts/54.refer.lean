/-! THE REFERENCE: its cells, the class's -/
def szR (z : Int) : Int := if z < 0 then -9 else z
theorem szR_c (z : Int) : (z < 0 ∧ szR z = -9) ∨ (0 ≤ z ∧ szR z = z) := by
  unfold szR
  split <;> omega
def RRb (k nm ns : Nat) (D : Nat → Nat → Int) (A σ : am_S) : Prop :=
  (A.1 5 0 = (k : Int) ∧ A.1 27 0 = (nm : Int) ∧ A.1 47 2 = (ns : Int)) ∧
  (σ.1 76 0 = A.1 2 11 ∧ σ.1 76 2 = A.1 2 12 ∧ σ.1 76 3 = A.1 2 13 ∧ σ.1 76 4 = A.1 2 14 ∧ σ.1 76 5 = A.1 2 15) ∧
  (∀ f, f < 6 → σ.1 77 f = A.1 55 f) ∧
  (∀ r, r < 6 → σ.1 78 r = szR (A.1 (56 + 2 * r) 1) ∧ ∀ j, j < 40 → σ.1 79 (40 * r + j) = A.1 (57 + 2 * r) j) ∧
  (∀ t, t < 4 → σ.1 81 t = szR (A.1 (68 + 2 * t) 1) ∧ ∀ j, j < 120 → σ.1 82 (120 * t + j) = A.1 (69 + 2 * t) j) ∧
  (σ.1 76 11 = (k : Int) ∧ σ.1 76 15 = A.1 5 4 ∧ (∀ i, i < 6 → i < k → σ.1 83 i = A.1 6 i) ∧ (∀ i, i < 48 → σ.1 84 i = A.1 7 i ∧ σ.1 85 i = A.1 8 i) ∧ ∀ i, i < 5 → σ.1 86 i = A.1 9 i) ∧
  (σ.1 76 25 = (nm : Int) ∧ ∀ m, m < nm → ∀ w, w < 10 → σ.1 91 (10 * m + w) = lnD A m w) ∧
  (σ.1 76 43 = (ns : Int) ∧ ∀ e, e < ns → ∀ w, w < 4 → σ.1 104 (4 * e + w) = stD A e w) ∧
  (σ.1 76 27 = (nkT k : Int) ∧ ∀ h, h < nkT k → σ.1 92 h = (tb k h : Int) ∧ ∀ s, s < 6 → σ.1 93 (6 * h + s) = (dg (tb k h) s : Int)) ∧
  (σ.1 76 31 = 0 ∨ σ.1 76 31 = 1 ∧ DI k (A.1 6) (A.1 9) D ∧ ∀ a, a < nkT k → ∀ b, b < nkT k → σ.1 94 (462 * a + b) = D a b)
section RRS
variable {k nm ns : Nat} {D : Nat → Nat → Int} {A A' σ σ' : am_S}
theorem RRb.aa (h : RRb k nm ns D A σ) : A.1 5 0 = (k : Int) ∧ A.1 27 0 = (nm : Int) ∧ A.1 47 2 = (ns : Int) := h.1
theorem RRb.sc (h : RRb k nm ns D A σ) : σ.1 76 0 = A.1 2 11 ∧ σ.1 76 2 = A.1 2 12 ∧ σ.1 76 3 = A.1 2 13 ∧ σ.1 76 4 = A.1 2 14 ∧ σ.1 76 5 = A.1 2 15 := h.2.1
theorem RRb.fs (h : RRb k nm ns D A σ) : ∀ f, f < 6 → σ.1 77 f = A.1 55 f := h.2.2.1
theorem RRb.rw (h : RRb k nm ns D A σ) : ∀ r, r < 6 → σ.1 78 r = szR (A.1 (56 + 2 * r) 1) ∧ ∀ j, j < 40 → σ.1 79 (40 * r + j) = A.1 (57 + 2 * r) j := h.2.2.2.1
theorem RRb.tx (h : RRb k nm ns D A σ) : ∀ t, t < 4 → σ.1 81 t = szR (A.1 (68 + 2 * t) 1) ∧ ∀ j, j < 120 → σ.1 82 (120 * t + j) = A.1 (69 + 2 * t) j := h.2.2.2.2.1
theorem RRb.wl (h : RRb k nm ns D A σ) : σ.1 76 11 = (k : Int) ∧ σ.1 76 15 = A.1 5 4 ∧ (∀ i, i < 6 → i < k → σ.1 83 i = A.1 6 i) ∧ (∀ i, i < 48 → σ.1 84 i = A.1 7 i ∧ σ.1 85 i = A.1 8 i) ∧ ∀ i, i < 5 → σ.1 86 i = A.1 9 i := h.2.2.2.2.2.1
theorem RRb.ln (h : RRb k nm ns D A σ) : σ.1 76 25 = (nm : Int) ∧ ∀ m, m < nm → ∀ w, w < 10 → σ.1 91 (10 * m + w) = lnD A m w := h.2.2.2.2.2.2.1
theorem RRb.st (h : RRb k nm ns D A σ) : σ.1 76 43 = (ns : Int) ∧ ∀ e, e < ns → ∀ w, w < 4 → σ.1 104 (4 * e + w) = stD A e w := h.2.2.2.2.2.2.2.1
theorem RRb.hs (h : RRb k nm ns D A σ) : σ.1 76 27 = (nkT k : Int) ∧ ∀ h, h < nkT k → σ.1 92 h = (tb k h : Int) ∧ ∀ s, s < 6 → σ.1 93 (6 * h + s) = (dg (tb k h) s : Int) := h.2.2.2.2.2.2.2.2.1
theorem RRb.sp (h : RRb k nm ns D A σ) : σ.1 76 31 = 0 ∨ σ.1 76 31 = 1 ∧ DI k (A.1 6) (A.1 9) D ∧ ∀ a, a < nkT k → ∀ b, b < nkT k → σ.1 94 (462 * a + b) = D a b := h.2.2.2.2.2.2.2.2.2
/-- cells that bear what the reference knows; fields of its object -/
def rrC (a : Nat) : Prop := a = 77 ∨ a = 78 ∨ a = 79 ∨ (81 ≤ a ∧ a ≤ 86) ∨ (91 ≤ a ∧ a ≤ 94) ∨ a = 104
def rrJ (j : Nat) : Prop := j = 0 ∨ (2 ≤ j ∧ j ≤ 5) ∨ j = 11 ∨ j = 15 ∨ j = 25 ∨ j = 27 ∨ j = 31 ∨ j = 43
theorem RRb.kp (h : RRb k nm ns D A σ) (q : ∀ a, rrC a → ∀ j, σ'.1 a j = σ.1 a j) (q76 : ∀ j, rrJ j → σ'.1 76 j = σ.1 76 j) : RRb k nm ns D A σ' := by
  have e : ∀ a, (a = 77 ∨ a = 78 ∨ a = 79 ∨ (81 ≤ a ∧ a ≤ 86) ∨ (91 ≤ a ∧ a ≤ 94) ∨ a = 104) → σ'.1 a = σ.1 a := fun a ha => funext (q a ha)
  have f : ∀ j, (j = 0 ∨ (2 ≤ j ∧ j ≤ 5) ∨ j = 11 ∨ j = 15 ∨ j = 25 ∨ j = 27 ∨ j = 31 ∨ j = 43) → σ'.1 76 j = σ.1 76 j := q76
  unfold RRb
  rw [f 0 (by omega), f 2 (by omega), f 3 (by omega), f 4 (by omega), f 5 (by omega), f 11 (by omega), f 15 (by omega), f 25 (by omega), f 27 (by omega), f 31 (by omega), f 43 (by omega), e 77 (by omega), e 78 (by omega), e 79 (by omega), e 81 (by omega), e 82 (by omega), e 83 (by omega), e 84 (by omega), e 85 (by omega), e 86 (by omega), e 91 (by omega), e 92 (by omega), e 93 (by omega), e 94 (by omega), e 104 (by omega)]
  exact h
theorem RRb.fr {W : List Nat} (h : RRb k nm ns D A σ) (hF : Fr W σ σ') (hw : ∀ a ∈ W, a = 80 ∨ (87 ≤ a ∧ a ≤ 90) ∨ (95 ≤ a ∧ a ≤ 103) ∨ 105 ≤ a) : RRb k nm ns D A σ' :=
  h.kp (fun a ha => hF.2 a (fun z => by have := hw a z; unfold rrC at ha; omega)) (fun j _ => hF.2 76 (fun z => by have := hw 76 z; omega) j)
theorem GP_eq {p p' : Nat → Int} (h : ∀ s, s < 6 → p' s = p s) : GP p' = GP p := by
  have e : foP p' = foP p := by
    funext s
    unfold foP
    by_cases hs : s < 6
    · rw [h s hs]
    · rw [if_neg (fun z => hs z.1), if_neg (fun z => hs z.1)]
  unfold GP
  rw [e]
theorem DI.cg {into into' pr pr' : Nat → Int} (hi : ∀ s, s < 6 → into' s = into s) (hp : ∀ i, i < 5 → pr' i = pr i) (h : DI k into pr D) : DI k into' pr' D := fun x hx => by
  rw [GP_eq hi, hp 1 (by omega), hp 2 (by omega), hp 0 (by omega)]
  exact h x hx
/-- what of A is looked at is as it was -/
theorem RRb.eqb (h : RRb k nm ns D A σ) (hE : EqB A A') : RRb k nm ns D A' σ := by
  have e : ∀ a j, (a = 2 ∨ (a = 5 ∧ (j = 0 ∨ j = 4)) ∨ (a = 6 ∧ j < 6) ∨ ((a = 7 ∨ a = 8) ∧ j < 48) ∨ (a = 9 ∧ j < 5) ∨ (a = 27 ∧ j = 0) ∨ (28 ≤ a ∧ a ≤ 30) ∨ (a = 47 ∧ j = 2) ∨ (48 ≤ a ∧ a ≤ 51) ∨ a = 55 ∨ (56 ≤ a ∧ a ≤ 75 ∧ (a % 2 = 1 ∨ j = 1))) → A'.1 a j = A.1 a j := fun a j z => hE a j z
  obtain ⟨⟨a1, a2, a3⟩, ⟨b1, b2, b3, b4, b5⟩, c, d, t, ⟨w1, w2, w3, w4, w5⟩, ⟨l1, l2⟩, ⟨s1, s2⟩, hh, p⟩ := h
  refine ⟨⟨(e 5 0 (by omega)).trans a1, (e 27 0 (by omega)).trans a2, (e 47 2 (by omega)).trans a3⟩, ⟨b1.trans (e 2 11 (by omega)).symm, b2.trans (e 2 12 (by omega)).symm, b3.trans (e 2 13 (by omega)).symm, b4.trans (e 2 14 (by omega)).symm, b5.trans (e 2 15 (by omega)).symm⟩, fun f hf => (c f hf).trans (e 55 f (by omega)).symm, fun r hr => ⟨by rw [e (56 + 2 * r) 1 (by omega)]; exact (d r hr).1, fun j hj => ((d r hr).2 j hj).trans (e (57 + 2 * r) j (by omega)).symm⟩, fun r hr => ⟨by rw [e (68 + 2 * r) 1 (by omega)]; exact (t r hr).1, fun j hj => ((t r hr).2 j hj).trans (e (69 + 2 * r) j (by omega)).symm⟩, ⟨w1, w2.trans (e 5 4 (by omega)).symm, fun i h1 h2 => (w3 i h1 h2).trans (e 6 i (by omega)).symm, fun i hi => ⟨(w4 i hi).1.trans (e 7 i (by omega)).symm, (w4 i hi).2.trans (e 8 i (by omega)).symm⟩, fun i hi => (w5 i hi).trans (e 9 i (by omega)).symm⟩, ⟨l1, fun m hm w hw => (l2 m hm w hw).trans ?_⟩, ⟨s1, fun x hx w hw => (s2 x hx w hw).trans ?_⟩, hh, ?_⟩
  · unfold lnD
    rw [e 28 m (by omega), e 29 m (by omega), e 30 (m * 8 + w - 2) (by omega)]
  · unfold stD
    rw [e 48 x (by omega), e 49 x (by omega), e 50 x (by omega), e 51 x (by omega)]
  · rcases p with p | ⟨p1, p2, p3⟩
    · exact Or.inl p
    · exact Or.inr ⟨p1, DI.cg (fun s hs => e 6 s (by omega)) (fun i hi => e 9 i (by omega)) p2, p3⟩
def RRc (A σ : am_S) : Prop := ∃ k nm ns D, RRb k nm ns D A σ
theorem RRc.norm (h : RRc A σ) (hE : EqB A A') (hC : CI k nm ns D A') : RRb k nm ns D A' σ := by
  obtain ⟨k1, nm1, ns1, D1, h⟩ := h
  have h := h.eqb hE
  have e1 : k1 = k := by have := h.aa.1; have := hC.x.1.1; omega
  have e2 : nm1 = nm := by have := h.aa.2.1; have := hC.x.2.2.1.1; omega
  have e3 : ns1 = ns := by have := h.aa.2.2; have := hC.st.1; omega
  subst e1
  subst e2
  subst e3
  obtain ⟨h1, h2, h3, h4, h5, h6, h7, h8, h9, p⟩ := h
  refine ⟨h1, h2, h3, h4, h5, h6, h7, h8, h9, ?_⟩
  rcases p with p | ⟨p1, p2, p3⟩
  · exact Or.inl p
  · refine Or.inr ⟨p1, hC.x.2.2.2, fun a ha b hb => (p3 a ha b hb).trans ?_⟩
    exact SP_eq (p2 a ha) (hC.x.2.2.2 a ha) hb
def QR (σ σ' : am_S) : Prop := σ'.2 = σ.2 ∧ ∀ a, (a < 76 ∨ 106 < a) → ∀ j, σ'.1 a j = σ.1 a j
theorem QR.of {W : List Nat} (h : Fr W σ σ') (hw : ∀ a ∈ W, 76 ≤ a ∧ a ≤ 106) : QR σ σ' := ⟨h.1, fun a ha => h.2 a (fun e => by have := hw a e; omega)⟩
theorem QR.wd (h : QR σ σ') (hW : Wd σ) : Wd σ' := by
  unfold Wd
  rw [h.1]
  exact hW
theorem QR.rf : QR σ σ := ⟨rfl, fun _ _ _ => rfl⟩
def PMd (A σ : am_S) (c : am_V × am_S) (r : Option am_V) (σ' : am_S) : Prop := r = some c.1 ∧ RRc c.2 σ' ∧ QR σ σ'
/-- the reference meets; it is asked -/
def mtR (f : Nat) (σ : am_S) : am_S := am_set (am_set σ 76 0 (f : Int)) 77 f (w32 (σ.1 77 f + 1))
def akR (x : Int) (σ : am_S) : am_S := am_set σ 76 2 x
theorem RRb.sm (h : RRb k nm ns D A σ) (hA : ∀ a, a ≠ 2 → a ≠ 55 → A'.1 a = A.1 a) (hs : ∀ a, a ≠ 76 → a ≠ 77 → σ'.1 a = σ.1 a) (h76 : ∀ j, (j = 11 ∨ j = 15 ∨ j = 25 ∨ j = 27 ∨ j = 31 ∨ j = 43) → σ'.1 76 j = σ.1 76 j)
    (hsc : σ'.1 76 0 = A'.1 2 11 ∧ σ'.1 76 2 = A'.1 2 12 ∧ σ'.1 76 3 = A'.1 2 13 ∧ σ'.1 76 4 = A'.1 2 14 ∧ σ'.1 76 5 = A'.1 2 15) (hfs : ∀ f, f < 6 → σ'.1 77 f = A'.1 55 f) : RRb k nm ns D A' σ' := by
  have m : ∀ a, (a ≠ 2 ∧ a ≠ 55) → A'.1 a = A.1 a := fun a ha => hA a ha.1 ha.2
  have s : ∀ a, (a ≠ 76 ∧ a ≠ 77) → σ'.1 a = σ.1 a := fun a ha => hs a ha.1 ha.2
  refine ⟨by rw [m 5 (by omega), m 27 (by omega), m 47 (by omega)]; exact h.aa, hsc, hfs, fun r hr => by rw [s 78 (by omega), s 79 (by omega), m (56 + 2 * r) (by omega), m (57 + 2 * r) (by omega)]; exact h.rw r hr, fun r hr => by rw [s 81 (by omega), s 82 (by omega), m (68 + 2 * r) (by omega), m (69 + 2 * r) (by omega)]; exact h.tx r hr, by rw [h76 11 (by omega), h76 15 (by omega), s 83 (by omega), s 84 (by omega), s 85 (by omega), s 86 (by omega), m 5 (by omega), m 6 (by omega), m 7 (by omega), m 8 (by omega), m 9 (by omega)]; exact h.wl, ?_, ?_, by rw [h76 27 (by omega), s 92 (by omega), s 93 (by omega)]; exact h.hs, by rw [h76 31 (by omega), s 94 (by omega), m 6 (by omega), m 9 (by omega)]; exact h.sp⟩
  · unfold lnD
    rw [h76 25 (by omega), s 91 (by omega), m 28 (by omega), m 29 (by omega), m 30 (by omega)]
    exact h.ln
  · unfold stD
    rw [h76 43 (by omega), s 104 (by omega), m 48 (by omega), m 49 (by omega), m 50 (by omega), m 51 (by omega)]
    exact h.st
theorem am_set_c {A : am_S} {a b k : Nat} {x : Int} (h : b ≠ a) : (am_set A a k x).1 b = A.1 b := funext fun _ => am_set_nb h
theorem RRb.mt {f : Nat} (hf : f < 6) (h : RRb k nm ns D A σ) : RRb k nm ns D (upF f A) (mtR f σ) := by
  obtain ⟨b1, b2, b3, b4, b5⟩ := h.sc
  refine h.sm (fun a h1 h2 => (am_set_c h2).trans (am_set_c h1)) (fun a h1 h2 => (am_set_c h2).trans (am_set_c h1)) (fun j hj => (am_set_nb (by decide)).trans ((am_set_at).trans (if_neg (by omega)))) ⟨rfl, b2, b3, b4, b5⟩ (fun g hg => ?_)
  unfold mtR upF
  rw [am_set_at, am_set_at, am_set_nb (by decide), am_set_nb (by decide), h.fs f hf, h.fs g hg]
theorem RRb.ak {x : Int} (h : RRb k nm ns D A σ) : RRb k nm ns D (upA x A) (akR x σ) := by
  obtain ⟨b1, b2, b3, b4, b5⟩ := h.sc
  exact h.sm (fun a h1 h2 => am_set_c h1) (fun a h1 h2 => am_set_c h1) (fun j hj => (am_set_at).trans (if_neg (by omega))) ⟨b1, rfl, b3, b4, b5⟩ h.fs
variable {c : am_V × am_S} {v : am_V} {x : Int} {M : am_S} {f : Nat}
theorem pm_any (h : RRb k nm ns D M σ') (e : c = (v, M)) (hQ : QR σ σ') : PMd A σ c (some v) σ' := by
  subst e
  exact ⟨rfl, ⟨k, nm, ns, D, h⟩, hQ⟩
theorem pm_same (h : RRb k nm ns D A σ') (e : c = (v, A)) (hQ : QR σ σ') : PMd A σ c (some v) σ' := pm_any h e hQ
theorem QR.mt (hQ : QR σ σ') : QR σ (mtR f σ') := ⟨hQ.1, fun a ha j => (am_set_nb (by omega)).trans ((am_set_nb (by omega)).trans (hQ.2 a ha j))⟩
theorem QR.ak (hQ : QR σ σ') : QR σ (akR x σ') := ⟨hQ.1, fun a ha j => (am_set_nb (by omega)).trans (hQ.2 a ha j)⟩
theorem pm_mt (h : RRb k nm ns D A σ') (hf : f < 6) (e : c = (vI (-3), upF f A)) (hQ : QR σ σ') : PMd A σ c (some (vI (-3))) (mtR f σ') := pm_any (h.mt hf) e hQ.mt
theorem pm_ak (h : RRb k nm ns D M σ') (e : c = (v, upA x M)) (hQ : QR σ σ') : PMd A σ c (some v) (akR x σ') := pm_any h.ak e hQ.ak
/-- a row, a text changed -/
theorem RRb.row {r : Nat} (h : RRb k nm ns D A σ) (hr : r < 6) (hA : ∀ a j, a ≠ 56 + 2 * r → a ≠ 57 + 2 * r → A'.1 a j = A.1 a j) (hF : Fr [78, 79] σ σ') (h78 : ∀ q, σ'.1 78 q = if q = r then szR (A'.1 (56 + 2 * r) 1) else σ.1 78 q) (h79 : ∀ j, j < 40 → σ'.1 79 (40 * r + j) = A'.1 (57 + 2 * r) j) (h79' : ∀ x, (x < 40 * r ∨ 40 * r + 40 ≤ x) → σ'.1 79 x = σ.1 79 x) : RRb k nm ns D A' σ' := by
  have m : ∀ a, a ≠ 56 + 2 * r → a ≠ 57 + 2 * r → A'.1 a = A.1 a := fun a h1 h2 => funext fun j => hA a j h1 h2
  have s : ∀ a, a ≠ 78 → a ≠ 79 → σ'.1 a = σ.1 a := fun a h1 h2 => funext (hF.2 a (by simp only [List.mem_cons, List.not_mem_nil, or_false, not_or]; exact ⟨h1, h2⟩))
  obtain ⟨a, b, c, d, t, w, l, s1, hh, p⟩ := h
  refine ⟨by rw [m 5 (by omega) (by omega), m 27 (by omega) (by omega), m 47 (by omega) (by omega)]; exact a, by rw [s 76 (by omega) (by omega), m 2 (by omega) (by omega)]; exact b, by rw [s 77 (by omega) (by omega), m 55 (by omega) (by omega)]; exact c, fun q hq => ?_, fun q hq => by rw [s 81 (by omega) (by omega), s 82 (by omega) (by omega), m (68 + 2 * q) (by omega) (by omega), m (69 + 2 * q) (by omega) (by omega)]; exact t q hq, by rw [s 76 (by omega) (by omega), s 83 (by omega) (by omega), s 84 (by omega) (by omega), s 85 (by omega) (by omega), s 86 (by omega) (by omega), m 5 (by omega) (by omega), m 6 (by omega) (by omega), m 7 (by omega) (by omega), m 8 (by omega) (by omega), m 9 (by omega) (by omega)]; exact w, ?_, ?_, by rw [s 76 (by omega) (by omega), s 92 (by omega) (by omega), s 93 (by omega) (by omega)]; exact hh, by rw [s 76 (by omega) (by omega), s 94 (by omega) (by omega), m 6 (by omega) (by omega), m 9 (by omega) (by omega)]; exact p⟩
  · rw [h78]
    by_cases e : q = r
    · rw [if_pos e, e]
      exact ⟨rfl, h79⟩
    · rw [if_neg e, m (56 + 2 * q) (by omega) (by omega), m (57 + 2 * q) (by omega) (by omega)]
      exact ⟨(d q hq).1, fun j hj => (h79' _ (by omega)).trans ((d q hq).2 j hj)⟩
  · unfold lnD
    rw [s 76 (by omega) (by omega), s 91 (by omega) (by omega), m 28 (by omega) (by omega), m 29 (by omega) (by omega), m 30 (by omega) (by omega)]
    exact l
  · unfold stD
    rw [s 76 (by omega) (by omega), s 104 (by omega) (by omega), m 48 (by omega) (by omega), m 49 (by omega) (by omega), m 50 (by omega) (by omega), m 51 (by omega) (by omega)]
    exact s1
theorem RRb.txt {r : Nat} (h : RRb k nm ns D A σ) (hr : r < 4) (hA : ∀ a j, a ≠ 68 + 2 * r → a ≠ 69 + 2 * r → A'.1 a j = A.1 a j) (hF : Fr [81, 82] σ σ') (h78 : ∀ q, σ'.1 81 q = if q = r then szR (A'.1 (68 + 2 * r) 1) else σ.1 81 q) (h79 : ∀ j, j < 120 → σ'.1 82 (120 * r + j) = A'.1 (69 + 2 * r) j) (h79' : ∀ x, (x < 120 * r ∨ 120 * r + 120 ≤ x) → σ'.1 82 x = σ.1 82 x) : RRb k nm ns D A' σ' := by
  have m : ∀ a, a ≠ 68 + 2 * r → a ≠ 69 + 2 * r → A'.1 a = A.1 a := fun a h1 h2 => funext fun j => hA a j h1 h2
  have s : ∀ a, a ≠ 81 → a ≠ 82 → σ'.1 a = σ.1 a := fun a h1 h2 => funext (hF.2 a (by simp only [List.mem_cons, List.not_mem_nil, or_false, not_or]; exact ⟨h1, h2⟩))
  obtain ⟨a, b, c, d, t, w, l, s1, hh, p⟩ := h
  refine ⟨by rw [m 5 (by omega) (by omega), m 27 (by omega) (by omega), m 47 (by omega) (by omega)]; exact a, by rw [s 76 (by omega) (by omega), m 2 (by omega) (by omega)]; exact b, by rw [s 77 (by omega) (by omega), m 55 (by omega) (by omega)]; exact c, fun q hq => by rw [s 78 (by omega) (by omega), s 79 (by omega) (by omega), m (56 + 2 * q) (by omega) (by omega), m (57 + 2 * q) (by omega) (by omega)]; exact d q hq, fun q hq => ?_, by rw [s 76 (by omega) (by omega), s 83 (by omega) (by omega), s 84 (by omega) (by omega), s 85 (by omega) (by omega), s 86 (by omega) (by omega), m 5 (by omega) (by omega), m 6 (by omega) (by omega), m 7 (by omega) (by omega), m 8 (by omega) (by omega), m 9 (by omega) (by omega)]; exact w, ?_, ?_, by rw [s 76 (by omega) (by omega), s 92 (by omega) (by omega), s 93 (by omega) (by omega)]; exact hh, by rw [s 76 (by omega) (by omega), s 94 (by omega) (by omega), m 6 (by omega) (by omega), m 9 (by omega) (by omega)]; exact p⟩
  · rw [h78]
    by_cases e : q = r
    · rw [if_pos e, e]
      exact ⟨rfl, h79⟩
    · rw [if_neg e, m (68 + 2 * q) (by omega) (by omega), m (69 + 2 * q) (by omega) (by omega)]
      exact ⟨(t q hq).1, fun j hj => (h79' _ (by omega)).trans ((t q hq).2 j hj)⟩
  · unfold lnD
    rw [s 76 (by omega) (by omega), s 91 (by omega) (by omega), m 28 (by omega) (by omega), m 29 (by omega) (by omega), m 30 (by omega) (by omega)]
    exact l
  · unfold stD
    rw [s 76 (by omega) (by omega), s 104 (by omega) (by omega), m 48 (by omega) (by omega), m 49 (by omega) (by omega), m 50 (by omega) (by omega), m 51 (by omega) (by omega)]
    exact s1
end RRS
theorem c175 (σ : am_S) (v lo hi : Int) : CC 175 [vI (v), vI (lo), vI (hi)] σ (fun r σ' => σ' = σ ∧ ((lo ≤ v ∧ v ≤ hi) ∧ r = some (vI 1) ∨ ¬(lo ≤ v ∧ v ≤ hi) ∧ r = some (vI 0))) := by
  show TT am_b175 (am_b175.getD 0 []) [(0, vI (v)), (1, vI (lo)), (2, vI (hi))] [] σ _
  refine tt_ar rfl ?_
  refine tt_ar rfl ?_
  refine tt_iclt (fun h0_2 => ?_) (fun h0_2 => ?_)
  · refine tt_ar rfl ?_
    refine tt_nop ?_
    refine tt_zret (by omega) ?_
    exact ⟨rfl, Or.inr ⟨by omega, rfl⟩⟩
  · refine tt_ar rfl ?_
    refine tt_ar rfl ?_
    refine tt_icgt (fun h0_5 => ?_) (fun h0_5 => ?_)
    · refine tt_ar rfl ?_
      refine tt_nop ?_
      refine tt_zret (by omega) ?_
      exact ⟨rfl, Or.inr ⟨by omega, rfl⟩⟩
    · refine tt_ar rfl ?_
      refine tt_goto ?_
      refine tt_zret (by omega) ?_
      exact ⟨rfl, Or.inl ⟨by omega, rfl⟩⟩

theorem c178 (σ : am_S) (v : Int) : CC 178 [vI (v)] σ (fun r σ' => σ' = σ ∧ ((0 ≤ v ∧ v ≤ 5) ∧ r = some (vI 1) ∨ ¬(0 ≤ v ∧ v ≤ 5) ∧ r = some (vI 0))) := by
  show TT am_b178 (am_b178.getD 0 []) [(0, vI (v))] [] σ _
  refine tt_ar rfl ?_
  refine tt_ar rfl ?_
  refine tt_ar rfl ?_
  refine tt_cs3 3 rfl (c175 _ _ _ _) (kb (fun h0_3 => ?_) (fun h0_3 => ?_))
  · refine tt_zret (by omega) ?_
    exact ⟨rfl, Or.inl ⟨by omega, rfl⟩⟩
  · refine tt_zret (by omega) ?_
    exact ⟨rfl, Or.inr ⟨by omega, rfl⟩⟩

theorem c189 (σ : am_S) (v : Int) : CC 189 [vI (v)] σ (fun r σ' => σ' = σ ∧ ((0 ≤ v ∧ v ≤ 3) ∧ r = some (vI 1) ∨ ¬(0 ≤ v ∧ v ≤ 3) ∧ r = some (vI 0))) := by
  show TT am_b189 (am_b189.getD 0 []) [(0, vI (v))] [] σ _
  refine tt_ar rfl ?_
  refine tt_ar rfl ?_
  refine tt_ar rfl ?_
  refine tt_cs3 3 rfl (c175 _ _ _ _) (kb (fun h0_3 => ?_) (fun h0_3 => ?_))
  · refine tt_zret (by omega) ?_
    exact ⟨rfl, Or.inl ⟨by omega, rfl⟩⟩
  · refine tt_zret (by omega) ?_
    exact ⟨rfl, Or.inr ⟨by omega, rfl⟩⟩

theorem c203 (σ : am_S) (v : Int) : CC 203 [vI (v)] σ (fun r σ' => σ' = σ ∧ ((0 ≤ v ∧ v ≤ 7) ∧ r = some (vI 1) ∨ ¬(0 ≤ v ∧ v ≤ 7) ∧ r = some (vI 0))) := by
  show TT am_b203 (am_b203.getD 0 []) [(0, vI (v))] [] σ _
  refine tt_ar rfl ?_
  refine tt_ar rfl ?_
  refine tt_ar rfl ?_
  refine tt_cs3 3 rfl (c175 _ _ _ _) (kb (fun h0_3 => ?_) (fun h0_3 => ?_))
  · refine tt_zret (by omega) ?_
    exact ⟨rfl, Or.inl ⟨by omega, rfl⟩⟩
  · refine tt_zret (by omega) ?_
    exact ⟨rfl, Or.inr ⟨by omega, rfl⟩⟩

theorem c179 (σ : am_S) (f : Nat) (hW : Wd σ) (h1 : f < 6) : CC 179 [vR 76, vI (((f : Nat) : Int))] σ (fun r σ' => σ' = am_set (am_set σ 76 0 (f : Int)) 77 f (w32 (σ.1 77 f + 1)) ∧ r = some (vI (-3))) := by
  show TT am_b179 (am_b179.getD 0 []) [(0, vR 76), (1, vI (((f : Nat) : Int)))] [] σ _
  refine tt_ar rfl ?_
  refine tt_ar rfl ?_
  refine tt_putI (wo_76 hW) rfl ?_
  refine tt_ar rfl ?_
  refine tt_getR (wo_76 hW) rfl (wr_76_1 hW) ?_
  refine tt_ar rfl ?_
  refine tt_ar rfl ?_
  refine tt_iald (f) (x := σ.1 77 (f)) (wa_77 hW) rfl (by omega) rfl ?_
  refine tt_ar rfl ?_
  refine tt_ar rfl ?_
  refine tt_iast (f) (wa_77 hW) (by omega) rfl (by omega) ?_
  refine tt_ar rfl ?_
  refine tt_iret ?_
  exact ⟨rfl, rfl⟩

theorem c183 (σ : am_S) (x y : Int) (hW : Wd σ) : CC 183 [vR 76, vI (x), vI (y)] σ (fun r σ' => σ' = am_set σ 76 2 x ∧ r = some (vI y)) := by
  show TT am_b183 (am_b183.getD 0 []) [(0, vR 76), (1, vI (x)), (2, vI (y))] [] σ _
  refine tt_ar rfl ?_
  refine tt_ar rfl ?_
  refine tt_putI (wo_76 hW) rfl ?_
  refine tt_ar rfl ?_
  refine tt_iret ?_
  exact ⟨rfl, rfl⟩

theorem c181 (A σ : am_S) (k nm ns : Nat) (D : Nat → Nat → Int) (hA : CI k nm ns D A) (hW : Wd σ) (hR : RRb k nm ns D A σ) (u : Int) : CC 181 [vR 76, vI (u)] σ (fun r σ' => (¬ (0 ≤ u ∧ u ≤ 5) ∧ σ' = σ ∧ r = some (vI (-1))) ∨ (((0 ≤ u ∧ u ≤ 5) ∧ A.1 (56 + 2 * u.toNat) 1 < 0) ∧ σ' = am_set (am_set σ 76 0 ((1 : Nat) : Int)) 77 1 (w32 (σ.1 77 1 + 1)) ∧ r = some (vI (-3))) ∨ (((0 ≤ u ∧ u ≤ 5) ∧ 0 ≤ A.1 (56 + 2 * u.toNat) 1) ∧ σ' = σ ∧ r = some (vI 0))) := by
  show TT am_b181 (am_b181.getD 0 []) [(0, vR 76), (1, vI (u))] [] σ _
  refine tt_ar rfl ?_
  refine tt_cs1 1 rfl (c178 _ _) (kb (fun h0_1 => ?_) (fun h0_1 => ?_))
  · refine tt_ifneT (by decide) ?_
    obtain ⟨un, rfl⟩ : ∃ un : Nat, u = (un : Int) := ⟨u.toNat, by omega⟩
    have hsz := szR_c (A.1 (56 + 2 * un) 1)
    have h78 := (hR.rw un (by omega)).1
    refine tt_ar rfl ?_
    refine tt_getR (wo_76 hW) rfl (wr_76_6 hW) ?_
    refine tt_ar rfl ?_
    refine tt_iald (un) (x := σ.1 78 (un)) (wa_78 hW) rfl (by omega) rfl ?_
    refine tt_ifge (fun h1_4 => ?_) (fun h1_4 => ?_)
    · refine tt_ar rfl ?_
      refine tt_nop ?_
      refine tt_iret ?_
      exact Or.inr (Or.inr ⟨⟨by omega, (by omega : 0 ≤ A.1 (56 + 2 * un) 1)⟩, rfl, rfl⟩)
    · refine tt_ar rfl ?_
      refine tt_ar rfl ?_
      refine tt_cv2 2 rfl (wo_76 hW) (c179 σ 1 hW (by omega)) (ks ?_)
      refine tt_goto ?_
      refine tt_iret ?_
      exact Or.inr (Or.inl ⟨⟨by omega, (by omega : A.1 (56 + 2 * un) 1 < 0)⟩, rfl, rfl⟩)
  · refine tt_ifneF (by decide) ?_
    refine tt_ar rfl ?_
    refine tt_goto ?_
    refine tt_iret ?_
    exact Or.inl ⟨by omega, rfl, rfl⟩

theorem c191 (A σ : am_S) (k nm ns : Nat) (D : Nat → Nat → Int) (hA : CI k nm ns D A) (hW : Wd σ) (hR : RRb k nm ns D A σ) (u : Int) : CC 191 [vR 76, vI (u)] σ (fun r σ' => (¬ (0 ≤ u ∧ u ≤ 3) ∧ σ' = σ ∧ r = some (vI (-1))) ∨ (((0 ≤ u ∧ u ≤ 3) ∧ A.1 (68 + 2 * u.toNat) 1 < 0) ∧ σ' = am_set (am_set σ 76 0 ((1 : Nat) : Int)) 77 1 (w32 (σ.1 77 1 + 1)) ∧ r = some (vI (-3))) ∨ (((0 ≤ u ∧ u ≤ 3) ∧ 0 ≤ A.1 (68 + 2 * u.toNat) 1) ∧ σ' = σ ∧ r = some (vI 0))) := by
  show TT am_b191 (am_b191.getD 0 []) [(0, vR 76), (1, vI (u))] [] σ _
  refine tt_ar rfl ?_
  refine tt_cs1 1 rfl (c189 _ _) (kb (fun h0_1 => ?_) (fun h0_1 => ?_))
  · refine tt_ifneT (by decide) ?_
    obtain ⟨un, rfl⟩ : ∃ un : Nat, u = (un : Int) := ⟨u.toNat, by omega⟩
    have hsz := szR_c (A.1 (68 + 2 * un) 1)
    have h78 := (hR.tx un (by omega)).1
    refine tt_ar rfl ?_
    refine tt_getR (wo_76 hW) rfl (wr_76_9 hW) ?_
    refine tt_ar rfl ?_
    refine tt_iald (un) (x := σ.1 81 (un)) (wa_81 hW) rfl (by omega) rfl ?_
    refine tt_ifge (fun h1_4 => ?_) (fun h1_4 => ?_)
    · refine tt_ar rfl ?_
      refine tt_nop ?_
      refine tt_iret ?_
      exact Or.inr (Or.inr ⟨⟨by omega, (by omega : 0 ≤ A.1 (68 + 2 * un) 1)⟩, rfl, rfl⟩)
    · refine tt_ar rfl ?_
      refine tt_ar rfl ?_
      refine tt_cv2 2 rfl (wo_76 hW) (c179 σ 1 hW (by omega)) (ks ?_)
      refine tt_goto ?_
      refine tt_iret ?_
      exact Or.inr (Or.inl ⟨⟨by omega, (by omega : A.1 (68 + 2 * un) 1 < 0)⟩, rfl, rfl⟩)
  · refine tt_ifneF (by decide) ?_
    refine tt_ar rfl ?_
    refine tt_goto ?_
    refine tt_iret ?_
    exact Or.inl ⟨by omega, rfl, rfl⟩

theorem c182 (A σ : am_S) (k nm ns : Nat) (D : Nat → Nat → Int) (hA : CI k nm ns D A) (hW : Wd σ) (hR : RRb k nm ns D A σ) (u i : Nat) (hu : u < 6) (hi : i < 40) : CC 182 [vR 76, vI (((u : Nat) : Int)), vI (((i : Nat) : Int))] σ (fun r σ' => r = some (vI (A.1 (57 + 2 * u) i)) ∧ σ' = σ) := by
  show TT am_b182 (am_b182.getD 0 []) [(0, vR 76), (1, vI (((u : Nat) : Int))), (2, vI (((i : Nat) : Int)))] [] σ _
  refine tt_ar rfl ?_
  refine tt_getR (wo_76 hW) rfl (wr_76_7 hW) ?_
  refine tt_ar rfl ?_
  refine tt_ar rfl ?_
  refine tt_imul (by omega) (by omega) ?_
  refine tt_ar rfl ?_
  refine tt_iadd (by omega) (by omega) ?_
  refine tt_iald (((40 * u) + i)) (x := σ.1 79 (((40 * u) + i))) (wa_79 hW) (by omega) (by omega) rfl ?_
  refine tt_iret ?_
  exact ⟨rv ((hR.rw u hu).2 i hi), rfl⟩

