/-! THE CLASS'S CALLS, AS THE LAW MAKES THEM -/
/-- as at A: world, households, Mondays, the law's rows -/
def LZ (k mm : Nat) (D : Nat → Nat → Int) (A σ : am_S) : Prop := CI k mm 0 D σ ∧ LF [] A σ ∧ σ.1 27 0 = A.1 27 0 ∧ ∀ a, 28 ≤ a → a ≤ 30 → ∀ j, σ.1 a j = A.1 a j
/-- the first rows kept -/
def RK (σ σ' : am_S) : Prop := ∀ a j, 56 ≤ a → a ≤ 59 → (a % 2 = 1 ∨ j = 1) → σ'.1 a j = σ.1 a j
theorem RK.tr {σ σ' σ'' : am_S} (h : RK σ σ') (h2 : RK σ' σ'') : RK σ σ'' := fun a j h1 h3 q => (h2 a j h1 h3 q).trans (h a j h1 h3 q)
section LSS
variable {k mm : Nat} {D : Nat → Nat → Int} {A σ : am_S}
theorem ls_of {σ' : am_S} {c : am_V × am_S} {r : Option am_V} (hS : LZ k mm D A σ) (h : PKc k mm 0 D σ c r σ') (hc : ∀ a j, 27 ≤ a ∧ a ≤ 30 → c.2.1 a j = σ.1 a j) : LZ k mm D A σ' :=
  ⟨h.1, hS.2.1.tr (LF.qc h.2.2.2), (h.2.2.1 27 0 (by unfold bcP; omega)).trans ((hc 27 0 (by omega)).trans hS.2.2.1), fun a h1 h2 j => (h.2.2.1 a j (by unfold bcP; omega)).trans ((hc a j (by omega)).trans (hS.2.2.2 a h1 h2 j))⟩
theorem rk_of {σ' : am_S} {c : am_V × am_S} {r : Option am_V} (h : PKc k mm 0 D σ c r σ') (hc : ∀ a j, 56 ≤ a ∧ a ≤ 59 → c.2.1 a j = σ.1 a j) : RK σ σ' := fun a j h1 h2 q => (h.2.2.1 a j (by unfold bcP; omega)).trans (hc a j ⟨h1, h2⟩)
theorem upA_nb {x : Int} {a j : Nat} (h : a ≠ 2) : (upA x σ).1 a j = σ.1 a j := am_set_nb h
theorem upA_12 {x : Int} : (upA x σ).1 2 12 = x := am_set_rd
theorem LZ.eq (hS : LZ k mm D A σ) (a : Nat) (ha : (5 ≤ a ∧ a ≤ 9) ∨ (18 ≤ a ∧ a ≤ 26) ∨ (28 ≤ a ∧ a ≤ 30)) : σ.1 a = A.1 a := by
  funext j
  rcases ha with q | q | q
  · exact hS.2.1.2.2 a (Or.inr (Or.inl q)) j
  · exact hS.2.1.2.2 a (Or.inr (Or.inr (Or.inl q))) j
  · exact hS.2.2.2 a q.1 q.2 j
theorem LZ.hk (hS : LZ k mm D A σ) : k ≤ 6 := hS.1.x.1.2.1
theorem LZ.cex (hS : LZ k mm D A σ) (m h : Nat) : cEx σ k m h = cEx A k m h := cEx_eq (hS.eq 5 (by omega)) (hS.eq 7 (by omega)) (hS.eq 8 (by omega)) (hS.eq 21 (by omega)) (hS.eq 25 (by omega)) (hS.eq 26 (by omega)) (hS.eq 28 (by omega)) (hS.eq 29 (by omega)) (hS.eq 30 (by omega))
theorem LZ.exq (hS : LZ k mm D A σ) : exA k σ = exA k A := by
  funext m h
  unfold exA cPr
  rw [hS.cex, hS.eq 9 (by omega)]
theorem w92 (hS : LZ k mm D A σ) {i j : Nat} (hi : i < nkT k) (hj : j < nkT k) {u v : Int} (hu : u = (tb k i : Int)) (hv : v = (tb k j : Int)) : CC 92 [vR 2, vI u, vI v] σ (fun r σ' => LZ k mm D A σ' ∧ RK σ σ' ∧ r = some (vI (D i j))) := by
  refine CC.imp (c92 σ k mm 0 D hS.1 u v) (fun r σ' h => ?_)
  have e : x_step k D σ u v = (vI (D i j), σ) := by
    unfold x_step
    rw [ix_of hS.hk hi hu.symm, ix_of hS.hk hj hv.symm, if_pos ⟨by omega, by omega⟩]
    rfl
  rw [e] at h
  exact ⟨ls_of hS h (fun _ _ _ => rfl), rk_of h (fun _ _ _ => rfl), h.2.1⟩
theorem w73 (hS : LZ k mm D A σ) {m h : Nat} (hm : m < mm) (hh : h < nkT k) {u v : Int} (hu : u = (m : Int)) (hv : v = (tb k h : Int)) : CC 73 [vR 2, vI u, vI v] σ (fun r σ' => LZ k mm D A σ' ∧ RK σ σ' ∧ ((cEx A k m h = -9 ∧ r = some (vI (-9))) ∨ (¬ cEx A k m h = -9 ∧ r = some (vI (prOf (A.1 9) (cEx A k m h))) ∧ σ'.1 2 12 = cEx A k m h))) := by
  refine CC.imp (c73 σ k mm 0 D hS.1 u v) (fun r σ' q => ?_)
  have h27 := hS.1.x.2.2.1.1
  subst hu
  unfold x_explains at q
  rw [ix_of hS.hk hh hv.symm, if_pos ⟨by omega, by omega, by omega⟩, Int.toNat_natCast, Int.toNat_natCast, hS.cex, hS.eq 9 (by omega)] at q
  by_cases e : cEx A k m h = -9
  · rw [if_pos e] at q
    exact ⟨ls_of hS q (fun _ _ _ => rfl), rk_of q (fun _ _ _ => rfl), Or.inl ⟨e, q.2.1⟩⟩
  · rw [if_neg e] at q
    exact ⟨ls_of hS q (fun a j b => upA_nb (by omega)), rk_of q (fun a j b => upA_nb (by omega)), Or.inr ⟨e, q.2.1, (q.2.2.1 2 12 (Or.inl rfl)).trans upA_12⟩⟩
theorem w82 (hS : LZ k mm D A σ) {m h : Nat} (hm : m < mm) (hh : h < nkT k) {u v : Int} (hu : u = (m : Int)) (hv : v = (tb k h : Int)) : CC 82 [vR 2, vI u, vI v] σ (fun r σ' => LZ k mm D A σ' ∧ RK σ σ' ∧ r = some (vI (cTl A m h)) ∧ σ'.1 2 12 = cTm A m h) := by
  refine CC.imp (c82 σ k mm 0 D hS.1 u v) (fun r σ' q => ?_)
  have h27 := hS.1.x.2.2.1.1
  subst hu
  have e1 : cTl σ m h = cTl A m h := by
    unfold cTl
    rw [hS.eq 30 (by omega), hS.eq 29 (by omega), hS.eq 5 (by omega), hS.eq 28 (by omega), hS.eq 25 (by omega)]
  have e2 : cTm σ m h = cTm A m h := by
    unfold cTm
    rw [hS.eq 30 (by omega), hS.eq 29 (by omega), hS.eq 26 (by omega)]
  unfold x_lacks at q
  rw [ix_of hS.hk hh hv.symm, if_pos ⟨by omega, by omega, by omega⟩, Int.toNat_natCast, Int.toNat_natCast, e1, e2] at q
  exact ⟨ls_of hS q (fun a j b => upA_nb (by omega)), rk_of q (fun a j b => upA_nb (by omega)), q.2.1, (q.2.2.1 2 12 (Or.inl rfl)).trans upA_12⟩
theorem w158 (hS : LZ k mm D A σ) : CC 158 [vR 2] σ (fun r σ' => LZ k mm D A σ' ∧ RK σ σ' ∧ (∀ j, σ'.1 2 j = σ.1 2 j) ∧ r = some (vI (σ.1 2 12))) := by
  refine CC.imp (c158 σ k mm 0 D hS.1) (fun r σ' q => ?_)
  exact ⟨ls_of hS q (fun _ _ _ => rfl), rk_of q (fun _ _ _ => rfl), fun j => q.2.2.1 2 j (Or.inl rfl), q.2.1⟩
theorem w159 (hS : LZ k mm D A σ) : CC 159 [vR 2] σ (fun r σ' => LZ k mm D A σ' ∧ RK σ σ' ∧ (∀ j, σ'.1 2 j = σ.1 2 j) ∧ r = some (vL (σ.1 2 13))) := by
  refine CC.imp (c159 σ k mm 0 D hS.1) (fun r σ' q => ?_)
  exact ⟨ls_of hS q (fun _ _ _ => rfl), rk_of q (fun _ _ _ => rfl), fun j => q.2.2.1 2 j (Or.inl rfl), q.2.1⟩
theorem w160 (hS : LZ k mm D A σ) : CC 160 [vR 2] σ (fun r σ' => LZ k mm D A σ' ∧ RK σ σ' ∧ (∀ j, σ'.1 2 j = σ.1 2 j) ∧ r = some (vL (σ.1 2 14))) := by
  refine CC.imp (c160 σ k mm 0 D hS.1) (fun r σ' q => ?_)
  exact ⟨ls_of hS q (fun _ _ _ => rfl), rk_of q (fun _ _ _ => rfl), fun j => q.2.2.1 2 j (Or.inl rfl), q.2.1⟩
theorem w161 (hS : LZ k mm D A σ) : CC 161 [vR 2] σ (fun r σ' => LZ k mm D A σ' ∧ RK σ σ' ∧ (∀ j, σ'.1 2 j = σ.1 2 j) ∧ r = some (vL (σ.1 2 15))) := by
  refine CC.imp (c161 σ k mm 0 D hS.1) (fun r σ' q => ?_)
  exact ⟨ls_of hS q (fun _ _ _ => rfl), rk_of q (fun _ _ _ => rfl), fun j => q.2.2.1 2 j (Or.inl rfl), q.2.1⟩
theorem w59 (hS : LZ k mm D A σ) : CC 59 [vR 2] σ (fun r σ' => LZ k mm D A σ' ∧ RK σ σ' ∧ (∀ j, σ'.1 2 j = σ.1 2 j) ∧ r = some (vI (A.1 5 4))) := by
  refine CC.imp (c59 σ k mm 0 D hS.1) (fun r σ' q => ?_)
  refine ⟨ls_of hS q (fun _ _ _ => rfl), rk_of q (fun _ _ _ => rfl), fun j => q.2.2.1 2 j (Or.inl rfl), ?_⟩
  rw [← hS.eq 5 (by omega)]
  exact q.2.1
theorem w70 (hS : LZ k mm D A σ) {h x : Nat} (hh : h < nkT k) (hx : x < 8) {u w y : Int} (hu : u = (tb k h : Int)) (hw : 0 ≤ w ∧ w ≤ 1) (hy : y = (x : Int)) : CC 70 [vR 2, vI u, vI w, vI y] σ (fun r σ' => LZ k mm D A σ' ∧ RK σ σ' ∧ r = some (vI (if isIn (A.1 5 4) w (x : Int) then 0 else A.1 25 (h * 8 + x))) ∧ σ'.1 2 12 = A.1 26 (h * 8 + x)) := by
  refine CC.imp (c70 σ k mm 0 D hS.1 u w y) (fun r σ' q => ?_)
  subst hy
  have e : x_hangs k σ u w (x : Int) = (vI (if isIn (A.1 5 4) w (x : Int) then 0 else A.1 25 (h * 8 + x)), upA (A.1 26 (h * 8 + x)) σ) := by
    unfold x_hangs loF hiF
    rw [ix_of hS.hk hh hu.symm, if_pos ⟨by omega, hw, by omega, by omega⟩, Int.toNat_natCast, Int.toNat_natCast, hS.eq 5 (by omega), hS.eq 25 (by omega), hS.eq 26 (by omega)]
  rw [e] at q
  exact ⟨ls_of hS q (fun a j b => upA_nb (by omega)), rk_of q (fun a j b => upA_nb (by omega)), q.2.1, (q.2.2.1 2 12 (Or.inl rfl)).trans upA_12⟩
theorem w85 (hS : LZ k mm D A σ) {m : Nat} (hm : m < mm) {u : Int} (hu : u = (m : Int)) : CC 85 [vR 2, vI u] σ (fun r σ' => LZ k mm D A σ' ∧ RK σ σ' ∧ ((cSm A m (nkT k) < 0 ∧ r = some (vI (-9))) ∨ ∃ s, s < nkT k ∧ cAg A m s 0 0 0 ∧ r = some (vI ((dsN 6 (tb k s) : Nat) : Int)) ∧ σ'.1 2 12 = (tb k s : Int))) := by
  refine CC.imp (c85 σ k mm 0 D hS.1 u) (fun r σ' q => ?_)
  subst hu
  have h27 := hS.1.x.2.2.1.1
  have e1 : cSm σ m (nkT k) = cSm A m (nkT k) := by
    unfold cSm
    rw [hS.eq 20 (by omega)]
    refine congrArg (fun p => smN (A.1 20) p (nkT k)) (funext fun h => decide_eq_decide.mpr ?_)
    rw [ag_0, ag_0, hS.eq 30 (by omega), hS.eq 29 (by omega), hS.eq 5 (by omega), hS.eq 28 (by omega), hS.eq 25 (by omega), hS.eq 26 (by omega)]
  unfold x_fewest at q
  rw [if_pos ⟨by omega, by omega⟩, Int.toNat_natCast, e1] at q
  by_cases c : cSm A m (nkT k) < 0
  · rw [if_pos c] at q
    exact ⟨ls_of hS q (fun _ _ _ => rfl), rk_of q (fun _ _ _ => rfl), Or.inl ⟨c, q.2.1⟩⟩
  · rw [if_neg c] at q
    obtain ⟨s, s1, s2, s3⟩ := sm_ok (all := A.1 20) (p := fun h => decide (cAg A m h 0 0 0)) (n := nkT k) (by unfold cSm at c; omega)
    have s1 : cSm A m (nkT k) = (s : Int) := s1
    rw [s1, Int.toNat_natCast] at q
    obtain ⟨n1, n2, -⟩ := hS.1.x.2.1.2.1 s s2
    rw [n1, n2] at q
    exact ⟨ls_of hS q (fun a j b => upA_nb (by omega)), rk_of q (fun a j b => upA_nb (by omega)), Or.inr ⟨s, s2, of_decide_eq_true s3, q.2.1, (q.2.2.1 2 12 (Or.inl rfl)).trans upA_12⟩⟩
theorem w87 (hS : LZ k mm D A σ) {m : Nat} (hm : m < mm) {u : Int} (hu : u = (m : Int)) : CC 87 [vR 2, vI u] σ (fun r σ' => LZ k mm D A σ' ∧ RK σ σ' ∧ r = some (vI ((cPb A k m 8).getD (-9)))) := by
  refine CC.imp (c87 σ k mm 0 D hS.1 u) (fun r σ' q => ?_)
  subst hu
  have h27 := hS.1.x.2.2.1.1
  have e1 : cPb σ k m = cPb A k m := by
    unfold cPb cMo
    rw [hS.eq 30 (by omega), hS.eq 29 (by omega), hS.eq 8 (by omega)]
  unfold x_bound at q
  rw [if_pos ⟨by omega, by omega⟩, Int.toNat_natCast, e1] at q
  exact ⟨ls_of hS q (fun _ _ _ => rfl), rk_of q (fun _ _ _ => rfl), q.2.1⟩
theorem w90 (hS : LZ k mm D A σ) {m : Nat} (hm : m < mm) {u y : Int} (hu : u = (m : Int)) (hy : 0 ≤ y ∧ y ≤ 9) : CC 90 [vR 2, vI u, vI y] σ (fun r σ' => LZ k mm D A σ' ∧ RK σ σ' ∧ r = some (vI (cCnt A k m y (nkT k)))) := by
  refine CC.imp (c90 σ k mm 0 D hS.1 u y) (fun r σ' q => ?_)
  subst hu
  have h27 := hS.1.x.2.2.1.1
  have e1 : cCnt σ k m y (nkT k) = cCnt A k m y (nkT k) := sumN_congr (fun h _ => by rw [hS.cex, hS.eq 9 (by omega)])
  unfold x_many at q
  rw [if_pos ⟨⟨by omega, by omega⟩, hy⟩, Int.toNat_natCast, e1] at q
  exact ⟨ls_of hS q (fun _ _ _ => rfl), rk_of q (fun _ _ _ => rfl), q.2.1⟩
/-- the cost of plain tales -/
def BS (k mm : Nat) (D : Nat → Nat → Int) (A : am_S) : Int := bsN 1000000 (nkT k) mm D (exA k A)
theorem w101 (hS : LZ k mm D A σ) : CC 101 [vR 2] σ (fun r σ' => LZ k mm D A σ' ∧ RK σ σ' ∧ r = some (vI (if BS k mm D A < 1000000 then BS k mm D A else -9))) := by
  refine CC.imp (c101 σ k mm 0 D hS.1) (fun r σ' q => ?_)
  have e : x_plain k mm D σ = (vI (if BS k mm D A < 1000000 then BS k mm D A else -9), σ) := by
    unfold x_plain BS
    rw [hS.exq]
    split <;> rfl
  rw [e] at q
  exact ⟨ls_of hS q (fun _ _ _ => rfl), rk_of q (fun _ _ _ => rfl), q.2.1⟩
def FR (k mm : Nat) (D : Nat → Nat → Int) (A : am_S) (m : Nat) : Nat := frM 1000000 (nkT k) mm D (exA k A) m
/-- the first tale in row 1 -/
def R1 (k mm : Nat) (D : Nat → Nat → Int) (A σ : am_S) : Prop := σ.1 58 1 = (mm : Int) ∧ ∀ j, j < mm → σ.1 59 j = (tb k (FR k mm D A j) : Int)
theorem R1.rk {σ' : am_S} (h : R1 k mm D A σ) (hR : RK σ σ') : R1 k mm D A σ' := ⟨(hR 58 1 (by omega) (by omega) (by omega)).trans h.1, fun j hj => (hR 59 j (by omega) (by omega) (by omega)).trans (h.2 j hj)⟩
theorem upF_nb {f a j : Nat} (h : a ≠ 2 ∧ a ≠ 55) : (upF f σ).1 a j = σ.1 a j := (am_set_nb h.2).trans (am_set_nb h.1)
theorem w114 (hS : LZ k mm D A σ) (h12 : mm ≤ 12) : CC 114 [vR 2, vI 1] σ (fun r σ' => LZ k mm D A σ' ∧ ((BS k mm D A < 1000000 ∧ r = some (vI (mm : Int)) ∧ R1 k mm D A σ') ∨ (¬ BS k mm D A < 1000000 ∧ r = some (vI (-3))))) := by
  refine CC.imp (c114 σ k mm 0 D hS.1 1) (fun r σ' q => ?_)
  unfold x_tale at q
  rw [if_pos (by omega), hS.exq] at q
  by_cases c : BS k mm D A < 1000000
  · rw [if_pos (show bsN 1000000 (nkT k) mm D (exA k A) < 1000000 from c)] at q
    refine ⟨ls_of hS q (fun a j b => ?_), Or.inl ⟨c, q.2.1, (q.2.2.1 58 1 (by unfold bcP; omega)).trans (upS_1 (s := 58)), fun j hj => (q.2.2.1 59 j (by unfold bcP; omega)).trans ((upS_n (s := 58) (show j < 40 by omega)).trans (if_pos hj))⟩⟩
    show (if a = 58 ∧ j = 1 then _ else if a = 58 + 1 ∧ j < 40 then _ else σ.1 a j) = σ.1 a j
    rw [if_neg (by omega), if_neg (by omega)]
  · rw [if_neg (show ¬ bsN 1000000 (nkT k) mm D (exA k A) < 1000000 from c)] at q
    exact ⟨ls_of hS q (fun a j b => upF_nb (by omega)), Or.inr ⟨c, q.2.1⟩⟩
theorem w31 (hS : LZ k mm D A σ) (hR : R1 k mm D A σ) {m : Nat} (hm : m < mm) {u : Int} (hu : u = (m : Int)) : CC 31 [vR 2, vI 1, vI u] σ (fun r σ' => LZ k mm D A σ' ∧ RK σ σ' ∧ r = some (vI 1) ∧ σ'.1 2 12 = (tb k (FR k mm D A m) : Int)) := by
  refine CC.imp (c31 σ k mm 0 D hS.1 1 u) (fun r σ' q => ?_)
  subst hu
  have e : x_at σ 1 (m : Int) = (vI 1, upA (tb k (FR k mm D A m) : Int) σ) := by
    unfold x_at
    have h1 := hR.1
    rw [if_pos (by omega), if_neg (show ¬ σ.1 (56 + 2 * Int.toNat 1) 1 < 0 from by show ¬ σ.1 58 1 < 0; omega), if_pos (show 0 ≤ (m : Int) ∧ (m : Int) < σ.1 (56 + 2 * Int.toNat 1) 1 from by show 0 ≤ (m : Int) ∧ (m : Int) < σ.1 58 1; omega)]
    show (vI 1, upA (σ.1 59 (Int.toNat (m : Int))) σ) = _
    rw [Int.toNat_natCast, hR.2 m hm]
  rw [e] at q
  exact ⟨ls_of hS q (fun a j b => upA_nb (by omega)), rk_of q (fun a j b => upA_nb (by omega)), q.2.1, (q.2.2.1 2 12 (Or.inl rfl)).trans upA_12⟩
def CT (k mm : Nat) (D : Nat → Nat → Int) (A : am_S) (m h : Nat) : Int := ctM 1000000 (nkT k) mm D (exA k A) m h
theorem w127 (hS : LZ k mm D A σ) (ht : BS k mm D A < 1000000) {m h : Nat} (hm : m < mm) (hh : h < nkT k) {u v : Int} (hu : u = (m : Int)) (hv : v = (tb k h : Int)) (hc : CT k mm D A m h < 1000000) : CC 127 [vR 2, vI u, vI v] σ (fun r σ' => LZ k mm D A σ' ∧ RK σ σ' ∧ r = some (vI (CT k mm D A m h))) := by
  refine CC.imp (c127 σ k mm 0 D hS.1 u v) (fun r σ' q => ?_)
  subst hu
  have h27 := hS.1.x.2.2.1.1
  unfold x_through at q
  rw [ix_of hS.hk hh hv.symm, if_pos ⟨by omega, by omega, by omega⟩, Int.toNat_natCast, Int.toNat_natCast, hS.exq, if_pos (show bsN 1000000 (nkT k) mm D (exA k A) < 1000000 from ht), if_pos (show ctM 1000000 (nkT k) mm D (exA k A) m h < 1000000 from hc)] at q
  exact ⟨ls_of hS q (fun _ _ _ => rfl), rk_of q (fun _ _ _ => rfl), q.2.1⟩
theorem w128 (hS : LZ k mm D A σ) (ht : BS k mm D A < 1000000) {m : Nat} (hm : m < mm) {u : Int} (hu : u = (m : Int)) : CC 128 [vR 2, vI u] σ (fun r σ' => LZ k mm D A σ' ∧ RK σ σ' ∧ (r = some (vI (-9)) ∨ ∃ h, h < nkT k ∧ h ≠ FR k mm D A m ∧ CT k mm D A m h < 1000000 ∧ r = some (vI (CT k mm D A m h)) ∧ σ'.1 2 12 = (tb k h : Int))) := by
  refine CC.imp (c128 σ k mm 0 D hS.1 u) (fun r σ' q => ?_)
  subst hu
  have h27 := hS.1.x.2.2.1.1
  unfold x_rival rvA at q
  rw [if_pos ⟨by omega, by omega⟩, Int.toNat_natCast, hS.exq, if_pos (show bsN 1000000 (nkT k) mm D (exA k A) < 1000000 from ht)] at q
  rcases rv_is (F := 1000000) (sk := frM 1000000 (nkT k) mm D (exA k A) m) (f := ctM 1000000 (nkT k) mm D (exA k A) m) (nkT k) with ⟨e1, e2⟩ | ⟨h, h1, h2, h3, h4⟩
  · rw [e1, if_pos (by omega)] at q
    exact ⟨ls_of hS q (fun _ _ _ => rfl), rk_of q (fun _ _ _ => rfl), Or.inl q.2.1⟩
  · have hne := rvI_ne _ h2
    rw [h2, if_neg (by omega), Int.toNat_natCast] at q
    exact ⟨ls_of hS q (fun a j b => upA_nb (by omega)), rk_of q (fun a j b => upA_nb (by omega)), Or.inr ⟨h, h1, hne, h4, q.2.1, (q.2.2.1 2 12 (Or.inl rfl)).trans upA_12⟩⟩
def TA (k mm : Nat) (D : Nat → Nat → Int) (A : am_S) : Int := wyM 1000000 (nkT k) mm D (exA k A)
theorem w115 (hS : LZ k mm D A σ) : CC 115 [vR 2] σ (fun r σ' => LZ k mm D A σ' ∧ RK σ σ' ∧ ∃ z : Int, r = some (vI z) ∧ (BS k mm D A < 1000000 → z = 1 → TA k mm D A ≤ 1000000000000000 ∧ σ'.1 2 13 = TA k mm D A)) := by
  refine CC.imp (c115 σ k mm 0 D hS.1) (fun r σ' q => ?_)
  have e1 : tlA k mm D σ = tlA k mm D A := by
    unfold tlA
    rw [hS.exq]
  unfold x_ways at q
  rw [e1] at q
  by_cases c : 1000000000000000 < tlA k mm D A
  · rw [if_pos c] at q
    exact ⟨ls_of hS q (fun _ _ _ => rfl), rk_of q (fun _ _ _ => rfl), -6, q.2.1, fun _ e => absurd e (by omega)⟩
  · rw [if_neg c] at q
    refine ⟨ls_of hS q (fun a j b => am_set_nb (by omega)), rk_of q (fun a j b => am_set_nb (by omega)), _, q.2.1, fun ht _ => ?_⟩
    have e2 : tlA k mm D A = cpM 1000000000000001 (TA k mm D A) := if_pos ht
    have e3 := (q.2.2.1 2 13 (Or.inl rfl)).trans am_set_rd
    rw [e2] at c e3
    unfold cpM at c e3
    split at e3
    · rename_i z
      rw [if_pos z] at c
      omega
    · rename_i z
      exact ⟨by omega, e3⟩
theorem w120 (hS : LZ k mm D A σ) (ht : BS k mm D A < 1000000) {m s : Nat} (hm : m < mm) (hs : s < k) {u v : Int} (hu : u = (m : Int)) (hv : v = (s : Int)) : CC 120 [vR 2, vI u, vI v] σ (fun r σ' => LZ k mm D A σ' ∧ RK σ σ' ∧ r = some (vI (foQ mnS 5 (plM 1000000 (nkT k) mm D (exA k A) m) (nkT k) (fun h => ((dg (tb k h) s : Nat) : Int)))) ∧ σ'.1 2 12 = foQ mxS 0 (plM 1000000 (nkT k) mm D (exA k A) m) (nkT k) (fun h => ((dg (tb k h) s : Nat) : Int)) ∧ σ'.1 2 13 = σ.1 2 13) := by
  refine CC.imp (c120 σ k mm 0 D hS.1 u v) (fun r σ' q => ?_)
  subst hu
  subst hv
  have h27 := hS.1.x.2.2.1.1
  have h5 := hS.1.x.1.1
  unfold x_sure at q
  rw [if_pos ⟨⟨by omega, by omega⟩, by omega, by omega⟩, Int.toNat_natCast, Int.toNat_natCast, hS.exq, if_pos (show bsN 1000000 (nkT k) mm D (exA k A) < 1000000 from ht)] at q
  exact ⟨ls_of hS q (fun a j b => upA_nb (by omega)), rk_of q (fun a j b => upA_nb (by omega)), q.2.1, (q.2.2.1 2 12 (Or.inl rfl)).trans upA_12, (q.2.2.1 2 13 (Or.inl rfl)).trans (am_set_ne (by omega))⟩
def HV (k mm : Nat) (D : Nat → Nat → Int) (A : am_S) (m s v : Nat) : Int := hvM k mm m s D (exA k A) (v : Int)
theorem w123 (hS : LZ k mm D A σ) (ht : BS k mm D A < 1000000) (hT : TA k mm D A ≤ 1000000000000000) {m s v : Nat} (hm : m < mm) (hs : s < k) (hv : v ≤ 5) {u y w : Int} (hu : u = (m : Int)) (hy : y = (s : Int)) (hw : w = (v : Int)) : CC 123 [vR 2, vI u, vI y, vI w] σ (fun r σ' => LZ k mm D A σ' ∧ RK σ σ' ∧ r = some (vI 1) ∧ σ'.1 2 14 = (((HV k mm D A m s v).toNat / Nat.gcd (HV k mm D A m s v).toNat (TA k mm D A).toNat : Nat) : Int) ∧ σ'.1 2 15 = (((TA k mm D A).toNat / Nat.gcd (HV k mm D A m s v).toNat (TA k mm D A).toNat : Nat) : Int)) := by
  refine CC.imp (c123 σ k mm 0 D hS.1 u y w) (fun r σ' q => ?_)
  subst hu
  subst hy
  subst hw
  have h27 := hS.1.x.2.2.1.1
  have h5 := hS.1.x.1.1
  have e2 : tlA k mm D σ = TA k mm D A := by
    unfold tlA
    rw [hS.exq]
    refine (if_pos ht).trans ?_
    unfold cpM
    exact if_neg (by show ¬ _ < TA k mm D A; omega)
  unfold x_share at q
  rw [if_pos ⟨⟨by omega, by omega⟩, ⟨by omega, by omega⟩, by omega, by omega⟩, e2, Int.toNat_natCast, Int.toNat_natCast, hS.exq, if_pos (show bsN 1000000 (nkT k) mm D (exA k A) < 1000000 from ht), if_neg (by omega)] at q
  have g : ∀ a j, a ≠ 2 → (upG (hvM k mm m s D (exA k A) (v : Int)) (wyM 1000000 (nkT k) mm D (exA k A)) σ).1 a j = σ.1 a j := fun a j h => (am_set_nb h).trans (am_set_nb h)
  exact ⟨ls_of hS q (fun a j b => g a j (by omega)), rk_of q (fun a j b => g a j (by omega)), q.2.1, (q.2.2.1 2 14 (Or.inl rfl)).trans ((am_set_ne (by omega)).trans am_set_rd), (q.2.2.1 2 15 (Or.inl rfl)).trans am_set_rd⟩
end LSS
