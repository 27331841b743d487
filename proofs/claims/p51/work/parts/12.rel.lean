/-! THE TWO MACHINES' CELLS -/
def am_wv : Nat → Int32 := fun j => ([1, 10, 100, 1000, 10000, 100000] : List Int32).getD j 0
def am_okt (ty : FieldType) : Prop := ty = .int ∨ ty = .long ∨ ty = .byte ∨ ty = .boolean ∨ ty = am_strip
def am_ce (z w b : Nat) (D : va_G) (σ : am_S) (U : State) (H : Heap) (a : Nat) (q : am_Ly) : Prop := match q with
  | (.inl ty, n) => am_okt ty ∧ (∃ cA, H[am_ad z w b a]? = some (arrV cA n (fun j => am_tv z w b (am_gv ty a j σ))) ∧ ArrOfT U cA ty ∧ va_RA U cA ty) ∧ ∀ j, j < n → am_rg (am_gv ty a j σ)
  | (.inr c, _) => c < 11 ∧ t_OB (am_ad z w b a) (D.1 c) (am_cN c) (D.2 c) H (fun k => am_tv z w b (am_gv (am_fty c k) a k σ)) ∧ ∀ k, k < am_cN c → am_rg (am_gv (am_fty c k) a k σ)
def am_HR (z w b L : Nat) (xs : Nat → Int32) (D : va_G) (σ : am_S) (U : State) (H : Heap) : Prop :=
  H.size + 2 = z + σ.2.2.1.length ∧ 2 ≤ σ.2.2.1.length ∧ σ.2.2.1[0]? = some (.inl .int, 6) ∧ σ.2.2.1[1]? = some (.inl .int, L) ∧ (∀ j, σ.1 0 j = (am_wv j).toInt) ∧ (∀ j, σ.1 1 j = (xs j).toInt) ∧ ∀ (a : Nat) (q : am_Ly), 2 ≤ a → σ.2.2.1[a]? = some q → am_ce z w b D σ U H a q
/-- what stays as it is all the time -/
def am_FX (z w b L : Nat) (xs : Nat → Int32) (D : va_G) (U : State) : Prop :=
  va_K D am_cl [] U ∧ va_Z "WashLine" "WORTHS" "[I" (.ref w) (fun q => z ≤ q) U U.heap ∧ va_T .int w 6 (fun j => Value.int (am_wv j)) (fun q => z ≤ q) U U.heap ∧ va_X b L xs U U.heap ∧ (w < z ∧ b < z ∧ z ≤ U.heap.size) ∧ (∀ e ∈ am_NG, va_Nw (.fieldLinkNest (am_cn e.1) e.2 "WashLine" "WORTHS" "[I" "WashLine") U) ∧ (∀ e ∈ am_NM, va_Nw (.methodLinkNest (am_cn e.1) e.2.1 (am_meths.getD e.2.2 am_m0).1 "WashLine") U) ∧ va_AO "WashLine$Strip" U
theorem am_ad2 {z w b a : Nat} (h : 2 ≤ a) : am_ad z w b a = z + (a - 2) := by
  unfold am_ad
  rw [if_neg (by omega), if_neg (by omega)]
theorem am_ad_ne {z w b a c : Nat} (ha : 2 ≤ a) (hc : 2 ≤ c) (h : a ≠ c) : am_ad z w b a ≠ am_ad z w b c := by
  rw [am_ad2 ha, am_ad2 hc]
  omega
theorem am_gv_eq {ty : FieldType} {a k : Nat} {σ σ' : am_S} (h : σ'.1 a k = σ.1 a k) (h2 : σ'.2.1 a k = σ.2.1 a k) : am_gv ty a k σ' = am_gv ty a k σ := by
  unfold am_gv
  rw [h, h2]
theorem am_ce_keep {z w b : Nat} {D : va_G} {σ σ' : am_S} {U : State} {H H1 : Heap} {a : Nat} {q : am_Ly} (h : ∀ j, σ'.1 a j = σ.1 a j ∧ σ'.2.1 a j = σ.2.1 a j) (hH : H1[am_ad z w b a]? = H[am_ad z w b a]?) (hc : am_ce z w b D σ U H a q) : am_ce z w b D σ' U H1 a q := by
  obtain ⟨t | c, n⟩ := q
  · obtain ⟨h1, ⟨cA, h2, h3, h4⟩, h5⟩ := hc
    refine ⟨h1, ⟨cA, ?_, h3, h4⟩, fun j hj => by rw [am_gv_eq (h j).1 (h j).2]; exact h5 j hj⟩
    rw [hH, h2]
    congr 2
    funext j
    rw [am_gv_eq (h j).1 (h j).2]
  · obtain ⟨h1, h2, h3⟩ := hc
    refine ⟨h1, (h2.kept hH).to (fun k _ => by rw [am_gv_eq (h k).1 (h k).2]), fun j hj => by rw [am_gv_eq (h j).1 (h j).2]; exact h3 j hj⟩
theorem am_HR_put {z w b L : Nat} {xs : Nat → Int32} {D : va_G} {σ σ' : am_S} {U : State} {H H1 : Heap} {a : Nat} {q : am_Ly} (hH : am_HR z w b L xs D σ U H) (ha : 2 ≤ a) (hq : σ.2.2.1[a]? = some q) (hl : σ'.2.2.1 = σ.2.2.1) (h : ∀ c j, c ≠ a → σ'.1 c j = σ.1 c j ∧ σ'.2.1 c j = σ.2.1 c j) (z1 : H1.size = H.size) (oq : ∀ x, x ≠ am_ad z w b a → H1[x]? = H[x]?) (hc : am_ce z w b D σ' U H1 a q) : am_HR z w b L xs D σ' U H1 := by
  obtain ⟨e1, e2, e3, e4, e5, e6, e7⟩ := hH
  refine ⟨by rw [hl, z1]; exact e1, by rw [hl]; exact e2, by rw [hl]; exact e3, by rw [hl]; exact e4, fun j => by rw [(h 0 j (by omega)).1]; exact e5 j, fun j => by rw [(h 1 j (by omega)).1]; exact e6 j, fun c x h2 hx => ?_⟩
  rw [hl] at hx
  by_cases hca : c = a
  · subst hca
    cases hq.symm.trans hx
    exact hc
  · exact am_ce_keep (fun j => h c j hca) (oq _ (am_ad_ne h2 ha hca)) (e7 c x h2 hx)
theorem am_HR_new {z w b L : Nat} {xs : Nat → Int32} {D : va_G} {σ : am_S} {U : State} {H H1 : Heap} {q : am_Ly} (hH : am_HR z w b L xs D σ U H) (z1 : H1.size = H.size + 1) (oq : ∀ x, x < H.size → H1[x]? = H[x]?) (hc : am_ce z w b D (am_new σ q) U H1 σ.2.2.1.length q) : am_HR z w b L xs D (am_new σ q) U H1 := by
  obtain ⟨e1, e2, e3, e4, e5, e6, e7⟩ := hH
  have hne : ∀ c j, c ≠ σ.2.2.1.length → (am_new σ q).1 c j = σ.1 c j ∧ (am_new σ q).2.1 c j = σ.2.1 c j := fun c j hc => ⟨if_neg hc, if_neg hc⟩
  refine ⟨?_, ?_, ?_, ?_, fun j => by rw [(hne 0 j (by omega)).1]; exact e5 j, fun j => by rw [(hne 1 j (by omega)).1]; exact e6 j, fun c x h2 hx => ?_⟩
  · show H1.size + 2 = z + (σ.2.2.1 ++ [q]).length
    rw [List.length_append, List.length_singleton]
    omega
  · show 2 ≤ (σ.2.2.1 ++ [q]).length
    rw [List.length_append]
    omega
  · show (σ.2.2.1 ++ [q])[0]? = _
    rw [List.getElem?_append_left (by omega)]
    exact e3
  · show (σ.2.2.1 ++ [q])[1]? = _
    rw [List.getElem?_append_left (by omega)]
    exact e4
  · have hx : (σ.2.2.1 ++ [q])[c]? = some x := hx
    by_cases hcl : c < σ.2.2.1.length
    · rw [List.getElem?_append_left hcl] at hx
      refine am_ce_keep (fun j => hne c j (by omega)) (oq _ ?_) (e7 c x h2 hx)
      rw [am_ad2 h2]
      omega
    · rw [List.getElem?_append_right (by omega)] at hx
      have h3 : c - σ.2.2.1.length < 1 := (List.getElem?_eq_some_iff.mp hx).1
      have h4 : c = σ.2.2.1.length := by omega
      subst h4
      rw [Nat.sub_self] at hx
      cases hx
      exact hc
theorem am_HR_moved {z w b L : Nat} {xs : Nat → Int32} {D : va_G} {σ : am_S} {u U : State} {H : Heap} (hvm : u.vm.Alike U.vm) (hH : am_HR z w b L xs D σ u H) : am_HR z w b L xs D σ U H := by
  obtain ⟨e1, e2, e3, e4, e5, e6, e7⟩ := hH
  refine ⟨e1, e2, e3, e4, e5, e6, fun c x h2 hx => ?_⟩
  have hc := e7 c x h2 hx
  obtain ⟨t | c', n⟩ := x
  · obtain ⟨h1, ⟨cA, g2, g3, g4⟩, h5⟩ := hc
    exact ⟨h1, ⟨cA, g2, arrOfT_moved hvm g3, g4.moved hvm⟩, h5⟩
  · exact hc
theorem am_FX_moved {z w b L : Nat} {xs : Nat → Int32} {D : va_G} {u U : State} (hW : u.WarmedH U.vm) (hh : ∀ q, q < z → U.heap[q]? = u.heap[q]?) (hz : z ≤ U.heap.size) (h : am_FX z w b L xs D u) : am_FX z w b L xs D U := by
  obtain ⟨h1, h2, h3, h4, ⟨h5, h6, h7⟩, h8, h9, h10⟩ := h
  have hvm := hW.alike
  refine ⟨va_K.moved hvm h1, ?_, ?_, ?_, ⟨h5, h6, hz⟩, fun e he => va_Nw.warmF hW (h8 e he), fun e he => va_Nw.warmM hW (h9 e he), va_AO.moved hvm h10⟩
  · exact (va_Z.moved hvm h2).kept (fun a ha hA => hh a (Nat.not_le.mp hA))
  · exact (va_T.moved hvm h3).kept (fun a ha hA => hh a (Nat.not_le.mp hA))
  · exact (va_X.moved hvm h4).kept (hh b h6)
theorem am_isO_inv {σ : am_S} {a c : Nat} (h : am_isO σ a c = true) : ∃ n, σ.2.2.1[a]? = some (.inr c, n) ∧ 2 ≤ a := by
  unfold am_isO at h
  split at h
  · rename_i c' n hq
    simp only [Bool.and_eq_true, decide_eq_true_eq] at h
    obtain ⟨rfl, h2⟩ := h
    exact ⟨n, hq, h2⟩
  · cases h
theorem am_pv_inv {z w b : Nat} {ty : FieldType} {a k : Nat} {v : am_V} {σ σ' : am_S} (h : am_pv ty a k v σ = some σ') (hv : am_rg v) :
    am_gv ty a k σ' = v ∧ (∀ t c j, c ≠ a ∨ j ≠ k → am_gv t c j σ' = am_gv t c j σ) ∧ σ'.2.2 = σ.2.2 ∧ (∀ c j, c ≠ a → σ'.1 c j = σ.1 c j ∧ σ'.2.1 c j = σ.2.1 c j) ∧ narrow ty (am_tv z w b v) = am_tv z w b v ∧ fits ty (am_tv z w b v) = true := by
  have s1 : ∀ x, am_gv .int a k (am_set σ a k x) = vI x ∧ am_gv .boolean a k (am_set σ a k x) = vI x ∧ am_gv .long a k (am_set σ a k x) = vL x := fun x => by
    simp [am_gv, am_set, vI, vL]
  have s2 : ∀ x, (∀ t c j, c ≠ a ∨ j ≠ k → am_gv t c j (am_set σ a k x) = am_gv t c j σ) ∧ (am_set σ a k x).2.2 = σ.2.2 ∧ (∀ c j, c ≠ a → (am_set σ a k x).1 c j = σ.1 c j ∧ (am_set σ a k x).2.1 c j = σ.2.1 c j) := fun x =>
    ⟨fun t c j hcj => am_gv_eq (if_neg (fun q => hcj.elim (fun g => g q.1) (fun g => g q.2))) rfl, rfl, fun c j hc => ⟨if_neg (fun q => hc q.1), rfl⟩⟩
  have s3 : ∀ x, (∀ t c j, c ≠ a ∨ j ≠ k → am_gv t c j (am_setR σ a k x) = am_gv t c j σ) ∧ (am_setR σ a k x).2.2 = σ.2.2 ∧ (∀ c j, c ≠ a → (am_setR σ a k x).1 c j = σ.1 c j ∧ (am_setR σ a k x).2.1 c j = σ.2.1 c j) := fun x =>
    ⟨fun t c j hcj => am_gv_eq rfl (if_neg (fun q => hcj.elim (fun g => g q.1) (fun g => g q.2))), rfl, fun c j hc => ⟨rfl, if_neg (fun q => hc q.1)⟩⟩
  unfold am_pv at h
  split at h
  · cases h
    exact ⟨(s1 _).1, (s2 _).1, (s2 _).2.1, (s2 _).2.2, rfl, rfl⟩
  · split at h
    · rename_i h01
      cases h
      refine ⟨(s1 _).2.1, (s2 _).1, (s2 _).2.1, (s2 _).2.2, ?_, ?_⟩
      · rcases h01 with rfl | rfl <;> rfl
      · rcases h01 with rfl | rfl <;> rfl
    · cases h
  · cases h
    exact ⟨(s1 _).2.2, (s2 _).1, (s2 _).2.1, (s2 _).2.2, rfl, rfl⟩
  · cases h
    exact ⟨by simp [am_gv, am_setR], (s3 _).1, (s3 _).2.1, (s3 _).2.2, rfl, rfl⟩
  · cases h
    exact ⟨by simp [am_gv, am_setR], (s3 _).1, (s3 _).2.1, (s3 _).2.2, rfl, rfl⟩
  · cases h
theorem am_in {i : Int} {n : Nat} {cA : ClassId} {f : Nat → Value} (hi : am_r32 i) (h0 : 0 ≤ i) (hn : i < (n : Int)) : ¬ (Int32.ofInt i < 0 ∨ (arrV cA n f).slots.size ≤ (Int32.ofInt i).toNatClampNeg) := by
  rw [arrV_size, i32_clamp hi]
  have : ¬ Int32.ofInt i < 0 := by
    rw [show (0 : Int32) = Int32.ofInt 0 from rfl, i32_lt hi r32_0]
    omega
  intro h
  rcases h with h | h
  · exact this h
  · omega
theorem am_inx {i : Int} {n : Nat} (hi : am_r32 i) (h0 : 0 ≤ i) (hn : i < (n : Int)) : vp_in (Int32.ofInt i) n := by
  unfold vp_in
  rw [i32_clamp hi]
  have : ¬ Int32.ofInt i < 0 := by
    rw [show (0 : Int32) = Int32.ofInt 0 from rfl, i32_lt hi r32_0]
    omega
  intro h
  rcases h with h | h
  · exact this h
  · omega
theorem e_and1 (x : Int) : Int32.ofInt x &&& 1 = Int32.ofInt (x % 2) := by
  apply Int32.toBitVec_inj.mp
  show BitVec.ofInt 32 x &&& 1#32 = BitVec.ofInt 32 (x % 2)
  apply BitVec.eq_of_toNat_eq
  rw [BitVec.toNat_and, BitVec.toNat_ofInt, BitVec.toNat_ofInt]
  show (x % 4294967296).toNat &&& 1 = (x % 2 % 4294967296).toNat
  rw [Nat.and_one_is_mod]
  omega
