/-! A STEP OF THE SMALL MACHINE IS ONE OF THE LARGE ONE: cells -/
theorem am_aget_inv {t : FieldType} {st st' : List am_V} {σ σ' : am_S} (h : am_aget t st σ = some (st', σ')) : ∃ i a r n, st = vI i :: vR a :: r ∧ σ.2.2.1[a]? = some (.inl t, n) ∧ 0 ≤ i ∧ i < (n : Int) ∧ st' = am_gv t a i.toNat σ :: r ∧ σ = σ' := by
  unfold am_aget at h
  split at h
  · split at h
    · rename_i hq
      split at h
      · rename_i h3
        obtain ⟨rfl, h4, h5⟩ := h3
        cases h
        exact ⟨_, _, _, _, rfl, hq, h4, h5, rfl, rfl⟩
      · cases h
    · cases h
  · cases h
theorem am_aput_inv {t : FieldType} {f : Int → Int} {st st' : List am_V} {σ σ' : am_S} (h : am_aput t f st σ = some (st', σ')) : ∃ x i a n, st = vI x :: vI i :: vR a :: st' ∧ σ.2.2.1[a]? = some (.inl t, n) ∧ 0 ≤ i ∧ i < (n : Int) ∧ 2 ≤ a ∧ σ' = am_set σ a i.toNat (f x) := by
  unfold am_aput at h
  split at h
  · split at h
    · rename_i hq
      split at h
      · rename_i h3
        obtain ⟨rfl, h4, h5, h6⟩ := h3
        cases h
        exact ⟨_, _, _, _, rfl, hq, h4, h5, h6, rfl⟩
      · cases h
    · cases h
  · cases h
theorem am_aputL_inv {st st' : List am_V} {σ σ' : am_S} (h : am_aputL st σ = some (st', σ')) : ∃ x i a n, st = vL x :: vI i :: vR a :: st' ∧ σ.2.2.1[a]? = some (.inl .long, n) ∧ 0 ≤ i ∧ i < (n : Int) ∧ 2 ≤ a ∧ σ' = am_set σ a i.toNat x := by
  unfold am_aputL at h
  split at h
  · split at h
    · rename_i hq
      split at h
      · rename_i h3
        obtain ⟨rfl, h4, h5, h6⟩ := h3
        cases h
        exact ⟨_, _, _, _, rfl, hq, h4, h5, h6, rfl⟩
      · cases h
    · cases h
  · cases h
theorem am_aputR_inv {st st' : List am_V} {σ σ' : am_S} (h : am_aputR st σ = some (st', σ')) : ∃ c i a n k, st = vR c :: vI i :: vR a :: st' ∧ σ.2.2.1[a]? = some (.inl am_strip, n) ∧ σ.2.2.1[c]? = some (.inr 6, k) ∧ 0 ≤ i ∧ i < (n : Int) ∧ 2 ≤ a ∧ 2 ≤ c ∧ σ' = am_setR σ a i.toNat (some c) := by
  unfold am_aputR at h
  split at h
  · split at h
    · rename_i hq hc
      split at h
      · rename_i h3
        obtain ⟨rfl, h4, h5, h6, h7⟩ := h3
        cases h
        exact ⟨_, _, _, _, _, rfl, hq, hc, h4, h5, h6, h7, rfl⟩
      · cases h
    · cases h
  · cases h
theorem am_alen_inv {st st' : List am_V} {σ σ' : am_S} (h : am_alen st σ = some (st', σ')) : ∃ a r t n, st = vR a :: r ∧ σ.2.2.1[a]? = some (.inl t, n) ∧ (n : Int) < 1000000 ∧ st' = vI n :: r ∧ σ = σ' := by
  unfold am_alen at h
  split at h
  · split at h
    · rename_i hq
      split at h
      · rename_i h3
        cases h
        exact ⟨_, _, _, _, rfl, hq, h3, rfl, rfl⟩
      · cases h
    · cases h
  · cases h
theorem am_newa_inv {t : FieldType} {st st' : List am_V} {σ σ' : am_S} (h : am_newa t st σ = some (st', σ')) : ∃ n r, st = vI n :: r ∧ 0 ≤ n ∧ n ≤ 1000000 ∧ st' = vR σ.2.2.1.length :: r ∧ σ' = am_new σ (.inl t, n.toNat) := by
  unfold am_newa at h
  split at h
  · split at h
    · rename_i h3
      cases h
      exact ⟨_, _, rfl, h3.1, h3.2, rfl, rfl⟩
    · cases h
  · cases h
theorem am_getf_inv {c k : Nat} {st st' : List am_V} {σ σ' : am_S} (h : am_getf c k st σ = some (st', σ')) : ∃ a r n, st = vR a :: r ∧ σ.2.2.1[a]? = some (.inr c, n) ∧ 2 ≤ a ∧ st' = am_gv (am_fty c k) a k σ :: r ∧ σ = σ' := by
  unfold am_getf at h
  split at h
  · split at h
    · rename_i h3
      obtain ⟨n, h4, h5⟩ := am_isO_inv h3
      cases h
      exact ⟨_, _, n, rfl, h4, h5, rfl, rfl⟩
    · cases h
  · cases h
theorem am_putf_inv {c k : Nat} {st st' : List am_V} {σ σ' : am_S} (h : am_putf c k st σ = some (st', σ')) : ∃ v a n, st = v :: vR a :: st' ∧ σ.2.2.1[a]? = some (.inr c, n) ∧ 2 ≤ a ∧ am_pv (am_fty c k) a k v σ = some σ' := by
  unfold am_putf at h
  split at h
  · split at h
    · rename_i h3
      obtain ⟨n, h4, h5⟩ := am_isO_inv h3
      rw [Option.map_eq_some_iff] at h
      obtain ⟨σ2, h6, h7⟩ := h
      cases h7
      exact ⟨_, _, n, rfl, h4, h5, h6⟩
    · cases h
  · cases h
theorem am_acopy_inv {st st' : List am_V} {σ σ' : am_S} (h : am_acopy st σ = some (st', σ')) : ∃ n dp d sp a n0 n1, st = vI n :: vI dp :: vR d :: vI sp :: vR a :: st' ∧ σ.2.2.1[a]? = some (.inl .int, n0) ∧ σ.2.2.1[d]? = some (.inl .int, n1) ∧ 0 ≤ n ∧ 0 ≤ dp ∧ 0 ≤ sp ∧ sp + n ≤ (n0 : Int) ∧ dp + n ≤ (n1 : Int) ∧ 2 ≤ a ∧ 2 ≤ d ∧ (st'.map am_cat).sum ≤ 8 ∧ σ' = am_cpy σ a sp.toNat d dp.toNat n.toNat := by
  unfold am_acopy at h
  split at h
  · split at h
    · rename_i hq hc
      split at h
      · rename_i h3
        obtain ⟨rfl, rfl, h4, h5, h6, h7, h8, h9, h10, h11⟩ := h3
        cases h
        exact ⟨_, _, _, _, _, _, _, rfl, hq, hc, h4, h5, h6, h7, h8, h9, h10, h11, rfl⟩
      · cases h
    · cases h
  · cases h
theorem am_map_cat (z w b : Nat) (st : List am_V) : ((st.map (am_tv z w b)).map fun v => v.category).sum = (st.map am_cat).sum := by
  rw [List.map_map]
  congr 1
  apply List.map_congr_left
  intro v _
  exact am_tv_cat z w b v
theorem am_gv_ne (t : FieldType) (a : Nat) {j k : Nat} (x : Int) (σ : am_S) (h : ¬ j = k) : am_gv t a j (am_set σ a k x) = am_gv t a j σ := am_gv_eq (if_neg (fun q => h q.2)) rfl
theorem am_gvR_ne (t : FieldType) (a : Nat) {j k : Nat} (x : Option Nat) (σ : am_S) (h : ¬ j = k) : am_gv t a j (am_setR σ a k x) = am_gv t a j σ := am_gv_eq rfl (if_neg (fun q => h q.2))
theorem am_setc {z w b : Nat} {t : FieldType} {a k : Nat} {x : Int} {σ : am_S} {v : am_V} (hv : am_gv t a k (am_set σ a k x) = v) : (fun j => am_tv z w b (am_gv t a j (am_set σ a k x))) = updV (fun j => am_tv z w b (am_gv t a j σ)) k (am_tv z w b v) := by
  funext j
  unfold updV
  by_cases h : j = k
  · subst h
    rw [if_pos rfl, hv]
  · rw [if_neg h, am_gv_ne t a x σ h]
def am_okf (t : FieldType) : Bool := match t with
  | .int => true
  | .long => true
  | .byte => true
  | .boolean => true
  | .object _ => true
  | .array _ => true
  | _ => false
theorem am_ftok (c k : Nat) : am_okf (am_fty c k) = true := by
  unfold am_fty
  split
  · unfold am_ty0; split <;> rfl
  · unfold am_ty1; split <;> rfl
  · unfold am_ty2; split <;> rfl
  · unfold am_ty3; split <;> rfl
  · unfold am_ty4; split <;> rfl
  · unfold am_ty5; split <;> rfl
  · unfold am_ty6; split <;> rfl
  · unfold am_ty7; split <;> rfl
  · unfold am_ty8; split <;> rfl
  · unfold am_ty9; split <;> rfl
  · unfold am_ty10; split <;> rfl
section SIMME
variable {p : Program} {l0 : Launch} {e : Env} {R : Room} {s : State} {m : MethodId} {args : Array Value} {below : List Frame} {meth : Method} {c : Code} {H : Heap} {locs : List Loc} {cells slots : Nat} {Q : State → Prop} {cc : ByteArray} {pc : Nat} {ls : Array Slot}
variable {z w b L : Nat} {xs : Nat → Int32} {D : va_G} {o : Nat} {ini : Bool} {maxL : Nat} {ret : Option FieldType} {RF RL : Nat} {sts : List Nat} {len : Nat}
/-- an array of numbers, stored into -/
theorem am_st_ce {t : FieldType} {a k n : Nat} {x : Int} {σ : am_S} {v : am_V} {H1 : Heap} {cA : ClassId} (hok : am_okt t) (hA : ArrOfT s cA t) (hR : va_RA s cA t) (hg : ∀ j, j < n → am_rg (am_gv t a j σ)) (hv : am_gv t a k (am_set σ a k x) = v) (hvr : am_rg v)
    (e1 : H1[am_ad z w b a]? = some ((arrV cA n (fun j => am_tv z w b (am_gv t a j σ))).setSlot k (am_tv z w b v))) : am_ce z w b D (am_set σ a k x) s H1 a (.inl t, n) := by
  refine ⟨hok, ⟨cA, ?_, hA, hR⟩, fun j hj => ?_⟩
  · rw [e1, arrV_store, am_setc hv]
  · by_cases h : j = k
    · subst h
      rw [hv]
      exact hvr
    · rw [am_gv_ne t a x σ h]
      exact hg j hj
theorem am_set_other (σ : am_S) (a k : Nat) (x : Int) : ∀ c j, c ≠ a → (am_set σ a k x).1 c j = σ.1 c j ∧ (am_set σ a k x).2.1 c j = σ.2.1 c j := fun c j hc => ⟨if_neg (fun q => hc q.1), rfl⟩
theorem am_setR_other (σ : am_S) (a k : Nat) (x : Option Nat) : ∀ c j, c ≠ a → (am_setR σ a k x).1 c j = σ.1 c j ∧ (am_setR σ a k x).2.1 c j = σ.2.1 c j := fun c j hc => ⟨rfl, if_neg (fun q => hc q.1)⟩
theorem am_zA {a : Nat} (h : 2 ≤ a) : (fun q : Nat => z ≤ q) (am_ad z w b a) := by
  show z ≤ am_ad z w b a
  rw [am_ad2 h]
  omega
set_option maxHeartbeats 4000000 in
theorem am_copyi (hexec : p.tables.exec = Jvm.exec) (hb : c.code = cc) (hml : c.maxLocals = ls.size) {own : String} {index : Nat} (hown : s.vm.findClass own = some m.cls) (hlink : (Cond.methodLink own index arraycopyName).before args s = true) (hnat : (Cond.native arraycopyName).before args s = true) (hstat : (Cond.static arraycopyName).before args s = true) (hini : (Cond.initialized "java/lang/System").before args s = true)
    {a0 a : Nat} {c0 c1 : ClassId} {n0 n1 : Nat} {f g : Nat → Int32} (hc0 : H[a0]? = some (vp_cell c0 (n0, .inl f))) (hc1 : H[a]? = some (vp_cell c1 (n1, .inl g))) (ht0 : ArrOfT s c0 .int) (ht1 : ArrOfT s c1 .int)
    {sp dp n : Int32} (h1 : ¬ sp < 0) (h2 : ¬ dp < 0) (h3 : ¬ n < 0) (h4 : sp.toNatClampNeg + n.toNatClampNeg ≤ n0) (h5 : dp.toNatClampNeg + n.toNatClampNeg ≤ n1)
    {rest : List Value} (hframes : 1 ≤ R.frames) (hlocals : (rest.map fun v => v.category).sum + (nativeFrameWords "java/lang/System" "arraycopy" 5 + 11) ≤ R.locals) (hdg : decode cc pc = .ok (.invokestatic index, 3))
    (kk : ∀ (H1 : Heap) (L : List Loc), H1[a]? = some (vp_cell c1 (n1, .inl (va_cpy f g sp.toNatClampNeg dp.toNatClampNeg n.toNatClampNeg))) → H1.size = H.size → (∀ q, q ≠ a → H1[q]? = H[q]?) → (∀ q ∈ L, q.base = a) → W p l0 e R s m args below meth c H1 (locs ++ L) cells slots Q (F0 m (pc + 3) ls rest)) : W p l0 e R s m args below meth c H locs cells slots Q (F0 m pc ls (.int n :: .int dp :: .ref a :: .int sp :: .ref a0 :: rest)) := by
  have nn : ∀ z : Int32, ¬ z < 0 → z.toInt = (z.toNatClampNeg : Int) := by
    intro z hz
    have hz0 : (0 : Int) ≤ z.toInt := by
      have := Int32.not_lt.mp hz
      simpa using Int32.le_iff_toInt_le.mp this
    show z.toInt = ((z.toInt.toNat : Nat) : Int)
    omega
  intro T hT X
  obtain ⟨-, k0, hk0, cm0, hkk0⟩ := ht0 n0 (fun j => .int (f j))
  obtain ⟨-, k1, hk1, cm1, hkk1⟩ := ht1 n1 (fun j => .int (g j))
  obtain ⟨vm', X', step⟩ := X.arraycopy hexec hown hlink hnat hstat hini (src := a0) (dst := a) (cs := vp_cell c0 (n0, .inl f)) (cd := vp_cell c1 (n1, .inl g)) (srcPos := sp) (destPos := dp) (n := n) (by rw [hT]; exact hc0) (by rw [hT]; exact hc1)
    (fun _ h => by cases h) (fun _ h => by cases h) (fun h => by cases h) (fun h => by cases h) hk0 hk1 hkk0 hkk1 rfl h1 h2 h3
    (by rw [nn sp h1, nn n h3]; show ¬ _ > ((arrV c0 n0 (fun j => .int (f j))).slots.size : Int); rw [arrV_size]; omega)
    (by rw [nn dp h2, nn n h3]; show ¬ _ > ((arrV c1 n1 (fun j => .int (g j))).slots.size : Int); rw [arrV_size]; omega)
    (fun vm₁ _ i hi => by
      have e : (vp_cell c0 (n0, .inl f)).slots.getD (sp.toNatClampNeg + i) .null = .int (f (sp.toNatClampNeg + i)) := by
        show (arrV c0 n0 (fun j => .int (f j))).slots.getD _ _ = _
        rw [Array.getD_eq_getD_getElem?, arrV_read _ _ (by omega)]
        rfl
      refine ⟨?_, ?_⟩
      · rw [e]
        rfl
      · rw [e]
        exact trivial)
    (g := F0 m pc ls (.int n :: .int dp :: .ref a :: .int sp :: .ref a0 :: rest)) rfl (by rw [hml]) (rest := rest) rfl (by rw [hb]; exact hdg) hframes (by show 2 * 0 + _ + _ ≤ _; omega)
  have e1 : copied (vp_cell c0 (n0, .inl f)) (vp_cell c1 (n1, .inl g)) sp dp n = vp_cell c1 (n1, .inl (va_cpy f g sp.toNatClampNeg dp.toNatClampNeg n.toNatClampNeg)) := va_copied (fun z => .int z) c0 c1 f g h4
  rw [e1] at X' step
  have hl : a < H.size := (Array.getElem?_eq_some_iff.mp hc1).1
  have hheap : ((T.setVm vm').setCell a (vp_cell c1 (n1, .inl (va_cpy f g sp.toNatClampNeg dp.toNatClampNeg n.toNatClampNeg)))).heap = H.setIfInBounds a (vp_cell c1 (n1, .inl (va_cpy f g sp.toNatClampNeg dp.toNatClampNeg n.toNatClampNeg))) := by rw [← hT]; rfl
  have oq : ∀ q : Nat, q ≠ a → (H.setIfInBounds a (vp_cell c1 (n1, .inl (va_cpy f g sp.toNatClampNeg dp.toNatClampNeg n.toNatClampNeg))))[q]? = H[q]? := fun q hq => by simp [Array.getElem?_setIfInBounds, Ne.symm hq]
  obtain ⟨t, a1, b1⟩ := kk _ _ (show (H.setIfInBounds a _)[a]? = some _ by simp [Array.getElem?_setIfInBounds, hl]) (by simp) oq (fun q hq => by
    obtain ⟨z, -, hz⟩ := List.mem_map.mp hq
    rw [← hz]) _ hheap X'
  exact ⟨t, step t a1, b1⟩
set_option maxHeartbeats 8000000 in
theorem am_sim_me (hx : p.tables.exec = Jvm.exec) (hb : c.code = cc) (hml : c.maxLocals = maxL) (hown : s.vm.findClass (am_cn o) = some m.cls) (hts : ∀ q ∈ lw_gt, q.before args s = true) (hF : am_FX z w b L xs D s) (hini : ini = true → meth.name = "<init>") (hRF : R.frames = RF) (hRL : R.locals = RL)
    {i : Instr} {ops : List Nat} {v : Int} {l : am_Lc} {st st' : List am_V} {σ σ' : am_S} (h : am_me i ops st σ = some (st', σ')) (hdg : decode cc pc = .ok (i, len)) (hs : am_side o ini maxL ret RF RL sts pc len i ops v = true)
    (hl : lv_has ls maxL (l.map (am_t2 z w b))) (gs : ∀ u ∈ st, am_rg u) (hH : am_HR z w b L xs D σ s H) (hS : va_S (fun q => z ≤ q) s.heap H locs) (hrc : cells + σ'.2.2.2.1 ≤ R.cells + σ.2.2.2.1) (hrs : slots + σ'.2.2.2.2 ≤ R.slots + σ.2.2.2.2)
    (kk : ∀ H1 locs1 cells1 slots1, am_HR z w b L xs D σ' s H1 → va_S (fun q => z ≤ q) s.heap H1 locs1 → cells1 + σ.2.2.2.1 = cells + σ'.2.2.2.1 → slots1 + σ.2.2.2.2 = slots + σ'.2.2.2.2 → (∀ u ∈ st', am_rg u) → W p l0 e R s m args below meth c H1 locs1 cells1 slots1 Q (F0 m (pc + len) ls (st'.map (am_tv z w b)))) :
    W p l0 e R s m args below meth c H locs cells slots Q (F0 m pc ls (st.map (am_tv z w b))) := by
  obtain ⟨hK, hZ, hXw, hXb, ⟨hwz, hbz, hzs⟩, hng, hnm, hao⟩ := hF
  have hE := hH
  obtain ⟨z1, z2, l0', l1', y0, y1, hce⟩ := hE
  have sameK : ∀ {r}, st' = r → σ' = σ → True := fun _ _ => trivial
  unfold am_me at h
  split at h
  · -- getfield
    split at h
    · rename_i idx cx kx
      simp only [am_side, Bool.and_eq_true, beq_iff_eq, decide_eq_true_eq, List.any_eq_true] at hs
      obtain ⟨rfl, ⟨hc, hk⟩, q, hq, ⟨⟨e1, e2⟩, e3⟩, e4⟩ := hs
      obtain ⟨a, r, n, rfl, hla, ha2, rfl, rfl⟩ := am_getf_inv h
      have hlk := hts _ (am_FLk q hq)
      rw [e1, e2, e3, e4] at hlk
      obtain ⟨-, ⟨cell, q1, q2, q3, q4⟩, hrg⟩ := hce a _ ha2 hla
      obtain ⟨hSl, hfc, kC, hkC, hkind⟩ := hK.1 cx _ (am_clA cx hc)
      obtain ⟨cf, kf, fi, f, hi, hsl⟩ := hSl kx hk
      refine W.getf (g := F0 m pc ls _) hx hb hown hlk hi (u_facts hfc hkC (u_lays hts (am_inA cx hc) hk) hi).1 q1 (by rw [q3]; exact fun h => by cases h) (v := am_tv z w b (am_gv (am_fty cx kx) a kx σ)) (by rw [hsl]; exact q4 kx hk) rfl rfl hdg ?_
      exact kk H locs cells slots hH hS rfl rfl (rg_c (hrg kx hk) (rg_t gs))
    · cases h
  · -- putfield
    split at h
    · rename_i idx cx kx
      simp only [am_side, Bool.and_eq_true, beq_iff_eq, decide_eq_true_eq, List.any_eq_true] at hs
      obtain ⟨rfl, ⟨⟨hc, hk⟩, q, hq, ⟨⟨e1, e2⟩, e3⟩, e4⟩, hfin⟩ := hs
      obtain ⟨v, a, n, rfl, hla, ha2, hpv⟩ := am_putf_inv h
      have hlk := hts _ (am_FLk q hq)
      rw [e1, e2, e3, e4] at hlk
      obtain ⟨-, ⟨cell, q1, q2, q3, q4⟩, hrg⟩ := hce a _ ha2 hla
      obtain ⟨hSl, hfc, kC, hkC, hkind⟩ := hK.1 cx _ (am_clA cx hc)
      have hap := va_apart (own := am_cn o) (D := D) hts (am_inA cx hc) (am_fty cx) (am_tkA cx hc) (am_nmA cx hc) hK (am_clA cx hc)
      obtain ⟨cf, kf, fi, f, hi, hsl⟩ := hSl kx hk
      have gv := rg_h gs
      obtain ⟨p1, p2, p3, p4, p5, p6⟩ := am_pv_inv (z := z) (w := w) (b := b) hpv gv
      have hst := (u_facts hfc hkC (u_lays hts (am_inA cx hc) hk) hi).1
      have hgo : ∀ H' : Heap, H'[am_ad z w b a]? = some (cell.setSlot (D.2 cx kx) (am_tv z w b v)) → H'.size = H.size → (∀ q, q ≠ am_ad z w b a → H'[q]? = H[q]?) → W p l0 e R s m args below meth c H' (locs ++ [⟨am_ad z w b a, D.2 cx kx⟩]) cells slots Q (F0 m (pc + 3) ls (st'.map (am_tv z w b))) := by
        intro H' f1 f2 f3
        refine kk H' _ cells slots (am_HR_put hH ha2 hla (by rw [p3]) p4 f2 f3 ⟨hc, ?_, ?_⟩) (hS.put f2 f3 (am_zA ha2)) (by rw [p3]) (by rw [p3]) (rg_t (rg_t gs))
        · refine t_OB.to (V := updV (fun k => am_tv z w b (am_gv (am_fty cx k) a k σ)) kx (am_tv z w b v)) ⟨_, f1, q2, q3, t_set q4 hap hk _⟩ (fun j hj => ?_)
          unfold updV
          by_cases hjk : j = kx
          · subst hjk
            rw [if_pos rfl, p1]
          · rw [if_neg hjk, p2 _ a j (Or.inr hjk)]
        · intro j hj
          by_cases hjk : j = kx
          · subst hjk
            rw [p1]
            exact gv
          · rw [p2 _ a j (Or.inr hjk)]
            exact hrg j hj
      have hlay := hts _ (am_inA cx hc _ (u_in_lay hk))
      unfold u_lay at hlay
      by_cases hf : (am_Tt cx kx).2.2.2 = true
      · rw [if_pos hf] at hlay
        have hio : ini = true ∧ cx = o := by
          rcases Bool.or_eq_true _ _ ▸ hfin with h1 | h1
          · rw [hf] at h1; cases h1
          · exact ⟨(Bool.and_eq_true _ _ ▸ h1).1, of_decide_eq_true (Bool.and_eq_true _ _ ▸ h1).2⟩
        have hcf : m.cls = cf := by
          obtain ⟨_, _, c', _, _, _, -, -, hf', -, -, -, hown2, -⟩ := Cond.laysFinal_spec hlay
          have e5 : c' = cf := by have := hi.symm.trans hf'; simp at this; exact this.1.symm
          rw [am_dcA cx hc kx hk, hio.2] at hown2
          rw [← e5]; exact Option.some.inj (hown.symm.trans hown2)
        have h6 := u_fits hfc hkC hkind (Or.inr hlay) hi (am_tkA cx hc kx hk) p5 p6
        refine W.putFinK (g := F0 m pc ls _) hx hb hown hlk hi hst hcf (hini hio.1) (by rw [q2]; exact h6) q1 q3 (by rw [hsl]; exact k2_hasslot (q4 kx hk)) rfl rfl hdg fun H' f1 f2 f3 => ?_
        rw [hsl] at f1 ⊢
        exact hgo H' f1 f2 f3
      · rw [if_neg hf] at hlay
        have h6 := u_store hfc hkC hkind hlay hi (am_tkA cx hc kx hk) p5 p6
        refine W.putK (g := F0 m pc ls _) hx hb (f := f) ⟨hown, hlk, ⟨_, _, _, hi⟩, hst⟩ (by rw [q2]; exact h6) q1 q3 (by rw [hsl]; exact k2_hasslot (q4 kx hk)) rfl rfl hdg fun H' f1 f2 f3 => ?_
        rw [hsl] at f1 ⊢
        exact hgo H' f1 f2 f3
    · cases h
  · -- getstatic
    rename_i idx
    simp only [am_side, Bool.and_eq_true, beq_iff_eq, decide_eq_true_eq, List.any_eq_true] at hs
    obtain ⟨rfl, q, hq, e1, e2⟩ := hs
    cases h
    have hn := va_Nw.use (A := args) rfl (hng q hq)
    rw [e1, e2] at hn
    exact va_getsN hx hb hZ hS hown hn (fun _ h => h) hdg (kk H locs cells slots hH hS rfl rfl (rg_c trivial gs))
  · -- iaload
    simp only [am_side, beq_iff_eq] at hs
    subst hs
    obtain ⟨i, a, r, n, rfl, hla, h0, hn, rfl, rfl⟩ := am_aget_inv h
    have gi : am_r32 i := rg_h gs
    have kk' := kk H locs cells slots hH hS rfl rfl
    by_cases ha2 : 2 ≤ a
    · obtain ⟨-, ⟨cA, q1, q2, -⟩, hrg⟩ := hce a _ ha2 hla
      refine W.iald (g := F0 m pc ls _) hx hb q1 (q2 _ _) (fun h => by cases h) (am_in gi h0 hn) (v := am_tv z w b (am_gv .int a i.toNat σ)) (by rw [i32_clamp gi]; exact arrV_read _ _ (by omega)) rfl rfl hdg ?_
      exact kk' (rg_c (hrg _ (by omega)) (rg_t (rg_t gs)))
    · rcases (show a = 0 ∨ a = 1 by omega) with rfl | rfl
      · cases l0'.symm.trans hla
        have ev : am_gv .int 0 i.toNat σ = vI (am_wv i.toNat).toInt := by simp [am_gv, y0]
        rw [ev] at kk'
        refine va_ti hx hb hXw hS (am_inx gi h0 hn) (v := Value.int (am_wv (Int32.ofInt i).toNatClampNeg)) rfl hdg ?_
        rw [i32_clamp gi, ← of_toInt (am_wv i.toNat)]
        exact kk' (rg_c (i32_rg _) (rg_t (rg_t gs)))
      · cases l1'.symm.trans hla
        have ev : am_gv .int 1 i.toNat σ = vI (xs i.toNat).toInt := by simp [am_gv, y1]
        rw [ev] at kk'
        refine va_sld hx hb hXb (by omega) (by show ¬ z ≤ b; omega) hS (am_inx gi h0 hn) hdg ?_
        rw [i32_clamp gi, ← of_toInt (xs i.toNat)]
        exact kk' (rg_c (i32_rg _) (rg_t (rg_t gs)))
  · -- laload
    simp only [am_side, beq_iff_eq] at hs
    subst hs
    obtain ⟨i, a, r, n, rfl, hla, h0, hn, rfl, rfl⟩ := am_aget_inv h
    have gi : am_r32 i := rg_h gs
    have ha2 : 2 ≤ a := by
      rcases (show a = 0 ∨ a = 1 ∨ 2 ≤ a by omega) with rfl | rfl | h2
      · cases l0'.symm.trans hla
      · cases l1'.symm.trans hla
      · exact h2
    obtain ⟨-, ⟨cA, q1, q2, -⟩, hrg⟩ := hce a _ ha2 hla
    refine W.lald (g := F0 m pc ls _) hx hb q1 (q2 _ _) (fun h => by cases h) (am_in gi h0 hn) (v := am_tv z w b (am_gv .long a i.toNat σ)) (by rw [i32_clamp gi]; exact arrV_read _ _ (by omega)) rfl rfl hdg ?_
    exact kk H locs cells slots hH hS rfl rfl (rg_c (hrg _ (by omega)) (rg_t (rg_t gs)))
  · -- baload
    simp only [am_side, beq_iff_eq] at hs
    subst hs
    unfold am_bget at h
    rw [Option.or_eq_some_iff] at h
    rcases h with h | ⟨-, h⟩
    · obtain ⟨i, a, r, n, rfl, hla, h0, hn, rfl, rfl⟩ := am_aget_inv h
      have gi : am_r32 i := rg_h gs
      have ha2 : 2 ≤ a := by
        rcases (show a = 0 ∨ a = 1 ∨ 2 ≤ a by omega) with rfl | rfl | h2
        · cases l0'.symm.trans hla
        · cases l1'.symm.trans hla
        · exact h2
      obtain ⟨-, ⟨cA, q1, q2, -⟩, hrg⟩ := hce a _ ha2 hla
      refine W.bald (g := F0 m pc ls _) hx hb q1 (q2 _ _) (fun h => by cases h) (am_in gi h0 hn) (v := am_tv z w b (am_gv .byte a i.toNat σ)) (by rw [i32_clamp gi]; exact arrV_read _ _ (by omega)) rfl rfl hdg ?_
      exact kk H locs cells slots hH hS rfl rfl (rg_c (hrg _ (by omega)) (rg_t (rg_t gs)))
    · obtain ⟨i, a, r, n, rfl, hla, h0, hn, rfl, rfl⟩ := am_aget_inv h
      have gi : am_r32 i := rg_h gs
      have ha2 : 2 ≤ a := by
        rcases (show a = 0 ∨ a = 1 ∨ 2 ≤ a by omega) with rfl | rfl | h2
        · cases l0'.symm.trans hla
        · cases l1'.symm.trans hla
        · exact h2
      obtain ⟨-, ⟨cA, q1, q2, -⟩, hrg⟩ := hce a _ ha2 hla
      refine W.zald (g := F0 m pc ls _) hx hb q1 (q2 _ _) (fun h => by cases h) (am_in gi h0 hn) (v := am_tv z w b (am_gv .boolean a i.toNat σ)) (by rw [i32_clamp gi]; exact arrV_read _ _ (by omega)) rfl rfl hdg ?_
      exact kk H locs cells slots hH hS rfl rfl (rg_c (hrg _ (by omega)) (rg_t (rg_t gs)))
  · -- aaload
    simp only [am_side, beq_iff_eq] at hs
    subst hs
    obtain ⟨i, a, r, n, rfl, hla, h0, hn, rfl, rfl⟩ := am_aget_inv h
    have gi : am_r32 i := rg_h gs
    have ha2 : 2 ≤ a := by
      rcases (show a = 0 ∨ a = 1 ∨ 2 ≤ a by omega) with rfl | rfl | h2
      · cases l0'.symm.trans hla
      · cases l1'.symm.trans hla
      · exact h2
    obtain ⟨-, ⟨cA, q1, q2, -⟩, hrg⟩ := hce a _ ha2 hla
    refine W.aald (g := F0 m pc ls _) hx hb q1 (q2 _ _) rfl (fun h => by cases h) (am_in gi h0 hn) (v := am_tv z w b (am_gv am_strip a i.toNat σ)) (by rw [i32_clamp gi]; exact arrV_read _ _ (by omega)) rfl rfl hdg ?_
    exact kk H locs cells slots hH hS rfl rfl (rg_c (hrg _ (by omega)) (rg_t (rg_t gs)))
  · -- iastore
    simp only [am_side, beq_iff_eq] at hs
    subst hs
    obtain ⟨x, i, a, n, rfl, hla, h0, hn, ha2, rfl⟩ := am_aput_inv h
    have gx : am_r32 x := rg_h gs
    have gi : am_r32 i := rg_h (rg_t gs)
    obtain ⟨hok, ⟨cA, q1, q2, q3⟩, hrg⟩ := hce a _ ha2 hla
    refine W.iast (g := F0 m pc ls _) hx hb q1 (q2 _ _) (fun h => by cases h) (am_in gi h0 hn) rfl rfl hdg fun H1 f1 f2 f3 => ?_
    rw [i32_clamp gi] at f1 ⊢
    exact kk H1 _ cells slots (am_HR_put hH ha2 hla rfl (am_set_other _ _ _ _) f2 f3 (am_st_ce hok q2 q3 hrg (v := vI x) (by simp [am_gv, am_set, vI]) gx f1)) (hS.put f2 f3 (am_zA ha2)) rfl rfl (rg_t (rg_t (rg_t gs)))
  · -- lastore
    simp only [am_side, beq_iff_eq] at hs
    subst hs
    obtain ⟨x, i, a, n, rfl, hla, h0, hn, ha2, rfl⟩ := am_aputL_inv h
    have gx : am_r64 x := rg_h gs
    have gi : am_r32 i := rg_h (rg_t gs)
    obtain ⟨hok, ⟨cA, q1, q2, q3⟩, hrg⟩ := hce a _ ha2 hla
    refine W.last (g := F0 m pc ls _) hx hb q1 (q2 _ _) (fun h => by cases h) (am_in gi h0 hn) rfl rfl hdg fun H1 f1 f2 f3 => ?_
    rw [i32_clamp gi] at f1 ⊢
    exact kk H1 _ cells slots (am_HR_put hH ha2 hla rfl (am_set_other _ _ _ _) f2 f3 (am_st_ce hok q2 q3 hrg (v := vL x) (by simp [am_gv, am_set, vL]) gx f1)) (hS.put f2 f3 (am_zA ha2)) rfl rfl (rg_t (rg_t (rg_t gs)))
  · -- bastore
    simp only [am_side, beq_iff_eq] at hs
    subst hs
    unfold am_bput at h
    rw [Option.or_eq_some_iff] at h
    rcases h with h | ⟨-, h⟩
    · obtain ⟨x, i, a, n, rfl, hla, h0, hn, ha2, rfl⟩ := am_aput_inv h
      have gx : am_r32 x := rg_h gs
      have gi : am_r32 i := rg_h (rg_t gs)
      obtain ⟨hok, ⟨cA, q1, q2, q3⟩, hrg⟩ := hce a _ ha2 hla
      refine W.bast (g := F0 m pc ls _) hx hb q1 (q2 _ _) (fun h => by cases h) (am_in gi h0 hn) rfl rfl hdg fun H1 f1 f2 f3 => ?_
      rw [i32_clamp gi] at f1 ⊢
      rw [narrow_byte, e_i2b gx] at f1
      exact kk H1 _ cells slots (am_HR_put hH ha2 hla rfl (am_set_other _ _ _ _) f2 f3 (am_st_ce hok q2 q3 hrg (v := vI (w8 x)) (by simp [am_gv, am_set, vI]) (w8_rg x) f1)) (hS.put f2 f3 (am_zA ha2)) rfl rfl (rg_t (rg_t (rg_t gs)))
    · obtain ⟨x, i, a, n, rfl, hla, h0, hn, ha2, rfl⟩ := am_aput_inv h
      have gx : am_r32 x := rg_h gs
      have gi : am_r32 i := rg_h (rg_t gs)
      obtain ⟨hok, ⟨cA, q1, q2, q3⟩, hrg⟩ := hce a _ ha2 hla
      refine W.zast (g := F0 m pc ls _) hx hb q1 (q2 _ _) (fun h => by cases h) (am_in gi h0 hn) rfl rfl hdg fun H1 f1 f2 f3 => ?_
      rw [i32_clamp gi] at f1 ⊢
      rw [show narrow .boolean (.int (Int32.ofInt x)) = .int (Int32.ofInt x &&& 1) from rfl, e_and1] at f1
      exact kk H1 _ cells slots (am_HR_put hH ha2 hla rfl (am_set_other _ _ _ _) f2 f3 (am_st_ce hok q2 q3 hrg (v := vI (x % 2)) (by simp [am_gv, am_set, vI]) (show am_r32 _ by unfold am_r32; omega) f1)) (hS.put f2 f3 (am_zA ha2)) rfl rfl (rg_t (rg_t (rg_t gs)))
  · -- aastore
    simp only [am_side, beq_iff_eq] at hs
    subst hs
    obtain ⟨d, i, a, n, k, rfl, hla, hlc, h0, hn, ha2, hc2, rfl⟩ := am_aputR_inv h
    have gi : am_r32 i := rg_h (rg_t gs)
    obtain ⟨hok, ⟨cA, q1, q2, kA, comp, k1, k2, k3, k4⟩, hrg⟩ := hce a _ ha2 hla
    obtain ⟨-, ⟨cellV, g1, g2, g3, -⟩, -⟩ := hce d _ hc2 hlc
    have hcls := (hK.1 6 _ (am_clA 6 (by omega))).2
    have hcomp : comp = D.1 6 := Option.some.inj (k3.symm.trans hcls.1)
    subst hcomp
    obtain ⟨kC, hkC, -⟩ := hcls.2
    have hlt : i.toNat < n := by omega
    refine W.aast (g := F0 m pc ls _) hx hb q1 (fun q h => by cases h) (fun h => by cases h) k1 k2 rfl hkC ⟨fun q => am_in gi h0 hn (cA := cA) (f := fun j => am_tv z w b (am_gv am_strip a j σ)) (Or.inl q), by rw [arrV_size, i32_clamp gi]; exact hlt⟩ g1 (fun q h => by rw [g3] at h; cases h) (by rw [g2]; exact hkC) (by rw [g2]; exact va_assign hcls) rfl rfl hdg fun H1 f1 f2 f3 => ?_
    rw [i32_clamp gi] at f1 ⊢
    refine kk H1 _ cells slots (am_HR_put hH ha2 hla rfl (am_setR_other _ _ _ _) f2 f3 ⟨hok, ⟨cA, ?_, q2, kA, _, k1, k2, k3, k4⟩, fun j hj => trivial⟩) (hS.put f2 f3 (am_zA ha2)) rfl rfl (rg_t (rg_t (rg_t gs)))
    rw [f1, arrV_store]
    congr 2
    funext j
    unfold updV
    by_cases hj : j = i.toNat
    · subst hj
      rw [if_pos rfl]
      simp [am_gv, am_setR, am_strip, am_tv]
    · rw [if_neg hj, am_gvR_ne am_strip a _ σ hj]
  · -- arraylength
    simp only [am_side, beq_iff_eq] at hs
    subst hs
    obtain ⟨a, r, t, n, rfl, hla, hn, rfl, rfl⟩ := am_alen_inv h
    have kk' := kk H locs cells slots hH hS rfl rfl (rg_c (show am_r32 _ from ⟨by omega, by omega⟩) (rg_t gs))
    have en : Int32.ofInt (n : Int) = Int32.ofNat n := Int32.ofInt_eq_ofNat
    by_cases ha2 : 2 ≤ a
    · obtain ⟨-, ⟨cA, q1, q2, -⟩, hrg⟩ := hce a _ ha2 hla
      exact W.alen (g := F0 m pc ls _) hx hb q1 (q2 _ _) (n := Int32.ofInt (n : Int)) (by rw [arrV_size, en]) rfl rfl hdg kk'
    · rcases (show a = 0 ∨ a = 1 by omega) with rfl | rfl
      · cases l0'.symm.trans hla
        exact va_tlen hx hb hXw hS rfl hdg (by rw [← en]; exact kk')
      · cases l1'.symm.trans hla
        exact va_slen (b := b) hx hb hXb (by omega) (by show ¬ z ≤ b; omega) hS hdg (by rw [← en]; exact kk')
  · -- newarray
    rename_i t
    simp only [am_side, Bool.and_eq_true, beq_iff_eq, decide_eq_true_eq] at hs
    obtain ⟨rfl, ht⟩ := hs
    obtain ⟨n, r, rfl, h0, hn, rfl, rfl⟩ := am_newa_inv h
    have gn : am_r32 n := rg_h gs
    have hcw : (Cond.arrayClass (newarray.typeOf t)).before args s = true := by
      rcases ht with h1 | h1 | h1 | h1 <;> rw [h1]
      · exact hts _ am_aci.1
      · exact hts _ am_aci.2.1
      · exact hts _ am_aci.2.2.1
      · exact hts _ am_aci.2.2.2
    have hcb : componentBytes (newarray.typeOf t) ≤ 8 := by
      rcases ht with h1 | h1 | h1 | h1 <;> rw [h1] <;> decide
    have hn0 : ¬ Int32.ofInt n < 0 := by
      rw [show (0 : Int32) = Int32.ofInt 0 from rfl, i32_lt gn r32_0]
      omega
    have hlen : am_ad z w b σ.2.2.1.length = H.size := by
      rw [am_ad2 z2]
      omega
    have hrc' : cells + (σ.2.2.2.1 + 1) ≤ R.cells + σ.2.2.2.1 := hrc
    have hrs' : slots + (σ.2.2.2.2 + n.toNat) ≤ R.slots + σ.2.2.2.2 := hrs
    refine va_newaK (g := F0 m pc ls _) hx hb hcw rfl hdg rfl hn0 (i32_clamp gn) (Nat.le_trans (Nat.mul_le_mul (show n.toNat ≤ 1000000 by omega) hcb) (by omega)) (by omega) (by omega) rfl fun H1 cA f1 f2 f3 f4 f5 => ?_
    rw [← hlen] at f1 ⊢
    refine kk H1 locs _ _ (am_HR_new hH (by rw [f2]) f3 ⟨?_, ⟨cA, ?_, f4, ?_⟩, ?_⟩) ⟨Nat.le_trans hS.1 (by omega), fun q g1 g2 => (f3 q (Nat.lt_of_lt_of_le g1 hS.1)).trans (hS.2.1 q g1 g2), hS.2.2⟩ (by show _ = cells + (σ.2.2.2.1 + 1); omega) (by show _ = slots + (σ.2.2.2.2 + n.toNat); omega) (rg_c trivial (rg_t gs))
    · rcases ht with h1 | h1 | h1 | h1
      · exact Or.inl h1
      · exact Or.inr (Or.inl h1)
      · exact Or.inr (Or.inr (Or.inl h1))
      · exact Or.inr (Or.inr (Or.inr (Or.inl h1)))
    · rw [f1]
      congr 2
      funext j
      show defaultValue (newarray.typeOf t) = am_tv z w b (am_gv (newarray.typeOf t) _ j _)
      rcases ht with h1 | h1 | h1 | h1 <;> rw [h1] <;> simp [am_gv, am_new, am_tv, defaultValue] <;> rfl
    · show va_RA s cA (newarray.typeOf t)
      rcases ht with h1 | h1 | h1 | h1 <;> rw [h1] at f5 ⊢ <;> exact f5
    · intro j _
      show am_rg (am_gv (newarray.typeOf t) _ j _)
      rcases ht with h1 | h1 | h1 | h1 <;> rw [h1] <;> simp [am_gv, am_new, am_rg, am_r32, am_r64]
  · -- anewarray
    rename_i idx
    simp only [am_side, Bool.and_eq_true, beq_iff_eq, decide_eq_true_eq, List.any_eq_true] at hs
    obtain ⟨rfl, q, hq, ⟨e1, e2⟩, e3⟩ := hs
    unfold am_newq at h
    obtain ⟨n, r, rfl, h0, hn, rfl, rfl⟩ := am_newa_inv h
    have gn : am_r32 n := rg_h gs
    have hlk := hts _ (am_CKk q hq)
    rw [e1, e2, e3] at hlk
    have hn0 : ¬ Int32.ofInt n < 0 := by
      rw [show (0 : Int32) = Int32.ofInt 0 from rfl, i32_lt gn r32_0]
      omega
    have hlen : am_ad z w b σ.2.2.1.length = H.size := by
      rw [am_ad2 z2]
      omega
    have hrc' : cells + (σ.2.2.2.1 + 1) ≤ R.cells + σ.2.2.2.1 := hrc
    have hrs' : slots + (σ.2.2.2.2 + n.toNat) ≤ R.slots + σ.2.2.2.2 := hrs
    refine W.anew (g := F0 m pc ls _) hx hb hown hlk (va_AO.use hao) rfl hdg rfl hn0 (by rw [i32_clamp gn]; omega) (by omega) (by rw [i32_clamp gn]; omega) fun cA kA comp f1 f2 f3 f4 => ?_
    rw [i32_clamp gn]
    generalize hH1 : H.push ({ cls := cA, slots := Array.replicate n.toNat .null, vm := .none } : Cell) = H1
    have w1 : H1.size = H.size + 1 := by rw [← hH1, Array.size_push]
    have w2 : H1[H.size]? = some (arrV cA n.toNat (fun _ => .null)) := by rw [← hH1, Array.getElem?_push_size, ← arrV_new]
    have w3 : ∀ q : Nat, q < H.size → H1[q]? = H[q]? := fun q hq => by rw [← hH1, Array.getElem?_push, if_neg (Nat.ne_of_lt hq)]
    have hAr : ArrOfT s cA am_strip := fun N z => ⟨(fun k h => by cases h), kA, f2, comp, f3⟩
    rw [← hlen] at w2 ⊢
    refine kk H1 locs _ _ (am_HR_new hH w1 w3 ⟨Or.inr (Or.inr (Or.inr (Or.inr rfl))), ⟨cA, ?_, hAr, ?_⟩, fun j _ => trivial⟩) ⟨Nat.le_trans hS.1 (by omega), fun q g1 g2 => (w3 q (Nat.lt_of_lt_of_le g1 hS.1)).trans (hS.2.1 q g1 g2), hS.2.2⟩ (by show _ = cells + (σ.2.2.2.1 + 1); omega) (by show _ = slots + (σ.2.2.2.2 + n.toNat); omega) (rg_c trivial (rg_t gs))
    · rw [w2]
      congr 2
      funext j
      simp [am_gv, am_new, am_strip, am_tv]
    · exact ⟨kA, comp, f2, f3, f4, f1⟩
  · -- new
    split at h
    · rename_i idx cx
      simp only [am_side, Bool.and_eq_true, beq_iff_eq, decide_eq_true_eq, List.any_eq_true] at hs
      obtain ⟨rfl, hc, q, hq, ⟨e1, e2⟩, e3⟩ := hs
      unfold am_newo at h
      rw [if_pos hc] at h
      cases h
      have hlk := hts _ (am_CKk q hq)
      rw [e1, e2, e3] at hlk
      have hKn := hK.1 cx _ (am_clA cx hc)
      have hlen : am_ad z w b σ.2.2.1.length = H.size := by
        rw [am_ad2 z2]
        omega
      have hrc' : cells + (σ.2.2.2.1 + 1) ≤ R.cells + σ.2.2.2.1 := hrc
      have hrs' : slots + (σ.2.2.2.2 + am_cN cx) ≤ R.slots + σ.2.2.2.2 := hrs
      refine W.newcK (g := F0 m pc ls _) hx hb hown hlk (hts _ (am_isA cx hc).1) (hts _ (am_isA cx hc).2) rfl hdg (by omega) (by omega) hKn.2.1 rfl fun H1 kC hkC f1 f2 f3 => ?_
      have hob := u_born (am_fty cx) hts (am_inA cx hc) hKn hkC f1 (am_tkA cx hc)
      rw [← hlen] at hob ⊢
      have hdv : ∀ k, defaultValue (am_fty cx k) = am_tv z w b (am_gv (am_fty cx k) σ.2.2.1.length k (am_new σ (.inr cx, am_cN cx))) := by
        intro k
        have e0 : (am_new σ (.inr cx, am_cN cx)).1 σ.2.2.1.length k = 0 := if_pos rfl
        have e1 : (am_new σ (.inr cx, am_cN cx)).2.1 σ.2.2.1.length k = none := if_pos rfl
        have hok := am_ftok cx k
        unfold am_gv
        rw [e0, e1]
        cases hty : am_fty cx k <;> rw [hty] at hok <;> first | rfl | cases hok
      refine kk H1 locs _ _ (am_HR_new hH f2 f3 ⟨hc, hob.to (fun k _ => hdv k), fun k _ => ?_⟩) ⟨Nat.le_trans hS.1 (by omega), fun q g1 g2 => (f3 q (Nat.lt_of_lt_of_le g1 hS.1)).trans (hS.2.1 q g1 g2), hS.2.2⟩ (by show _ = cells + (σ.2.2.2.1 + 1); omega) (by show _ = slots + (σ.2.2.2.2 + am_cN cx); omega) (rg_c trivial gs)
      cases am_fty cx k <;> simp [am_gv, am_new, am_rg, am_r32, am_r64]
    · cases h
  · -- Object.<init>
    split at h
    · rename_i idx
      simp only [am_side, Bool.and_eq_true, beq_iff_eq, decide_eq_true_eq, List.any_eq_true] at hs
      obtain ⟨rfl, ⟨⟨q, hq, e1, e2⟩, h1⟩, h2⟩ := hs
      have hlk := hts _ (am_OIk q hq)
      rw [e1, e2] at hlk
      unfold am_initO at h
      split at h
      · rename_i a r
        split at h
        · rename_i hcat
          cases h
          refine W.objInit (g := F0 m pc ls _) hx hb hown hlk (hts _ am_acw.2.2.2.1) (hts _ am_acw.2.2.2.2) rfl (by rw [hml]; exact hl.1) rfl hdg (by omega) (by show 2 * 0 + _ + 12 ≤ _; rw [am_map_cat]; omega) (kk H locs cells slots hH hS rfl rfl (rg_t gs))
        · cases h
      · cases h
    · cases h
  · -- System.arraycopy, Math
    split at h
    · rename_i idx
      simp only [am_side, Bool.and_eq_true, beq_iff_eq, decide_eq_true_eq, List.any_eq_true] at hs
      obtain ⟨rfl, ⟨⟨q, hq, e1, e2⟩, h1⟩, h2⟩ := hs
      have hlk := hts _ (am_ACk q hq)
      rw [e1, e2] at hlk
      obtain ⟨n, dp, d, sp, a, n0, n1, rfl, hla, hld, g0, g1, g2, g3, g4, ha2, hd2, hcat, rfl⟩ := am_acopy_inv h
      have gn : am_r32 n := rg_h gs
      have gdp : am_r32 dp := rg_h (rg_t gs)
      have gsp : am_r32 sp := rg_h (rg_t (rg_t (rg_t gs)))
      obtain ⟨hok0, ⟨cA0, q1, q2, -⟩, hrg0⟩ := hce a _ ha2 hla
      obtain ⟨hok1, ⟨cA1, r1, r2, r3⟩, hrg1⟩ := hce d _ hd2 hld
      have ng : ∀ {x : Int}, am_r32 x → 0 ≤ x → ¬ Int32.ofInt x < 0 := fun {x} hx h0 => by
        rw [show (0 : Int32) = Int32.ofInt 0 from rfl, i32_lt hx r32_0]
        omega
      refine am_copyi (f := fun j => Int32.ofInt (σ.1 a j)) (g := fun j => Int32.ofInt (σ.1 d j)) hx hb (by rw [hml]; exact hl.1.symm) hown hlk (hts _ am_acw.1) (hts _ am_acw.2.1) (hts _ am_acw.2.2.1) q1 r1 q2 r2 (ng gsp g2) (ng gdp g1) (ng gn g0) (by rw [i32_clamp gsp, i32_clamp gn]; omega) (by rw [i32_clamp gdp, i32_clamp gn]; omega) (by omega) (by rw [am_map_cat]; show _ + 18 ≤ _; omega) hdg fun H1 L1 f1 f2 f3 f4 => ?_
      rw [i32_clamp gsp, i32_clamp gdp, i32_clamp gn] at f1
      have hoth : ∀ c j, c ≠ d → (am_cpy σ a sp.toNat d dp.toNat n.toNat).1 c j = σ.1 c j ∧ (am_cpy σ a sp.toNat d dp.toNat n.toNat).2.1 c j = σ.2.1 c j := fun c j hc => ⟨if_neg (fun q => hc q.1), rfl⟩
      refine kk H1 _ cells slots (am_HR_put hH hd2 hld rfl hoth f2 f3 ⟨hok1, ⟨cA1, ?_, r2, r3⟩, fun j hj => ?_⟩) ⟨by rw [f2]; exact hS.1, fun q x1 x2 => ?_, fun q hq => ?_⟩ rfl rfl (rg_t (rg_t (rg_t (rg_t (rg_t gs)))))
      · rw [f1, vp_cell_i]
        congr 2
        funext j
        show Value.int (va_cpy _ _ _ _ _ j) = am_tv z w b (vI (if d = d ∧ dp.toNat ≤ j ∧ j < dp.toNat + n.toNat then σ.1 a (sp.toNat + (j - dp.toNat)) else σ.1 d j))
        unfold va_cpy
        by_cases hj : dp.toNat ≤ j ∧ j < dp.toNat + n.toNat
        · rw [if_pos hj, if_pos ⟨rfl, hj⟩]
          rfl
        · rw [if_neg hj, if_neg (fun q => hj q.2)]
          rfl
      · show am_r32 (if d = d ∧ dp.toNat ≤ j ∧ j < dp.toNat + n.toNat then σ.1 a (sp.toNat + (j - dp.toNat)) else σ.1 d j)
        split
        · rename_i hj
          exact hrg0 _ (by omega)
        · exact hrg1 j hj
      · rw [f3 q (fun e => x2 (by rw [e]; exact am_zA hd2))]
        exact hS.2.1 q x1 x2
      · rcases List.mem_append.mp hq with h | h
        · exact hS.2.2 q h
        · rw [f4 q h]
          exact am_zA hd2
    · rename_i idx k
      simp only [am_side, Bool.and_eq_true, beq_iff_eq, decide_eq_true_eq, List.any_eq_true] at hs
      obtain ⟨rfl, ⟨⟨q, hq, ⟨e1, e2⟩, e3⟩, h1⟩, h2⟩ := hs
      have hlk := hts _ (am_MAk q hq)
      rw [e1, e2, e3] at hlk
      obtain ⟨mw0, ⟨mw1, mw2⟩, ⟨mw3, mw4⟩, mw5, mw6⟩ := am_maw
      have hls : c.maxLocals = ls.size := by rw [hml]; exact hl.1.symm
      unfold am_math at h
      split at h
      · split at h
        · split at h
          · rename_i y x r hcat
            cases h
            have gy : am_r32 y := rg_h gs
            have gx : am_r32 x := rg_h (rg_t gs)
            refine va_mmax hx hb hls hown hlk (hts _ mw1) (hts _ mw0) (hts _ mw2) (by omega) (by rw [am_map_cat]; omega) (by omega) (by omega) hdg ?_
            have := kk H locs cells slots hH hS rfl rfl (rg_c (show am_r32 _ by split <;> assumption) (rg_t (rg_t gs)))
            simp only [i32_lt gx gy]
            by_cases hc : x < y
            · simp only [if_pos hc] at this ⊢; exact this
            · simp only [if_neg hc] at this ⊢; exact this
          · cases h
        · cases h
      · split at h
        · split at h
          · rename_i y x r hcat
            cases h
            have gy : am_r32 y := rg_h gs
            have gx : am_r32 x := rg_h (rg_t gs)
            refine va_mmin hx hb hls hown hlk (hts _ mw3) (hts _ mw0) (hts _ mw4) (by omega) (by rw [am_map_cat]; omega) (by omega) (by omega) hdg ?_
            have := kk H locs cells slots hH hS rfl rfl (rg_c (show am_r32 _ by split <;> assumption) (rg_t (rg_t gs)))
            simp only [i32_lt gy gx]
            by_cases hc : y < x
            · simp only [if_pos hc] at this ⊢; exact this
            · simp only [if_neg hc] at this ⊢; exact this
          · cases h
        · cases h
      · split at h
        · split at h
          · rename_i y x r hcat
            cases h
            have gy : am_r64 y := rg_h gs
            have gx : am_r64 x := rg_h (rg_t gs)
            refine va_mmin_long hx hb hls hown hlk (hts _ mw5) (hts _ mw0) (hts _ mw6) (by omega) (by rw [am_map_cat]; omega) (by omega) (by omega) hdg ?_
            have := kk H locs cells slots hH hS rfl rfl (rg_c (show am_r64 _ by split <;> assumption) (rg_t (rg_t gs)))
            simp only [i64_lt gy gx]
            by_cases hc : y < x
            · simp only [if_pos hc] at this ⊢; exact this
            · simp only [if_neg hc] at this ⊢; exact this
          · cases h
        · cases h
      · cases h
    · cases h
  · cases h
end SIMME
