/-! THE SMALL MACHINE'S CALLS ARE THE LARGE ONE'S -/
def am_P (m : Nat) : List (List am_I) := (am_meths.getD m am_m0).2.2.2.2.2.2.2.2
/-- what is known of a method's call in the large machine: where the small one, begun with these arguments in this world, ends so -/
def am_Met (l0 : Launch) (z w b L : Nat) (xs : Nat → Int32) (D : va_G) (q : am_M) (as : List am_V) (σ : am_S) (r : Option am_V) (σ' : am_S) : Prop :=
  Met l0 q.1 (Cond.code q.1 q.2.1 q.2.2.1 q.2.2.2.1 :: lw_gt) ({ frames := q.2.2.2.2.1.1, cells := σ'.2.2.2.1 - σ.2.2.2.1, slots := σ'.2.2.2.2 - σ.2.2.2.2, locals := q.2.2.2.2.1.2 } : Room)
    (fun v U => v = (as.map (am_tv z w b)).toArray ∧ am_HR z w b L xs D σ U U.heap ∧ am_FX z w b L xs D U)
    (fun _ st oc t => oc = .returned (r.map (am_tv z w b)) ∧ am_HR z w b L xs D σ' t t.heap ∧ va_F (fun q => z ≤ q) st t ∧ am_rg (r.getD (vR 0)))
    (σ'.2.2.2.1 - σ.2.2.2.1) (σ'.2.2.2.2 - σ.2.2.2.2) (fun q => z ≤ q)
theorem am_ML0 : ∀ e ∈ am_ML, e.2.2.1 ≠ 0 ∧ e.2.2.1 < 179 := by decide +kernel
theorem am_NM0 : ∀ e ∈ am_NM, e.2.2 ≠ 0 ∧ e.2.2 < 179 := by decide +kernel
theorem am_cnN : ∀ o, o < 14 → am_cn o ≠ "java/lang/invoke/MethodHandle" ∧ am_cn o ≠ "java/lang/invoke/VarHandle" := by decide +kernel
set_option maxRecDepth 100000 in
theorem am_mlen : am_meths.length = 179 := by decide +kernel
theorem am_mget {j : Nat} (h : j < 179) : ∃ q, am_meths[j]? = some q := ⟨_, List.getElem?_eq_getElem (by rw [am_mlen]; exact h)⟩
set_option maxRecDepth 100000 in
theorem am_rtn_b : (am_meths.all (fun q => decide (2 ≤ q.2.2.2.2.2.2.1 → q.2.2.2.1 = none))) = true := by decide +kernel
theorem am_rtn {j : Nat} {q : am_M} (h : am_meths[j]? = some q) (hk : 2 ≤ q.2.2.2.2.2.2.1) : q.2.2.2.1 = none := of_decide_eq_true (List.all_eq_true.mp am_rtn_b q (List.mem_of_getElem? h)) hk
theorem am_ca_inv {i : Instr} {ops : List Nat} {v : Int} {st st' as : List am_V} {m : Nat} {σ : am_S} (h : am_ca i ops v st σ = some (m, as, st')) : ∃ n, st = as.reverse ++ st' ∧ as.length = n ∧ (st'.map am_cat).sum ≤ 8 ∧ ((as.map am_cat).sum : Int) ≤ v ∧ ((∃ x, i = .invokestatic x ∧ ops = [m, n]) ∨ (∃ x c a as', i = .invokevirtual x ∧ ops = [m, n, c] ∧ as = vR a :: as' ∧ am_isO σ a c = true) ∨ ∃ x a as', i = .invokespecial x ∧ ops = [m, n] ∧ as = vR a :: as') := by
  have key : ∀ (n : Nat) (as : List am_V), (st.take n).reverse = as → n ≤ st.length → st = as.reverse ++ st.drop n ∧ as.length = n := by
    intro n as h1 h2
    subst h1
    rw [List.reverse_reverse, List.take_append_drop, List.length_reverse, List.length_take]
    exact ⟨rfl, by omega⟩
  unfold am_ca at h
  split at h
  · split at h
    · rename_i x _ m' n
      split at h
      · rename_i h1
        cases h
        obtain ⟨k1, k2⟩ := key n _ rfl h1.1
        exact ⟨n, k1, k2, h1.2.1, h1.2.2, Or.inl ⟨x, rfl, rfl⟩⟩
      · cases h
    · cases h
  · split at h
    · rename_i x _ m' n c
      split at h
      · rename_i a as' h0
        split at h
        · rename_i h1
          cases h
          obtain ⟨k1, k2⟩ := key n _ h0 h1.1
          exact ⟨n, k1, k2, h1.2.1, h1.2.2.1, Or.inr (Or.inl ⟨x, c, a, as', rfl, rfl, rfl, h1.2.2.2⟩)⟩
        · cases h
      · cases h
    · cases h
  · split at h
    · rename_i x _ m' n
      split at h
      · rename_i a as' h0
        split at h
        · rename_i h1
          cases h
          obtain ⟨k1, k2⟩ := key n _ h0 h1.1
          exact ⟨n, k1, k2, h1.2.1, h1.2.2, Or.inr (Or.inr ⟨x, a, as', rfl, rfl, rfl⟩)⟩
        · cases h
      · cases h
    · cases h
  · cases h
theorem am_rt_inv {i : Instr} {ops : List Nat} {st : List am_V} {r : Option am_V} (h : am_rt i ops st = some r) : st = r.toList ∧ ((i = .return_ ∧ r = none) ∨ (∃ x, i = .ireturn ∧ r = some (vI x) ∧ (ops.headD 0 = 0 ∨ x = 0 ∨ x = 1)) ∨ (∃ x, i = .lreturn ∧ r = some (vL x)) ∨ ∃ x, i = .areturn ∧ r = some (vR x)) := by
  unfold am_rt at h
  split at h
  · split at h
    · cases h; exact ⟨rfl, Or.inl ⟨rfl, rfl⟩⟩
    · cases h
  · split at h
    · split at h
      · rename_i h1
        cases h; exact ⟨rfl, Or.inr (Or.inl ⟨_, rfl, rfl, h1⟩)⟩
      · cases h
    · cases h
  · split at h
    · cases h; exact ⟨rfl, Or.inr (Or.inr (Or.inl ⟨_, rfl, rfl⟩))⟩
    · cases h
  · split at h
    · cases h; exact ⟨rfl, Or.inr (Or.inr (Or.inr ⟨_, rfl, rfl⟩))⟩
    · cases h
  · cases h
theorem am_sl_len (z w b : Nat) (as : List am_V) : (lg_sl (as.map (am_tv z w b))).length = (as.map am_cat).sum := by
  induction as with
  | nil => rfl
  | cons v as ih =>
    unfold lg_sl at ih ⊢
    rw [List.map_cons, List.flatMap_cons, List.length_append, ih, List.map_cons, List.sum_cons]
    congr 1
    rw [am_tv_cat]
    rcases v with x | x | _ | a <;> rfl
section SIM
variable {p : Program} {l0 : Launch} {e : Env} {R : Room} {s : State} {m : MethodId} {args : Array Value} {below : List Frame} {meth : Method} {c : Code} {H : Heap} {locs : List Loc} {cells slots : Nat} {Q : State → Prop} {cc : ByteArray} {pc : Nat} {ls : Array Slot}
variable {z w b L : Nat} {xs : Nat → Int32} {D : va_G} {o : Nat} {ini : Bool} {maxL : Nat} {ret : Option FieldType} {RF RL : Nat} {sts : List Nat} {len : Nat}
/-- behind a call -/
theorem am_after {st0 : List Value} {rest : List Value} {a : Array Value} {mc ms : Nat} {r : Option am_V} {σ' : am_S}
    (hr : va_Run p l0 e R s m args below meth c H locs cells slots mc ms (F0 m pc ls st0) rest ((fun _ st oc t => oc = .returned (r.map (am_tv z w b)) ∧ am_HR z w b L xs D σ' t t.heap ∧ va_F (fun q => z ≤ q) st t ∧ am_rg (r.getD (vR 0)) : Array Value → State → Outcome → State → Prop) a) (fun q => z ≤ q)) (hS : va_S (fun q => z ≤ q) s.heap H locs)
    (kk : am_rg (r.getD (vR 0)) → ∀ H1 locs1, am_HR z w b L xs D σ' s H1 → va_S (fun q => z ≤ q) s.heap H1 locs1 → W p l0 e R s m args below meth c H1 locs1 (cells + mc) (slots + ms) Q (F0 m (pc + 3) ls ((r.map (am_tv z w b)).toList ++ rest))) : W p l0 e R s m args below meth c H locs cells slots Q (F0 m pc ls st0) := by
  intro T hT X
  obtain ⟨v, st₀, t, T', L0, h0, X', hL, e1, e2, ⟨hv, hp, ⟨hz, hk⟩, hgr⟩, st⟩ := hr T hT X
  cases hv
  rw [h0] at hz hk
  have hal : s.vm.Alike t.vm := by rw [← e2]; exact X'.warmed.alike
  obtain ⟨t2, a1, b1⟩ := kk hgr T'.heap (locs ++ L0) (by rw [e1]; exact am_HR_moved hal.symm hp)
    ⟨Nat.le_trans hS.1 (by rw [e1]; exact hz), fun q h1 h2 => by rw [e1, hk q (Nat.lt_of_lt_of_le h1 hS.1) h2]; exact hS.2.1 q h1 h2, fun q hq => by
      rcases List.mem_append.mp hq with h | h
      · exact hS.2.2 q h
      · exact hL q h⟩ T' rfl X'
  exact ⟨t2, st t2 a1, b1⟩
theorem am_FX_at {U : State} (hF : am_FX z w b L xs D s) (hS : va_S (fun q => z ≤ q) s.heap H locs) (hU : U.heap = H) (hW : s.WarmedH U.vm) : am_FX z w b L xs D U := by
  have hz := hF.2.2.2.2.1.2.2
  refine am_FX_moved hW (fun q hq => ?_) (by rw [hU]; exact Nat.le_trans hz hS.1) hF
  rw [hU]
  exact hS.2.1 q (by omega) (by show ¬ z ≤ q; omega)
theorem am_blind {as : List am_V} {σ : am_S} : FrameBlind (fun v U => v = (as.map (am_tv z w b)).toArray ∧ am_HR z w b L xs D σ U U.heap ∧ am_FX z w b L xs D U) := by
  intro a U g mk h
  obtain ⟨h1, h2, h3⟩ := h
  refine ⟨h1, am_HR_moved (u := U) (U := U.calling g mk a) (Vm.Alike.refl U.vm) h2, ?_⟩
  obtain ⟨g1, g2, g3, g4, g5, g6, g7, g8⟩ := h3
  refine ⟨va_K.moved (u := U) (U := U.calling g mk a) (Vm.Alike.refl U.vm) g1, va_Z.moved (u := U) (U := U.calling g mk a) (Vm.Alike.refl U.vm) g2, va_T.moved (u := U) (U := U.calling g mk a) (Vm.Alike.refl U.vm) g3, va_X.moved (u := U) (U := U.calling g mk a) (Vm.Alike.refl U.vm) g4, g5, fun e he => va_Nw.same (u := U) (U := U.calling g mk a) rfl rfl (g6 e he), fun e he => va_Nw.same (u := U) (U := U.calling g mk a) rfl rfl (g7 e he), va_AO.moved (u := U) (U := U.calling g mk a) (Vm.Alike.refl U.vm) g8⟩
theorem am_map_rev (as st' : List am_V) (f : am_V → Value) : (as.reverse ++ st').map f = (as.map f).reverse ++ st'.map f := by
  rw [List.map_append, List.map_reverse]
set_option maxHeartbeats 4000000 in
theorem am_sim_ca (hx : p.tables.exec = Jvm.exec) (hb : c.code = cc) (hml : c.maxLocals = maxL) (hown : s.vm.findClass (am_cn o) = some m.cls) (hts : ∀ q ∈ lw_gt, q.before args s = true) (hF : am_FX z w b L xs D s) (hRF : R.frames = RF) (hRL : R.locals = RL)
    {i : Instr} {ops : List Nat} {v : Int} {l : am_Lc} {st st' as : List am_V} {σ σ1 : am_S} {j : Nat} {r : Option am_V} (h : am_ca i ops v st σ = some (j, as, st')) (hdg : decode cc pc = .ok (i, len)) (hs : am_side o ini maxL ret RF RL sts pc len i ops v = true)
    (hl : lv_has ls maxL (l.map (am_t2 z w b))) (hH : am_HR z w b L xs D σ s H) (hS : va_S (fun q => z ≤ q) s.heap H locs) (hup : am_up σ σ1) (hrc : cells + σ1.2.2.2.1 ≤ R.cells + σ.2.2.2.1) (hrs : slots + σ1.2.2.2.2 ≤ R.slots + σ.2.2.2.2)
    (hmet : ∀ q, am_meths[j]? = some q → j ≠ 0 → (as.map am_cat).sum ≤ q.2.2.1 → am_Met l0 z w b L xs D q as σ r σ1)
    (kk : am_rg (r.getD (vR 0)) → ∀ H1 locs1 cells1 slots1, am_HR z w b L xs D σ1 s H1 → va_S (fun q => z ≤ q) s.heap H1 locs1 → cells1 + σ.2.2.2.1 = cells + σ1.2.2.2.1 → slots1 + σ.2.2.2.2 = slots + σ1.2.2.2.2 → W p l0 e R s m args below meth c H1 locs1 cells1 slots1 Q (F0 m (pc + len) ls ((r.toList ++ st').map (am_tv z w b)))) :
    W p l0 e R s m args below meth c H locs cells slots Q (F0 m pc ls (st.map (am_tv z w b))) := by
  obtain ⟨n, rfl, hn, hcat, hwd, hk⟩ := am_ca_inv h
  have hsz : ls.size = maxL := hl.1
  have hfix : CallFix p m c cc maxL s args lw_gt (am_cn o) := ⟨hx, hb, hml, hown, hts⟩
  have hrest : 2 * (F0 m pc ls ((as.reverse ++ st').map (am_tv z w b))).monitorRoom + ((st'.map (am_tv z w b)).map fun v => v.category).sum ≤ 8 := lv_room (by rw [am_map_cat]; exact hcat)
  have hroom : cells + (σ1.2.2.2.1 - σ.2.2.2.1) ≤ R.cells ∧ slots + (σ1.2.2.2.2 - σ.2.2.2.2) ≤ R.slots := by
    obtain ⟨u1, u2⟩ := hup
    omega
  have hgoon : am_rg (r.getD (vR 0)) → ∀ H1 locs1, am_HR z w b L xs D σ1 s H1 → va_S (fun q => z ≤ q) s.heap H1 locs1 → W p l0 e R s m args below meth c H1 locs1 (cells + (σ1.2.2.2.1 - σ.2.2.2.1)) (slots + (σ1.2.2.2.2 - σ.2.2.2.2)) Q (F0 m (pc + len) ls ((r.map (am_tv z w b)).toList ++ st'.map (am_tv z w b))) := by
    intro hgr H1 locs1 k1 k2
    obtain ⟨u1, u2⟩ := hup
    have := kk hgr H1 locs1 (cells + (σ1.2.2.2.1 - σ.2.2.2.1)) (slots + (σ1.2.2.2.2 - σ.2.2.2.2)) k1 k2 (by omega) (by omega)
    rw [List.map_append] at this
    cases r with
    | none => exact this
    | some r => exact this
  have hPc : ∀ U : State, U.heap = H → s.WarmedH U.vm → ((as.map (am_tv z w b)).toArray = (as.map (am_tv z w b)).toArray ∧ am_HR z w b L xs D σ U U.heap ∧ am_FX z w b L xs D U) := fun U hU hW => ⟨rfl, by rw [hU]; exact am_HR_moved hW.alike hH, am_FX_at hF hS hU hW⟩
  rcases hk with ⟨x, rfl, rfl⟩ | ⟨x, cn, a, as', rfl, rfl, rfl, hio⟩ | ⟨x, a, as', rfl, rfl, rfl⟩
  · -- static
    simp only [am_side] at hs
    cases hRM : am_RM[j]? with
    | none => rw [hRM] at hs; simp at hs
    | some q =>
      obtain ⟨a1, a2, a3, a4, a5⟩ := q
      rw [hRM] at hs
      simp only [Bool.and_eq_true, beq_iff_eq, decide_eq_true_eq, List.any_eq_true] at hs
      obtain ⟨rfl, ⟨⟨⟨⟨rfl, hf⟩, hlo⟩, hvw⟩, rfl⟩, q, hq, ⟨e1, e2⟩, e3⟩ := hs
      have hlk := hts _ (am_MLk q hq)
      rw [e1, e2, e3] at hlk
      obtain ⟨hj0, hj1⟩ := am_ML0 q hq
      rw [e3] at hj0 hj1
      obtain ⟨mm, hjm⟩ := am_mget hj1
      have hgood := am_gall j mm hjm hj0
      rw [List.getD_eq_getElem?_getD, hjm] at hlk
      obtain ⟨y, bytes, mL, rt, ⟨fF, fL⟩, nn, kd, ss, bb⟩ := mm
      obtain ⟨oo, ho14, how, hcls, -, hRM2, -, hcode, hini, hkw⟩ := hgood
      have hd : y.cls ≠ "java/lang/invoke/MethodHandle" ∧ y.cls ≠ "java/lang/invoke/VarHandle" := by rw [hcls]; exact am_cnN oo ho14
      cases hRM.symm.trans hRM2
      have hme := hmet _ hjm hj0 (by show _ ≤ a3; omega)
      obtain ⟨hst, hpar⟩ := hkw
      have cw : CallB R s args (am_cn o) x y bytes a3 rt (Cond.code y bytes a3 rt :: lw_gt) ({ frames := a1, cells := σ1.2.2.2.1 - σ.2.2.2.1, slots := σ1.2.2.2.2 - σ.2.2.2.2, locals := a2 } : Room) (σ1.2.2.2.1 - σ.2.2.2.1) (σ1.2.2.2.2 - σ.2.2.2.2) a4 ∧ (Cond.static y).before args s = true :=
        ⟨callB_of a4 hts (fun q hq => by
          rcases List.mem_cons.mp hq with rfl | hq
          · exact am_gg _ hcode
          · exact am_gg _ hq) rfl rfl rfl (hts _ hini) hlk ⟨hd.1, hd.2, hpar⟩ ⟨by rw [hRF]; exact hf, by rw [hRL]; exact hlo⟩, hts _ hst⟩
      refine am_after (a := (as.map (am_tv z w b)).toArray) (rest := st'.map (am_tv z w b)) (mc := σ1.2.2.2.1 - σ.2.2.2.1) (ms := σ1.2.2.2.2 - σ.2.2.2.2) (r := r) (σ' := σ1) ?_ hS hgoon
      exact va_runS (As := as.map (am_tv z w b)) (rest := st'.map (am_tv z w b)) hfix hme cw ⟨am_blind, hPc⟩ rfl (by rw [List.length_map]; exact hn) hsz (am_map_rev _ _ _) hrest hdg hroom
  · -- virtual
    simp only [am_side] at hs
    cases hRM : am_RM[j]? with
    | none => rw [hRM] at hs; simp at hs
    | some q =>
      obtain ⟨a1, a2, a3, a4, a5⟩ := q
      rw [hRM] at hs
      simp only [Bool.and_eq_true, beq_iff_eq, decide_eq_true_eq, List.any_eq_true] at hs
      obtain ⟨rfl, ⟨⟨⟨⟨⟨⟨rfl, hf⟩, hlo⟩, hvw⟩, rfl⟩, hcn⟩, how2⟩, q, hq, ⟨e1, e2⟩, e3⟩ := hs
      have hlk := hts _ (am_MLk q hq)
      rw [e1, e2, e3] at hlk
      obtain ⟨hj0, hj1⟩ := am_ML0 q hq
      rw [e3] at hj0 hj1
      obtain ⟨mm, hjm⟩ := am_mget hj1
      have hgood := am_gall j mm hjm hj0
      rw [List.getD_eq_getElem?_getD, hjm] at hlk
      obtain ⟨y, bytes, mL, rt, ⟨fF, fL⟩, nn, kd, ss, bb⟩ := mm
      obtain ⟨oo, ho14, how, hcls, -, hRM2, -, hcode, hini, hkw⟩ := hgood
      have hd : y.cls ≠ "java/lang/invoke/MethodHandle" ∧ y.cls ≠ "java/lang/invoke/VarHandle" := by rw [hcls]; exact am_cnN oo ho14
      cases hRM.symm.trans hRM2
      have hme := hmet _ hjm hj0 (by show _ ≤ a3; omega)
      obtain ⟨hin, hse, hpar⟩ := hkw
      rw [List.getD_eq_getElem?_getD, how] at how2
      have how2 : oo = cn := how2
      subst how2
      obtain ⟨nlen, hla, ha2⟩ := am_isO_inv hio
      obtain ⟨-, ⟨cellB, g1, g2, g3, -⟩, -⟩ := hH.2.2.2.2.2.2 a _ ha2 hla
      have hfc := (hF.1.1 oo _ (am_clA oo hcn)).2.1
      have cw : CallW R s args (am_cn o) (am_cn oo) x y bytes a3 rt (Cond.code y bytes a3 rt :: lw_gt) ({ frames := a1, cells := σ1.2.2.2.1 - σ.2.2.2.1, slots := σ1.2.2.2.2 - σ.2.2.2.2, locals := a2 } : Room) (σ1.2.2.2.1 - σ.2.2.2.1) (σ1.2.2.2.2 - σ.2.2.2.2) (a4 - 1) :=
        ⟨callB_of (a4 - 1) hts (fun q hq => by
          rcases List.mem_cons.mp hq with rfl | hq
          · exact am_gg _ hcode
          · exact am_gg _ hq) rfl rfl rfl (hts _ hini) hlk ⟨hd.1, hd.2, hpar⟩ ⟨by rw [hRF]; exact hf, by rw [hRL]; exact hlo⟩, hts _ hin, by rw [← hcls]; exact hts _ hse⟩
      refine am_after (a := (Value.ref (am_ad z w b a) :: as'.map (am_tv z w b)).toArray) (rest := st'.map (am_tv z w b)) (mc := σ1.2.2.2.1 - σ.2.2.2.1) (ms := σ1.2.2.2.2 - σ.2.2.2.2) (r := r) (σ' := σ1) ?_ hS hgoon
      exact va_runV (b := am_ad z w b a) (As := as'.map (am_tv z w b)) (rest := st'.map (am_tv z w b)) hfix hme cw ⟨am_blind, ⟨cellB, g1, by rw [g3]; rfl, by rw [g2]; exact hfc⟩, hPc⟩ rfl (by rw [List.length_map]; simp only [List.length_cons] at hn; omega) hsz (by rw [am_map_rev]; show (Value.ref (am_ad z w b a) :: as'.map (am_tv z w b)).reverse ++ _ = _; rw [List.reverse_cons, List.append_assoc]; rfl) hrest hdg hroom
  · -- making
    simp only [am_side] at hs
    cases hRM : am_RM[j]? with
    | none => rw [hRM] at hs; simp at hs
    | some q =>
      obtain ⟨a1, a2, a3, a4, a5⟩ := q
      rw [hRM] at hs
      simp only [Bool.and_eq_true, Bool.or_eq_true, beq_iff_eq, decide_eq_true_eq, List.any_eq_true] at hs
      obtain ⟨rfl, ⟨⟨⟨rfl, hf⟩, hlo⟩, hvw⟩, hor⟩ := hs
      rcases hor with ⟨rfl, q, hq, ⟨e1, e2⟩, e3⟩ | ⟨rfl, q, hq, ⟨e1, e2⟩, e3⟩
      · have hlk := hts _ (am_MLk q hq)
        rw [e1, e2, e3] at hlk
        obtain ⟨hj0, hj1⟩ := am_ML0 q hq
        rw [e3] at hj0 hj1
        obtain ⟨mm, hjm⟩ := am_mget hj1
        have hgood := am_gall j mm hjm hj0
        rw [List.getD_eq_getElem?_getD, hjm] at hlk
        obtain ⟨y, bytes, mL, rt, ⟨fF, fL⟩, nn, kd, ss, bb⟩ := mm
        obtain ⟨oo, ho14, how, hcls, -, hRM2, -, hcode, hini, hkw⟩ := hgood
        have hd : y.cls ≠ "java/lang/invoke/MethodHandle" ∧ y.cls ≠ "java/lang/invoke/VarHandle" := by rw [hcls]; exact am_cnN oo ho14
        cases hRM.symm.trans hRM2
        have hme := hmet _ hjm hj0 (by show _ ≤ a3; omega)
        obtain ⟨hin, hnam, hpar⟩ := hkw
        have hrt : rt = none := am_rtn hjm (Nat.le_of_ble_eq_true rfl)
        subst hrt
        have cw : CallB R s args (am_cn o) x y bytes a3 none (Cond.code y bytes a3 none :: lw_gt) ({ frames := a1, cells := σ1.2.2.2.1 - σ.2.2.2.1, slots := σ1.2.2.2.2 - σ.2.2.2.2, locals := a2 } : Room) (σ1.2.2.2.1 - σ.2.2.2.1) (σ1.2.2.2.2 - σ.2.2.2.2) (a4 - 1) ∧ y.name = "<init>" ∧ (Cond.instanceMethod y).before args s = true :=
          ⟨callB_of (a4 - 1) hts (fun q hq => by
            rcases List.mem_cons.mp hq with rfl | hq
            · exact am_gg _ hcode
            · exact am_gg _ hq) rfl rfl rfl (hts _ hini) hlk ⟨hd.1, hd.2, hpar⟩ ⟨by rw [hRF]; exact hf, by rw [hRL]; exact hlo⟩, hnam, hts _ hin⟩
        refine am_after (a := (Value.ref (am_ad z w b a) :: as'.map (am_tv z w b)).toArray) (rest := st'.map (am_tv z w b)) (mc := σ1.2.2.2.1 - σ.2.2.2.1) (ms := σ1.2.2.2.2 - σ.2.2.2.2) (r := r) (σ' := σ1) ?_ hS hgoon
        exact va_runI (b := am_ad z w b a) (As := as'.map (am_tv z w b)) (rest := st'.map (am_tv z w b)) hfix hme cw ⟨am_blind, hPc⟩ rfl (by rw [List.length_map]; simp only [List.length_cons] at hn; omega) hsz (by rw [am_map_rev]; show (Value.ref (am_ad z w b a) :: as'.map (am_tv z w b)).reverse ++ _ = _; rw [List.reverse_cons, List.append_assoc]; rfl) hrest hdg hroom
      · have hlk := va_Nw.use (A := args) rfl (hF.2.2.2.2.2.2.1 q hq)
        rw [e1, e2, e3] at hlk
        obtain ⟨hj0, hj1⟩ := am_NM0 q hq
        rw [e3] at hj0 hj1
        obtain ⟨mm, hjm⟩ := am_mget hj1
        have hgood := am_gall j mm hjm hj0
        rw [List.getD_eq_getElem?_getD, hjm] at hlk
        obtain ⟨y, bytes, mL, rt, ⟨fF, fL⟩, nn, kd, ss, bb⟩ := mm
        obtain ⟨oo, ho14, how, hcls, -, hRM2, -, hcode, hini, hkw⟩ := hgood
        have hd : y.cls ≠ "java/lang/invoke/MethodHandle" ∧ y.cls ≠ "java/lang/invoke/VarHandle" := by rw [hcls]; exact am_cnN oo ho14
        cases hRM.symm.trans hRM2
        have hme := hmet _ hjm hj0 (by show _ ≤ a3; omega)
        obtain ⟨hin, hnam, hpar⟩ := hkw
        have hrt : rt = none := am_rtn hjm (Nat.le_of_ble_eq_true rfl)
        subst hrt
        have cw : va_CN R s args (am_cn o) x y "WashLine" bytes a3 none (Cond.code y bytes a3 none :: lw_gt) ({ frames := a1, cells := σ1.2.2.2.1 - σ.2.2.2.1, slots := σ1.2.2.2.2 - σ.2.2.2.2, locals := a2 } : Room) (σ1.2.2.2.1 - σ.2.2.2.1) (σ1.2.2.2.2 - σ.2.2.2.2) (a4 - 1) ∧ y.name = "<init>" ∧ (Cond.instanceMethod y).before args s = true :=
          ⟨va_cnB (a4 - 1) hts (fun q hq => by
            rcases List.mem_cons.mp hq with rfl | hq
            · exact am_gg _ hcode
            · exact am_gg _ hq) rfl rfl rfl (va_Nw.of rfl hlk) (hts _ hini) ⟨hd.1, hd.2, hpar⟩ ⟨by rw [hRF]; exact hf, by rw [hRL]; exact hlo⟩, hnam, hts _ hin⟩
        refine am_after (a := (Value.ref (am_ad z w b a) :: as'.map (am_tv z w b)).toArray) (rest := st'.map (am_tv z w b)) (mc := σ1.2.2.2.1 - σ.2.2.2.1) (ms := σ1.2.2.2.2 - σ.2.2.2.2) (r := r) (σ' := σ1) ?_ hS hgoon
        exact va_runIN (b := am_ad z w b a) (As := as'.map (am_tv z w b)) (rest := st'.map (am_tv z w b)) hfix hme cw ⟨am_blind, hPc⟩ rfl (by rw [List.length_map]; simp only [List.length_cons] at hn; omega) hsz (by rw [am_map_rev]; show (Value.ref (am_ad z w b a) :: as'.map (am_tv z w b)).reverse ++ _ = _; rw [List.reverse_cons, List.append_assoc]; rfl) hrest hdg hroom
/-- what waits behind the end -/
def am_End (p : Program) (l0 : Launch) (e : Env) (R : Room) (s : State) (m : MethodId) (args : Array Value) (below : List Frame) (meth : Method) (c : Code) (Q : State → Prop) (cc : ByteArray) (ret : Option FieldType) (z w b L : Nat) (xs : Nat → Int32) (D : va_G) (mc ms : Nat) (r : Option am_V) (σf : am_S) : Prop :=
  ∀ (pc : Nat) (ls : Array Slot) (H : Heap) (locs : List Loc), am_HR z w b L xs D σf s H → va_S (fun q => z ≤ q) s.heap H locs →
    (match r with
      | none => decode cc pc = .ok (.return_, 1) ∧ ret = none
      | some (.inl x) => decode cc pc = .ok (.ireturn, 1) ∧ (ret = some .int ∨ (ret = some .boolean ∧ (x = 0 ∨ x = 1)))
      | some (.inr (.inl _)) => decode cc pc = .ok (.lreturn, 1) ∧ ret = some .long
      | some (.inr (.inr (some _))) => decode cc pc = .ok (.areturn, 1) ∧ ret = some (.array .int)
      | _ => False) → W p l0 e R s m args below meth c H locs mc ms Q (F0 m pc ls ((r.map (am_tv z w b)).toList))
set_option maxHeartbeats 4000000 in
theorem am_sim_run (hx : p.tables.exec = Jvm.exec) (hb : c.code = cc) (hml : c.maxLocals = maxL) (hown : s.vm.findClass (am_cn o) = some m.cls) (hts : ∀ q ∈ lw_gt, q.before args s = true) (hF : am_FX z w b L xs D s) (hini : ini = true → meth.name = "<init>") (hRF : R.frames = RF) (hRL : R.locals = RL) {bs : List (List am_I)} (hbs : ∀ k t, sts[k]? = some t → am_chk o ini maxL ret RF RL sts cc t (bs.getD k []) = true)
    {r : Option am_V} {σf : am_S} {mc ms : Nat} (hmc : mc ≤ R.cells) (hms : ms ≤ R.slots) (hend : am_rg (r.getD (vR 0)) → am_End p l0 e R s m args below meth c Q cc ret z w b L xs D mc ms r σf) :
    ∀ (n : Nat), (∀ (k : Nat), k < n → ∀ (j : Nat) (q : am_M) (as : List am_V) (σ : am_S) (r : Option am_V) (σ' : am_S), am_meths[j]? = some q → j ≠ 0 → (as.map am_cat).sum ≤ q.2.2.1 → (∀ v ∈ as, am_rg v) → am_run am_P k (am_P j) ((am_P j).getD 0 []) (am_args 0 as) [] σ = some (r, σ') → am_Met l0 z w b L xs D q as σ r σ') →
    ∀ (is : List am_I) (pc : Nat) (l : am_Lc) (st : List am_V) (σ : am_S) (ls : Array Slot) (H : Heap) (locs : List Loc) (cells slots : Nat), am_chk o ini maxL ret RF RL sts cc pc is = true → lv_has ls maxL (l.map (am_t2 z w b)) → (∀ q ∈ l, am_rg q.2) → (∀ v ∈ st, am_rg v) → am_HR z w b L xs D σ s H → va_S (fun q => z ≤ q) s.heap H locs → cells + σf.2.2.2.1 = mc + σ.2.2.2.1 → slots + σf.2.2.2.2 = ms + σ.2.2.2.2 →
      am_run am_P n bs is l st σ = some (r, σf) → W p l0 e R s m args below meth c H locs cells slots Q (F0 m pc ls (st.map (am_tv z w b))) := by
  intro n
  induction n with
  | zero => intro _ is pc l st σ ls H locs cells slots _ _ _ _ _ _ _ _ h; simp [am_run] at h
  | succ n ih =>
    intro hcall is pc l st σ ls H locs cells slots hchk hl gl gs hH hS hc1 hc2 h
    have ih := ih (fun k hk => hcall k (Nat.lt_succ_of_lt hk))
    cases is with
    | nil => simp [am_run] at h
    | cons i is =>
      obtain ⟨i, ops, v⟩ := i
      have hup := am_up_run am_P _ _ _ _ _ _ _ _ h
      rw [am_run] at h
      unfold am_chk at hchk
      by_cases hnop : i = .nop
      · subst hnop
        rw [if_pos rfl] at hchk
        have h : am_run am_P n bs (bs.getD (ops.headD 0) []) l st σ = some (r, σf) := h
        split at hchk
        · rename_i t ht
          have := of_decide_eq_true hchk
          subst this
          exact ih _ _ l st σ ls H locs cells slots (hbs _ _ ht) hl gl gs hH hS hc1 hc2 h
        · cases hchk
      · rw [if_neg hnop] at hchk
        split at hchk
        · rename_i j len hdg
          rw [Bool.and_eq_true, Bool.and_eq_true] at hchk
          obtain ⟨⟨hij, hs⟩, hchk⟩ := hchk
          have := of_decide_eq_true hij
          subst this
          cases h1 : am_ar j v l st with
          | some q =>
            rw [h1] at h
            obtain ⟨l', st'⟩ := q
            exact am_sim_ar hx hb hown hts h1 hdg hs hl gl gs (fun ls' hl' gl' gs' => ih _ _ l' st' σ ls' H locs cells slots hchk hl' gl' gs' hH hS hc1 hc2 h)
          | none =>
            rw [h1] at h
            dsimp only at h
            cases h2 : am_me j ops st σ with
            | some q =>
              obtain ⟨st', σ'⟩ := q
              rw [h2] at h
              have hu1 := am_up_me h2
              have hu2 := am_up_run am_P _ _ _ _ _ _ _ _ h
              obtain ⟨u1, u2⟩ := hu1
              obtain ⟨u3, u4⟩ := hu2
              exact am_sim_me hx hb hml hown hts hF hini hRF hRL h2 hdg hs hl gs hH hS (by omega) (by omega) (fun H1 locs1 c1 s1 k1 k2 k3 k4 gs' => ih _ _ l st' σ' ls H1 locs1 c1 s1 hchk hl gl gs' k1 k2 (by omega) (by omega) h)
            | none =>
              rw [h2] at h
              dsimp only at h
              cases h3 : am_ct j ops st with
              | some q =>
                obtain ⟨k, st'⟩ := q
                rw [h3] at h
                refine am_sim_ct hx hb h3 hnop hdg hs gs (fun hk gs' => ?_) (fun k' t hk ht gs' => ?_)
                · subst hk
                  exact ih _ _ l st' σ ls H locs cells slots hchk hl gl gs' hH hS hc1 hc2 h
                · subst hk
                  exact ih _ _ l st' σ ls H locs cells slots (hbs _ _ ht) hl gl gs' hH hS hc1 hc2 h
              | none =>
                rw [h3] at h
                dsimp only at h
                cases h4 : am_ca j ops v st σ with
                | some q =>
                  obtain ⟨mm, as, st'⟩ := q
                  rw [h4] at h
                  dsimp only at h
                  cases h5 : am_run am_P n (am_P mm) ((am_P mm).getD 0 []) (am_args 0 as) [] σ with
                  | none => rw [h5] at h; cases h
                  | some q =>
                    obtain ⟨r1, σ1⟩ := q
                    rw [h5] at h
                    have hu1 := am_up_run am_P _ _ _ _ _ _ _ _ h5
                    have hu2 := am_up_run am_P _ _ _ _ _ _ _ _ h
                    have gas : ∀ u ∈ as, am_rg u := by
                      obtain ⟨nn, e1, -⟩ := am_ca_inv h4
                      intro u hu
                      exact gs u (by rw [e1]; exact List.mem_append_left _ (List.mem_reverse.mpr hu))
                    have gst : ∀ u ∈ st', am_rg u := by
                      obtain ⟨nn, e1, -⟩ := am_ca_inv h4
                      intro u hu
                      exact gs u (by rw [e1]; exact List.mem_append_right _ hu)
                    have hu3 := hu1
                    obtain ⟨u1, u2⟩ := hu1
                    obtain ⟨u3, u4⟩ := hu2
                    refine am_sim_ca hx hb hml hown hts hF hRF hRL h4 hdg hs hl hH hS hu3 (by omega) (by omega) (fun q hq hm0 hwd => (hcall n (Nat.lt_succ_self n) mm q as σ r1 σ1 hq hm0 hwd gas h5)) (fun gr H1 locs1 c1 s1 k1 k2 k3 k4 => ih _ _ l (r1.toList ++ st') σ1 ls H1 locs1 c1 s1 hchk hl gl ?_ k1 k2 (by omega) (by omega) h)
                    intro u hu
                    rcases List.mem_append.mp hu with hu | hu
                    · cases r1 with
                      | none => cases hu
                      | some r1 =>
                        cases List.mem_singleton.mp hu
                        exact gr
                    · exact gst u hu
                | none =>
                  rw [h4] at h
                  dsimp only at h
                  cases h6 : am_rt j ops st with
                  | none => rw [h6] at h; cases h
                  | some r1 =>
                    rw [h6] at h
                    cases h
                    obtain ⟨e1, hk⟩ := am_rt_inv h6
                    subst e1
                    have gr : am_rg (r.getD (vR 0)) := by
                      cases r with
                      | none => exact trivial
                      | some r => exact gs r List.mem_cons_self
                    have hc3 : cells = mc := by omega
                    have hs3 : slots = ms := by omega
                    subst hc3
                    subst hs3
                    have hfin := hend gr pc ls H locs hH hS
                    rcases hk with ⟨rfl, rfl⟩ | ⟨x, rfl, rfl, hx01⟩ | ⟨x, rfl, rfl⟩ | ⟨x, rfl, rfl⟩
                    · simp only [am_side, Bool.and_eq_true, beq_iff_eq, decide_eq_true_eq] at hs
                      obtain ⟨rfl, hr⟩ := hs
                      exact hfin ⟨hdg, hr⟩
                    · simp only [am_side, Bool.and_eq_true, beq_iff_eq, decide_eq_true_eq] at hs
                      obtain ⟨rfl, hr⟩ := hs
                      refine hfin ⟨hdg, ?_⟩
                      rcases hr with ⟨-, hr⟩ | ⟨rfl, hr⟩
                      · exact Or.inl hr
                      · refine Or.inr ⟨hr, ?_⟩
                        rcases hx01 with h | h
                        · cases h
                        · exact h
                    · simp only [am_side, Bool.and_eq_true, beq_iff_eq, decide_eq_true_eq] at hs
                      obtain ⟨rfl, hr⟩ := hs
                      exact hfin ⟨hdg, hr⟩
                    · simp only [am_side, Bool.and_eq_true, beq_iff_eq, decide_eq_true_eq] at hs
                      obtain ⟨rfl, hr⟩ := hs
                      exact hfin ⟨hdg, hr⟩
        · cases hchk
/-- the least that a call's end must give -/
theorem am_chkB {o : Nat} {q : am_M} (h : am_chkM o q = true) : ∀ (k t : Nat), q.2.2.2.2.2.2.2.1[k]? = some t → am_chk o (q.1.name == "<init>") q.2.2.1 q.2.2.2.1 q.2.2.2.2.1.1 q.2.2.2.2.1.2 q.2.2.2.2.2.2.2.1 q.2.1 t (q.2.2.2.2.2.2.2.2.getD k []) = true := by
  obtain ⟨y, bytes, mL, rt, ⟨fF, fL⟩, nn, kd, ss, bb⟩ := q
  intro k t ht
  have ht : ss[k]? = some t := ht
  have h : (decide (ss[0]? = some 0) && decide (ss.length = bb.length) && (ss.zip bb).all (fun q => am_chk o (y.name == "<init>") mL rt fF fL ss bytes q.1 q.2)) = true := h
  rw [Bool.and_eq_true, Bool.and_eq_true] at h
  obtain ⟨⟨h1, h2⟩, h3⟩ := h
  have h2 := of_decide_eq_true h2
  have hk : k < ss.length := (List.getElem?_eq_some_iff.mp ht).1
  have hb : bb[k]? = some (bb.getD k []) := by
    rw [List.getD_eq_getElem?_getD, List.getElem?_eq_getElem (by omega)]
    rfl
  have hz : (ss.zip bb)[k]? = some (t, bb.getD k []) := by
    rw [List.getElem?_zip_eq_some]
    exact ⟨ht, hb⟩
  exact List.all_eq_true.mp h3 _ (List.mem_of_getElem? hz)
theorem am_chk0 {o : Nat} {q : am_M} (h : am_chkM o q = true) : q.2.2.2.2.2.2.2.1[0]? = some 0 := by
  obtain ⟨y, bytes, mL, rt, ⟨fF, fL⟩, nn, kd, ss, bb⟩ := q
  have h : (decide (ss[0]? = some 0) && decide (ss.length = bb.length) && (ss.zip bb).all (fun q => am_chk o (y.name == "<init>") mL rt fF fL ss bytes q.1 q.2)) = true := h
  rw [Bool.and_eq_true, Bool.and_eq_true] at h
  exact of_decide_eq_true h.1.1
set_option maxHeartbeats 4000000 in
theorem am_sim_all (l0 : Launch) (z w b L : Nat) (xs : Nat → Int32) (D : va_G) : ∀ (n : Nat) (j : Nat) (q : am_M) (as : List am_V) (σ : am_S) (r : Option am_V) (σ' : am_S), am_meths[j]? = some q → j ≠ 0 → (as.map am_cat).sum ≤ q.2.2.1 → (∀ v ∈ as, am_rg v) → am_run am_P n (am_P j) ((am_P j).getD 0 []) (am_args 0 as) [] σ = some (r, σ') → am_Met l0 z w b L xs D q as σ r σ' := by
  intro n
  induction n using Nat.strongRecOn with
  | ind n ihn =>
    intro j q as σ r σ' hq hj hwd gas h
    have hgood := am_gall j q hq hj
    have hP : am_P j = q.2.2.2.2.2.2.2.2 := by
      unfold am_P
      rw [List.getD_eq_getElem?_getD, hq]
      rfl
    obtain ⟨y, bytes, mL, rt, ⟨fF, fL⟩, nn, kd, ss, bb⟩ := q
    obtain ⟨o, ho14, how, hcls, hchk, hRM, hpl, hcode, hini, hkw⟩ := hgood
    have hB := am_chkB hchk
    have h0 := am_chk0 hchk
    have hP : am_P j = bb := hP
    unfold am_Met
    refine Met.ofW (cc := bytes) (maxL := mL) (ret := rt) hpl rfl ?_
    intro p e s m args below meth c s₁ B hml hv
    obtain ⟨rfl, hH, hF⟩ := hv
    have hx := B.exec
    have hb := B.bytes
    have hr := B.returns
    have hts0 := atoms_spec (ws := Cond.code y bytes mL rt :: lw_gt) B.pre
    have hts : ∀ q ∈ lw_gt, q.before (as.map (am_tv z w b)).toArray s = true := fun q hq => hts0 q (List.mem_cons_of_mem _ hq)
    have hown : s.vm.findClass (am_cn o) = some m.cls := by rw [← hcls]; exact findClass_of_methodNamed B.named
    have hlocks := B.notSynchronized
    have hnm : meth.name = y.name := (name_of_methodNamed B.named B.method).1
    have hlen : (lg_sl (as.map (am_tv z w b))).length ≤ mL := by rw [am_sl_len]; exact hwd
    have hl := lv_entry (as.map (am_tv z w b)) (n := mL) hlen
    rw [am_args_map] at hl
    rw [lg_entry_eq]
    generalize (lg_sl (as.map (am_tv z w b)) ++ List.replicate (mL - (lg_sl (as.map (am_tv z w b))).length) Slot.unset).toArray = ls at hl ⊢
    have hup := am_up_run am_P _ _ _ _ _ _ _ _ h
    obtain ⟨u1, u2⟩ := hup
    have hrun := am_sim_run (p := p) (l0 := l0) (e := e) (R := (headSpec (Cond.code y bytes mL rt :: lw_gt) ({ frames := fF, cells := σ'.2.2.2.1 - σ.2.2.2.1, slots := σ'.2.2.2.2 - σ.2.2.2.2, locals := fL } : Room)).room) (s := s) (m := m) (args := (as.map (am_tv z w b)).toArray) (below := below) (meth := meth) (c := c) (Q := MQ below (fun _ st oc t => oc = .returned (r.map (am_tv z w b)) ∧ am_HR z w b L xs D σ' t t.heap ∧ va_F (fun q => z ≤ q) st t ∧ am_rg (r.getD (vR 0))) (as.map (am_tv z w b)).toArray s (σ'.2.2.2.1 - σ.2.2.2.1) (σ'.2.2.2.2 - σ.2.2.2.2) (fun q => z ≤ q)) (cc := bytes) (z := z) (w := w) (b := b) (L := L) (xs := xs) (D := D) (o := o) (ini := y.name == "<init>") (maxL := mL) (ret := rt) (RF := fF) (RL := fL) (sts := ss) hx hb hml hown hts hF (fun hi => by rw [hnm]; exact eq_of_beq hi) rfl rfl (bs := bb) hB (r := r) (σf := σ') (mc := σ'.2.2.2.1 - σ.2.2.2.1) (ms := σ'.2.2.2.2 - σ.2.2.2.2) (Nat.le_refl _) (Nat.le_refl _) ?_ n (fun k hk => ihn k hk) (bb.getD 0 []) 0 (am_args 0 as) [] σ ls s.heap [] 0 0 (hB 0 0 h0) hl (am_args_rg 0 as gas) (fun v hv => by cases hv) hH va_S.rf (by omega) (by omega) (by rw [← hP]; exact h)
    · exact hrun
    · intro hgr pc ls H locs hH hS hm
      have hq : ∀ t : State, t.heap = H → s.WarmedH t.vm → (Outcome.returned (r.map (am_tv z w b)) = .returned (r.map (am_tv z w b)) ∧ am_HR z w b L xs D σ' t t.heap ∧ va_F (fun q => z ≤ q) s t ∧ am_rg (r.getD (vR 0))) := fun t ht hW => ⟨rfl, by rw [ht]; exact am_HR_moved hW.alike hH, hS.F ht, hgr⟩
      rcases r with _ | x | x | x
      · exact W.vret hx hb (by rw [hr, hm.2]) hq hS.2.2 hm.1
      · obtain ⟨hd, hrt⟩ := hm
        rcases hrt with hrt | ⟨hrt, h01⟩
        · exact W.iret hx hb (by rw [hr, hrt]) hq hS.2.2 hd
        · refine W.zret (ty := .boolean) hx hb (by rw [hr, hrt]) ?_ hq hS.2.2 hd
          rcases h01 with rfl | rfl <;> rfl
      · exact W.lret hx hb (by rw [hr, hm.2]) hq hS.2.2 hm.1
      · rcases x with _ | x
        · exact absurd hm (fun h => h)
        · exact W.aret (v := am_tv z w b (vR x)) hx hb (by rw [hr, hm.2]) (Or.inr ⟨.int, rfl⟩) (Or.inr ⟨_, rfl⟩) hq hS.2.2 hm.1
end SIM
