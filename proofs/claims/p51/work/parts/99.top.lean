/-! THE TOP: what the small machine does with the law is the claim -/
def tp_F : List (List Nat) := [[218, 220, 222, 224, 226, 228, 230, 232, 234, 236], [255, 257, 259, 261], [273, 275, 277], [146, 148, 150], [291, 293, 295, 297, 299], [387, 389, 391, 393, 395, 397, 399, 401, 403, 405, 407], [135, 137], [331, 333, 335, 337, 339, 341, 343, 345, 347, 349, 351, 353, 355, 357, 359, 361, 363, 365], [103, 105, 107, 109, 111, 113], [427, 429, 431, 433, 435, 437, 439, 441, 443, 445, 447, 449, 451, 453, 455, 457], [427, 429, 431, 433, 435, 437, 439, 441, 443, 445, 447, 449, 451, 453, 455, 457]]
def tp_I : List Nat := [154, 240, 265, 118, 281, 370, 124, 305, 66, 56, 56]
set_option maxRecDepth 100000 in
theorem tp_F_b : ((List.range 11).all (fun c => (List.range (am_cN c)).all (fun k => decide (lw_tbl[(tp_F.getD c []).getD k 0]? = some (u_lay (am_cn c) (am_Tt c) k))))) = true := by decide +kernel
set_option maxRecDepth 100000 in
theorem tp_I_b : ((List.range 11).all (fun c => decide (lw_tbl[tp_I.getD c 0]? = some (Jvm.Cond.instantiable (am_cn c) (am_cN c))))) = true := by decide +kernel
theorem tp_F_in {c : Nat} (hc : c < 11) : ∀ w ∈ u_ws (am_cn c) (am_Tt c) (am_cN c), w ∈ lw_tbl := by
  intro w hw
  unfold u_ws at hw
  obtain ⟨k, hk, rfl⟩ := List.mem_map.mp hw
  have h1 := List.all_eq_true.mp tp_F_b c (List.mem_range.mpr hc)
  have h2 := List.all_eq_true.mp h1 k hk
  exact List.mem_of_getElem? (of_decide_eq_true h2)
theorem tp_I_in {c : Nat} (hc : c < 11) : Jvm.Cond.instantiable (am_cn c) (am_cN c) ∈ lw_tbl :=
  List.mem_of_getElem? (of_decide_eq_true (List.all_eq_true.mp tp_I_b c (List.mem_range.mpr hc)))
set_option maxRecDepth 100000 in
theorem tp_ls : Jvm.Cond.laysStatic "WashLine" "WORTHS" "[I" ∈ lw_tbl := List.mem_of_getElem? (i := 181) (by decide +kernel)
set_option maxRecDepth 100000 in
theorem tp_in : Jvm.Cond.initialized "WashLine" ∈ lw_tbl := List.mem_of_getElem? (i := 42) (by decide +kernel)
set_option maxRecDepth 100000 in
theorem tp_ao : Jvm.Cond.arrayOver (Jvm.ClassFile.FieldType.object "WashLine$Strip") ∈ lw_tbl := List.mem_of_getElem? (i := 64) (by decide +kernel)
set_option maxRecDepth 100000 in
theorem tp_ng : ∀ e ∈ am_NG, Jvm.Cond.fieldLinkNest (am_cn e.1) e.2 "WashLine" "WORTHS" "[I" "WashLine" ∈ lw_tbl := by
  intro e he
  rcases List.mem_cons.mp he with rfl | he
  · exact List.mem_of_getElem? (i := 180) (by decide +kernel)
  · rcases List.mem_cons.mp he with rfl | he
    · exact List.mem_of_getElem? (i := 848) (by decide +kernel)
    · cases he
set_option maxRecDepth 100000 in
theorem tp_nm : ∀ e ∈ am_NM, Jvm.Cond.methodLinkNest (am_cn e.1) e.2.1 (am_meths.getD e.2.2 am_m0).1 "WashLine" ∈ lw_tbl := by
  intro e he
  rcases List.mem_cons.mp he with rfl | he
  · exact List.mem_of_getElem? (i := 119) (by decide +kernel)
  · rcases List.mem_cons.mp he with rfl | he
    · exact List.mem_of_getElem? (i := 241) (by decide +kernel)
    · cases he
def R_law : String := "WashLineLaw"
def lw_P (b : Addr) (xs : List Int32) (args : Array Value) (s : State) : Prop := args = #[.ref b] ∧ s.IntsAt b xs ∧ xs.length ≤ 260 ∧ (Jvm.Cond.and given_1 narrow_1).before args s = true
def lw_Q (_ : Array Value) (s : State) (o : Outcome) (t : State) : Prop := o = .returned (some (.int 1)) ∧ Framed s o t [] 600000 7302250
def lw_Z (below : List Frame) (a : Array Value) (s : State) : State → Prop := fun t => ∃ o, t.status = .running ∧ Ended t below o ∧ lw_Q a s o t
/-- the law's own end, with 1 on the stack, nothing written that was there before, its room as the claim has it -/
theorem lw_ret {p : Program} {l : Launch} {e : Env} {s : State} {m : MethodId} {below : List Frame} {meth : Method} {c : Code} {b : Nat} (hx : p.tables.exec = Jvm.exec) (hb : c.code = code) (hr : meth.sig.returnType = ret) (hlocks : meth.locks = false) {pc : Nat} {H : Heap} {ls : Array Slot} (hdg : decode code pc = .ok (.ireturn, 1)) : W p l e room_1 s m #[Value.ref b] below meth c H [] 600000 7302250 (lw_Z below #[Value.ref b] s) (F0 m pc ls [.int 1]) := by
  intro T hT X
  obtain ⟨fs, hret, hrun, hended, hW, hframe⟩ := X.leave (v := some (.int 1)) (hlocks := hlocks) (fun h => by rw [hr] at h; cases h)
  have hmeth' : T.vm.method? m = some meth := X.method'
  refine ⟨T.setFrames fs, ?_, .returned (some (.int 1)), hrun, hended, rfl, ⟨_, rfl⟩, hW, hframe⟩
  jvm_step X.here [X.here.top, hx, hb, hdg, hmeth', hr, ret, narrow_b1]
  (try refine ⟨rfl, ?_⟩); (try refine ⟨rfl, ?_⟩)
  first | (intro acts; rw [hret _ acts rfl rfl rfl]) | rw [hret _ _ rfl rfl rfl]
  exact Steps.refl _
/-- what holds at the law's entry: the machine, the code, the tables' words (any of lw_tbl by 'hts w (by decide +kernel)'), the script of L ints xs at the cell b, what the Statement gives of the start (any of its parts by flat_of_before) -/
def lw_At (p : Program) (s : State) (m : MethodId) (meth : Method) (c : Code) (b L : Nat) (xs : Nat → Int32) : Prop :=
  p.tables.exec = Jvm.exec ∧ c.code = code ∧ meth.sig.returnType = ret ∧ c.maxLocals = 25 ∧ s.vm.findClass R_law = some m.cls ∧ (∀ w ∈ lw_tbl, w.before #[Value.ref b] s = true) ∧ va_X b L xs s s.heap ∧ b < s.heap.size ∧ meth.locks = false ∧ (Jvm.Cond.and given_1 narrow_1).before #[Value.ref b] s = true
/-- the small machine's start: the worths, the script -/
def tp_σ (L : Nat) (xs : Nat → Int32) : am_S := (fun a j => if a = 0 then (am_wv j).toInt else if a = 1 then (xs j).toInt else 0, fun _ _ => none, [(.inl .int, 6), (.inl .int, L)], 0, 0)
/-- what is to be shown of the small machine -/
def tp_Run : Prop := ∀ (L : Nat) (xs : Nat → Int32), L ≤ 260 → ∃ n σ', am_run am_P n am_b0 (am_b0.getD 0 []) [(0, vR 1)] [] (tp_σ L xs) = some (some (vI 1), σ') ∧ σ'.2.2.2.1 ≤ 600000 ∧ σ'.2.2.2.2 ≤ 7302250
set_option maxHeartbeats 4000000 in
theorem tp_start (hRun : tp_Run) {p : Program} {e : Env} {s : State} {m : MethodId} {below : List Frame} {meth : Method} {c : Code} (l : Launch) (hflags : l.flags = flags0) {b L : Nat} {xs : Nat → Int32} (hL : L ≤ 260) (C0 : lw_At p s m meth c b L xs) : W p l e room_1 s m #[Value.ref b] below meth c s.heap [] 0 0 (lw_Z below #[Value.ref b] s) (entryFrame m ([Value.ref b] : List Value).toArray 25) := by
  obtain ⟨hx, hb, hr, hml, hown, hts, hX, hbl, hlocks, hgv⟩ := C0
  have hs := flat_of_before _ hgv
  obtain ⟨w, hwv, hT⟩ := va_Tof (args := #[Value.ref b]) (s := s) (tm := .static "WashLine" "WORTHS" "[I") (ty := .int) (N := 6) (f := fun j => Value.int (am_wv j)) (A := fun q => s.heap.size ≤ q) (by decide) (hs _ (by decide +kernel)) (va_eqt (z := 6) (hs _ (by decide +kernel)))
    (fun j hj => by
      match j, hj with
      | 0, _ => exact va_eqt (z := 1) (hs _ (by decide +kernel))
      | 1, _ => exact va_eqt (z := 10) (hs _ (by decide +kernel))
      | 2, _ => exact va_eqt (z := 100) (hs _ (by decide +kernel))
      | 3, _ => exact va_eqt (z := 1000) (hs _ (by decide +kernel))
      | 4, _ => exact va_eqt (z := 10000) (hs _ (by decide +kernel))
      | 5, _ => exact va_eqt (z := 100000) (hs _ (by decide +kernel))
      | j + 6, h => exact absurd h (by omega)) (fun a ha => Nat.not_le.mpr ha)
  have hZ := va_Zref (A := fun q => s.heap.size ≤ q) (hts _ tp_ls) (hts _ tp_in) hwv (fun a ha => Nat.not_le.mpr ha)
  have hwl : w < s.heap.size := Nat.not_le.mp hT.out
  have hcl : ∀ k, ∃ (cC : ClassId) (iS : Nat → Nat), k < 11 → u_Kn s (am_cn k) (am_Tt k) (am_cN k) cC iS := by
    intro k
    by_cases hk : k < 11
    · obtain ⟨cC, iS, h⟩ := u_known (ws := lw_tbl) (C := am_cn k) (T := am_Tt k) (N := am_cN k) (n := am_cN k) hts (tp_F_in hk) (hts _ (tp_I_in hk))
      exact ⟨cC, iS, fun _ => h⟩
    · obtain ⟨cC, iS, h⟩ := u_known (ws := lw_tbl) (C := am_cn 0) (T := am_Tt 0) (N := am_cN 0) (n := am_cN 0) hts (tp_F_in (by decide)) (hts _ (tp_I_in (by decide)))
      exact ⟨cC, iS, fun h => absurd h hk⟩
  have hK : va_K (fun k => Classical.choose (hcl k), fun k => Classical.choose (Classical.choose_spec (hcl k))) am_cl [] s := by
    refine ⟨fun k q hq => ?_, fun k q h => by simp at h⟩
    have hk : k < 11 := by
      have := (List.getElem?_eq_some_iff.mp hq).1
      exact this
    cases (am_clA k hk).symm.trans hq
    exact Classical.choose_spec (Classical.choose_spec (hcl k)) hk
  generalize hDD : ((fun k => Classical.choose (hcl k), fun k => Classical.choose (Classical.choose_spec (hcl k))) : va_G) = D at hK
  obtain ⟨n, σ', hrun, hcells, hslots⟩ := hRun L xs hL
  have hF : am_FX s.heap.size w b L xs D s := ⟨hK, hZ, hT, hX, ⟨hwl, hbl, Nat.le_refl _⟩, fun q hq => va_Nw.of rfl (hts _ (tp_ng q hq)), fun q hq => va_Nw.of rfl (hts _ (tp_nm q hq)), va_AO.of (hts _ tp_ao)⟩
  have hH : am_HR s.heap.size w b L xs D (tp_σ L xs) s s.heap := ⟨rfl, Nat.le_refl _, rfl, rfl, fun j => rfl, fun j => rfl, fun a q ha hq => by
    have : a < 2 := (List.getElem?_eq_some_iff.mp hq).1
    omega⟩
  have hl := lv_entry ([.ref b]) (n := 25) (Nat.le_of_ble_eq_true rfl)
  rw [lg_entry_eq]
  generalize (lg_sl ([.ref b]) ++ List.replicate (25 - (lg_sl ([.ref b])).length) Slot.unset).toArray = ls at hl ⊢
  have hl : lv_has ls 25 [(0, .ref b)] := hl
  exact am_sim_run (p := p) (l0 := l) (e := e) (R := room_1) (s := s) (m := m) (args := #[Value.ref b]) (below := below) (meth := meth) (c := c) (Q := lw_Z below #[Value.ref b] s) (cc := code) (z := s.heap.size) (w := w) (b := b) (L := L) (xs := xs) (D := D) (o := 11) (ini := am_m0.1.name == "<init>") (maxL := 25) (ret := some .boolean) (RF := 10) (RL := 378) (sts := am_s0) hx hb hml hown (fun q hq => hts q (am_gt hq)) hF (fun h => by cases h) rfl rfl (bs := am_b0) (fun k t h => am_g0 k t h) (r := some (vI 1)) (σf := σ') (mc := σ'.2.2.2.1) (ms := σ'.2.2.2.2) hcells hslots
    (fun _ pc ls H locs hH' hS hm => by
      obtain ⟨hd, -⟩ := hm
      refine va_forget (fun q hq => hS.2.2 q hq) ?_
      refine W.widen hcells hslots ?_
      exact lw_ret hx hb hr hlocks hd) n (fun k _ j q as σ r σ'' h1 h2 h3 h4 h5 => am_sim_all l s.heap.size w b L xs D k j q as σ r σ'' h1 h2 h3 h4 h5) (am_b0.getD 0 []) 0 [(0, vR 1)] [] (tp_σ L xs) ls s.heap [] 0 0 (am_g0 0 0 rfl) hl (fun q hq => by cases List.mem_singleton.mp hq; exact trivial) (fun v hv => by cases hv) hH va_S.rf (by show 0 + _ = _ + 0; omega) (by show 0 + _ = _ + 0; omega) hrun
/-- YOUR PART: the law's run in the small machine -/
theorem tp_run : tp_Run := by
  intro L xs hL
  have e : tp_σ L xs = (lw_f xs, Cs L 0 0) := Prod.ext rfl (Prod.ext (funext fun a => funext fun k => rfl) rfl)
  obtain ⟨n, r, s, h1, rfl, h2, h3⟩ := lw_start (xs := xs) hL
  refine ⟨n, s, ?_, h2, h3⟩
  rw [e]
  exact h1
theorem whole_start {p : Program} {e : Env} {s : State} {m : MethodId} {below : List Frame} {meth : Method} {c : Code} (l : Launch) (hflags : l.flags = flags0) {b L : Nat} {xs : Nat → Int32} (hL : L ≤ 260) (C0 : lw_At p s m meth c b L xs) : W p l e room_1 s m #[Value.ref b] below meth c s.heap [] 0 0 (lw_Z below #[Value.ref b] s) (entryFrame m ([Value.ref b] : List Value).toArray 25) := tp_start tp_run l hflags hL C0
set_option maxHeartbeats 4000000 in
theorem lw_walk (l : Launch) (hflags : l.flags = flags0) (b : Addr) (xs : List Int32) : MetFree l x (headSpec (Jvm.Cond.code x code maxLocals ret :: tables_1) room_1) (lw_P b xs) (fun _ _ _ _ _ => True) lw_Q := by
  refine MetFree.of_bodyS (code := code) (maxLocals := maxLocals) (ret := ret) (by decide) ?_ ?_
  · intro args s m h hn
    obtain ⟨meth, c, h1, h2, h3, h4, h5, h6, -, -⟩ := Cond.code_spec hn (atoms_spec (ws := Jvm.Cond.code x code maxLocals ret :: tables_1) h _ List.mem_cons_self)
    exact ⟨meth, c, h1, h2, h3, h4, h5, h6⟩
  · intro p e s m args below meth c s₁ B hml0 hP _
    obtain ⟨rfl, hx, hbd, hgv⟩ := hP
    obtain ⟨scr, harrAt, hlist, hof, hsmall⟩ := hx
    obtain ⟨hcb, hkn, -, -⟩ := State.arrayAt?_spec harrAt
    have hown : s.vm.findClass R_law = some m.cls := findClass_of_methodNamed B.named
    have hts0 : ∀ c ∈ (Jvm.Cond.code x code maxLocals ret :: tables_1), c.before #[Value.ref b] s = true := atoms_spec (ws := Jvm.Cond.code x code maxLocals ret :: tables_1) B.pre
    have hts : ∀ w ∈ lw_tbl, w.before #[Value.ref b] s = true := k2_hts_sels lw_privs (fun w hw => hts0 w (List.mem_cons_of_mem _ hw)) lw_privs_ok
    have hml : c.maxLocals = 25 := B.maxLocals_eq (hts0 _ List.mem_cons_self)
    have X₀ : Stand p l e room_1 s m #[Value.ref b] below meth c s₁ [] 0 0 := Stand.of_body B
    have hh0 : s₁.heap = s.heap := by rw [B.state]; rfl
    have hsz : scr.slots.size = xs.length := by rw [← Array.length_toList, hlist, List.length_map]
    have hval : ∀ j : Nat, j < xs.length → scr.slots[j]? = some (.int (xs.getD j 0)) := fun j hj => by
      rw [← Array.getElem?_toList, hlist]
      simp [hj]
    have hbl : b < s.heap.size := (Array.getElem?_eq_some_iff.mp hcb).1
    have hX : va_X b xs.length (fun j => xs.getD j 0) s s.heap := ⟨scr, hcb, hof, hkn, hsz, hval⟩
    have K : W p l e room_1 s m #[Value.ref b] below meth c s₁.heap [] 0 0 (lw_Z below #[Value.ref b] s) (entryFrame m ([Value.ref b] : List Value).toArray 25) := by
      rw [hh0]
      exact whole_start l hflags hbd ⟨B.exec, B.bytes, B.returns, hml, hown, hts, hX, hbl, B.notSynchronized, hgv⟩
    obtain ⟨t, a1, o, b1, b2, b3⟩ := K s₁ rfl X₀
    exact ⟨t, o, a1, b1, b2, b3⟩
theorem lw_pre_spec {args : Array Value} {s : State} (h : (Jvm.Cond.and given_1 narrow_1).before args s = true) (hr : rest_1_c.before args s = true) : ∃ (b : Addr) (xs : List Int32), lw_P b xs args s := by
  have hs := flat_of_before _ h
  have hq := flat_of_before _ hr
  have hc : (Cond.count 1).before args s = true := hs _ (by decide +kernel)
  have harr : (Cond.arrayOf (.arg 0) .int).before args s = true := hs _ (by decide +kernel)
  have hle : (Cond.le (.length (.arg 0)) (.int 260)).before args s = true := hs _ (by decide +kernel)
  have hlen : (Cond.isInt (.length (.arg 0))).before args s = true := hq _ (by decide +kernel)
  have hall : (Cond.all (.arg 0) (.isInt (.elem (.arg 0) (.index 0)))).before args s = true := hq _ (by decide +kernel)
  obtain ⟨b, xs, hb, hx⟩ := State.ints_of_pre rfl harr hlen hall
  have hsm : xs.length < 2 ^ 31 := hx.choose_spec.2.2.2
  have hev : (Term.length (.arg 0)).eval args s none [] s = some (.int xs.length.toInt32) := hx.length_eval hb
  have hv := Cond.le_ints hev (show (Term.int 260).eval args s none [] s = some (.int 260) from rfl)
  have hd : xs.length.toInt32 ≤ 260 := by
    simpa [Cond.before, Cond.holds, hv] using hle
  have hN : xs.length ≤ 260 := (Int32.ofNat_le_ofNat hsm (by decide)).mp (show Int32.ofNat xs.length ≤ Int32.ofNat 260 from hd)
  exact ⟨b, xs, Cond.one_arg hc (show args[0]? = some (.ref b) from hb), hx, hN, h⟩
theorem lw_comes (l : Launch) (hflags : l.flags = flags0) : Comes l x (Jvm.Cond.code x code maxLocals ret :: tables_1) room_1 (fun tb e args s => Calls_1 tb e args s ∧ rest_1 tb e args s ∧ Pre_1 tb e args s)
    (fun _ _ args s o t => lw_Q args s o t) := by
  intro p e ha hc hk s m args below hf hfit hheap happ hpre
  obtain ⟨b, xs, hP⟩ := lw_pre_spec hpre.2.2 hpre.2.1
  obtain ⟨k, o, h1, h2, h3, hQ⟩ := lw_walk l hflags b xs p e ha hc hk s m args below hf ((Spec.applies_iff_loose hf).mp happ).1 hP trivial
  exact ⟨k, o, h1, h2, h3, hQ⟩
theorem lw_frame {s t : State} {o : Outcome} {args : Array Value} (h : Framed s o t [] 600000 7302250) :
    Framed s o t (fieldLocs frame_1_writes args s ++ arrayLocs frame_1_arrays args s ++ staticLocs frame_1_statics s) 600000 7302250 := h
theorem lw_limb (L : Cond) (hL : ∀ (args : Array Value) (s t : State), L.after args s (.returned (some (.int 1))) t = true) :
    ArmFor flags0 classFile x code maxLocals ret World_1 tables_1 room_1 Calls_1 rest_1 Pre_1
      (fun tb e a s o t => postC L tb e a s o t ∧ Framed s o t (fieldLocs frame_1_writes a s ++ arrayLocs frame_1_arrays a s ++ staticLocs frame_1_statics s) 600000 7302250) := by
  intro l hflags _ _ p e ha hc hk s m args below hf hfit hheap happ hpre
  obtain ⟨k, o, h1, h2, h3, rfl, hF⟩ := lw_comes l hflags p e ha hc hk s m args below hf hfit hheap happ hpre
  exact ⟨k, _, h1, h2, h3, hL args s _, lw_frame hF⟩
theorem i_vc : Claimed_1_1 ∧ Claimed_1_2 := ⟨lw_limb limb_1_1 (fun args s t => by simp [limb_1_1, Cond.after, Cond.holds, Cond.value]), lw_limb limb_1_2 (fun args s t => Cond.after_iff.mpr (by
  first | (rw [show limb_1_2 = Cond.eq .result (.int 1) from rfl, Cond.eq_ints (x := 1) (y := 1) rfl rfl]; simp; done) | (simp [limb_1_2, Cond.value, Term.eval]; done)))⟩
