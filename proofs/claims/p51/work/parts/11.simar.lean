/-! A STEP OF THE SMALL MACHINE IS ONE OF THE LARGE ONE: locals, stack, numbers -/
theorem e_bi {n : Int} (h1 : -128 ≤ n) (h2 : n < 128) : (Int8.ofInt n).toInt32 = Int32.ofInt n := by
  apply Int32.toInt_inj.mp
  rw [Int8.toInt_toInt32, Int8.toInt_ofInt_of_le (by omega) (by omega), i32_id ⟨by omega, by omega⟩]
theorem e_si {n : Int} (h1 : -32768 ≤ n) (h2 : n < 32768) : (Int16.ofInt n).toInt32 = Int32.ofInt n := by
  apply Int32.toInt_inj.mp
  rw [Int16.toInt_toInt32, Int16.toInt_ofInt_of_le (by omega) (by omega), i32_id ⟨by omega, by omega⟩]
theorem am_ldI_inv {l l' : am_Lc} {k : Nat} {st st' : List am_V} (h : am_ldI l k st = some (l', st')) : ∃ x, lget l k = some (vI x) ∧ l' = l ∧ st' = vI x :: st := by
  unfold am_ldI at h
  split at h
  · rename_i x hx; cases h; exact ⟨x, hx, rfl, rfl⟩
  · cases h
theorem am_ldL_inv {l l' : am_Lc} {k : Nat} {st st' : List am_V} (h : am_ldL l k st = some (l', st')) : ∃ x, lget l k = some (vL x) ∧ l' = l ∧ st' = vL x :: st := by
  unfold am_ldL at h
  split at h
  · rename_i x hx; cases h; exact ⟨x, hx, rfl, rfl⟩
  · cases h
theorem am_ldR_inv {l l' : am_Lc} {k : Nat} {st st' : List am_V} (h : am_ldR l k st = some (l', st')) : ∃ x, lget l k = some (vR x) ∧ l' = l ∧ st' = vR x :: st := by
  unfold am_ldR at h
  split at h
  · rename_i x hx; cases h; exact ⟨x, hx, rfl, rfl⟩
  · cases h
theorem am_stI_inv {l l' : am_Lc} {k : Nat} {st st' : List am_V} (h : am_stI l k st = some (l', st')) : ∃ x, st = vI x :: st' ∧ l' = lset1 l k (vI x) := by
  unfold am_stI at h
  split at h
  · cases h; exact ⟨_, rfl, rfl⟩
  · cases h
theorem am_stL_inv {l l' : am_Lc} {k : Nat} {st st' : List am_V} (h : am_stL l k st = some (l', st')) : ∃ x, st = vL x :: st' ∧ l' = lset2 l k (vL x) := by
  unfold am_stL at h
  split at h
  · cases h; exact ⟨_, rfl, rfl⟩
  · cases h
theorem am_stR_inv {l l' : am_Lc} {k : Nat} {st st' : List am_V} (h : am_stR l k st = some (l', st')) : ∃ x, st = vR x :: st' ∧ l' = lset1 l k (vR x) := by
  unfold am_stR at h
  split at h
  · cases h; exact ⟨_, rfl, rfl⟩
  · cases h
theorem am_inc_inv {l l' : am_Lc} {k : Nat} {n : Int} {st st' : List am_V} (h : am_inc l k n st = some (l', st')) : ∃ x, lget l k = some (vI x) ∧ l' = lset1 l k (vI (w32 (x + n))) ∧ st' = st := by
  unfold am_inc at h
  split at h
  · rename_i x hx; cases h; exact ⟨x, hx, rfl, rfl⟩
  · cases h
theorem am_bI_inv {f : Int → Int → Int} {l l' : am_Lc} {st st' : List am_V} (h : am_bI f l st = some (l', st')) : ∃ x y r, st = vI y :: vI x :: r ∧ l' = l ∧ st' = vI (f x y) :: r := by
  unfold am_bI at h
  split at h
  · cases h; exact ⟨_, _, _, rfl, rfl, rfl⟩
  · cases h
theorem am_dI_inv {f : Int → Int → Int} {l l' : am_Lc} {st st' : List am_V} (h : am_dI f l st = some (l', st')) : ∃ x y r, st = vI y :: vI x :: r ∧ y ≠ 0 ∧ l' = l ∧ st' = vI (f x y) :: r := by
  unfold am_dI at h
  split at h
  · split at h
    · cases h
    · rename_i hne; cases h; exact ⟨_, _, _, rfl, hne, rfl, rfl⟩
  · cases h
theorem am_bL_inv {f : Int → Int → Int} {l l' : am_Lc} {st st' : List am_V} (h : am_bL f l st = some (l', st')) : ∃ x y r, st = vL y :: vL x :: r ∧ l' = l ∧ st' = vL (f x y) :: r := by
  unfold am_bL at h
  split at h
  · cases h; exact ⟨_, _, _, rfl, rfl, rfl⟩
  · cases h
theorem am_dL_inv {f : Int → Int → Int} {l l' : am_Lc} {st st' : List am_V} (h : am_dL f l st = some (l', st')) : ∃ x y r, st = vL y :: vL x :: r ∧ y ≠ 0 ∧ l' = l ∧ st' = vL (f x y) :: r := by
  unfold am_dL at h
  split at h
  · split at h
    · cases h
    · rename_i hne; cases h; exact ⟨_, _, _, rfl, hne, rfl, rfl⟩
  · cases h
theorem am_cL_inv {l l' : am_Lc} {st st' : List am_V} (h : am_cL l st = some (l', st')) : ∃ x y r, st = vL y :: vL x :: r ∧ l' = l ∧ st' = vI (a_cmp x y) :: r := by
  unfold am_cL at h
  split at h
  · cases h; exact ⟨_, _, _, rfl, rfl, rfl⟩
  · cases h
theorem am_uI_inv {f : Int → am_V} {l l' : am_Lc} {st st' : List am_V} (h : am_uI f l st = some (l', st')) : ∃ x r, st = vI x :: r ∧ l' = l ∧ st' = f x :: r := by
  unfold am_uI at h
  split at h
  · cases h; exact ⟨_, _, rfl, rfl, rfl⟩
  · cases h
theorem am_uL_inv {f : Int → am_V} {l l' : am_Lc} {st st' : List am_V} (h : am_uL f l st = some (l', st')) : ∃ x r, st = vL x :: r ∧ l' = l ∧ st' = f x :: r := by
  unfold am_uL at h
  split at h
  · cases h; exact ⟨_, _, rfl, rfl, rfl⟩
  · cases h
theorem am_cat1 {z w b : Nat} {v : am_V} (h : am_two v = false) : (am_tv z w b v).category = 1 := by
  rcases v with x | x | _ | a
  · rfl
  · cases h
  · rfl
  · rfl
theorem am_dup_inv {l l' : am_Lc} {st st' : List am_V} (h : am_dup l st = some (l', st')) : ∃ v r, st = v :: r ∧ am_two v = false ∧ l' = l ∧ st' = v :: v :: r := by
  unfold am_dup at h
  split at h
  · split at h
    · cases h
    · rename_i hne; cases h; exact ⟨_, _, rfl, by simpa using hne, rfl, rfl⟩
  · cases h
theorem am_dup2_inv {l l' : am_Lc} {st st' : List am_V} (h : am_dup2 l st = some (l', st')) : ∃ v u r, st = v :: u :: r ∧ am_two v = false ∧ am_two u = false ∧ l' = l ∧ st' = v :: u :: v :: u :: r := by
  unfold am_dup2 at h
  split at h
  · split at h
    · cases h
    · rename_i hne
      cases h
      simp only [Bool.or_eq_true, not_or, Bool.not_eq_true] at hne
      exact ⟨_, _, _, rfl, hne.1, hne.2, rfl, rfl⟩
  · cases h
theorem am_pop_inv {l l' : am_Lc} {st st' : List am_V} (h : am_pop l st = some (l', st')) : ∃ v, st = v :: st' ∧ am_two v = false ∧ l' = l := by
  unfold am_pop at h
  split at h
  · split at h
    · cases h
    · rename_i hne; cases h; exact ⟨_, rfl, by simpa using hne, rfl⟩
  · cases h
theorem rg_c {v : am_V} {r : List am_V} (h1 : am_rg v) (h2 : ∀ u ∈ r, am_rg u) : ∀ u ∈ v :: r, am_rg u := by
  intro u hu
  rcases List.mem_cons.mp hu with rfl | hu
  · exact h1
  · exact h2 u hu
theorem rg_h {v : am_V} {r : List am_V} (h : ∀ u ∈ v :: r, am_rg u) : am_rg v := h v List.mem_cons_self
theorem rg_t {v : am_V} {r : List am_V} (h : ∀ u ∈ v :: r, am_rg u) : ∀ u ∈ r, am_rg u := fun u hu => h u (List.mem_cons_of_mem _ hu)
section SIMAR
variable {p : Program} {l0 : Launch} {e : Env} {R : Room} {s : State} {m : MethodId} {args : Array Value} {below : List Frame} {meth : Method} {c : Code} {H : Heap} {locs : List Loc} {cells slots : Nat} {Q : State → Prop} {cc : ByteArray} {pc : Nat} {ls : Array Slot}
variable {z w b : Nat} {o : Nat} {ini : Bool} {maxL : Nat} {ret : Option FieldType} {RF RL : Nat} {sts : List Nat} {len : Nat}
set_option maxHeartbeats 4000000 in
theorem am_sim_ar (hx : p.tables.exec = Jvm.exec) (hb : c.code = cc) (hown : s.vm.findClass (am_cn o) = some m.cls) (hts : ∀ q ∈ lw_gt, q.before args s = true) {i : Instr} {ops : List Nat} {v : Int} {l l' : am_Lc} {st st' : List am_V} (h : am_ar i v l st = some (l', st')) (hdg : decode cc pc = .ok (i, len)) (hs : am_side o ini maxL ret RF RL sts pc len i ops v = true)
    (hl : lv_has ls maxL (l.map (am_t2 z w b))) (gl : ∀ q ∈ l, am_rg q.2) (gs : ∀ u ∈ st, am_rg u)
    (kk : ∀ ls', lv_has ls' maxL (l'.map (am_t2 z w b)) → (∀ q ∈ l', am_rg q.2) → (∀ u ∈ st', am_rg u) → W p l0 e R s m args below meth c H locs cells slots Q (F0 m (pc + len) ls' (st'.map (am_tv z w b)))) :
    W p l0 e R s m args below meth c H locs cells slots Q (F0 m pc ls (st.map (am_tv z w b))) := by
  unfold am_ar at h
  split at h
  · simp only [am_side, Bool.and_eq_true, beq_iff_eq, decide_eq_true_eq] at hs
    obtain ⟨rfl, h1, h2⟩ := hs
    cases h
    exact lv_iconst hx hb hdg rfl (kk ls hl gl (rg_c (show am_r32 _ from ⟨by omega, by omega⟩) gs))
  · simp only [am_side, Bool.and_eq_true, beq_iff_eq, decide_eq_true_eq] at hs
    obtain ⟨rfl, h1, h2⟩ := hs
    cases h
    exact lv_bipush hx hb hdg (e_bi h1 h2) (kk ls hl gl (rg_c (show am_r32 _ from ⟨by omega, by omega⟩) gs))
  · simp only [am_side, Bool.and_eq_true, beq_iff_eq, decide_eq_true_eq] at hs
    obtain ⟨rfl, h1, h2⟩ := hs
    cases h
    exact lv_sipush hx hb hdg (e_si h1 h2) (kk ls hl gl (rg_c (show am_r32 _ from ⟨by omega, by omega⟩) gs))
  · simp only [am_side, Bool.and_eq_true, beq_iff_eq, decide_eq_true_eq, List.any_eq_true] at hs
    obtain ⟨⟨rfl, q, hq, ⟨e1, e2⟩, e3⟩, h1, h2⟩ := hs
    cases h
    have hc := hts _ (am_CTk q hq)
    rw [e1, e2, e3] at hc
    exact lv_ldc hx hb hown hc hdg (kk ls hl gl (rg_c (show am_r32 _ from ⟨by omega, by omega⟩) gs))
  · simp only [am_side, Bool.and_eq_true, beq_iff_eq, decide_eq_true_eq, List.any_eq_true] at hs
    obtain ⟨⟨rfl, q, hq, ⟨e1, e2⟩, e3⟩, h1, h2⟩ := hs
    cases h
    have hc := hts _ (am_CTk q hq)
    rw [e1, e2, e3] at hc
    exact lv_ldcw hx hb hown hc hdg (kk ls hl gl (rg_c (show am_r32 _ from ⟨by omega, by omega⟩) gs))
  · rename_i n
    simp only [am_side, beq_iff_eq] at hs
    subst hs
    cases h
    have hn : (n : Nat) < 2 := n.isLt
    exact lv_lconst hx hb hdg Int64.ofInt_eq_ofNat.symm (kk ls hl gl (rg_c (show am_r64 _ from ⟨by omega, by omega⟩) gs))
  · simp only [am_side, Bool.and_eq_true, beq_iff_eq, decide_eq_true_eq, List.any_eq_true] at hs
    obtain ⟨⟨rfl, q, hq, ⟨e1, e2⟩, e3⟩, h1, h2⟩ := hs
    cases h
    have hc := hts _ (am_CJk q hq)
    rw [e1, e2, e3] at hc
    exact lv_ldc2 hx hb hown hc hdg (kk ls hl gl (rg_c (show am_r64 _ from ⟨by omega, by omega⟩) gs))
  · simp only [am_side, beq_iff_eq] at hs
    subst hs
    obtain ⟨x, hg, rfl, rfl⟩ := am_ldI_inv h
    exact lv_iload_n hx hb hdg rfl (lget_has hl hg) (kk ls hl gl (rg_c (lget_rg gl hg) gs))
  · simp only [am_side, beq_iff_eq] at hs
    subst hs
    obtain ⟨x, hg, rfl, rfl⟩ := am_ldI_inv h
    exact lv_iload hx hb hdg (lget_has hl hg) (kk ls hl gl (rg_c (lget_rg gl hg) gs))
  · simp only [am_side, beq_iff_eq] at hs
    subst hs
    obtain ⟨x, hg, rfl, rfl⟩ := am_ldL_inv h
    exact lv_lload_n hx hb hdg rfl (lget_has hl hg) (kk ls hl gl (rg_c (lget_rg gl hg) gs))
  · simp only [am_side, beq_iff_eq] at hs
    subst hs
    obtain ⟨x, hg, rfl, rfl⟩ := am_ldL_inv h
    exact lv_lload hx hb hdg (lget_has hl hg) (kk ls hl gl (rg_c (lget_rg gl hg) gs))
  · simp only [am_side, beq_iff_eq] at hs
    subst hs
    obtain ⟨x, hg, rfl, rfl⟩ := am_ldR_inv h
    exact lv_aload_n hx hb hdg rfl (lget_has hl hg) (kk ls hl gl (rg_c (lget_rg gl hg) gs))
  · simp only [am_side, beq_iff_eq] at hs
    subst hs
    obtain ⟨x, hg, rfl, rfl⟩ := am_ldR_inv h
    exact lv_aload hx hb hdg (lget_has hl hg) (kk ls hl gl (rg_c (lget_rg gl hg) gs))
  · simp only [am_side, Bool.and_eq_true, beq_iff_eq, decide_eq_true_eq] at hs
    obtain ⟨rfl, hn⟩ := hs
    obtain ⟨x, rfl, rfl⟩ := am_stI_inv h
    exact lv_istore_n hx hb hdg rfl hl hn (lset1_map z w b l _ (vI x)) (fun ls' h' => kk ls' h' (lset1_rg gl (rg_h gs)) (rg_t gs))
  · simp only [am_side, Bool.and_eq_true, beq_iff_eq, decide_eq_true_eq] at hs
    obtain ⟨rfl, hn⟩ := hs
    obtain ⟨x, rfl, rfl⟩ := am_stI_inv h
    exact lv_istore hx hb hdg hl hn (lset1_map z w b l _ (vI x)) (fun ls' h' => kk ls' h' (lset1_rg gl (rg_h gs)) (rg_t gs))
  · simp only [am_side, Bool.and_eq_true, beq_iff_eq, decide_eq_true_eq] at hs
    obtain ⟨rfl, hn⟩ := hs
    obtain ⟨x, rfl, rfl⟩ := am_stL_inv h
    exact lv_lstore_n hx hb hdg rfl hl hn (lset2_map z w b l _ (vL x)) (fun ls' h' => kk ls' h' (lset2_rg gl (rg_h gs)) (rg_t gs))
  · simp only [am_side, Bool.and_eq_true, beq_iff_eq, decide_eq_true_eq] at hs
    obtain ⟨rfl, hn⟩ := hs
    obtain ⟨x, rfl, rfl⟩ := am_stL_inv h
    exact lv_lstore hx hb hdg hl hn (lset2_map z w b l _ (vL x)) (fun ls' h' => kk ls' h' (lset2_rg gl (rg_h gs)) (rg_t gs))
  · simp only [am_side, Bool.and_eq_true, beq_iff_eq, decide_eq_true_eq] at hs
    obtain ⟨rfl, hn⟩ := hs
    obtain ⟨x, rfl, rfl⟩ := am_stR_inv h
    exact lv_astore_n hx hb hdg rfl hl hn (lset1_map z w b l _ (vR x)) (fun ls' h' => kk ls' h' (lset1_rg gl (rg_h gs)) (rg_t gs))
  · simp only [am_side, Bool.and_eq_true, beq_iff_eq, decide_eq_true_eq] at hs
    obtain ⟨rfl, hn⟩ := hs
    obtain ⟨x, rfl, rfl⟩ := am_stR_inv h
    exact lv_astore hx hb hdg hl hn (lset1_map z w b l _ (vR x)) (fun ls' h' => kk ls' h' (lset1_rg gl (rg_h gs)) (rg_t gs))
  · simp only [am_side, Bool.and_eq_true, beq_iff_eq, decide_eq_true_eq] at hs
    obtain ⟨rfl, hn⟩ := hs
    obtain ⟨x, hg, rfl, rfl⟩ := am_inc_inv h
    obtain ⟨k, hk⟩ := lget_pos (z := z) (w := w) (b := b) hg
    exact lv_iinc hx hb hdg hl hk (e_add x _).symm hn (lset1_map z w b l _ (vI _)) (fun ls' h' => kk ls' h' (lset1_rg gl (show am_r32 _ from w32_rg _)) gs)
  · simp only [am_side, beq_iff_eq] at hs
    subst hs
    obtain ⟨x, y, r, rfl, rfl, rfl⟩ := am_bI_inv h
    refine lv_iadd hx hb hdg ?_
    rw [← e_add]
    exact kk ls hl gl (rg_c (show am_r32 _ from w32_rg _) (rg_t (rg_t gs)))
  · simp only [am_side, beq_iff_eq] at hs
    subst hs
    obtain ⟨x, y, r, rfl, rfl, rfl⟩ := am_bI_inv h
    refine lv_isub hx hb hdg ?_
    rw [← e_sub]
    exact kk ls hl gl (rg_c (show am_r32 _ from w32_rg _) (rg_t (rg_t gs)))
  · simp only [am_side, beq_iff_eq] at hs
    subst hs
    obtain ⟨x, y, r, rfl, rfl, rfl⟩ := am_bI_inv h
    refine lv_imul hx hb hdg ?_
    rw [← e_mul]
    exact kk ls hl gl (rg_c (show am_r32 _ from w32_rg _) (rg_t (rg_t gs)))
  · simp only [am_side, beq_iff_eq] at hs
    subst hs
    obtain ⟨x, y, r, rfl, rfl, rfl⟩ := am_bI_inv h
    refine lv_iand hx hb hdg ?_
    rw [← of_toInt (Int32.ofInt x &&& Int32.ofInt y)]
    exact kk ls hl gl (rg_c (show am_r32 _ from i32_rg _) (rg_t (rg_t gs)))
  · simp only [am_side, beq_iff_eq] at hs
    subst hs
    obtain ⟨x, y, r, rfl, rfl, rfl⟩ := am_bI_inv h
    refine lv_ior hx hb hdg ?_
    rw [← of_toInt (Int32.ofInt x ||| Int32.ofInt y)]
    exact kk ls hl gl (rg_c (show am_r32 _ from i32_rg _) (rg_t (rg_t gs)))
  · simp only [am_side, beq_iff_eq] at hs
    subst hs
    obtain ⟨x, y, r, rfl, rfl, rfl⟩ := am_bI_inv h
    refine lv_ishl hx hb hdg ?_
    rw [← of_toInt (Int32.ofInt x <<< (Int32.ofInt y &&& 31))]
    exact kk ls hl gl (rg_c (show am_r32 _ from i32_rg _) (rg_t (rg_t gs)))
  · simp only [am_side, beq_iff_eq] at hs
    subst hs
    obtain ⟨x, y, r, rfl, rfl, rfl⟩ := am_bI_inv h
    refine lv_ishr hx hb hdg ?_
    rw [← of_toInt (Int32.ofInt x >>> (Int32.ofInt y &&& 31))]
    exact kk ls hl gl (rg_c (show am_r32 _ from i32_rg _) (rg_t (rg_t gs)))
  · simp only [am_side, beq_iff_eq] at hs
    subst hs
    obtain ⟨x, y, r, rfl, hne, rfl, rfl⟩ := am_dI_inv h
    have gy : am_r32 y := rg_h gs
    have gx : am_r32 x := rg_h (rg_t gs)
    refine lv_idiv hx hb hdg (i32_ne gy hne) ?_
    rw [← e_div gx gy]
    exact kk ls hl gl (rg_c (show am_r32 _ from w32_rg _) (rg_t (rg_t gs)))
  · simp only [am_side, beq_iff_eq] at hs
    subst hs
    obtain ⟨x, y, r, rfl, hne, rfl, rfl⟩ := am_dI_inv h
    have gy : am_r32 y := rg_h gs
    have gx : am_r32 x := rg_h (rg_t gs)
    refine lv_irem hx hb hdg (i32_ne gy hne) ?_
    rw [← e_rem gx gy]
    exact kk ls hl gl (rg_c (show am_r32 _ from tmod_rg gx.1 gx.2) (rg_t (rg_t gs)))
  · simp only [am_side, beq_iff_eq] at hs
    subst hs
    obtain ⟨x, y, r, rfl, rfl, rfl⟩ := am_bL_inv h
    refine lv_ladd hx hb hdg ?_
    rw [← e_ladd]
    exact kk ls hl gl (rg_c (show am_r64 _ from w64_rg _) (rg_t (rg_t gs)))
  · simp only [am_side, beq_iff_eq] at hs
    subst hs
    obtain ⟨x, y, r, rfl, rfl, rfl⟩ := am_bL_inv h
    refine lv_lmul hx hb hdg ?_
    rw [← e_lmul]
    exact kk ls hl gl (rg_c (show am_r64 _ from w64_rg _) (rg_t (rg_t gs)))
  · simp only [am_side, beq_iff_eq] at hs
    subst hs
    obtain ⟨x, y, r, rfl, hne, rfl, rfl⟩ := am_dL_inv h
    have gy : am_r64 y := rg_h gs
    have gx : am_r64 x := rg_h (rg_t gs)
    refine lv_ldiv hx hb hdg (i64_ne gy hne) ?_
    rw [← e_ldiv gx gy]
    exact kk ls hl gl (rg_c (show am_r64 _ from w64_rg _) (rg_t (rg_t gs)))
  · simp only [am_side, beq_iff_eq] at hs
    subst hs
    obtain ⟨x, y, r, rfl, hne, rfl, rfl⟩ := am_dL_inv h
    have gy : am_r64 y := rg_h gs
    have gx : am_r64 x := rg_h (rg_t gs)
    refine lv_lrem hx hb hdg (i64_ne gy hne) ?_
    rw [← e_lrem gx gy]
    exact kk ls hl gl (rg_c (show am_r64 _ from tmod_rg gx.1 gx.2) (rg_t (rg_t gs)))
  · simp only [am_side, beq_iff_eq] at hs
    subst hs
    obtain ⟨x, y, r, rfl, rfl, rfl⟩ := am_cL_inv h
    have gy : am_r64 y := rg_h gs
    have gx : am_r64 x := rg_h (rg_t gs)
    refine W.lcmp hx hb hdg ?_
    rw [e_cmp gx gy]
    exact kk ls hl gl (rg_c (show am_r32 _ from a_cmp_rg _ _) (rg_t (rg_t gs)))
  · simp only [am_side, beq_iff_eq] at hs
    subst hs
    obtain ⟨x, r, rfl, rfl, rfl⟩ := am_uI_inv h
    have gx : am_r32 x := rg_h gs
    exact lv_i2l hx hb hdg (e_i2l gx) (kk ls hl gl (rg_c (show am_r64 _ by unfold am_r32 at gx; unfold am_r64; omega) (rg_t gs)))
  · simp only [am_side, beq_iff_eq] at hs
    subst hs
    obtain ⟨x, r, rfl, rfl, rfl⟩ := am_uL_inv h
    exact lv_l2i hx hb hdg (e_l2i (rg_h gs)) (kk ls hl gl (rg_c (show am_r32 _ from w32_rg _) (rg_t gs)))
  · simp only [am_side, beq_iff_eq] at hs
    subst hs
    obtain ⟨x, r, rfl, rfl, rfl⟩ := am_uI_inv h
    exact lv_i2b hx hb hdg (e_i2b (rg_h gs)) (kk ls hl gl (rg_c (show am_r32 _ from w8_rg _) (rg_t gs)))
  · simp only [am_side, beq_iff_eq] at hs
    subst hs
    obtain ⟨v, r, rfl, hv, rfl, rfl⟩ := am_dup_inv h
    exact lv_dup hx hb hdg (am_cat1 hv) (kk ls hl gl (rg_c (rg_h gs) gs))
  · simp only [am_side, beq_iff_eq] at hs
    subst hs
    obtain ⟨v, u, r, rfl, hv, hu, rfl, rfl⟩ := am_dup2_inv h
    exact lv_dup2_11 hx hb hdg (am_cat1 hv) (am_cat1 hu) (kk ls hl gl (rg_c (rg_h gs) (rg_c (rg_h (rg_t gs)) gs)))
  · simp only [am_side, beq_iff_eq] at hs
    subst hs
    obtain ⟨v, rfl, hv, rfl⟩ := am_pop_inv h
    exact lv_pop hx hb hdg (am_cat1 hv) (kk ls hl gl (rg_t gs))
  · cases h
end SIMAR
