/-! THE CLASS'S CALLS: HOUSEHOLDS -/
def x_hangs (k : Nat) (A : am_S) (u w x : Int) : am_V × am_S := if 0 ≤ ix k u ∧ (0 ≤ w ∧ w ≤ 1) ∧ 0 ≤ x ∧ x ≤ 7 then (vI (loF A w x.toNat (ix k u)), upA (hiF A x.toNat (ix k u)) A) else (vI (-1), A)
def x_explains (k : Nat) (A : am_S) (u v : Int) : am_V × am_S := if 0 ≤ ix k v ∧ 0 ≤ u ∧ u < A.1 27 0 then (if cEx A k u.toNat (ix k v).toNat = -9 then (vI (-9), A) else (vI (prOf (A.1 9) (cEx A k u.toNat (ix k v).toNat)), upA (cEx A k u.toNat (ix k v).toNat) A)) else (vI (-1), A)
def x_lacks (k : Nat) (A : am_S) (u v : Int) : am_V × am_S := if 0 ≤ ix k v ∧ 0 ≤ u ∧ u < A.1 27 0 then (vI (cTl A u.toNat (ix k v).toNat), upA (cTm A u.toNat (ix k v).toNat) A) else (vI (-1), A)
def x_fewest (k : Nat) (A : am_S) (u : Int) : am_V × am_S := if 0 ≤ u ∧ u < A.1 27 0 then (if cSm A u.toNat (nkT k) < 0 then (vI (-9), A) else (vI (A.1 20 (cSm A u.toNat (nkT k)).toNat), upA (A.1 19 (cSm A u.toNat (nkT k)).toNat) A)) else (vI (-1), A)
def x_bound (k : Nat) (A : am_S) (u : Int) : am_V × am_S := if 0 ≤ u ∧ u < A.1 27 0 then (vI ((cPb A k u.toNat 8).getD (-9)), A) else (vI (-1), A)
def x_many (k : Nat) (A : am_S) (u q : Int) : am_V × am_S := if (0 ≤ u ∧ u < A.1 27 0) ∧ 0 ≤ q ∧ q ≤ 9 then (vI (cCnt A k u.toNat q (nkT k)), A) else (vI (-1), A)
def x_step (k : Nat) (D : Nat → Nat → Int) (A : am_S) (u v : Int) : am_V × am_S := if 0 ≤ ix k u ∧ 0 ≤ ix k v then (vI (D (ix k u).toNat (ix k v).toNat), A) else (vI (-1), A)
theorem CI.fz3 {k nm ns : Nat} {D : Nat → Nat → Int} {σ σ' : am_S} (h : CI k nm ns D σ) (hF : FZ [33, 34, 35] σ σ') (hk : KNs k D σ') : CI k nm ns D σ' := by
  have m : ∀ a, (a ≠ 33 ∧ a ≠ 34 ∧ a ≠ 35 ∧ a < 76) → σ'.1 a = σ.1 a := fun a ha => funext (hF.2 a ⟨by simp only [List.mem_cons, List.not_mem_nil, or_false, not_or]; omega, Or.inl ha.2.2.2⟩)
  have ecp : (fun m h => cPr σ' k m h) = (fun m h => cPr σ k m h) := by
    funext q x
    unfold cPr
    rw [cEx_eq (σ := σ) (σ' := σ') (m 5 (by omega)) (m 7 (by omega)) (m 8 (by omega)) (m 21 (by omega)) (m 25 (by omega)) (m 26 (by omega)) (m 28 (by omega)) (m 29 (by omega)) (m 30 (by omega)), m 9 (by omega)]
  refine ⟨hF.wd h.w, fun j hj => by rw [m 0 (by omega)]; exact h.wr j hj, WX.fz hF (by decide) h.x, ⟨by rw [m 47 (by omega)]; exact h.st.1, h.st.2⟩, by rw [m 48 (by omega), m 49 (by omega), m 50 (by omega), m 51 (by omega)]; exact h.sh, hk, fun r hr => by rw [m _ (by omega)]; exact h.row r hr, fun t ht => by rw [m (68 + 2 * t) (by omega), m (69 + 2 * t) (by omega)]; exact h.txt t ht, ?_, ?_⟩
  · rw [m 36 (by omega), ecp]
    rcases h.m4 with z | ⟨z1, z2, z3⟩
    · exact Or.inl z
    · refine Or.inr ⟨z1, WK.fz hF (by decide) z2, fun t => ?_⟩
      obtain ⟨t1, t2⟩ := z3 t
      exact ⟨LQ.fz hF (by decide) t1, fun y hy => by rw [m 37 (by omega)]; exact t2 y hy⟩
  · rw [m 36 (by omega), ecp]
    rcases h.m5 with z | ⟨z1, z2, z3⟩
    · exact Or.inl z
    · exact Or.inr ⟨z1, by rw [m 36 (by omega)]; exact z2, fun t1 t2 q hq x hx hp => by rw [m 44 (by omega), m 45 (by omega)]; exact z3 t1 t2 q hq x hx hp⟩
theorem c70 (σ : am_S) (k nm ns : Nat) (D : Nat → Nat → Int) (hCI : CI k nm ns D σ) (u w x : Int) : CC 70 [vR 2, vI (u), vI (w), vI (x)] σ (fun r σ' => PKc k nm ns D σ (x_hangs k σ u w x) r σ') := by
  show TT am_b70 (am_b70.getD 0 []) [(0, vR 2), (1, vI (u)), (2, vI (w)), (3, vI (x))] [] σ _
  have hW := hCI.w
  have hk5 := hCI.x.1.1
  have hl27 := hCI.x.2.2.1.1
  have hk6 := hCI.x.1.2.1
  have hm12 := hCI.x.2.2.1.2.1
  have hD := hCI.x.1
  have hHT := hCI.x.2.1
  have hLn := hCI.x.2.2.1
  have hHB := HB_of hD hHT
  have hnb := nkT_bd k
  refine tt_ar rfl ?_
  refine tt_getR (wo_2 hW) rfl (wr_2_4 hW) ?_
  refine tt_ar rfl ?_
  refine tt_cv2 2 rfl (wo_18 hW) (c13 σ k hW hk6 hHT.1 (fun h hh => (hHT.2.1 h hh).1) (u)) (kp ?_)
  refine tt_ar rfl ?_
  refine tt_ar rfl ?_
  refine tt_iflt (fun h0_6 => ?_) (fun h0_6 => ?_)
  · refine tt_ar rfl ?_
    refine tt_iret ?_
    exact pk_same hCI (show x_hangs k σ u w x = (vI (-1), σ) by unfold x_hangs; (try simp only [Int.toNat_natCast]); (repeat (first | rw [if_pos (by omega)] | rw [if_neg (by omega)])); (first | done | rfl))
  · refine tt_ar rfl ?_
    refine tt_cs1 1 rfl (c62 _ _) (kb (fun h0_8 => ?_) (fun h0_8 => ?_))
    · refine tt_ifeqF (by decide) ?_
      refine tt_ar rfl ?_
      refine tt_cs1 1 rfl (c57 _ _) (kb (fun h0_11 => ?_) (fun h0_11 => ?_))
      · refine tt_ifneT (by decide) ?_
        obtain ⟨xn, rfl⟩ : ∃ xn : Nat, x = (xn : Int) := ⟨x.toNat, by omega⟩
        obtain ⟨hn, hhn⟩ : ∃ hn : Nat, ix k u = (hn : Int) := ⟨_, (Int.toNat_of_nonneg (by omega)).symm⟩
        have bhn : hn < nkT k := by have := ix_bd hk6 u; omega
        refine tt_loc [(0, vR 2), (2, vI (w)), (3, vI (((xn : Nat) : Int))), (4, vI (((hn : Nat) : Int)))] rfl rfl ⟨rfl, rfl, rfl, lv_to rfl hhn, trivial⟩ ?_
        refine tt_ar rfl ?_
        refine tt_ar rfl ?_
        refine tt_getR (wo_2 hW) rfl (wr_2_4 hW) ?_
        refine tt_getR (wo_18 hW) rfl (wr_18_9 hW) ?_
        refine tt_ar rfl ?_
        refine tt_ar rfl ?_
        refine tt_imul (by omega) (by omega) ?_
        refine tt_ar rfl ?_
        refine tt_iadd (by omega) (by omega) ?_
        refine tt_iald (((hn * 8) + xn)) (x := σ.1 26 (((hn * 8) + xn))) (wa_26 hW) (by omega) (by omega) rfl ?_
        refine tt_ar rfl ?_
        refine tt_getR (wo_2 hW) rfl (wr_2_4 hW) ?_
        refine tt_ar rfl ?_
        refine tt_ar rfl ?_
        refine tt_ar rfl ?_
        refine tt_cv4 4 rfl (wo_18 hW) (c71 σ hn xn w hW (by omega) (by omega)) (kp ?_)
        refine tt_cv3 3 rfl (wo_2 hW) (c30 σ _ _ hW) (ks ?_)
        refine tt_iret ?_
        exact pk_tells hCI (show x_hangs k σ u w xn = (vI (if isIn (σ.1 5 4) w (xn : Int) then 0 else σ.1 25 (hn * 8 + xn)), upA (σ.1 26 (hn * 8 + xn)) σ) by unfold x_hangs loF hiF; rw [if_pos (by omega), hhn]; rfl)
      · refine tt_ifneF (by decide) ?_
        refine tt_nop ?_
        refine tt_ar rfl ?_
        refine tt_iret ?_
        exact pk_same hCI (show x_hangs k σ u w x = (vI (-1), σ) by unfold x_hangs; (try simp only [Int.toNat_natCast]); (repeat (first | rw [if_pos (by omega)] | rw [if_neg (by omega)])); (first | done | rfl))
    · refine tt_ifeqT (by decide) ?_
      refine tt_ar rfl ?_
      refine tt_iret ?_
      exact pk_same hCI (show x_hangs k σ u w x = (vI (-1), σ) by unfold x_hangs; (try simp only [Int.toNat_natCast]); (repeat (first | rw [if_pos (by omega)] | rw [if_neg (by omega)])); (first | done | rfl))

theorem c73 (σ : am_S) (k nm ns : Nat) (D : Nat → Nat → Int) (hCI : CI k nm ns D σ) (u v : Int) : CC 73 [vR 2, vI (u), vI (v)] σ (fun r σ' => PKc k nm ns D σ (x_explains k σ u v) r σ') := by
  show TT am_b73 (am_b73.getD 0 []) [(0, vR 2), (1, vI (u)), (2, vI (v))] [] σ _
  have hW := hCI.w
  have hk5 := hCI.x.1.1
  have hl27 := hCI.x.2.2.1.1
  have hk6 := hCI.x.1.2.1
  have hm12 := hCI.x.2.2.1.2.1
  have hD := hCI.x.1
  have hHT := hCI.x.2.1
  have hLn := hCI.x.2.2.1
  have hHB := HB_of hD hHT
  have hnb := nkT_bd k
  refine tt_ar rfl ?_
  refine tt_getR (wo_2 hW) rfl (wr_2_4 hW) ?_
  refine tt_ar rfl ?_
  refine tt_cv2 2 rfl (wo_18 hW) (c13 σ k hW hk6 hHT.1 (fun h hh => (hHT.2.1 h hh).1) (v)) (kp ?_)
  refine tt_ar rfl ?_
  refine tt_ar rfl ?_
  refine tt_iflt (fun h0_6 => ?_) (fun h0_6 => ?_)
  · refine tt_ar rfl ?_
    refine tt_iret ?_
    exact pk_same hCI (show x_explains k σ u v = (vI (-1), σ) by unfold x_explains; (try simp only [Int.toNat_natCast, hl27]); (repeat (first | rw [if_pos (by omega)] | rw [if_neg (by omega)])); (first | done | rfl))
  · refine tt_ar rfl ?_
    refine tt_ar rfl ?_
    refine tt_cv2 2 rfl (wo_2 hW) (c66 σ _ nm hW hl27 (by omega) (by have := hCI.x.2.2.1.2.1; omega)) (kb (fun h0_9 => ?_) (fun h0_9 => ?_))
    · refine tt_ifneT (by decide) ?_
      obtain ⟨un, rfl⟩ : ∃ un : Nat, u = (un : Int) := ⟨u.toNat, by omega⟩
      obtain ⟨hn, hhn⟩ : ∃ hn : Nat, ix k v = (hn : Int) := ⟨_, (Int.toNat_of_nonneg (by omega)).symm⟩
      have bhn : hn < nkT k := by have := ix_bd hk6 v; omega
      refine tt_loc [(0, vR 2), (1, vI (((un : Nat) : Int))), (3, vI (((hn : Nat) : Int)))] rfl rfl ⟨rfl, rfl, lv_to rfl hhn, trivial⟩ ?_
      refine tt_ar rfl ?_
      refine tt_getR (wo_2 hW) rfl (wr_2_6 hW) ?_
      refine tt_ar rfl ?_
      refine tt_ar rfl ?_
      refine tt_cv3 3 rfl (wo_31 hW) (c74 σ k (nkT k) nm hW hD hLn hHB un hn (by omega) (by omega)) (kp ?_)
      refine tt_ar rfl ?_
      refine tt_ar rfl ?_
      refine tt_ar rfl ?_
      refine tt_icne (fun h2_8 => ?_) (fun h2_8 => ?_)
      · refine tt_ar rfl ?_
        refine tt_ar rfl ?_
        refine tt_ar rfl ?_
        refine tt_getR (wo_2 hW) rfl (wr_2_6 hW) ?_
        refine tt_ar rfl ?_
        refine tt_cv2 2 rfl (wo_31 hW) (c81 σ k (nkT k) nm hW hD hLn hHB _) (kp ?_)
        refine tt_cv3 3 rfl (wo_2 hW) (c30 σ _ _ hW) (ks ?_)
        refine tt_nop ?_
        refine tt_iret ?_
        exact pk_tells (x := cEx σ k un hn) hCI (show x_explains k σ (un : Int) v = (vI (prOf (σ.1 9) (cEx σ k un hn)), upA (cEx σ k un hn) σ) by unfold x_explains; (try simp only [Int.toNat_natCast, hl27, hhn]); (repeat (first | rw [if_pos (by omega)] | rw [if_neg (by omega)])); (first | done | rfl))
      · refine tt_ar rfl ?_
        refine tt_goto ?_
        refine tt_iret ?_
        exact pk_same hCI (show x_explains k σ (un : Int) v = (vI (-9), σ) by unfold x_explains; (try simp only [Int.toNat_natCast, hl27, hhn]); (repeat (first | rw [if_pos (by omega)] | rw [if_neg (by omega)])); (first | done | rfl))
    · refine tt_ifneF (by decide) ?_
      refine tt_nop ?_
      refine tt_ar rfl ?_
      refine tt_iret ?_
      exact pk_same hCI (show x_explains k σ u v = (vI (-1), σ) by unfold x_explains; (try simp only [Int.toNat_natCast, hl27, hhn]); (repeat (first | rw [if_pos (by omega)] | rw [if_neg (by omega)])); (first | done | rfl))

theorem c82 (σ : am_S) (k nm ns : Nat) (D : Nat → Nat → Int) (hCI : CI k nm ns D σ) (u v : Int) : CC 82 [vR 2, vI (u), vI (v)] σ (fun r σ' => PKc k nm ns D σ (x_lacks k σ u v) r σ') := by
  show TT am_b82 (am_b82.getD 0 []) [(0, vR 2), (1, vI (u)), (2, vI (v))] [] σ _
  have hW := hCI.w
  have hk5 := hCI.x.1.1
  have hl27 := hCI.x.2.2.1.1
  have hk6 := hCI.x.1.2.1
  have hm12 := hCI.x.2.2.1.2.1
  have hD := hCI.x.1
  have hHT := hCI.x.2.1
  have hLn := hCI.x.2.2.1
  have hHB := HB_of hD hHT
  have hnb := nkT_bd k
  refine tt_ar rfl ?_
  refine tt_getR (wo_2 hW) rfl (wr_2_4 hW) ?_
  refine tt_ar rfl ?_
  refine tt_cv2 2 rfl (wo_18 hW) (c13 σ k hW hk6 hHT.1 (fun h hh => (hHT.2.1 h hh).1) (v)) (kp ?_)
  refine tt_ar rfl ?_
  refine tt_ar rfl ?_
  refine tt_iflt (fun h0_6 => ?_) (fun h0_6 => ?_)
  · refine tt_ar rfl ?_
    refine tt_iret ?_
    exact pk_same hCI (show x_lacks k σ u v = (vI (-1), σ) by unfold x_lacks; (try simp only [Int.toNat_natCast, hl27]); (repeat (first | rw [if_pos (by omega)] | rw [if_neg (by omega)])); (first | done | rfl))
  · refine tt_ar rfl ?_
    refine tt_ar rfl ?_
    refine tt_cv2 2 rfl (wo_2 hW) (c66 σ _ nm hW hl27 (by omega) (by have := hCI.x.2.2.1.2.1; omega)) (kb (fun h0_9 => ?_) (fun h0_9 => ?_))
    · refine tt_ifneT (by decide) ?_
      obtain ⟨un, rfl⟩ : ∃ un : Nat, u = (un : Int) := ⟨u.toNat, by omega⟩
      obtain ⟨hn, hhn⟩ : ∃ hn : Nat, ix k v = (hn : Int) := ⟨_, (Int.toNat_of_nonneg (by omega)).symm⟩
      have bhn : hn < nkT k := by have := ix_bd hk6 v; omega
      refine tt_loc [(0, vR 2), (1, vI (((un : Nat) : Int))), (3, vI (((hn : Nat) : Int)))] rfl rfl ⟨rfl, rfl, lv_to rfl hhn, trivial⟩ ?_
      refine tt_ar rfl ?_
      refine tt_ar rfl ?_
      refine tt_getR (wo_2 hW) rfl (wr_2_6 hW) ?_
      refine tt_ar rfl ?_
      refine tt_ar rfl ?_
      refine tt_cv3 3 rfl (wo_31 hW) (c83 σ k (nkT k) nm hW hD hLn hHB un hn (by omega) (by omega)) (kp ?_)
      refine tt_ar rfl ?_
      refine tt_getR (wo_2 hW) rfl (wr_2_6 hW) ?_
      refine tt_ar rfl ?_
      refine tt_ar rfl ?_
      refine tt_cv3 3 rfl (wo_31 hW) (c84 σ k (nkT k) nm hW hD hLn hHB un hn (by omega) (by omega)) (kp ?_)
      refine tt_cv3 3 rfl (wo_2 hW) (c30 σ _ _ hW) (ks ?_)
      refine tt_iret ?_
      exact pk_tells (x := cTm σ un hn) hCI (show x_lacks k σ (un : Int) v = (vI (cTl σ un hn), upA (cTm σ un hn) σ) by unfold x_lacks; (try simp only [Int.toNat_natCast, hl27, hhn]); (repeat (first | rw [if_pos (by omega)] | rw [if_neg (by omega)])); (first | done | rfl))
    · refine tt_ifneF (by decide) ?_
      refine tt_nop ?_
      refine tt_ar rfl ?_
      refine tt_iret ?_
      exact pk_same hCI (show x_lacks k σ u v = (vI (-1), σ) by unfold x_lacks; (try simp only [Int.toNat_natCast, hl27, hhn]); (repeat (first | rw [if_pos (by omega)] | rw [if_neg (by omega)])); (first | done | rfl))

theorem c85 (σ : am_S) (k nm ns : Nat) (D : Nat → Nat → Int) (hCI : CI k nm ns D σ) (u : Int) : CC 85 [vR 2, vI (u)] σ (fun r σ' => PKc k nm ns D σ (x_fewest k σ u) r σ') := by
  show TT am_b85 (am_b85.getD 0 []) [(0, vR 2), (1, vI (u))] [] σ _
  have hW := hCI.w
  have hk5 := hCI.x.1.1
  have hl27 := hCI.x.2.2.1.1
  have hk6 := hCI.x.1.2.1
  have hm12 := hCI.x.2.2.1.2.1
  have hD := hCI.x.1
  have hHT := hCI.x.2.1
  have hLn := hCI.x.2.2.1
  have hHB := HB_of hD hHT
  have hnb := nkT_bd k
  refine tt_ar rfl ?_
  refine tt_ar rfl ?_
  refine tt_cv2 2 rfl (wo_2 hW) (c66 σ _ nm hW hl27 (by omega) (by have := hCI.x.2.2.1.2.1; omega)) (kb (fun h0_2 => ?_) (fun h0_2 => ?_))
  · refine tt_ifneT (by decide) ?_
    obtain ⟨un, rfl⟩ : ∃ un : Nat, u = (un : Int) := ⟨u.toNat, by omega⟩
    refine tt_ar rfl ?_
    refine tt_getR (wo_2 hW) rfl (wr_2_6 hW) ?_
    refine tt_ar rfl ?_
    refine tt_cv2 2 rfl (wo_31 hW) (c86 σ k (nkT k) nm hW hD hLn hHB un (by omega)) (kp ?_)
    refine tt_ar rfl ?_
    refine tt_ar rfl ?_
    refine tt_ifge (fun h1_6 => ?_) (fun h1_6 => ?_)
    · obtain ⟨sn, hsn⟩ : ∃ sn : Nat, cSm σ un (nkT k) = (sn : Int) := ⟨_, (Int.toNat_of_nonneg (by omega)).symm⟩
      have bsn : sn < nkT k := by have := smN_bd (all := σ.1 20) (p := fun h => decide (cAg σ un h 0 0 0)) (nkT k); unfold cSm at hsn; omega
      refine tt_loc [(0, vR 2), (2, vI (((sn : Nat) : Int)))] rfl rfl ⟨rfl, lv_to rfl hsn, trivial⟩ ?_
      refine tt_ar rfl ?_
      refine tt_ar rfl ?_
      refine tt_getR (wo_2 hW) rfl (wr_2_4 hW) ?_
      refine tt_getR (wo_18 hW) rfl (wr_18_2 hW) ?_
      refine tt_ar rfl ?_
      refine tt_iald (sn) (x := σ.1 19 (sn)) (wa_19 hW) rfl (by omega) rfl ?_
      refine tt_ar rfl ?_
      refine tt_getR (wo_2 hW) rfl (wr_2_4 hW) ?_
      refine tt_getR (wo_18 hW) rfl (wr_18_3 hW) ?_
      refine tt_ar rfl ?_
      refine tt_iald (sn) (x := σ.1 20 (sn)) (wa_20 hW) rfl (by omega) rfl ?_
      refine tt_cv3 3 rfl (wo_2 hW) (c30 σ _ _ hW) (ks ?_)
      refine tt_nop ?_
      refine tt_iret ?_
      exact pk_tells (x := σ.1 19 (sn)) hCI (show x_fewest k σ (un : Int) = (vI (σ.1 20 (sn)), upA (σ.1 19 (sn)) σ) by unfold x_fewest; (try simp only [Int.toNat_natCast, hl27, hsn]); (repeat (first | rw [if_pos (by omega)] | rw [if_neg (by omega)])); (first | done | rfl))
    · refine tt_ar rfl ?_
      refine tt_goto ?_
      refine tt_iret ?_
      exact pk_same hCI (show x_fewest k σ (un : Int) = (vI (-9), σ) by unfold x_fewest; (try simp only [Int.toNat_natCast, hl27]); (repeat (first | rw [if_pos (by omega)] | rw [if_neg (by omega)])); (first | done | rfl))
  · refine tt_ifneF (by decide) ?_
    refine tt_ar rfl ?_
    refine tt_iret ?_
    exact pk_same hCI (show x_fewest k σ u = (vI (-1), σ) by unfold x_fewest; (try simp only [Int.toNat_natCast, hl27]); (repeat (first | rw [if_pos (by omega)] | rw [if_neg (by omega)])); (first | done | rfl))

theorem c87 (σ : am_S) (k nm ns : Nat) (D : Nat → Nat → Int) (hCI : CI k nm ns D σ) (u : Int) : CC 87 [vR 2, vI (u)] σ (fun r σ' => PKc k nm ns D σ (x_bound k σ u) r σ') := by
  show TT am_b87 (am_b87.getD 0 []) [(0, vR 2), (1, vI (u))] [] σ _
  have hW := hCI.w
  have hk5 := hCI.x.1.1
  have hl27 := hCI.x.2.2.1.1
  have hk6 := hCI.x.1.2.1
  have hm12 := hCI.x.2.2.1.2.1
  have hD := hCI.x.1
  have hHT := hCI.x.2.1
  have hLn := hCI.x.2.2.1
  have hHB := HB_of hD hHT
  have hnb := nkT_bd k
  refine tt_ar rfl ?_
  refine tt_ar rfl ?_
  refine tt_cv2 2 rfl (wo_2 hW) (c66 σ _ nm hW hl27 (by omega) (by have := hCI.x.2.2.1.2.1; omega)) (kb (fun h0_2 => ?_) (fun h0_2 => ?_))
  · refine tt_ifeqF (by decide) ?_
    obtain ⟨un, rfl⟩ : ∃ un : Nat, u = (un : Int) := ⟨u.toNat, by omega⟩
    refine tt_ar rfl ?_
    refine tt_getR (wo_2 hW) rfl (wr_2_6 hW) ?_
    refine tt_ar rfl ?_
    refine tt_cv2 2 rfl (wo_31 hW) (c88 σ k (nkT k) nm hW hD hLn hHB un (by omega)) (kp ?_)
    refine tt_goto ?_
    refine tt_iret ?_
    exact pk_same hCI (show x_bound k σ (un : Int) = (vI ((cPb σ k un 8).getD (-9)), σ) by unfold x_bound; (try simp only [Int.toNat_natCast, hl27]); (repeat (first | rw [if_pos (by omega)] | rw [if_neg (by omega)])); (first | done | rfl))
  · refine tt_ifeqT (by decide) ?_
    refine tt_ar rfl ?_
    refine tt_nop ?_
    refine tt_iret ?_
    exact pk_same hCI (show x_bound k σ u = (vI (-1), σ) by unfold x_bound; (try simp only [Int.toNat_natCast, hl27]); (repeat (first | rw [if_pos (by omega)] | rw [if_neg (by omega)])); (first | done | rfl))

theorem c90 (σ : am_S) (k nm ns : Nat) (D : Nat → Nat → Int) (hCI : CI k nm ns D σ) (u q : Int) : CC 90 [vR 2, vI (u), vI (q)] σ (fun r σ' => PKc k nm ns D σ (x_many k σ u q) r σ') := by
  show TT am_b90 (am_b90.getD 0 []) [(0, vR 2), (1, vI (u)), (2, vI (q))] [] σ _
  have hW := hCI.w
  have hk5 := hCI.x.1.1
  have hl27 := hCI.x.2.2.1.1
  have hk6 := hCI.x.1.2.1
  have hm12 := hCI.x.2.2.1.2.1
  have hD := hCI.x.1
  have hHT := hCI.x.2.1
  have hLn := hCI.x.2.2.1
  have hHB := HB_of hD hHT
  have hnb := nkT_bd k
  refine tt_ar rfl ?_
  refine tt_ar rfl ?_
  refine tt_cv2 2 rfl (wo_2 hW) (c66 σ _ nm hW hl27 (by omega) (by have := hCI.x.2.2.1.2.1; omega)) (kb (fun h0_2 => ?_) (fun h0_2 => ?_))
  · refine tt_ifeqF (by decide) ?_
    refine tt_ar rfl ?_
    refine tt_ar rfl ?_
    refine tt_cs2 2 rfl (c23 _ _ _) (kb (fun h0_6 => ?_) (fun h0_6 => ?_))
    · refine tt_ifneT (by decide) ?_
      obtain ⟨un, rfl⟩ : ∃ un : Nat, u = (un : Int) := ⟨u.toNat, by omega⟩
      refine tt_ar rfl ?_
      refine tt_getR (wo_2 hW) rfl (wr_2_6 hW) ?_
      refine tt_ar rfl ?_
      refine tt_ar rfl ?_
      refine tt_cv3 3 rfl (wo_31 hW) (c91 σ k (nkT k) nm hW hD hLn hHB un _ (by omega)) (kp ?_)
      refine tt_iret ?_
      exact pk_same hCI (show x_many k σ (un : Int) q = (vI (cCnt σ k un q (nkT k)), σ) by unfold x_many; (try simp only [Int.toNat_natCast, hl27]); (repeat (first | rw [if_pos (by omega)] | rw [if_neg (by omega)])); (first | done | rfl))
    · refine tt_ifneF (by decide) ?_
      refine tt_nop ?_
      refine tt_ar rfl ?_
      refine tt_iret ?_
      exact pk_same hCI (show x_many k σ u q = (vI (-1), σ) by unfold x_many; (try simp only [Int.toNat_natCast, hl27]); (repeat (first | rw [if_pos (by omega)] | rw [if_neg (by omega)])); (first | done | rfl))
  · refine tt_ifeqT (by decide) ?_
    refine tt_ar rfl ?_
    refine tt_iret ?_
    exact pk_same hCI (show x_many k σ u q = (vI (-1), σ) by unfold x_many; (try simp only [Int.toNat_natCast, hl27]); (repeat (first | rw [if_pos (by omega)] | rw [if_neg (by omega)])); (first | done | rfl))

theorem c92 (σ : am_S) (k nm ns : Nat) (D : Nat → Nat → Int) (hCI : CI k nm ns D σ) (u v : Int) : CC 92 [vR 2, vI (u), vI (v)] σ (fun r σ' => PKc k nm ns D σ (x_step k D σ u v) r σ') := by
  show TT am_b92 (am_b92.getD 0 []) [(0, vR 2), (1, vI (u)), (2, vI (v))] [] σ _
  have hW := hCI.w
  have hk5 := hCI.x.1.1
  have hl27 := hCI.x.2.2.1.1
  have hk6 := hCI.x.1.2.1
  have hm12 := hCI.x.2.2.1.2.1
  have hD := hCI.x.1
  have hHT := hCI.x.2.1
  have hLn := hCI.x.2.2.1
  have hHB := HB_of hD hHT
  have hnb := nkT_bd k
  refine tt_ar rfl ?_
  refine tt_getR (wo_2 hW) rfl (wr_2_4 hW) ?_
  refine tt_ar rfl ?_
  refine tt_cv2 2 rfl (wo_18 hW) (c13 σ k hW hk6 hHT.1 (fun h hh => (hHT.2.1 h hh).1) (u)) (kp ?_)
  refine tt_ar rfl ?_
  refine tt_ar rfl ?_
  refine tt_getR (wo_2 hW) rfl (wr_2_4 hW) ?_
  refine tt_ar rfl ?_
  refine tt_cv2 2 rfl (wo_18 hW) (c13 σ k hW hk6 hHT.1 (fun h hh => (hHT.2.1 h hh).1) (v)) (kp ?_)
  refine tt_ar rfl ?_
  refine tt_ar rfl ?_
  refine tt_iflt (fun h0_11 => ?_) (fun h0_11 => ?_)
  · refine tt_ar rfl ?_
    refine tt_iret ?_
    exact pk_same hCI (show x_step k D σ u v = (vI (-1), σ) by unfold x_step; (try simp only [Int.toNat_natCast]); (repeat (first | rw [if_pos (by omega)] | rw [if_neg (by omega)])); (first | done | rfl))
  · refine tt_ar rfl ?_
    refine tt_ifge (fun h0_13 => ?_) (fun h0_13 => ?_)
    · obtain ⟨hu, hhu⟩ : ∃ hu : Nat, ix k u = (hu : Int) := ⟨_, (Int.toNat_of_nonneg (by omega)).symm⟩
      have bhu : hu < nkT k := by have := ix_bd hk6 u; omega
      refine tt_loc [(0, vR 2), (3, vI (((hu : Nat) : Int))), (4, vI (ix k v))] rfl rfl ⟨rfl, lv_to rfl hhu, rfl, trivial⟩ ?_
      obtain ⟨hv, hhv⟩ : ∃ hv : Nat, ix k v = (hv : Int) := ⟨_, (Int.toNat_of_nonneg (by omega)).symm⟩
      have bhv : hv < nkT k := by have := ix_bd hk6 v; omega
      refine tt_loc [(0, vR 2), (3, vI (((hu : Nat) : Int))), (4, vI (((hv : Nat) : Int)))] rfl rfl ⟨rfl, rfl, lv_to rfl hhv, trivial⟩ ?_
      refine tt_ar rfl ?_
      refine tt_getR (wo_2 hW) rfl (wr_2_7 hW) ?_
      refine tt_ar rfl ?_
      refine tt_cv2 2 rfl (wo_32 hW) (know_z σ k hu D hW hD hHT hCI.x.2.2.2 hCI.kn (by omega)) ?_
      intro r0 σ7 hq0
      obtain ⟨rfl, hkn, h35, -, hF7⟩ := hq0
      have hW1 := FZ.wd hF7 hW
      have hci := hCI.fz3 hF7 hkn
      refine tt_ar rfl ?_
      refine tt_getR (wo_2 hW1) rfl (wr_2_7 hW1) ?_
      refine tt_ar rfl ?_
      refine tt_ar rfl ?_
      obtain ⟨kn7, i7, hkw⟩ := hkn
      refine tt_cv3 3 rfl (wo_32 hW1) (c100 σ7 k hu hv kn7 i7 D hW1 hk6 hci.x.2.1.1 hkw (by omega) (by omega) h35) (kp ?_)
      · refine tt_iret ?_
        exact pk_any (M := σ) hci (show x_step k D σ u v = (vI (D hu hv), σ) by unfold x_step; (try simp only [Int.toNat_natCast, hhu, hhv]); (repeat (first | rw [if_pos (by omega)] | rw [if_neg (by omega)])); (first | done | rfl)) (EqB.ofZ hF7 (by decide)) (QC.ofZ hF7 (by decide))
    · refine tt_nop ?_
      refine tt_ar rfl ?_
      refine tt_iret ?_
      exact pk_same hCI (show x_step k D σ u v = (vI (-1), σ) by unfold x_step; (try simp only [Int.toNat_natCast]); (repeat (first | rw [if_pos (by omega)] | rw [if_neg (by omega)])); (first | done | rfl))

