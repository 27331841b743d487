/-! THE CLASS'S CALLS: HAPPENINGS, DOUBTS, WHAT IS TOLD -/
def upH (m kd a b : Int) (A : am_S) : am_S := (fun c j => if c = 47 ∧ j = 2 then A.1 47 2 + 1 else if c = 48 ∧ j = (A.1 47 2).toNat then kd else if c = 49 ∧ j = (A.1 47 2).toNat then m else if c = 50 ∧ j = (A.1 47 2).toNat then a else if c = 51 ∧ j = (A.1 47 2).toNat then b else A.1 c j, A.2)
def x_happen (A : am_S) (m q a b : Int) : am_V × am_S := if (0 ≤ m ∧ m ≤ 11) ∧ (0 ≤ q ∧ q ≤ 6) ∧ (q = 6 → (0 ≤ a ∧ a ≤ 7) ∧ (0 ≤ b ∧ b ≤ 7) ∧ ¬ a = b) ∧ (¬ q = 0 → ¬ q = 6 → 0 ≤ a ∧ a < A.1 5 0) then (if A.1 47 2 < 16 then (vI (A.1 47 2), upH m q (if q = 0 then 0 else a) (if q = 6 then b else 0) A) else (vI (-2), A)) else (vI (-1), A)
def x_event (A : am_S) (u w : Int) : am_V × am_S := if (0 ≤ u ∧ u < A.1 47 2) ∧ 0 ≤ w ∧ w ≤ 3 then (vI 1, upA (stD A u.toNat w.toNat) A) else (vI (-1), A)
def x_mark (ns : Nat) (A : am_S) (u q : Int) : am_V × am_S := if (0 ≤ u ∧ u < A.1 47 2) ∧ 1 ≤ q ∧ q ≤ 6 then (if A.1 48 u.toNat = q ∨ (q = 1 ∧ A.1 48 u.toNat = 5) then (vI (tlN A ns u.toNat q), A) else (vI (-3), upF 3 A)) else (vI (-1), A)
def hoN (p : Option (Nat → Int)) : Int := match p with
  | some q => sumN 6 (fun s => q s * 10 ^ s)
  | none => -9
def x_household (ns : Nat) (A : am_S) (u : Int) : am_V × am_S := if 0 ≤ u ∧ u ≤ 11 then (vI (hoN (toS (A.1 6) (A.1 48) (A.1 49) (A.1 50) ns (u.toNat + 1))), A) else (vI (-1), A)
/-- the first monday that doesn't agree -/
def jfN (k nm ns : Nat) (A : am_S) : Nat := fstN (fun j => (jdN A k ns j).isSome) nm
def x_judge (k nm ns : Nat) (A : am_S) : am_V × am_S := if jfN k nm ns A < nm then (vI (jfN k nm ns A : Int), upA ((jdN A k ns (jfN k nm ns A)).getD 0) A) else (vI (-9), A)
def x_doubts (k nm : Nat) (A : am_S) (u : Int) : am_V × am_S := if 0 ≤ ix k u then (vI (cDb A nm (ix k u).toNat), A) else (vI (-1), A)
def x_least (k nm : Nat) (A : am_S) : am_V × am_S := (vI ((tb k (ldN (cDb A nm) (A.1 20) (nkT k - 1)).1 : Nat) : Int), upA (cDb A nm (ldN (cDb A nm) (A.1 20) (nkT k - 1)).1) A)
/-- the thing that parts most -/
def seN (p : Nat → Int) : Nat → Nat × Int
  | 0 => (0, p 0)
  | n + 1 => if (seN p n).2 < p (n + 1) then (n + 1, p (n + 1)) else seN p n
theorem seN_bd {p : Nat → Int} : ∀ n, (seN p n).1 ≤ n
  | 0 => Nat.le_refl 0
  | n + 1 => by
    unfold seN
    split
    · exact Nat.le_refl _
    · exact Nat.le_succ_of_le (seN_bd n)
def ptA (k nm : Nat) (D : Nat → Nat → Int) (A : am_S) (w : Int) (x : Nat) : Int := ptM (nkT k) (plM 1000000 (nkT k) nm D (exA k A) (nm - 1)) (fun b => loF A w x (b : Int)) (fun a => hiF A x (a : Int))
def x_see (k nm : Nat) (D : Nat → Nat → Int) (A : am_S) (w : Int) : am_V × am_S := if 0 ≤ w ∧ w ≤ 1 then (if bsN 1000000 (nkT k) nm D (exA k A) < 1000000 ∧ ¬ nm = 0 then (vI ((seN (ptA k nm D A w) 7).1 : Int), upA (seN (ptA k nm D A w) 7).2 A) else (vI (-3), upF 4 A)) else (vI (-1), A)
def thN (b n : Nat) (A : am_S) : Int := sumN n (fun r => if A.1 (b + 2 * r) 1 < 0 then 0 else 1)
def cnA (ns : Nat) (A : am_S) (w : Nat) : Int := if w = 0 then A.1 5 0 else if w = 1 then A.1 27 0 else if w = 2 then A.1 47 2 else if w = 3 then cmN A ns else if w = 4 then thN 56 6 A else thN 68 4 A
theorem th_bd {b : Nat} {A : am_S} : ∀ n, 0 ≤ thN b n A ∧ thN b n A ≤ (n : Int) := fun n => by
  have := sumN_bd (n := n) (f := fun r => if A.1 (b + 2 * r) 1 < 0 then 0 else 1) (a := 0) (b := 1) (fun i _ => by split <;> omega)
  unfold thN
  omega
theorem th_s {b n : Nat} {A : am_S} : thN b (n + 1) A = thN b n A + (if A.1 (b + 2 * n) 1 < 0 then 0 else 1) := rfl
theorem lo_eq {σ σ' : am_S} (h5 : σ'.1 5 = σ.1 5) (h25 : σ'.1 25 = σ.1 25) : loF σ' = loF σ := by
  funext w x z
  unfold loF
  rw [h5, h25]
theorem hi_eq {σ σ' : am_S} (h26 : σ'.1 26 = σ.1 26) : hiF σ' = hiF σ := by
  funext x z
  unfold hiF
  rw [h26]
theorem seN_s {p : Nat → Int} {n : Nat} : seN p (n + 1) = if (seN p n).2 < p (n + 1) then (n + 1, p (n + 1)) else seN p n := rfl
def x_count (ns : Nat) (A : am_S) (u : Int) : am_V × am_S := if 0 ≤ u ∧ u ≤ 5 then (vI (cnA ns A u.toNat), A) else (vI (-1), A)
def x_findings (A : am_S) (u : Int) : am_V × am_S := if 1 ≤ u ∧ u ≤ 5 then (vI (A.1 55 u.toNat), A) else (vI (-1), A)
def x_asked (A : am_S) : am_V × am_S := (vI (A.1 2 12), A)
def x_tales (A : am_S) : am_V × am_S := (vL (A.1 2 13), A)
def x_upper (A : am_S) : am_V × am_S := (vL (A.1 2 14), A)
def x_lower (A : am_S) : am_V × am_S := (vL (A.1 2 15), A)
def x_finding (A : am_S) : am_V × am_S := (vI (A.1 2 11), A)
/-- digests of strips, one after the other -/
def dsT (b : Nat) (A : am_S) (h : Int) : Nat → Int
  | 0 => h
  | r + 1 => dgN (A.1 (b + 2 * r) 1).toNat (w64 (w64 (31 * dsT b A h r) + A.1 (b + 2 * r) 1)) (A.1 (b + 1 + 2 * r))
def dgA (k nm ns : Nat) (A : am_S) : Int := dsT 68 A (dsT 56 A (dgN (4 * ns) (dgN (10 * nm) (dgN 5 (w64 (w64 (31 * dgN (17 * k) (dgN 6 17 (cnA ns A)) (wdD (A.1 6) (A.1 7) (A.1 8))) + A.1 5 4)) (A.1 9)) (fun j => lnD A (j / 10) (j % 10))) (fun j => stD A (j / 4) (j % 4))) 6) 4
def x_digest (k nm ns : Nat) (A : am_S) : am_V × am_S := (vL (dgA k nm ns A), A)
theorem CI.jd {k nm ns : Nat} {D : Nat → Nat → Int} {σ σ' : am_S} (h : CI k nm ns D σ) (hF : Fr [47, 52, 53, 54] σ σ') (h47 : σ'.1 47 2 = σ.1 47 2) : CI k nm ns D σ' ∧ EqB σ σ' := by
  have m : ∀ a, (a ≠ 47 ∧ a ≠ 52 ∧ a ≠ 53 ∧ a ≠ 54) → ∀ j, σ'.1 a j = σ.1 a j := fun a ha => hF.2 a (by simp only [List.mem_cons, List.not_mem_nil, or_false, not_or]; exact ha)
  refine ⟨h.kp (hF.wd h.w) (by rw [hF.1]) (by rw [hF.1]) (fun a ha => m a (by unfold ciD at ha; omega)) ⟨h47.trans h.st.1, h.st.2⟩ (by rw [funext (m 48 (by omega)), funext (m 49 (by omega)), funext (m 50 (by omega)), funext (m 51 (by omega))]; exact h.sh) (fun r hr => by rw [m _ (by omega)]; exact h.row r hr) (fun t ht => by rw [m (68 + 2 * t) (by omega)]; exact ⟨(h.txt t ht).1, fun j hj => by rw [m (69 + 2 * t) (by omega)]; exact (h.txt t ht).2 j hj⟩), fun a j q => ?_⟩
  by_cases e : a = 47 ∧ j = 2
  · rw [e.1, e.2]
    exact h47
  · exact m a (by unfold bcP at q; omega) j
theorem CI.hap {k nm ns : Nat} {D : Nat → Nat → Int} {σ σ' : am_S} {m q a b : Int} (h : CI k nm ns D σ) (hn : ns < 16) (hF : Fr [47, 48, 49, 50, 51] σ σ') (h47 : σ'.1 47 2 = ((ns + 1 : Nat) : Int)) (h48 : ∀ j, σ'.1 48 j = if j = ns then q else σ.1 48 j) (h49 : ∀ j, σ'.1 49 j = if j = ns then m else σ.1 49 j) (h50 : ∀ j, σ'.1 50 j = if j = ns then a else σ.1 50 j) (h51 : ∀ j, σ'.1 51 j = if j = ns then b else σ.1 51 j)
    (hm : 0 ≤ m ∧ m ≤ 11) (hq : 0 ≤ q ∧ q ≤ 6) (hs : 1 ≤ q ∧ q ≤ 5 → 0 ≤ a ∧ a < (k : Int)) (h6 : q = 6 → (0 ≤ a ∧ a ≤ 7) ∧ 0 ≤ b ∧ b ≤ 7) : CI k nm (ns + 1) D σ' ∧ EqB (upH m q a b σ) σ' := by
  have mm : ∀ c, (c < 47 ∨ 51 < c) → ∀ j, σ'.1 c j = σ.1 c j := fun c hc => hF.2 c (by simp only [List.mem_cons, List.not_mem_nil, or_false, not_or]; omega)
  have e : (σ.1 47 2).toNat = ns := by rw [h.st.1]; rfl
  refine ⟨h.kp (hF.wd h.w) (by rw [hF.1]) (by rw [hF.1]) (fun c hc => mm c (by unfold ciD at hc; omega)) ⟨h47, by omega⟩ ⟨by omega, fun x hx => ?_⟩ (fun r hr => by rw [mm _ (by omega)]; exact h.row r hr) (fun t ht => by rw [mm (68 + 2 * t) (by omega)]; exact ⟨(h.txt t ht).1, fun j hj => by rw [mm (69 + 2 * t) (by omega)]; exact (h.txt t ht).2 j hj⟩), fun c j qq => ?_⟩
  · rw [h48, h49, h50, h51]
    by_cases ex : x = ns
    · rw [if_pos ex, if_pos ex, if_pos ex, if_pos ex]
      exact ⟨hq, hm, hs, h6⟩
    · rw [if_neg ex, if_neg ex, if_neg ex, if_neg ex]
      exact h.sh.2 x (by omega)
  · unfold upH
    rw [e]
    by_cases c1 : c = 47
    · subst c1
      have : j = 2 := by unfold bcP at qq; omega
      subst this
      rw [h47]
      show ((ns + 1 : Nat) : Int) = σ.1 47 2 + 1
      rw [h.st.1]
      omega
    · by_cases c2 : c = 48
      · subst c2
        rw [h48]
        simp
      · by_cases c3 : c = 49
        · subst c3
          rw [h49]
          simp
        · by_cases c4 : c = 50
          · subst c4
            rw [h50]
            simp
          · by_cases c5 : c = 51
            · subst c5
              rw [h51]
              simp
            · rw [mm c (by omega) j]
              simp [c1, c2, c3, c4, c5]
theorem c130 (σ : am_S) (k nm ns : Nat) (D : Nat → Nat → Int) (hCI : CI k nm ns D σ) (m q a b : Int) : CC 130 [vR 2, vI (m), vI (q), vI (a), vI (b)] σ (fun r σ' => ∃ ns', PKc k nm ns' D σ (x_happen σ m q a b) r σ') := by
  show TT am_b130 (am_b130.getD 0 []) [(0, vR 2), (1, vI (m)), (2, vI (q)), (3, vI (a)), (4, vI (b))] [] σ _
  have hW := hCI.w
  have hk5 := hCI.x.1.1
  have hl27 := hCI.x.2.2.1.1
  have hs47 := hCI.st.1
  have hk6 := hCI.x.1.2.1
  have hm12 := hCI.x.2.2.1.2.1
  have hs16 := hCI.st.2
  have hD := hCI.x.1
  have hHT := hCI.x.2.1
  have hLn := hCI.x.2.2.1
  have hHB := HB_of hD hHT
  have hnb := nkT_bd k
  refine tt_ar rfl ?_
  refine tt_ar rfl ?_
  refine tt_cs2 2 rfl (c23 _ _ _) (kb (fun h0_2 => ?_) (fun h0_2 => ?_))
  · refine tt_ifeqF (by decide) ?_
    refine tt_ar rfl ?_
    refine tt_ar rfl ?_
    refine tt_cs2 2 rfl (c23 _ _ _) (kb (fun h0_6 => ?_) (fun h0_6 => ?_))
    · refine tt_ifneT (by decide) ?_
      refine tt_ar rfl ?_
      refine tt_ar rfl ?_
      refine tt_icne (fun h2_2 => ?_) (fun h2_2 => ?_)
      · refine tt_ar rfl ?_
        refine tt_ifeq (fun h4_1 => ?_) (fun h4_1 => ?_)
        · refine tt_ar rfl ?_
          refine tt_nop ?_
          refine tt_ar rfl ?_
          refine tt_ar rfl ?_
          refine tt_ifeqT (by decide) ?_
          refine tt_ar rfl ?_
          refine tt_getR (wo_2 hW) rfl (wr_2_9 hW) ?_
          refine tt_getI (x := (ns : Int)) (wo_47 hW) rfl hs47 ?_
          refine tt_ar rfl ?_
          refine tt_iclt (fun h7_4 => ?_) (fun h7_4 => ?_)
          · refine tt_ar rfl ?_
            refine tt_getR (wo_2 hW) rfl (wr_2_9 hW) ?_
            refine tt_ar rfl ?_
            refine tt_ar rfl ?_
            refine tt_ar rfl ?_
            refine tt_ifne (fun h8_5 => ?_) (fun h8_5 => ?_)
            · exfalso; omega
            · refine tt_ar rfl ?_
              refine tt_goto ?_
              refine tt_ar rfl ?_
              refine tt_ar rfl ?_
              refine tt_icne (fun h10_2 => ?_) (fun h10_2 => ?_)
              · refine tt_ar rfl ?_
                refine tt_nop ?_
                refine tt_cv5 5 rfl (wo_47 hW) (c131 σ ns _ _ _ _ hW hs47 (by omega)) ?_
                intro r0 σ6 hq0
                obtain ⟨rfl, hF6, g47, g48, g49, g50, g51⟩ := hq0
                have hW1 := Fr.wd hF6 hW
                refine tt_iret ?_
                obtain ⟨hz, hez⟩ := hCI.hap (by omega) hF6 g47 g48 g49 g50 g51 (by omega) (by omega) (by omega) (by omega)
                exact ⟨_, pk_any hz (show x_happen σ m q a b = (vI (ns : Int), upH m q _ _ σ) by unfold x_happen; (try simp only [Int.toNat_natCast, hs47, hk5, hl27]); (repeat (first | rw [if_pos (by omega)] | rw [if_neg (by omega)])); (first | done | rfl)) hez (QC.of hF6 (by decide))⟩
              · exfalso; omega
          · refine tt_ar rfl ?_
            refine tt_iret ?_
            exact ⟨_, pk_same hCI (show x_happen σ m q a b = (vI (-2), σ) by unfold x_happen; (try simp only [Int.toNat_natCast, hs47, hk5, hl27]); (repeat (first | rw [if_pos (by omega)] | rw [if_neg (by omega)])); (first | done | rfl))⟩
        · refine tt_ar rfl ?_
          refine tt_ar rfl ?_
          refine tt_iceq (fun h4_4 => ?_) (fun h4_4 => ?_)
          · exfalso; omega
          · refine tt_ar rfl ?_
            refine tt_goto ?_
            refine tt_ar rfl ?_
            refine tt_ar rfl ?_
            refine tt_ifeqF (by decide) ?_
            refine tt_ar rfl ?_
            refine tt_ar rfl ?_
            refine tt_cv2 2 rfl (wo_2 hW) (c56 σ _ k hW hk5 (by omega) (by have := hCI.x.1.2.1; omega)) (kb (fun h6_5 => ?_) (fun h6_5 => ?_))
            · refine tt_ifneT (by decide) ?_
              refine tt_ar rfl ?_
              refine tt_getR (wo_2 hW) rfl (wr_2_9 hW) ?_
              refine tt_getI (x := (ns : Int)) (wo_47 hW) rfl hs47 ?_
              refine tt_ar rfl ?_
              refine tt_iclt (fun h7_4 => ?_) (fun h7_4 => ?_)
              · refine tt_ar rfl ?_
                refine tt_getR (wo_2 hW) rfl (wr_2_9 hW) ?_
                refine tt_ar rfl ?_
                refine tt_ar rfl ?_
                refine tt_ar rfl ?_
                refine tt_ifne (fun h8_5 => ?_) (fun h8_5 => ?_)
                · refine tt_ar rfl ?_
                  refine tt_nop ?_
                  refine tt_ar rfl ?_
                  refine tt_ar rfl ?_
                  refine tt_icne (fun h10_2 => ?_) (fun h10_2 => ?_)
                  · refine tt_ar rfl ?_
                    refine tt_nop ?_
                    refine tt_cv5 5 rfl (wo_47 hW) (c131 σ ns _ _ _ _ hW hs47 (by omega)) ?_
                    intro r0 σ6 hq0
                    obtain ⟨rfl, hF6, g47, g48, g49, g50, g51⟩ := hq0
                    have hW2 := Fr.wd hF6 hW
                    refine tt_iret ?_
                    obtain ⟨hz, hez⟩ := hCI.hap (by omega) hF6 g47 g48 g49 g50 g51 (by omega) (by omega) (by omega) (by omega)
                    exact ⟨_, pk_any hz (show x_happen σ m q a b = (vI (ns : Int), upH m q _ _ σ) by unfold x_happen; (try simp only [Int.toNat_natCast, hs47, hk5, hl27]); (repeat (first | rw [if_pos (by omega)] | rw [if_neg (by omega)])); (first | done | rfl)) hez (QC.of hF6 (by decide))⟩
                  · exfalso; omega
                · exfalso; omega
              · refine tt_ar rfl ?_
                refine tt_iret ?_
                exact ⟨_, pk_same hCI (show x_happen σ m q a b = (vI (-2), σ) by unfold x_happen; (try simp only [Int.toNat_natCast, hs47, hk5, hl27]); (repeat (first | rw [if_pos (by omega)] | rw [if_neg (by omega)])); (first | done | rfl))⟩
            · refine tt_ifneF (by decide) ?_
              refine tt_ar rfl ?_
              refine tt_iret ?_
              exact ⟨_, pk_same hCI (show x_happen σ m q a b = (vI (-1), σ) by unfold x_happen; (try simp only [Int.toNat_natCast, hs47, hk5, hl27]); (repeat (first | rw [if_pos (by omega)] | rw [if_neg (by omega)])); (first | done | rfl))⟩
      · refine tt_ar rfl ?_
        refine tt_cs1 1 rfl (c57 _ _) (kb (fun h2_4 => ?_) (fun h2_4 => ?_))
        · refine tt_ifeqF (by decide) ?_
          refine tt_ar rfl ?_
          refine tt_cs1 1 rfl (c57 _ _) (kb (fun h2_7 => ?_) (fun h2_7 => ?_))
          · refine tt_ifeqF (by decide) ?_
            refine tt_ar rfl ?_
            refine tt_ar rfl ?_
            refine tt_icne (fun h2_11 => ?_) (fun h2_11 => ?_)
            · refine tt_ar rfl ?_
              refine tt_ifeq (fun h4_1 => ?_) (fun h4_1 => ?_)
              · exfalso; omega
              · refine tt_ar rfl ?_
                refine tt_ar rfl ?_
                refine tt_iceq (fun h4_4 => ?_) (fun h4_4 => ?_)
                · refine tt_ar rfl ?_
                  refine tt_nop ?_
                  refine tt_ar rfl ?_
                  refine tt_ar rfl ?_
                  refine tt_ifeqT (by decide) ?_
                  refine tt_ar rfl ?_
                  refine tt_getR (wo_2 hW) rfl (wr_2_9 hW) ?_
                  refine tt_getI (x := (ns : Int)) (wo_47 hW) rfl hs47 ?_
                  refine tt_ar rfl ?_
                  refine tt_iclt (fun h7_4 => ?_) (fun h7_4 => ?_)
                  · refine tt_ar rfl ?_
                    refine tt_getR (wo_2 hW) rfl (wr_2_9 hW) ?_
                    refine tt_ar rfl ?_
                    refine tt_ar rfl ?_
                    refine tt_ar rfl ?_
                    refine tt_ifne (fun h8_5 => ?_) (fun h8_5 => ?_)
                    · refine tt_ar rfl ?_
                      refine tt_nop ?_
                      refine tt_ar rfl ?_
                      refine tt_ar rfl ?_
                      refine tt_icne (fun h10_2 => ?_) (fun h10_2 => ?_)
                      · exfalso; omega
                      · refine tt_ar rfl ?_
                        refine tt_goto ?_
                        refine tt_cv5 5 rfl (wo_47 hW) (c131 σ ns _ _ _ _ hW hs47 (by omega)) ?_
                        intro r0 σ6 hq0
                        obtain ⟨rfl, hF6, g47, g48, g49, g50, g51⟩ := hq0
                        have hW3 := Fr.wd hF6 hW
                        refine tt_iret ?_
                        obtain ⟨hz, hez⟩ := hCI.hap (by omega) hF6 g47 g48 g49 g50 g51 (by omega) (by omega) (by omega) (by omega)
                        exact ⟨_, pk_any hz (show x_happen σ m q a b = (vI (ns : Int), upH m q _ _ σ) by unfold x_happen; (try simp only [Int.toNat_natCast, hs47, hk5, hl27]); (repeat (first | rw [if_pos (by omega)] | rw [if_neg (by omega)])); (first | done | rfl)) hez (QC.of hF6 (by decide))⟩
                    · exfalso; omega
                  · refine tt_ar rfl ?_
                    refine tt_iret ?_
                    exact ⟨_, pk_same hCI (show x_happen σ m q a b = (vI (-2), σ) by unfold x_happen; (try simp only [Int.toNat_natCast, hs47, hk5, hl27]); (repeat (first | rw [if_pos (by omega)] | rw [if_neg (by omega)])); (first | done | rfl))⟩
                · exfalso; omega
            · refine tt_nop ?_
              refine tt_ar rfl ?_
              refine tt_iret ?_
              exact ⟨_, pk_same hCI (show x_happen σ m q a b = (vI (-1), σ) by unfold x_happen; (try simp only [Int.toNat_natCast, hs47, hk5, hl27]); (repeat (first | rw [if_pos (by omega)] | rw [if_neg (by omega)])); (first | done | rfl))⟩
          · refine tt_ifeqT (by decide) ?_
            refine tt_ar rfl ?_
            refine tt_iret ?_
            exact ⟨_, pk_same hCI (show x_happen σ m q a b = (vI (-1), σ) by unfold x_happen; (try simp only [Int.toNat_natCast, hs47, hk5, hl27]); (repeat (first | rw [if_pos (by omega)] | rw [if_neg (by omega)])); (first | done | rfl))⟩
        · refine tt_ifeqT (by decide) ?_
          refine tt_ar rfl ?_
          refine tt_iret ?_
          exact ⟨_, pk_same hCI (show x_happen σ m q a b = (vI (-1), σ) by unfold x_happen; (try simp only [Int.toNat_natCast, hs47, hk5, hl27]); (repeat (first | rw [if_pos (by omega)] | rw [if_neg (by omega)])); (first | done | rfl))⟩
    · refine tt_ifneF (by decide) ?_
      refine tt_nop ?_
      refine tt_ar rfl ?_
      refine tt_iret ?_
      exact ⟨_, pk_same hCI (show x_happen σ m q a b = (vI (-1), σ) by unfold x_happen; (try simp only [Int.toNat_natCast, hs47, hk5, hl27]); (repeat (first | rw [if_pos (by omega)] | rw [if_neg (by omega)])); (first | done | rfl))⟩
  · refine tt_ifeqT (by decide) ?_
    refine tt_ar rfl ?_
    refine tt_iret ?_
    exact ⟨_, pk_same hCI (show x_happen σ m q a b = (vI (-1), σ) by unfold x_happen; (try simp only [Int.toNat_natCast, hs47, hk5, hl27]); (repeat (first | rw [if_pos (by omega)] | rw [if_neg (by omega)])); (first | done | rfl))⟩

theorem c143 (σ : am_S) (k nm ns : Nat) (D : Nat → Nat → Int) (hCI : CI k nm ns D σ) (u : Int) : CC 143 [vR 2, vI (u)] σ (fun r σ' => PKc k nm ns D σ (x_household ns σ u) r σ') := by
  show TT am_b143 (am_b143.getD 0 []) [(0, vR 2), (1, vI (u))] [] σ _
  have hW := hCI.w
  have hk5 := hCI.x.1.1
  have hl27 := hCI.x.2.2.1.1
  have hs47 := hCI.st.1
  have hk6 := hCI.x.1.2.1
  have hm12 := hCI.x.2.2.1.2.1
  have hs16 := hCI.st.2
  have hD := hCI.x.1
  have hHT := hCI.x.2.1
  have hLn := hCI.x.2.2.1
  have hHB := HB_of hD hHT
  have hnb := nkT_bd k
  refine tt_ar rfl ?_
  refine tt_ar rfl ?_
  refine tt_cs2 2 rfl (c23 _ _ _) (kb (fun h0_2 => ?_) (fun h0_2 => ?_))
  · refine tt_ifneT (by decide) ?_
    obtain ⟨un, rfl⟩ : ∃ un : Nat, u = (un : Int) := ⟨u.toNat, by omega⟩
    refine tt_ar rfl ?_
    refine tt_getR (wo_2 hW) rfl (wr_2_9 hW) ?_
    refine tt_ar rfl ?_
    refine tt_cv2 2 rfl (wo_47 hW) (c138 σ k ns hW hD hCI.st hCI.sh un (by omega)) ?_
    intro r0 σ6 hq0
    rcases hq0 with ⟨p, hq, rfl, hF6, hp⟩ | ⟨hq, rfl, hF6⟩
    · have hW1 := Fr.wd hF6 hW
      have hk1 := toS_ok hk6 hD.2.2.2.2 hCI.sh hq
      refine tt_ifeqF (by decide) ?_
      refine tt_ar rfl ?_
      refine tt_getR (wo_2 hW1) rfl (wr_2_9 hW1) ?_
      refine tt_cv1 1 rfl (wo_47 hW1) (c144 σ6 hW1 (fun j hj => by rw [hF6.2 0 (by decide), hCI.wr j hj]; exact (by decide : ∀ j, j < 6 → ((10 ^ j : Nat) : Int) = 10 ^ j) j hj) p hp hk1) (kp ?_)
      refine tt_goto ?_
      refine tt_iret ?_
      exact pk_any (M := σ) (hCI.fr hF6 (by decide)) (show x_household ns σ (un : Int) = (vI (sumN 6 (fun s => p s * 10 ^ s)), σ) by unfold x_household; simp only [Int.toNat_natCast]; rw [if_pos (by omega), hq]; rfl) (EqB.of hF6 (by decide)) (QC.of hF6 (by decide))
    · have hW2 := Fr.wd hF6 hW
      refine tt_ifeqT (by decide) ?_
      refine tt_ar rfl ?_
      refine tt_nop ?_
      refine tt_iret ?_
      exact pk_any (M := σ) (hCI.fr hF6 (by decide)) (show x_household ns σ (un : Int) = (vI (-9), σ) by unfold x_household; simp only [Int.toNat_natCast]; rw [if_pos (by omega), hq]; rfl) (EqB.of hF6 (by decide)) (QC.of hF6 (by decide))
  · refine tt_ifneF (by decide) ?_
    refine tt_ar rfl ?_
    refine tt_iret ?_
    exact pk_same hCI (show x_household ns σ u = (vI (-1), σ) by unfold x_household; (try simp only [Int.toNat_natCast, hs47, hk5, hl27]); (repeat (first | rw [if_pos (by omega)] | rw [if_neg (by omega)])); (first | done | rfl))

theorem c152 (σ : am_S) (k nm ns : Nat) (D : Nat → Nat → Int) (hCI : CI k nm ns D σ) (u : Int) : CC 152 [vR 2, vI (u)] σ (fun r σ' => PKc k nm ns D σ (x_doubts k nm σ u) r σ') := by
  show TT am_b152 (am_b152.getD 0 []) [(0, vR 2), (1, vI (u))] [] σ _
  have hW := hCI.w
  have hk5 := hCI.x.1.1
  have hl27 := hCI.x.2.2.1.1
  have hs47 := hCI.st.1
  have hk6 := hCI.x.1.2.1
  have hm12 := hCI.x.2.2.1.2.1
  have hs16 := hCI.st.2
  have hD := hCI.x.1
  have hHT := hCI.x.2.1
  have hLn := hCI.x.2.2.1
  have hHB := HB_of hD hHT
  have hnb := nkT_bd k
  refine tt_ar rfl ?_
  refine tt_getR (wo_2 hW) rfl (wr_2_4 hW) ?_
  refine tt_ar rfl ?_
  refine tt_cv2 2 rfl (wo_18 hW) (c13 σ k hW hk6 hHT.1 (fun h hh => (hHT.2.1 h hh).1) (u)) (kp ?_)
  refine tt_ar rfl ?_
  refine tt_ar rfl ?_
  refine tt_ifge (fun h0_6 => ?_) (fun h0_6 => ?_)
  · obtain ⟨hn, hhn⟩ : ∃ hn : Nat, ix k u = (hn : Int) := ⟨_, (Int.toNat_of_nonneg (by omega)).symm⟩
    have bhn : hn < nkT k := by have := ix_bd hk6 u; omega
    refine tt_loc [(0, vR 2), (2, vI (((hn : Nat) : Int)))] rfl rfl ⟨rfl, lv_to rfl hhn, trivial⟩ ?_
    refine tt_ar rfl ?_
    refine tt_getR (wo_2 hW) rfl (wr_2_6 hW) ?_
    refine tt_ar rfl ?_
    refine tt_cv2 2 rfl (wo_31 hW) (c153 σ k (nkT k) nm hW hD hLn hHB hn (by omega)) (kp ?_)
    refine tt_nop ?_
    refine tt_iret ?_
    exact pk_same hCI (show x_doubts k nm σ u = (vI (cDb σ nm hn), σ) by unfold x_doubts; (try simp only [Int.toNat_natCast, hs47, hk5, hl27, hhn]); (repeat (first | rw [if_pos (by omega)] | rw [if_neg (by omega)])); (first | done | rfl))
  · refine tt_ar rfl ?_
    refine tt_goto ?_
    refine tt_iret ?_
    exact pk_same hCI (show x_doubts k nm σ u = (vI (-1), σ) by unfold x_doubts; (try simp only [Int.toNat_natCast, hs47, hk5, hl27]); (repeat (first | rw [if_pos (by omega)] | rw [if_neg (by omega)])); (first | done | rfl))

theorem c154 (σ : am_S) (k nm ns : Nat) (D : Nat → Nat → Int) (hCI : CI k nm ns D σ) : CC 154 [vR 2] σ (fun r σ' => PKc k nm ns D σ (x_least k nm σ ) r σ') := by
  show TT am_b154 (am_b154.getD 0 []) [(0, vR 2)] [] σ _
  have hW := hCI.w
  have hk5 := hCI.x.1.1
  have hl27 := hCI.x.2.2.1.1
  have hs47 := hCI.st.1
  have hk6 := hCI.x.1.2.1
  have hm12 := hCI.x.2.2.1.2.1
  have hs16 := hCI.st.2
  have hD := hCI.x.1
  have hHT := hCI.x.2.1
  have hLn := hCI.x.2.2.1
  have hHB := HB_of hD hHT
  have hnb := nkT_bd k
  obtain ⟨ln, hln⟩ : ∃ n, (ldN (cDb σ nm) (σ.1 20) (nkT k - 1)).1 = n := ⟨_, rfl⟩
  have bln : ln < nkT k := by have := (ldN_bd (db := cDb σ nm) (all := σ.1 20) (nkT k - 1)).1; omega
  refine tt_ar rfl ?_
  refine tt_getR (wo_2 hW) rfl (wr_2_6 hW) ?_
  refine tt_cv1 1 rfl (wo_31 hW) (hln ▸ c155 σ k (nkT k) nm hW hD hLn hHB) (kp ?_)
  refine tt_ar rfl ?_
  refine tt_ar rfl ?_
  refine tt_ar rfl ?_
  refine tt_getR (wo_2 hW) rfl (wr_2_6 hW) ?_
  refine tt_ar rfl ?_
  refine tt_cv2 2 rfl (wo_31 hW) (c153 σ k (nkT k) nm hW hD hLn hHB ln (by omega)) (kp ?_)
  refine tt_ar rfl ?_
  refine tt_getR (wo_2 hW) rfl (wr_2_4 hW) ?_
  refine tt_getR (wo_18 hW) rfl (wr_18_2 hW) ?_
  refine tt_ar rfl ?_
  refine tt_iald (ln) (x := ((tb k ln : Nat) : Int)) (wa_19 hW) rfl (by omega) (hHT.2.1 ln (by omega)).1 ?_
  refine tt_cv3 3 rfl (wo_2 hW) (c30 σ _ _ hW) (ks ?_)
  refine tt_iret ?_
  exact pk_tells (x := cDb σ nm ln) hCI (show x_least k nm σ  = (vI (((tb k ln : Nat) : Int)), upA (cDb σ nm ln) σ) by unfold x_least; rw [hln])

theorem c158 (σ : am_S) (k nm ns : Nat) (D : Nat → Nat → Int) (hCI : CI k nm ns D σ) : CC 158 [vR 2] σ (fun r σ' => PKc k nm ns D σ (x_asked σ ) r σ') := by
  show TT am_b158 (am_b158.getD 0 []) [(0, vR 2)] [] σ _
  have hW := hCI.w
  refine tt_ar rfl ?_
  refine tt_getI (x := σ.1 2 (12)) (wo_2 hW) rfl rfl ?_
  refine tt_iret ?_
  exact pk_same hCI (show x_asked σ  = (vI (σ.1 2 (12)), σ) by unfold x_asked; (try simp only [Int.toNat_natCast]); (repeat (first | rw [if_pos (by omega)] | rw [if_neg (by omega)])); (first | done | rfl))

theorem c159 (σ : am_S) (k nm ns : Nat) (D : Nat → Nat → Int) (hCI : CI k nm ns D σ) : CC 159 [vR 2] σ (fun r σ' => PKc k nm ns D σ (x_tales σ ) r σ') := by
  show TT am_b159 (am_b159.getD 0 []) [(0, vR 2)] [] σ _
  have hW := hCI.w
  refine tt_ar rfl ?_
  refine tt_getL (x := σ.1 2 (13)) (wo_2 hW) rfl rfl ?_
  refine tt_lret ?_
  exact pk_same hCI (show x_tales σ  = (vL (σ.1 2 (13)), σ) by unfold x_tales; (try simp only [Int.toNat_natCast]); (repeat (first | rw [if_pos (by omega)] | rw [if_neg (by omega)])); (first | done | rfl))

theorem c160 (σ : am_S) (k nm ns : Nat) (D : Nat → Nat → Int) (hCI : CI k nm ns D σ) : CC 160 [vR 2] σ (fun r σ' => PKc k nm ns D σ (x_upper σ ) r σ') := by
  show TT am_b160 (am_b160.getD 0 []) [(0, vR 2)] [] σ _
  have hW := hCI.w
  refine tt_ar rfl ?_
  refine tt_getL (x := σ.1 2 (14)) (wo_2 hW) rfl rfl ?_
  refine tt_lret ?_
  exact pk_same hCI (show x_upper σ  = (vL (σ.1 2 (14)), σ) by unfold x_upper; (try simp only [Int.toNat_natCast]); (repeat (first | rw [if_pos (by omega)] | rw [if_neg (by omega)])); (first | done | rfl))

theorem c161 (σ : am_S) (k nm ns : Nat) (D : Nat → Nat → Int) (hCI : CI k nm ns D σ) : CC 161 [vR 2] σ (fun r σ' => PKc k nm ns D σ (x_lower σ ) r σ') := by
  show TT am_b161 (am_b161.getD 0 []) [(0, vR 2)] [] σ _
  have hW := hCI.w
  refine tt_ar rfl ?_
  refine tt_getL (x := σ.1 2 (15)) (wo_2 hW) rfl rfl ?_
  refine tt_lret ?_
  exact pk_same hCI (show x_lower σ  = (vL (σ.1 2 (15)), σ) by unfold x_lower; (try simp only [Int.toNat_natCast]); (repeat (first | rw [if_pos (by omega)] | rw [if_neg (by omega)])); (first | done | rfl))

