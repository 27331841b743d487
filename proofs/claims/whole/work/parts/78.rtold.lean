/-! THE REFERENCE'S CALLS: WHAT IS TOLD -/
theorem RRb.o47 {k nm ns : Nat} {D : Nat → Nat → Int} {A σ σ' : am_S} (h : RRb k nm ns D A σ) (hF : Fr [76] σ σ') (hK : ∀ j, j ≠ 47 → σ'.1 76 j = σ.1 76 j) : RRb k nm ns D A σ' :=
  h.kp (fun a ha => hF.2 a (by simp only [List.mem_cons, List.not_mem_nil, or_false]; unfold rrC at ha; omega)) (fun j hj => hK j (by unfold rrJ at hj; omega))
theorem RRb.l91 {k nm ns : Nat} {D : Nat → Nat → Int} {A σ : am_S} (h : RRb k nm ns D A σ) {j : Nat} (hj : j < 10 * nm) : σ.1 91 j = lnD A (j / 10) (j % 10) := by
  have := h.ln.2 (j / 10) (by omega) (j % 10) (by omega)
  rw [show 10 * (j / 10) + j % 10 = j by omega] at this
  exact this
theorem RRb.l104 {k nm ns : Nat} {D : Nat → Nat → Int} {A σ : am_S} (h : RRb k nm ns D A σ) {j : Nat} (hj : j < 4 * ns) : σ.1 104 j = stD A (j / 4) (j % 4) := by
  have := h.st.2 (j / 4) (by omega) (j % 4) (by omega)
  rw [show 4 * (j / 4) + j % 4 = j by omega] at this
  exact this
theorem c267 (A σ : am_S) (k nm ns : Nat) (D : Nat → Nat → Int) (hA : CI k nm ns D A) (hW : Wd σ) (hR : RRb k nm ns D A σ) : CC 267 [vR 76] σ (fun r σ' => PMd A σ (x_asked A ) r σ') := by
  show TT am_b267 (am_b267.getD 0 []) [(0, vR 76)] [] σ _
  refine tt_ar rfl ?_
  refine tt_getI (x := A.1 2 12) (wo_76 hW) rfl hR.sc.2.1 ?_
  refine tt_iret ?_
  exact pm_any (M := A) hR (show x_asked A  = (vI (A.1 2 12), A) by rfl) QR.rf

theorem c268 (A σ : am_S) (k nm ns : Nat) (D : Nat → Nat → Int) (hA : CI k nm ns D A) (hW : Wd σ) (hR : RRb k nm ns D A σ) : CC 268 [vR 76] σ (fun r σ' => PMd A σ (x_upper A ) r σ') := by
  show TT am_b268 (am_b268.getD 0 []) [(0, vR 76)] [] σ _
  refine tt_ar rfl ?_
  refine tt_getL (x := A.1 2 14) (wo_76 hW) rfl hR.sc.2.2.2.1 ?_
  refine tt_lret ?_
  exact pm_any (M := A) hR (show x_upper A  = (vL (A.1 2 14), A) by rfl) QR.rf

theorem c269 (A σ : am_S) (k nm ns : Nat) (D : Nat → Nat → Int) (hA : CI k nm ns D A) (hW : Wd σ) (hR : RRb k nm ns D A σ) : CC 269 [vR 76] σ (fun r σ' => PMd A σ (x_lower A ) r σ') := by
  show TT am_b269 (am_b269.getD 0 []) [(0, vR 76)] [] σ _
  refine tt_ar rfl ?_
  refine tt_getL (x := A.1 2 15) (wo_76 hW) rfl hR.sc.2.2.2.2 ?_
  refine tt_lret ?_
  exact pm_any (M := A) hR (show x_lower A  = (vL (A.1 2 15), A) by rfl) QR.rf

theorem c272 (A σ : am_S) (k nm ns : Nat) (D : Nat → Nat → Int) (hA : CI k nm ns D A) (hW : Wd σ) (hR : RRb k nm ns D A σ) : CC 272 [vR 76] σ (fun r σ' => PMd A σ (x_finding A ) r σ') := by
  show TT am_b272 (am_b272.getD 0 []) [(0, vR 76)] [] σ _
  refine tt_ar rfl ?_
  refine tt_getI (x := A.1 2 11) (wo_76 hW) rfl hR.sc.1 ?_
  refine tt_iret ?_
  exact pm_any (M := A) hR (show x_finding A  = (vI (A.1 2 11), A) by rfl) QR.rf

theorem c273 (A σ : am_S) (k nm ns : Nat) (D : Nat → Nat → Int) (hA : CI k nm ns D A) (hW : Wd σ) (hR : RRb k nm ns D A σ) (u : Int) : CC 273 [vR 76, vI (u)] σ (fun r σ' => PMd A σ (x_findings A u) r σ') := by
  show TT am_b273 (am_b273.getD 0 []) [(0, vR 76), (1, vI (u))] [] σ _
  refine tt_ar rfl ?_
  refine tt_ar rfl ?_
  refine tt_ar rfl ?_
  refine tt_cs3 3 rfl (c175 _ _ _ _) (kb (fun h0_3 => ?_) (fun h0_3 => ?_))
  · refine tt_ifeqF (by decide) ?_
    obtain ⟨un, rfl⟩ : ∃ un : Nat, u = (un : Int) := ⟨u.toNat, by omega⟩
    refine tt_ar rfl ?_
    refine tt_getR (wo_76 hW) rfl (wr_76_1 hW) ?_
    refine tt_ar rfl ?_
    refine tt_iald (un) (x := A.1 55 un) (wa_77 hW) rfl (by omega) (hR.fs un (by omega)) ?_
    refine tt_goto ?_
    refine tt_iret ?_
    exact pm_any (M := A) hR (show x_findings A (un : Int) = (vI (A.1 55 un), A) by unfold x_findings; (try simp only [Int.toNat_natCast]); (repeat (first | rw [if_pos (by omega)] | rw [if_neg (by omega)])); (first | done | rfl)) QR.rf
  · refine tt_ifeqT (by decide) ?_
    refine tt_ar rfl ?_
    refine tt_nop ?_
    refine tt_iret ?_
    exact pm_any (M := A) hR (show x_findings A u = (vI (-1), A) by unfold x_findings; (try simp only [Int.toNat_natCast]); (repeat (first | rw [if_pos (by omega)] | rw [if_neg (by omega)])); (first | done | rfl)) QR.rf

def tcN (A : am_S) (w r : Nat) : Int := if w = 4 then thN 56 r A else if w = 5 then thN 68 (if r < 4 then r else 4) A else 0
def tdN (A : am_S) (w e : Nat) : Int := if w = 2 then ((e : Nat) : Int) else if w = 3 then cmN A e else 0
theorem tcN_bd {A : am_S} {w r : Nat} (hr : r ≤ 6) : 0 ≤ tcN A w r ∧ tcN A w r ≤ 6 := by
  have h1 := th_bd (b := 56) (A := A) r
  have h2 := th_bd (b := 68) (A := A) (if r < 4 then r else 4)
  have h3 : (if r < 4 then r else 4) ≤ 4 := by split <;> omega
  unfold tcN
  split
  · omega
  · split <;> omega
theorem tdN_bd {A : am_S} {w e : Nat} (he : e ≤ 16) : 0 ≤ tdN A w e ∧ tdN A w e ≤ 16 := by
  have := cmN_bd A e
  unfold tdN
  split
  · omega
  · split <;> omega
theorem tcN_0 {A : am_S} {w : Nat} : tcN A w 0 = 0 := by
  unfold tcN
  split
  · rfl
  · split <;> rfl
theorem tdN_0 {A : am_S} {w : Nat} : tdN A w 0 = 0 := by
  unfold tdN
  split
  · rfl
  · split <;> rfl
theorem cnA_t {ns : Nat} {A : am_S} {w : Nat} (h0 : 2 ≤ w) (h1 : w < 6) (hs : A.1 47 2 = (ns : Int)) : tcN A w 6 + tdN A w ns = cnA ns A w := by
  rcases (show w = 2 ∨ w = 3 ∨ w = 4 ∨ w = 5 by omega) with rfl | rfl | rfl | rfl
  · show (0 : Int) + (ns : Int) = A.1 47 2
    omega
  · show (0 : Int) + cmN A ns = cmN A ns
    omega
  · show thN 56 6 A + (0 : Int) = thN 56 6 A
    omega
  · show thN 68 4 A + (0 : Int) = thN 68 4 A
    omega
theorem c271 (A σ : am_S) (k nm ns : Nat) (D : Nat → Nat → Int) (hA : CI k nm ns D A) (hW : Wd σ) (hR : RRb k nm ns D A σ) (what : Nat) (hwh : what < 6) : CC 271 [vR 76, vI (((what : Nat) : Int))] σ (fun r σ' => r = some (vI (cnA ns A what)) ∧ σ' = σ) := by
  show TT am_b271 (am_b271.getD 0 []) [(0, vR 76), (1, vI (((what : Nat) : Int)))] [] σ _
  have hk5 := hR.aa.1
  have hl27 := hR.aa.2.1
  have hs47 := hR.aa.2.2
  have hk6 := hA.x.1.2.1
  have hm12 := hA.x.2.2.1.2.1
  have hs16 := hA.st.2
  have hDA := hA.x.1
  have hHT := hA.x.2.1
  have hLA := hA.x.2.2.1
  have hHB := HB_of hDA hHT
  have hnb := nkT_bd k
  refine tt_ar rfl ?_
  refine tt_ar rfl ?_
  refine tt_ar rfl ?_
  refine tt_ar rfl ?_
  refine tt_nop ?_
  have lp1_1 : ∀ (μ : Nat) (r : Nat), 6 - r < μ → (r ≤ 6) → TT am_b271 (am_b271.getD 1 []) [(0, vR 76), (1, vI (((what : Nat) : Int))), (2, vI (tcN A what r)), (3, vI (((r : Nat) : Int)))] [] σ (fun r σ' => r = some (vI (cnA ns A what)) ∧ σ' = σ) := by
    intro μ
    induction μ with
    | zero => intro r hμ; exact absurd hμ (Nat.not_lt_zero _)
    | succ μ ih1 =>
      intro r hμ hr
      have hnb1 := tcN_bd (A := A) (w := what) (r := r) hr
      refine tt_ar rfl ?_
      refine tt_ar rfl ?_
      refine tt_icge (fun h1_2 => ?_) (fun h1_2 => ?_)
      · have er : r = 6 := by omega
        subst er
        have hini : tcN A what 6 = tcN A what 6 + tdN A what 0 := by rw [tdN_0, Int.add_zero]
        refine tt_ar rfl ?_
        refine tt_ar rfl ?_
        refine tt_nop ?_
        have lp7_2 : ∀ (μ : Nat) (e : Nat), ns - e < μ → (e ≤ ns) → TT am_b271 (am_b271.getD 7 []) [(0, vR 76), (1, vI (((what : Nat) : Int))), (2, vI ((tcN A what 6 + tdN A what e))), (3, vI (((e : Nat) : Int)))] [] σ (fun r σ' => r = some (vI (cnA ns A what)) ∧ σ' = σ) := by
          intro μ
          induction μ with
          | zero => intro e hμ; exact absurd hμ (Nat.not_lt_zero _)
          | succ μ ih7 =>
            intro e hμ he
            have hnb2 := tdN_bd (A := A) (w := what) (e := e) (by omega)
            refine tt_ar rfl ?_
            refine tt_ar rfl ?_
            refine tt_getI (x := ((ns : Nat) : Int)) (wo_76 hW) rfl hR.st.1 ?_
            refine tt_icge (fun h7_3 => ?_) (fun h7_3 => ?_)
            · refine tt_ar rfl ?_
              refine tt_ifne (fun h11_1 => ?_) (fun h11_1 => ?_)
              · refine tt_ar rfl ?_
                refine tt_ar rfl ?_
                refine tt_icne (fun h12_2 => ?_) (fun h12_2 => ?_)
                · refine tt_ar rfl ?_
                  refine tt_nop ?_
                  refine tt_iret ?_
                  have ee : e = ns := by omega
                  exact ⟨rv (by rw [ee]; exact cnA_t (by omega) hwh hs47), rfl⟩
                · refine tt_ar rfl ?_
                  refine tt_getI (x := ((nm : Nat) : Int)) (wo_76 hW) rfl hR.ln.1 ?_
                  refine tt_goto ?_
                  refine tt_iret ?_
                  have ee : e = ns := by omega
                  exact ⟨rv (by unfold cnA; rw [if_neg (by omega), if_pos (by omega), hl27]), rfl⟩
              · refine tt_ar rfl ?_
                refine tt_getI (x := ((k : Nat) : Int)) (wo_76 hW) rfl hR.wl.1 ?_
                refine tt_goto ?_
                refine tt_iret ?_
                have ee : e = ns := by omega
                exact ⟨rv (by unfold cnA; rw [if_pos (by omega), hk5]), rfl⟩
            · refine tt_ar rfl ?_
              refine tt_ar rfl ?_
              refine tt_ar rfl ?_
              refine tt_iceq (fun h7_7 => ?_) (fun h7_7 => ?_)
              · refine tt_ar rfl ?_
                refine tt_goto ?_
                have hK : stD A e 0 = A.1 48 e := rfl
                have hst2 : tcN A what 6 + tdN A what e + 1 = tcN A what 6 + tdN A what (e + 1) := by
                  have hcs : cmN A (e + 1) = cmN A e + (if A.1 48 e = 1 ∨ A.1 48 e = 5 then 1 else 0) := rfl
                  clear hnb2
                  unfold tdN
                  by_cases e2 : what = 2
                  · rw [if_pos e2, if_pos e2]
                    omega
                  · rw [if_neg e2, if_neg e2]
                    by_cases e3 : what = 3
                    · rw [if_pos e3, if_pos e3, hcs]
                      first | (rw [if_pos (by omega)]; omega) | (rw [if_neg (by omega)]; omega)
                    · rw [if_neg e3, if_neg e3]
                      omega
                refine tt_iadd (by omega) (by omega) ?_
                refine tt_ar rfl ?_
                refine tt_iinc (y := ((e + 1 : Nat) : Int)) rfl (iinc_fit (by omega) (by omega) (by omega)) ?_
                refine tt_goto ?_
                refine tt_loc [(0, vR 76), (1, vI (((what : Nat) : Int))), (2, vI ((tcN A what 6 + tdN A what (e + 1)))), (3, vI (((e + 1 : Nat) : Int)))] rfl rfl ⟨rfl, rfl, lv_to rfl hst2, rfl, trivial⟩ ?_
                exact ih7 (e + 1) (by omega) (by omega)
              · refine tt_ar rfl ?_
                refine tt_ar rfl ?_
                refine tt_icne (fun h7_10 => ?_) (fun h7_10 => ?_)
                · refine tt_ar rfl ?_
                  refine tt_nop ?_
                  have hK : stD A e 0 = A.1 48 e := rfl
                  have hst2 : tcN A what 6 + tdN A what e + 0 = tcN A what 6 + tdN A what (e + 1) := by
                    have hcs : cmN A (e + 1) = cmN A e + (if A.1 48 e = 1 ∨ A.1 48 e = 5 then 1 else 0) := rfl
                    clear hnb2
                    unfold tdN
                    by_cases e2 : what = 2
                    · rw [if_pos e2, if_pos e2]
                      omega
                    · rw [if_neg e2, if_neg e2]
                      by_cases e3 : what = 3
                      · rw [if_pos e3, if_pos e3, hcs]
                        first | (rw [if_pos (by omega)]; omega) | (rw [if_neg (by omega)]; omega)
                      · rw [if_neg e3, if_neg e3]
                        omega
                  refine tt_iadd (by omega) (by omega) ?_
                  refine tt_ar rfl ?_
                  refine tt_iinc (y := ((e + 1 : Nat) : Int)) rfl (iinc_fit (by omega) (by omega) (by omega)) ?_
                  refine tt_goto ?_
                  refine tt_loc [(0, vR 76), (1, vI (((what : Nat) : Int))), (2, vI ((tcN A what 6 + tdN A what (e + 1)))), (3, vI (((e + 1 : Nat) : Int)))] rfl rfl ⟨rfl, rfl, lv_to rfl hst2, rfl, trivial⟩ ?_
                  exact ih7 (e + 1) (by omega) (by omega)
                · refine tt_ar rfl ?_
                  refine tt_ar rfl ?_
                  refine tt_ar rfl ?_
                  refine tt_cv3 3 rfl (wo_76 hW) (c252 A σ k nm ns D hA hW hR e 0 (by omega) (by omega)) (kp ?_)
                  refine tt_ar rfl ?_
                  refine tt_cs2 2 rfl (c254 _ _ _) (kb (fun h7_16 => ?_) (fun h7_16 => ?_))
                  · refine tt_ifeqF (by decide) ?_
                    refine tt_nop ?_
                    refine tt_ar rfl ?_
                    refine tt_goto ?_
                    have hK : stD A e 0 = A.1 48 e := rfl
                    have hst2 : tcN A what 6 + tdN A what e + 1 = tcN A what 6 + tdN A what (e + 1) := by
                      have hcs : cmN A (e + 1) = cmN A e + (if A.1 48 e = 1 ∨ A.1 48 e = 5 then 1 else 0) := rfl
                      clear hnb2
                      unfold tdN
                      by_cases e2 : what = 2
                      · rw [if_pos e2, if_pos e2]
                        omega
                      · rw [if_neg e2, if_neg e2]
                        by_cases e3 : what = 3
                        · rw [if_pos e3, if_pos e3, hcs]
                          first | (rw [if_pos (by omega)]; omega) | (rw [if_neg (by omega)]; omega)
                        · rw [if_neg e3, if_neg e3]
                          omega
                    refine tt_iadd (by omega) (by omega) ?_
                    refine tt_ar rfl ?_
                    refine tt_iinc (y := ((e + 1 : Nat) : Int)) rfl (iinc_fit (by omega) (by omega) (by omega)) ?_
                    refine tt_goto ?_
                    refine tt_loc [(0, vR 76), (1, vI (((what : Nat) : Int))), (2, vI ((tcN A what 6 + tdN A what (e + 1)))), (3, vI (((e + 1 : Nat) : Int)))] rfl rfl ⟨rfl, rfl, lv_to rfl hst2, rfl, trivial⟩ ?_
                    exact ih7 (e + 1) (by omega) (by omega)
                  · refine tt_ifeqT (by decide) ?_
                    refine tt_ar rfl ?_
                    refine tt_nop ?_
                    have hK : stD A e 0 = A.1 48 e := rfl
                    have hst2 : tcN A what 6 + tdN A what e + 0 = tcN A what 6 + tdN A what (e + 1) := by
                      have hcs : cmN A (e + 1) = cmN A e + (if A.1 48 e = 1 ∨ A.1 48 e = 5 then 1 else 0) := rfl
                      clear hnb2
                      unfold tdN
                      by_cases e2 : what = 2
                      · rw [if_pos e2, if_pos e2]
                        omega
                      · rw [if_neg e2, if_neg e2]
                        by_cases e3 : what = 3
                        · rw [if_pos e3, if_pos e3, hcs]
                          first | (rw [if_pos (by omega)]; omega) | (rw [if_neg (by omega)]; omega)
                        · rw [if_neg e3, if_neg e3]
                          omega
                    refine tt_iadd (by omega) (by omega) ?_
                    refine tt_ar rfl ?_
                    refine tt_iinc (y := ((e + 1 : Nat) : Int)) rfl (iinc_fit (by omega) (by omega) (by omega)) ?_
                    refine tt_goto ?_
                    refine tt_loc [(0, vR 76), (1, vI (((what : Nat) : Int))), (2, vI ((tcN A what 6 + tdN A what (e + 1)))), (3, vI (((e + 1 : Nat) : Int)))] rfl rfl ⟨rfl, rfl, lv_to rfl hst2, rfl, trivial⟩ ?_
                    exact ih7 (e + 1) (by omega) (by omega)
        refine tt_loc [(0, vR 76), (1, vI (((what : Nat) : Int))), (2, vI ((tcN A what 6 + tdN A what 0))), (3, vI (((0 : Nat) : Int)))] rfl rfl ⟨rfl, rfl, lv_to rfl hini, lv_to rfl (by omega), trivial⟩ ?_
        exact lp7_2 _ (0) (Nat.lt_succ_self _) (by omega)
      · refine tt_ar rfl ?_
        refine tt_ar rfl ?_
        refine tt_ar rfl ?_
        refine tt_icne (fun h1_6 => ?_) (fun h1_6 => ?_)
        · refine tt_ar rfl ?_
          refine tt_ar rfl ?_
          refine tt_icne (fun h2_2 => ?_) (fun h2_2 => ?_)
          · refine tt_ar rfl ?_
            refine tt_nop ?_
            have hst1 : tcN A what r + 0 = tcN A what (r + 1) := by
              unfold tcN
              by_cases e4 : what = 4
              · rw [if_pos e4, if_pos e4, th_s]
                first | (rw [if_pos (by omega)]; first | done | omega) | (rw [if_neg (by omega)]; first | done | omega)
              · rw [if_neg e4, if_neg e4]
                by_cases e5 : what = 5
                · rw [if_pos e5, if_pos e5]
                  by_cases r4 : r < 4
                  · rw [if_pos r4, show (if r + 1 < 4 then r + 1 else 4) = r + 1 by split <;> omega, th_s]
                    first | (rw [if_pos (by omega)]; first | done | omega) | (rw [if_neg (by omega)]; first | done | omega)
                  · rw [if_neg r4, if_neg (by omega)]
                    omega
                · rw [if_neg e5, if_neg e5]
                  omega
            refine tt_iadd (by omega) (by omega) ?_
            refine tt_ar rfl ?_
            refine tt_iinc (y := ((r + 1 : Nat) : Int)) rfl (iinc_fit (by omega) (by omega) (by omega)) ?_
            refine tt_goto ?_
            refine tt_loc [(0, vR 76), (1, vI (((what : Nat) : Int))), (2, vI (tcN A what (r + 1))), (3, vI (((r + 1 : Nat) : Int)))] rfl rfl ⟨rfl, rfl, lv_to rfl hst1, rfl, trivial⟩ ?_
            exact ih1 (r + 1) (by omega) (by omega)
          · refine tt_ar rfl ?_
            refine tt_ar rfl ?_
            refine tt_icge (fun h2_5 => ?_) (fun h2_5 => ?_)
            · refine tt_ar rfl ?_
              refine tt_nop ?_
              have hst1 : tcN A what r + 0 = tcN A what (r + 1) := by
                unfold tcN
                by_cases e4 : what = 4
                · rw [if_pos e4, if_pos e4, th_s]
                  first | (rw [if_pos (by omega)]; first | done | omega) | (rw [if_neg (by omega)]; first | done | omega)
                · rw [if_neg e4, if_neg e4]
                  by_cases e5 : what = 5
                  · rw [if_pos e5, if_pos e5]
                    by_cases r4 : r < 4
                    · rw [if_pos r4, show (if r + 1 < 4 then r + 1 else 4) = r + 1 by split <;> omega, th_s]
                      first | (rw [if_pos (by omega)]; first | done | omega) | (rw [if_neg (by omega)]; first | done | omega)
                    · rw [if_neg r4, if_neg (by omega)]
                      omega
                  · rw [if_neg e5, if_neg e5]
                    omega
              refine tt_iadd (by omega) (by omega) ?_
              refine tt_ar rfl ?_
              refine tt_iinc (y := ((r + 1 : Nat) : Int)) rfl (iinc_fit (by omega) (by omega) (by omega)) ?_
              refine tt_goto ?_
              refine tt_loc [(0, vR 76), (1, vI (((what : Nat) : Int))), (2, vI (tcN A what (r + 1))), (3, vI (((r + 1 : Nat) : Int)))] rfl rfl ⟨rfl, rfl, lv_to rfl hst1, rfl, trivial⟩ ?_
              exact ih1 (r + 1) (by omega) (by omega)
            · have hrw68 := (hA.txt r (by omega)).1
              have hsz68 := szR_c (A.1 (68 + 2 * r) 1)
              have h7868 := (hR.tx r (by omega)).1
              refine tt_ar rfl ?_
              refine tt_getR (wo_76 hW) rfl (wr_76_9 hW) ?_
              refine tt_ar rfl ?_
              refine tt_iald (r) (x := σ.1 81 (r)) (wa_81 hW) rfl (by omega) rfl ?_
              refine tt_iflt (fun h2_10 => ?_) (fun h2_10 => ?_)
              · refine tt_ar rfl ?_
                refine tt_nop ?_
                have hst1 : tcN A what r + 0 = tcN A what (r + 1) := by
                  unfold tcN
                  by_cases e4 : what = 4
                  · rw [if_pos e4, if_pos e4, th_s]
                    first | (rw [if_pos (by omega)]; first | done | omega) | (rw [if_neg (by omega)]; first | done | omega)
                  · rw [if_neg e4, if_neg e4]
                    by_cases e5 : what = 5
                    · rw [if_pos e5, if_pos e5]
                      by_cases r4 : r < 4
                      · rw [if_pos r4, show (if r + 1 < 4 then r + 1 else 4) = r + 1 by split <;> omega, th_s]
                        first | (rw [if_pos (by omega)]; first | done | omega) | (rw [if_neg (by omega)]; first | done | omega)
                      · rw [if_neg r4, if_neg (by omega)]
                        omega
                    · rw [if_neg e5, if_neg e5]
                      omega
                refine tt_iadd (by omega) (by omega) ?_
                refine tt_ar rfl ?_
                refine tt_iinc (y := ((r + 1 : Nat) : Int)) rfl (iinc_fit (by omega) (by omega) (by omega)) ?_
                refine tt_goto ?_
                refine tt_loc [(0, vR 76), (1, vI (((what : Nat) : Int))), (2, vI (tcN A what (r + 1))), (3, vI (((r + 1 : Nat) : Int)))] rfl rfl ⟨rfl, rfl, lv_to rfl hst1, rfl, trivial⟩ ?_
                exact ih1 (r + 1) (by omega) (by omega)
              · refine tt_nop ?_
                refine tt_ar rfl ?_
                refine tt_goto ?_
                have hst1 : tcN A what r + 1 = tcN A what (r + 1) := by
                  unfold tcN
                  by_cases e4 : what = 4
                  · rw [if_pos e4, if_pos e4, th_s]
                    first | (rw [if_pos (by omega)]; first | done | omega) | (rw [if_neg (by omega)]; first | done | omega)
                  · rw [if_neg e4, if_neg e4]
                    by_cases e5 : what = 5
                    · rw [if_pos e5, if_pos e5]
                      by_cases r4 : r < 4
                      · rw [if_pos r4, show (if r + 1 < 4 then r + 1 else 4) = r + 1 by split <;> omega, th_s]
                        first | (rw [if_pos (by omega)]; first | done | omega) | (rw [if_neg (by omega)]; first | done | omega)
                      · rw [if_neg r4, if_neg (by omega)]
                        omega
                    · rw [if_neg e5, if_neg e5]
                      omega
                refine tt_iadd (by omega) (by omega) ?_
                refine tt_ar rfl ?_
                refine tt_iinc (y := ((r + 1 : Nat) : Int)) rfl (iinc_fit (by omega) (by omega) (by omega)) ?_
                refine tt_goto ?_
                refine tt_loc [(0, vR 76), (1, vI (((what : Nat) : Int))), (2, vI (tcN A what (r + 1))), (3, vI (((r + 1 : Nat) : Int)))] rfl rfl ⟨rfl, rfl, lv_to rfl hst1, rfl, trivial⟩ ?_
                exact ih1 (r + 1) (by omega) (by omega)
        · refine tt_ar rfl ?_
          have hrw56 := hA.row r (by omega)
          have hsz56 := szR_c (A.1 (56 + 2 * r) 1)
          have h7856 := (hR.rw r (by omega)).1
          refine tt_getR (wo_76 hW) rfl (wr_76_6 hW) ?_
          refine tt_ar rfl ?_
          refine tt_iald (r) (x := σ.1 78 (r)) (wa_78 hW) rfl (by omega) rfl ?_
          refine tt_ifge (fun h1_11 => ?_) (fun h1_11 => ?_)
          · refine tt_ar rfl ?_
            refine tt_goto ?_
            have hst1 : tcN A what r + 1 = tcN A what (r + 1) := by
              unfold tcN
              by_cases e4 : what = 4
              · rw [if_pos e4, if_pos e4, th_s]
                first | (rw [if_pos (by omega)]; first | done | omega) | (rw [if_neg (by omega)]; first | done | omega)
              · rw [if_neg e4, if_neg e4]
                by_cases e5 : what = 5
                · rw [if_pos e5, if_pos e5]
                  by_cases r4 : r < 4
                  · rw [if_pos r4, show (if r + 1 < 4 then r + 1 else 4) = r + 1 by split <;> omega, th_s]
                    first | (rw [if_pos (by omega)]; first | done | omega) | (rw [if_neg (by omega)]; first | done | omega)
                  · rw [if_neg r4, if_neg (by omega)]
                    omega
                · rw [if_neg e5, if_neg e5]
                  omega
            refine tt_iadd (by omega) (by omega) ?_
            refine tt_ar rfl ?_
            refine tt_iinc (y := ((r + 1 : Nat) : Int)) rfl (iinc_fit (by omega) (by omega) (by omega)) ?_
            refine tt_goto ?_
            refine tt_loc [(0, vR 76), (1, vI (((what : Nat) : Int))), (2, vI (tcN A what (r + 1))), (3, vI (((r + 1 : Nat) : Int)))] rfl rfl ⟨rfl, rfl, lv_to rfl hst1, rfl, trivial⟩ ?_
            exact ih1 (r + 1) (by omega) (by omega)
          · refine tt_nop ?_
            refine tt_ar rfl ?_
            refine tt_ar rfl ?_
            refine tt_icne (fun h2_2 => ?_) (fun h2_2 => ?_)
            · refine tt_ar rfl ?_
              refine tt_nop ?_
              have hst1 : tcN A what r + 0 = tcN A what (r + 1) := by
                unfold tcN
                by_cases e4 : what = 4
                · rw [if_pos e4, if_pos e4, th_s]
                  first | (rw [if_pos (by omega)]; first | done | omega) | (rw [if_neg (by omega)]; first | done | omega)
                · rw [if_neg e4, if_neg e4]
                  by_cases e5 : what = 5
                  · rw [if_pos e5, if_pos e5]
                    by_cases r4 : r < 4
                    · rw [if_pos r4, show (if r + 1 < 4 then r + 1 else 4) = r + 1 by split <;> omega, th_s]
                      first | (rw [if_pos (by omega)]; first | done | omega) | (rw [if_neg (by omega)]; first | done | omega)
                    · rw [if_neg r4, if_neg (by omega)]
                      omega
                  · rw [if_neg e5, if_neg e5]
                    omega
              refine tt_iadd (by omega) (by omega) ?_
              refine tt_ar rfl ?_
              refine tt_iinc (y := ((r + 1 : Nat) : Int)) rfl (iinc_fit (by omega) (by omega) (by omega)) ?_
              refine tt_goto ?_
              refine tt_loc [(0, vR 76), (1, vI (((what : Nat) : Int))), (2, vI (tcN A what (r + 1))), (3, vI (((r + 1 : Nat) : Int)))] rfl rfl ⟨rfl, rfl, lv_to rfl hst1, rfl, trivial⟩ ?_
              exact ih1 (r + 1) (by omega) (by omega)
            · refine tt_ar rfl ?_
              refine tt_ar rfl ?_
              refine tt_icge (fun h2_5 => ?_) (fun h2_5 => ?_)
              · refine tt_ar rfl ?_
                refine tt_nop ?_
                have hst1 : tcN A what r + 0 = tcN A what (r + 1) := by
                  unfold tcN
                  by_cases e4 : what = 4
                  · rw [if_pos e4, if_pos e4, th_s]
                    first | (rw [if_pos (by omega)]; first | done | omega) | (rw [if_neg (by omega)]; first | done | omega)
                  · rw [if_neg e4, if_neg e4]
                    by_cases e5 : what = 5
                    · rw [if_pos e5, if_pos e5]
                      by_cases r4 : r < 4
                      · rw [if_pos r4, show (if r + 1 < 4 then r + 1 else 4) = r + 1 by split <;> omega, th_s]
                        first | (rw [if_pos (by omega)]; first | done | omega) | (rw [if_neg (by omega)]; first | done | omega)
                      · rw [if_neg r4, if_neg (by omega)]
                        omega
                    · rw [if_neg e5, if_neg e5]
                      omega
                refine tt_iadd (by omega) (by omega) ?_
                refine tt_ar rfl ?_
                refine tt_iinc (y := ((r + 1 : Nat) : Int)) rfl (iinc_fit (by omega) (by omega) (by omega)) ?_
                refine tt_goto ?_
                refine tt_loc [(0, vR 76), (1, vI (((what : Nat) : Int))), (2, vI (tcN A what (r + 1))), (3, vI (((r + 1 : Nat) : Int)))] rfl rfl ⟨rfl, rfl, lv_to rfl hst1, rfl, trivial⟩ ?_
                exact ih1 (r + 1) (by omega) (by omega)
              · have hrw68 := (hA.txt r (by omega)).1
                have hsz68 := szR_c (A.1 (68 + 2 * r) 1)
                have h7868 := (hR.tx r (by omega)).1
                refine tt_ar rfl ?_
                refine tt_getR (wo_76 hW) rfl (wr_76_9 hW) ?_
                refine tt_ar rfl ?_
                refine tt_iald (r) (x := σ.1 81 (r)) (wa_81 hW) rfl (by omega) rfl ?_
                refine tt_iflt (fun h2_10 => ?_) (fun h2_10 => ?_)
                · refine tt_ar rfl ?_
                  refine tt_nop ?_
                  have hst1 : tcN A what r + 0 = tcN A what (r + 1) := by
                    unfold tcN
                    by_cases e4 : what = 4
                    · rw [if_pos e4, if_pos e4, th_s]
                      first | (rw [if_pos (by omega)]; first | done | omega) | (rw [if_neg (by omega)]; first | done | omega)
                    · rw [if_neg e4, if_neg e4]
                      by_cases e5 : what = 5
                      · rw [if_pos e5, if_pos e5]
                        by_cases r4 : r < 4
                        · rw [if_pos r4, show (if r + 1 < 4 then r + 1 else 4) = r + 1 by split <;> omega, th_s]
                          first | (rw [if_pos (by omega)]; first | done | omega) | (rw [if_neg (by omega)]; first | done | omega)
                        · rw [if_neg r4, if_neg (by omega)]
                          omega
                      · rw [if_neg e5, if_neg e5]
                        omega
                  refine tt_iadd (by omega) (by omega) ?_
                  refine tt_ar rfl ?_
                  refine tt_iinc (y := ((r + 1 : Nat) : Int)) rfl (iinc_fit (by omega) (by omega) (by omega)) ?_
                  refine tt_goto ?_
                  refine tt_loc [(0, vR 76), (1, vI (((what : Nat) : Int))), (2, vI (tcN A what (r + 1))), (3, vI (((r + 1 : Nat) : Int)))] rfl rfl ⟨rfl, rfl, lv_to rfl hst1, rfl, trivial⟩ ?_
                  exact ih1 (r + 1) (by omega) (by omega)
                · refine tt_nop ?_
                  refine tt_ar rfl ?_
                  refine tt_goto ?_
                  have hst1 : tcN A what r + 1 = tcN A what (r + 1) := by
                    unfold tcN
                    by_cases e4 : what = 4
                    · rw [if_pos e4, if_pos e4, th_s]
                      first | (rw [if_pos (by omega)]; first | done | omega) | (rw [if_neg (by omega)]; first | done | omega)
                    · rw [if_neg e4, if_neg e4]
                      by_cases e5 : what = 5
                      · rw [if_pos e5, if_pos e5]
                        by_cases r4 : r < 4
                        · rw [if_pos r4, show (if r + 1 < 4 then r + 1 else 4) = r + 1 by split <;> omega, th_s]
                          first | (rw [if_pos (by omega)]; first | done | omega) | (rw [if_neg (by omega)]; first | done | omega)
                        · rw [if_neg r4, if_neg (by omega)]
                          omega
                      · rw [if_neg e5, if_neg e5]
                        omega
                  refine tt_iadd (by omega) (by omega) ?_
                  refine tt_ar rfl ?_
                  refine tt_iinc (y := ((r + 1 : Nat) : Int)) rfl (iinc_fit (by omega) (by omega) (by omega)) ?_
                  refine tt_goto ?_
                  refine tt_loc [(0, vR 76), (1, vI (((what : Nat) : Int))), (2, vI (tcN A what (r + 1))), (3, vI (((r + 1 : Nat) : Int)))] rfl rfl ⟨rfl, rfl, lv_to rfl hst1, rfl, trivial⟩ ?_
                  exact ih1 (r + 1) (by omega) (by omega)
  refine tt_loc [(0, vR 76), (1, vI (((what : Nat) : Int))), (2, vI (tcN A what 0)), (3, vI (((0 : Nat) : Int)))] rfl rfl ⟨rfl, rfl, lv_to rfl tcN_0.symm, lv_to rfl (by omega), trivial⟩ ?_
  exact lp1_1 _ (0) (Nat.lt_succ_self _) (by omega)

theorem c270 (A σ : am_S) (k nm ns : Nat) (D : Nat → Nat → Int) (hA : CI k nm ns D A) (hW : Wd σ) (hR : RRb k nm ns D A σ) (u : Int) : CC 270 [vR 76, vI (u)] σ (fun r σ' => PMd A σ (x_count ns A u) r σ') := by
  show TT am_b270 (am_b270.getD 0 []) [(0, vR 76), (1, vI (u))] [] σ _
  refine tt_ar rfl ?_
  refine tt_ar rfl ?_
  refine tt_ar rfl ?_
  refine tt_cs3 3 rfl (c175 _ _ _ _) (kb (fun h0_3 => ?_) (fun h0_3 => ?_))
  · refine tt_ifeqF (by decide) ?_
    obtain ⟨un, rfl⟩ : ∃ un : Nat, u = (un : Int) := ⟨u.toNat, by omega⟩
    refine tt_ar rfl ?_
    refine tt_ar rfl ?_
    refine tt_cv2 2 rfl (wo_76 hW) (c271 A σ k nm ns D hA hW hR un (by omega)) (kp ?_)
    refine tt_goto ?_
    refine tt_iret ?_
    exact pm_any (M := A) hR (show x_count ns A (un : Int) = (vI (cnA ns A un), A) by unfold x_count; (try simp only [Int.toNat_natCast]); (repeat (first | rw [if_pos (by omega)] | rw [if_neg (by omega)])); (first | done | rfl)) QR.rf
  · refine tt_ifeqT (by decide) ?_
    refine tt_ar rfl ?_
    refine tt_nop ?_
    refine tt_iret ?_
    exact pm_any (M := A) hR (show x_count ns A u = (vI (-1), A) by unfold x_count; (try simp only [Int.toNat_natCast]); (repeat (first | rw [if_pos (by omega)] | rw [if_neg (by omega)])); (first | done | rfl)) QR.rf

theorem c275 (σ : am_S) (v : Int) (hW : Wd σ) : CC 275 [vR 76, vI (v)] σ (fun r σ' => σ' = am_set σ 76 47 (w64 (w64 (31 * σ.1 76 47) + v)) ∧ r = none) := by
  show TT am_b275 (am_b275.getD 0 []) [(0, vR 76), (1, vI (v))] [] σ _
  refine tt_ar rfl ?_
  refine tt_ar rfl ?_
  refine tt_ar rfl ?_
  refine tt_getL (x := σ.1 76 (47)) (wo_76 hW) rfl rfl ?_
  refine tt_bL (g := (fun a b => w64 (a * b))) (z := w64 (31 * σ.1 76 (47))) rfl rfl ?_
  refine tt_ar rfl ?_
  refine tt_ar rfl ?_
  refine tt_bL (g := (fun a b => w64 (a + b))) (z := w64 (w64 (31 * σ.1 76 (47)) + v)) rfl rfl ?_
  refine tt_putL (wo_76 hW) rfl ?_
  refine tt_vret ?_
  exact ⟨rfl, rfl⟩

