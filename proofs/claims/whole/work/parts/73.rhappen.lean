/-! THE REFERENCE'S CALLS: HAPPEN, EVENT, MARK, HOUSEHOLD -/
theorem RRb.hpn {k nm ns ns' : Nat} {D : Nat → Nat → Int} {A A' σ σ' : am_S} (h : RRb k nm ns D A σ) (hA : ∀ a, (a < 47 ∨ 51 < a) → A'.1 a = A.1 a) (hF : Fr [76, 104] σ σ') (hK : ∀ j, j ≠ 43 → σ'.1 76 j = σ.1 76 j) (h47 : A'.1 47 2 = (ns' : Int)) (h43 : σ'.1 76 43 = (ns' : Int)) (h104 : ∀ e, e < ns' → ∀ w, w < 4 → σ'.1 104 (4 * e + w) = stD A' e w) : RRb k nm ns' D A' σ' := by
  have s : ∀ a, (a ≠ 76 ∧ a ≠ 104) → σ'.1 a = σ.1 a := fun a ha => funext (hF.2 a (by simp only [List.mem_cons, List.not_mem_nil, or_false, not_or]; exact ha))
  refine ⟨⟨by rw [hA 5 (by omega)]; exact h.aa.1, by rw [hA 27 (by omega)]; exact h.aa.2.1, h47⟩, by rw [hK 0 (by omega), hK 2 (by omega), hK 3 (by omega), hK 4 (by omega), hK 5 (by omega), hA 2 (by omega)]; exact h.sc, by rw [s 77 (by omega), hA 55 (by omega)]; exact h.fs, fun r hr => by rw [s 78 (by omega), s 79 (by omega), hA (56 + 2 * r) (by omega), hA (57 + 2 * r) (by omega)]; exact h.rw r hr, fun r hr => by rw [s 81 (by omega), s 82 (by omega), hA (68 + 2 * r) (by omega), hA (69 + 2 * r) (by omega)]; exact h.tx r hr, by rw [hK 11 (by omega), hK 15 (by omega), s 83 (by omega), s 84 (by omega), s 85 (by omega), s 86 (by omega), hA 5 (by omega), hA 6 (by omega), hA 7 (by omega), hA 8 (by omega), hA 9 (by omega)]; exact h.wl, ?_, ⟨h43, h104⟩, by rw [hK 27 (by omega), s 92 (by omega), s 93 (by omega)]; exact h.hs, by rw [hK 31 (by omega), s 94 (by omega), hA 6 (by omega), hA 9 (by omega)]; exact h.sp⟩
  unfold lnD
  rw [hK 25 (by omega), s 91 (by omega), hA 28 (by omega), hA 29 (by omega), hA 30 (by omega)]
  exact h.ln
theorem stD_upH {A : am_S} {n e w : Nat} {m q a b : Int} (hn : A.1 47 2 = (n : Int)) : stD (upH m q a b A) e w = if e = n then (if w = 0 then q else if w = 1 then m else if w = 2 then a else b) else stD A e w := by
  have e0 : (A.1 47 2).toNat = n := by rw [hn]; rfl
  unfold stD upH
  rw [e0]
  by_cases h : e = n
  · subst h
    simp
  · simp [h]
theorem c249 (A σ : am_S) (k nm ns : Nat) (D : Nat → Nat → Int) (hA : CI k nm ns D A) (hW : Wd σ) (hR : RRb k nm ns D A σ) (m q a b : Int) : CC 249 [vR 76, vI (m), vI (q), vI (a), vI (b)] σ (fun r σ' => PMd A σ (x_happen A m q a b) r σ') := by
  show TT am_b249 (am_b249.getD 0 []) [(0, vR 76), (1, vI (m)), (2, vI (q)), (3, vI (a)), (4, vI (b))] [] σ _
  have hk5 := hR.aa.1
  have hl27 := hR.aa.2.1
  have hs47 := hR.aa.2.2
  have hk6 := hA.x.1.2.1
  have hm12 := hA.x.2.2.1.2.1
  have hs16 := hA.st.2
  refine tt_ar rfl ?_
  refine tt_ar rfl ?_
  refine tt_ar rfl ?_
  refine tt_cs3 3 rfl (c175 _ _ _ _) (kb (fun h0_3 => ?_) (fun h0_3 => ?_))
  · refine tt_ifeqF (by decide) ?_
    refine tt_ar rfl ?_
    refine tt_ar rfl ?_
    refine tt_ar rfl ?_
    refine tt_cs3 3 rfl (c175 _ _ _ _) (kb (fun h0_8 => ?_) (fun h0_8 => ?_))
    · refine tt_ifeqF (by decide) ?_
      refine tt_ar rfl ?_
      refine tt_ar rfl ?_
      refine tt_ar rfl ?_
      refine tt_cs3 3 rfl (c175 _ _ _ _) (kb (fun h0_13 => ?_) (fun h0_13 => ?_))
      · refine tt_ifeqF (by decide) ?_
        refine tt_ar rfl ?_
        refine tt_ar rfl ?_
        refine tt_cv2 2 rfl (wo_76 hW) (c202 A σ k nm ns D hA hW hR _) (kb (fun h0_17 => ?_) (fun h0_17 => ?_))
        · refine tt_ifeqF (by decide) ?_
          refine tt_nop ?_
          refine tt_ar rfl ?_
          refine tt_ar rfl ?_
          refine tt_icne (fun h1_2 => ?_) (fun h1_2 => ?_)
          · refine tt_ar rfl ?_
            refine tt_getI (x := ((ns : Nat) : Int)) (wo_76 hW) rfl hR.st.1 ?_
            refine tt_ar rfl ?_
            refine tt_icne (fun h3_3 => ?_) (fun h3_3 => ?_)
            · refine tt_ar rfl ?_
              refine tt_ar rfl ?_
              refine tt_getI (x := ((ns : Nat) : Int)) (wo_76 hW) rfl hR.st.1 ?_
              refine tt_imul (by omega) (by omega) ?_
              refine tt_ar rfl ?_
              refine tt_ar rfl ?_
              refine tt_getR (wo_76 hW) rfl (wr_76_44 hW) ?_
              refine tt_ar rfl ?_
              refine tt_ar rfl ?_
              refine tt_iast ((4 * ns)) (wa_104 hW) (by omega) (by omega) (by omega) ?_
              refine tt_ar rfl ?_
              refine tt_getR (wo_76 hW) rfl (wr_76_44 hW) ?_
              refine tt_ar rfl ?_
              refine tt_ar rfl ?_
              refine tt_iadd (by omega) (by omega) ?_
              refine tt_ar rfl ?_
              refine tt_iast (((4 * ns) + 1)) (wa_104 hW) (by omega) (by omega) (by omega) ?_
              refine tt_ar rfl ?_
              refine tt_getR (wo_76 hW) rfl (wr_76_44 hW) ?_
              refine tt_ar rfl ?_
              refine tt_ar rfl ?_
              refine tt_iadd (by omega) (by omega) ?_
              refine tt_ar rfl ?_
              refine tt_ifne (fun h4_23 => ?_) (fun h4_23 => ?_)
              · refine tt_ar rfl ?_
                refine tt_nop ?_
                refine tt_iast (((4 * ns) + 2)) (wa_104 hW) (by omega) (by omega) (by omega) ?_
                refine tt_ar rfl ?_
                refine tt_getR (wo_76 hW) rfl (wr_76_44 hW) ?_
                refine tt_ar rfl ?_
                refine tt_ar rfl ?_
                refine tt_iadd (by omega) (by omega) ?_
                refine tt_ar rfl ?_
                refine tt_ar rfl ?_
                refine tt_icne (fun h6_8 => ?_) (fun h6_8 => ?_)
                · refine tt_ar rfl ?_
                  refine tt_nop ?_
                  refine tt_iast (((4 * ns) + 3)) (wa_104 hW) (by omega) (by omega) (by omega) ?_
                  refine tt_ar rfl ?_
                  refine tt_ar rfl ?_
                  refine tt_getI (x := ((ns : Nat) : Int)) (wo_76 hW) rfl hR.st.1 ?_
                  refine tt_ar rfl ?_
                  refine tt_iadd (by omega) (by omega) ?_
                  refine tt_putI (wo_76 hW) rfl ?_
                  refine tt_ar rfl ?_
                  refine tt_getI (x := (((ns : Nat) : Int) + 1)) (wo_76 hW) rfl (@am_set_rd (am_set (am_set (am_set (am_set σ 104 ((4 * ns)) (q)) 104 (((4 * ns) + 1)) (m)) 104 (((4 * ns) + 2)) (a)) 104 (((4 * ns) + 3)) (0)) 76 (43) ((((ns : Nat) : Int) + 1))) ?_
                  refine tt_ar rfl ?_
                  refine tt_isub (by omega) (by omega) ?_
                  refine tt_iret ?_
                  have h2 := hR.hpn (ns' := ns + 1) (A' := upH m q (a) (0) A) (fun c hc => by funext j; unfold upH; simp only [show ¬ c = 47 by omega, show ¬ c = 48 by omega, show ¬ c = 49 by omega, show ¬ c = 50 by omega, show ¬ c = 51 by omega, false_and, if_false]) (show Fr [76, 104] σ (am_set (am_set (am_set (am_set (am_set σ 104 ((4 * ns)) (q)) 104 (((4 * ns) + 1)) (m)) 104 (((4 * ns) + 2)) (a)) 104 (((4 * ns) + 3)) (0)) 76 (43) ((((ns : Nat) : Int) + 1))) from (Fr.put (Fr.put (Fr.put (Fr.put (Fr.put Fr.rf (by decide)) (by decide)) (by decide)) (by decide)) (by decide))) (fun j hj => by rw [am_set_at, if_neg hj]; rfl) (show A.1 47 2 + 1 = ((ns + 1 : Nat) : Int) by omega) (am_set_rd.trans (by omega)) (fun e he w hw => by rw [stD_upH hs47, am_set_nb (by decide), am_set_at, am_set_at, am_set_at, am_set_at]; have q := hR.st.2; by_cases c : e = ns; (rw [if_pos c]; have hw4 : w = 0 ∨ w = 1 ∨ w = 2 ∨ w = 3 := (by omega); rcases hw4 with z | z | z | z <;> subst z <;> (subst c; simp)); (rw [if_neg c, if_neg (by omega), if_neg (by omega), if_neg (by omega), if_neg (by omega)]; exact q e (by omega) w hw))
                  exact pm_any h2 (show x_happen A m q a b = (vI (((((ns : Nat) : Int) + 1) - 1)), upH m q (a) (0) A) by unfold x_happen; simp only [hk5, hs47]; rw [if_pos (by omega), if_pos (by omega)]; (repeat (first | rw [if_pos (by omega)] | rw [if_neg (by omega)])); (first | done | (congr 2; omega))) (QR.of ((Fr.put (Fr.put (Fr.put (Fr.put (Fr.put Fr.rf (by decide)) (by decide)) (by decide)) (by decide)) (by decide)) : Fr [76, 104] σ (am_set (am_set (am_set (am_set (am_set σ 104 ((4 * ns)) (q)) 104 (((4 * ns) + 1)) (m)) 104 (((4 * ns) + 2)) (a)) 104 (((4 * ns) + 3)) (0)) 76 (43) ((((ns : Nat) : Int) + 1)))) (by decide))
                · exfalso; omega
              · exfalso; omega
            · refine tt_ar rfl ?_
              refine tt_iret ?_
              exact pm_any (M := A) hR (show x_happen A m q a b = (vI (-2), A) by unfold x_happen; (try simp only [Int.toNat_natCast, hk5, hs47]); (repeat (first | rw [if_pos (by omega)] | rw [if_neg (by omega)])); (first | done | rfl)) QR.rf
          · exfalso; omega
        · refine tt_ifeqT (by decide) ?_
          refine tt_ar rfl ?_
          refine tt_iret ?_
          exact pm_any (M := A) hR (show x_happen A m q a b = (vI (-1), A) by unfold x_happen; (try simp only [Int.toNat_natCast, hk5, hs47]); (repeat (first | rw [if_pos (by omega)] | rw [if_neg (by omega)])); (first | done | rfl)) QR.rf
      · refine tt_ifeqT (by decide) ?_
        refine tt_ar rfl ?_
        refine tt_ar rfl ?_
        refine tt_icne (fun h1_2 => ?_) (fun h1_2 => ?_)
        · refine tt_ar rfl ?_
          refine tt_getI (x := ((ns : Nat) : Int)) (wo_76 hW) rfl hR.st.1 ?_
          refine tt_ar rfl ?_
          refine tt_icne (fun h3_3 => ?_) (fun h3_3 => ?_)
          · refine tt_ar rfl ?_
            refine tt_ar rfl ?_
            refine tt_getI (x := ((ns : Nat) : Int)) (wo_76 hW) rfl hR.st.1 ?_
            refine tt_imul (by omega) (by omega) ?_
            refine tt_ar rfl ?_
            refine tt_ar rfl ?_
            refine tt_getR (wo_76 hW) rfl (wr_76_44 hW) ?_
            refine tt_ar rfl ?_
            refine tt_ar rfl ?_
            refine tt_iast ((4 * ns)) (wa_104 hW) (by omega) (by omega) (by omega) ?_
            refine tt_ar rfl ?_
            refine tt_getR (wo_76 hW) rfl (wr_76_44 hW) ?_
            refine tt_ar rfl ?_
            refine tt_ar rfl ?_
            refine tt_iadd (by omega) (by omega) ?_
            refine tt_ar rfl ?_
            refine tt_iast (((4 * ns) + 1)) (wa_104 hW) (by omega) (by omega) (by omega) ?_
            refine tt_ar rfl ?_
            refine tt_getR (wo_76 hW) rfl (wr_76_44 hW) ?_
            refine tt_ar rfl ?_
            refine tt_ar rfl ?_
            refine tt_iadd (by omega) (by omega) ?_
            refine tt_ar rfl ?_
            refine tt_ifne (fun h4_23 => ?_) (fun h4_23 => ?_)
            · exfalso; omega
            · refine tt_ar rfl ?_
              refine tt_goto ?_
              refine tt_iast (((4 * ns) + 2)) (wa_104 hW) (by omega) (by omega) (by omega) ?_
              refine tt_ar rfl ?_
              refine tt_getR (wo_76 hW) rfl (wr_76_44 hW) ?_
              refine tt_ar rfl ?_
              refine tt_ar rfl ?_
              refine tt_iadd (by omega) (by omega) ?_
              refine tt_ar rfl ?_
              refine tt_ar rfl ?_
              refine tt_icne (fun h6_8 => ?_) (fun h6_8 => ?_)
              · refine tt_ar rfl ?_
                refine tt_nop ?_
                refine tt_iast (((4 * ns) + 3)) (wa_104 hW) (by omega) (by omega) (by omega) ?_
                refine tt_ar rfl ?_
                refine tt_ar rfl ?_
                refine tt_getI (x := ((ns : Nat) : Int)) (wo_76 hW) rfl hR.st.1 ?_
                refine tt_ar rfl ?_
                refine tt_iadd (by omega) (by omega) ?_
                refine tt_putI (wo_76 hW) rfl ?_
                refine tt_ar rfl ?_
                refine tt_getI (x := (((ns : Nat) : Int) + 1)) (wo_76 hW) rfl (@am_set_rd (am_set (am_set (am_set (am_set σ 104 ((4 * ns)) (q)) 104 (((4 * ns) + 1)) (m)) 104 (((4 * ns) + 2)) (0)) 104 (((4 * ns) + 3)) (0)) 76 (43) ((((ns : Nat) : Int) + 1))) ?_
                refine tt_ar rfl ?_
                refine tt_isub (by omega) (by omega) ?_
                refine tt_iret ?_
                have h2 := hR.hpn (ns' := ns + 1) (A' := upH m q (0) (0) A) (fun c hc => by funext j; unfold upH; simp only [show ¬ c = 47 by omega, show ¬ c = 48 by omega, show ¬ c = 49 by omega, show ¬ c = 50 by omega, show ¬ c = 51 by omega, false_and, if_false]) (show Fr [76, 104] σ (am_set (am_set (am_set (am_set (am_set σ 104 ((4 * ns)) (q)) 104 (((4 * ns) + 1)) (m)) 104 (((4 * ns) + 2)) (0)) 104 (((4 * ns) + 3)) (0)) 76 (43) ((((ns : Nat) : Int) + 1))) from (Fr.put (Fr.put (Fr.put (Fr.put (Fr.put Fr.rf (by decide)) (by decide)) (by decide)) (by decide)) (by decide))) (fun j hj => by rw [am_set_at, if_neg hj]; rfl) (show A.1 47 2 + 1 = ((ns + 1 : Nat) : Int) by omega) (am_set_rd.trans (by omega)) (fun e he w hw => by rw [stD_upH hs47, am_set_nb (by decide), am_set_at, am_set_at, am_set_at, am_set_at]; have q := hR.st.2; by_cases c : e = ns; (rw [if_pos c]; have hw4 : w = 0 ∨ w = 1 ∨ w = 2 ∨ w = 3 := (by omega); rcases hw4 with z | z | z | z <;> subst z <;> (subst c; simp)); (rw [if_neg c, if_neg (by omega), if_neg (by omega), if_neg (by omega), if_neg (by omega)]; exact q e (by omega) w hw))
                exact pm_any h2 (show x_happen A m q a b = (vI (((((ns : Nat) : Int) + 1) - 1)), upH m q (0) (0) A) by unfold x_happen; simp only [hk5, hs47]; rw [if_pos (by omega), if_pos (by omega)]; (repeat (first | rw [if_pos (by omega)] | rw [if_neg (by omega)])); (first | done | (congr 2; omega))) (QR.of ((Fr.put (Fr.put (Fr.put (Fr.put (Fr.put Fr.rf (by decide)) (by decide)) (by decide)) (by decide)) (by decide)) : Fr [76, 104] σ (am_set (am_set (am_set (am_set (am_set σ 104 ((4 * ns)) (q)) 104 (((4 * ns) + 1)) (m)) 104 (((4 * ns) + 2)) (0)) 104 (((4 * ns) + 3)) (0)) 76 (43) ((((ns : Nat) : Int) + 1)))) (by decide))
              · exfalso; omega
          · refine tt_ar rfl ?_
            refine tt_iret ?_
            exact pm_any (M := A) hR (show x_happen A m q a b = (vI (-2), A) by unfold x_happen; (try simp only [Int.toNat_natCast, hk5, hs47]); (repeat (first | rw [if_pos (by omega)] | rw [if_neg (by omega)])); (first | done | rfl)) QR.rf
        · refine tt_ar rfl ?_
          refine tt_cs1 1 rfl (c203 _ _) (kb (fun h1_4 => ?_) (fun h1_4 => ?_))
          · refine tt_ifeqF (by decide) ?_
            refine tt_ar rfl ?_
            refine tt_cs1 1 rfl (c203 _ _) (kb (fun h1_7 => ?_) (fun h1_7 => ?_))
            · refine tt_ifeqF (by decide) ?_
              refine tt_ar rfl ?_
              refine tt_ar rfl ?_
              refine tt_icne (fun h1_11 => ?_) (fun h1_11 => ?_)
              · refine tt_ar rfl ?_
                refine tt_getI (x := ((ns : Nat) : Int)) (wo_76 hW) rfl hR.st.1 ?_
                refine tt_ar rfl ?_
                refine tt_icne (fun h3_3 => ?_) (fun h3_3 => ?_)
                · refine tt_ar rfl ?_
                  refine tt_ar rfl ?_
                  refine tt_getI (x := ((ns : Nat) : Int)) (wo_76 hW) rfl hR.st.1 ?_
                  refine tt_imul (by omega) (by omega) ?_
                  refine tt_ar rfl ?_
                  refine tt_ar rfl ?_
                  refine tt_getR (wo_76 hW) rfl (wr_76_44 hW) ?_
                  refine tt_ar rfl ?_
                  refine tt_ar rfl ?_
                  refine tt_iast ((4 * ns)) (wa_104 hW) (by omega) (by omega) (by omega) ?_
                  refine tt_ar rfl ?_
                  refine tt_getR (wo_76 hW) rfl (wr_76_44 hW) ?_
                  refine tt_ar rfl ?_
                  refine tt_ar rfl ?_
                  refine tt_iadd (by omega) (by omega) ?_
                  refine tt_ar rfl ?_
                  refine tt_iast (((4 * ns) + 1)) (wa_104 hW) (by omega) (by omega) (by omega) ?_
                  refine tt_ar rfl ?_
                  refine tt_getR (wo_76 hW) rfl (wr_76_44 hW) ?_
                  refine tt_ar rfl ?_
                  refine tt_ar rfl ?_
                  refine tt_iadd (by omega) (by omega) ?_
                  refine tt_ar rfl ?_
                  refine tt_ifne (fun h4_23 => ?_) (fun h4_23 => ?_)
                  · refine tt_ar rfl ?_
                    refine tt_nop ?_
                    refine tt_iast (((4 * ns) + 2)) (wa_104 hW) (by omega) (by omega) (by omega) ?_
                    refine tt_ar rfl ?_
                    refine tt_getR (wo_76 hW) rfl (wr_76_44 hW) ?_
                    refine tt_ar rfl ?_
                    refine tt_ar rfl ?_
                    refine tt_iadd (by omega) (by omega) ?_
                    refine tt_ar rfl ?_
                    refine tt_ar rfl ?_
                    refine tt_icne (fun h6_8 => ?_) (fun h6_8 => ?_)
                    · exfalso; omega
                    · refine tt_ar rfl ?_
                      refine tt_goto ?_
                      refine tt_iast (((4 * ns) + 3)) (wa_104 hW) (by omega) (by omega) (by omega) ?_
                      refine tt_ar rfl ?_
                      refine tt_ar rfl ?_
                      refine tt_getI (x := ((ns : Nat) : Int)) (wo_76 hW) rfl hR.st.1 ?_
                      refine tt_ar rfl ?_
                      refine tt_iadd (by omega) (by omega) ?_
                      refine tt_putI (wo_76 hW) rfl ?_
                      refine tt_ar rfl ?_
                      refine tt_getI (x := (((ns : Nat) : Int) + 1)) (wo_76 hW) rfl (@am_set_rd (am_set (am_set (am_set (am_set σ 104 ((4 * ns)) (q)) 104 (((4 * ns) + 1)) (m)) 104 (((4 * ns) + 2)) (a)) 104 (((4 * ns) + 3)) (b)) 76 (43) ((((ns : Nat) : Int) + 1))) ?_
                      refine tt_ar rfl ?_
                      refine tt_isub (by omega) (by omega) ?_
                      refine tt_iret ?_
                      have h2 := hR.hpn (ns' := ns + 1) (A' := upH m q (a) (b) A) (fun c hc => by funext j; unfold upH; simp only [show ¬ c = 47 by omega, show ¬ c = 48 by omega, show ¬ c = 49 by omega, show ¬ c = 50 by omega, show ¬ c = 51 by omega, false_and, if_false]) (show Fr [76, 104] σ (am_set (am_set (am_set (am_set (am_set σ 104 ((4 * ns)) (q)) 104 (((4 * ns) + 1)) (m)) 104 (((4 * ns) + 2)) (a)) 104 (((4 * ns) + 3)) (b)) 76 (43) ((((ns : Nat) : Int) + 1))) from (Fr.put (Fr.put (Fr.put (Fr.put (Fr.put Fr.rf (by decide)) (by decide)) (by decide)) (by decide)) (by decide))) (fun j hj => by rw [am_set_at, if_neg hj]; rfl) (show A.1 47 2 + 1 = ((ns + 1 : Nat) : Int) by omega) (am_set_rd.trans (by omega)) (fun e he w hw => by rw [stD_upH hs47, am_set_nb (by decide), am_set_at, am_set_at, am_set_at, am_set_at]; have q := hR.st.2; by_cases c : e = ns; (rw [if_pos c]; have hw4 : w = 0 ∨ w = 1 ∨ w = 2 ∨ w = 3 := (by omega); rcases hw4 with z | z | z | z <;> subst z <;> (subst c; simp)); (rw [if_neg c, if_neg (by omega), if_neg (by omega), if_neg (by omega), if_neg (by omega)]; exact q e (by omega) w hw))
                      exact pm_any h2 (show x_happen A m q a b = (vI (((((ns : Nat) : Int) + 1) - 1)), upH m q (a) (b) A) by unfold x_happen; simp only [hk5, hs47]; rw [if_pos (by omega), if_pos (by omega)]; (repeat (first | rw [if_pos (by omega)] | rw [if_neg (by omega)])); (first | done | (congr 2; omega))) (QR.of ((Fr.put (Fr.put (Fr.put (Fr.put (Fr.put Fr.rf (by decide)) (by decide)) (by decide)) (by decide)) (by decide)) : Fr [76, 104] σ (am_set (am_set (am_set (am_set (am_set σ 104 ((4 * ns)) (q)) 104 (((4 * ns) + 1)) (m)) 104 (((4 * ns) + 2)) (a)) 104 (((4 * ns) + 3)) (b)) 76 (43) ((((ns : Nat) : Int) + 1)))) (by decide))
                  · exfalso; omega
                · refine tt_ar rfl ?_
                  refine tt_iret ?_
                  exact pm_any (M := A) hR (show x_happen A m q a b = (vI (-2), A) by unfold x_happen; (try simp only [Int.toNat_natCast, hk5, hs47]); (repeat (first | rw [if_pos (by omega)] | rw [if_neg (by omega)])); (first | done | rfl)) QR.rf
              · refine tt_nop ?_
                refine tt_ar rfl ?_
                refine tt_iret ?_
                exact pm_any (M := A) hR (show x_happen A m q a b = (vI (-1), A) by unfold x_happen; (try simp only [Int.toNat_natCast, hk5, hs47]); (repeat (first | rw [if_pos (by omega)] | rw [if_neg (by omega)])); (first | done | rfl)) QR.rf
            · refine tt_ifeqT (by decide) ?_
              refine tt_ar rfl ?_
              refine tt_iret ?_
              exact pm_any (M := A) hR (show x_happen A m q a b = (vI (-1), A) by unfold x_happen; (try simp only [Int.toNat_natCast, hk5, hs47]); (repeat (first | rw [if_pos (by omega)] | rw [if_neg (by omega)])); (first | done | rfl)) QR.rf
          · refine tt_ifeqT (by decide) ?_
            refine tt_ar rfl ?_
            refine tt_iret ?_
            exact pm_any (M := A) hR (show x_happen A m q a b = (vI (-1), A) by unfold x_happen; (try simp only [Int.toNat_natCast, hk5, hs47]); (repeat (first | rw [if_pos (by omega)] | rw [if_neg (by omega)])); (first | done | rfl)) QR.rf
    · refine tt_ifeqT (by decide) ?_
      refine tt_ar rfl ?_
      refine tt_iret ?_
      exact pm_any (M := A) hR (show x_happen A m q a b = (vI (-1), A) by unfold x_happen; (try simp only [Int.toNat_natCast, hk5, hs47]); (repeat (first | rw [if_pos (by omega)] | rw [if_neg (by omega)])); (first | done | rfl)) QR.rf
  · refine tt_ifeqT (by decide) ?_
    refine tt_ar rfl ?_
    refine tt_iret ?_
    exact pm_any (M := A) hR (show x_happen A m q a b = (vI (-1), A) by unfold x_happen; (try simp only [Int.toNat_natCast, hk5, hs47]); (repeat (first | rw [if_pos (by omega)] | rw [if_neg (by omega)])); (first | done | rfl)) QR.rf

theorem c250 (A σ : am_S) (k nm ns : Nat) (D : Nat → Nat → Int) (hA : CI k nm ns D A) (hW : Wd σ) (hR : RRb k nm ns D A σ) (u w : Int) : CC 250 [vR 76, vI (u), vI (w)] σ (fun r σ' => PMd A σ (x_event A u w) r σ') := by
  show TT am_b250 (am_b250.getD 0 []) [(0, vR 76), (1, vI (u)), (2, vI (w))] [] σ _
  have hk5 := hR.aa.1
  have hl27 := hR.aa.2.1
  have hs47 := hR.aa.2.2
  have hk6 := hA.x.1.2.1
  have hm12 := hA.x.2.2.1.2.1
  have hs16 := hA.st.2
  refine tt_ar rfl ?_
  refine tt_ar rfl ?_
  refine tt_cv2 2 rfl (wo_76 hW) (c251 A σ k nm ns D hA hW hR _) (kb (fun h0_2 => ?_) (fun h0_2 => ?_))
  · refine tt_ifeqF (by decide) ?_
    refine tt_ar rfl ?_
    refine tt_ar rfl ?_
    refine tt_ar rfl ?_
    refine tt_cs3 3 rfl (c175 _ _ _ _) (kb (fun h0_7 => ?_) (fun h0_7 => ?_))
    · refine tt_ifeqF (by decide) ?_
      obtain ⟨un, rfl⟩ : ∃ un : Nat, u = (un : Int) := ⟨u.toNat, by omega⟩
      obtain ⟨wn, rfl⟩ : ∃ wn : Nat, w = (wn : Int) := ⟨w.toNat, by omega⟩
      refine tt_ar rfl ?_
      refine tt_ar rfl ?_
      refine tt_ar rfl ?_
      refine tt_ar rfl ?_
      refine tt_cv3 3 rfl (wo_76 hW) (c252 A σ k nm ns D hA hW hR un wn (by omega) (by omega)) (kp ?_)
      refine tt_ar rfl ?_
      refine tt_cv3 3 rfl (wo_76 hW) (c183 σ _ _ hW) (ks ?_)
      refine tt_goto ?_
      refine tt_iret ?_
      exact pm_ak (x := stD A un wn) (M := A) hR (show x_event A (un : Int) (wn : Int) = (vI 1, upA (stD A un wn) (A)) by unfold x_event; (try simp only [Int.toNat_natCast, hs47]); (repeat (first | rw [if_pos (by omega)] | rw [if_neg (by omega)])); (first | done | rfl)) QR.rf
    · refine tt_ifeqT (by decide) ?_
      refine tt_ar rfl ?_
      refine tt_nop ?_
      refine tt_iret ?_
      exact pm_any (M := A) hR (show x_event A u w = (vI (-1), A) by unfold x_event; (try simp only [Int.toNat_natCast, hs47]); (repeat (first | rw [if_pos (by omega)] | rw [if_neg (by omega)])); (first | done | rfl)) QR.rf
  · refine tt_ifeqT (by decide) ?_
    refine tt_ar rfl ?_
    refine tt_nop ?_
    refine tt_iret ?_
    exact pm_any (M := A) hR (show x_event A u w = (vI (-1), A) by unfold x_event; (try simp only [Int.toNat_natCast, hs47]); (repeat (first | rw [if_pos (by omega)] | rw [if_neg (by omega)])); (first | done | rfl)) QR.rf

theorem lw_cast {num : Nat} {p : Nat → Int} (hp : ∀ s, s < 6 → p s = (dg num s : Int)) : sumN 6 (fun s => p s * 10 ^ s) = ((lwN 6 num : Nat) : Int) := by
  have key : ∀ n, n ≤ 6 → sumN n (fun s => p s * 10 ^ s) = ((lwN n num : Nat) : Int) := by
    intro n
    induction n with
    | zero => intro _; rfl
    | succ n ih =>
      intro hn
      show sumN n (fun s => p s * 10 ^ s) + p n * 10 ^ n = ((lwN n num + dg num n * 10 ^ n : Nat) : Int)
      rw [ih (by omega), hp n (by omega), Int.natCast_add, Int.natCast_mul, Int.natCast_pow]
      rfl
  exact key 6 (Nat.le_refl 6)
theorem c256 (A σ : am_S) (k nm ns : Nat) (D : Nat → Nat → Int) (hA : CI k nm ns D A) (hW : Wd σ) (hR : RRb k nm ns D A σ) (u : Int) : CC 256 [vR 76, vI (u)] σ (fun r σ' => PMd A σ (x_household ns A u) r σ') := by
  show TT am_b256 (am_b256.getD 0 []) [(0, vR 76), (1, vI (u))] [] σ _
  have hk5 := hR.aa.1
  have hl27 := hR.aa.2.1
  have hs47 := hR.aa.2.2
  have hk6 := hA.x.1.2.1
  have hm12 := hA.x.2.2.1.2.1
  have hs16 := hA.st.2
  have hDA := hA.x.1
  have hHT := hA.x.2.1
  have hLA := hA.x.2.2.1
  have hHB := HB_of hDA hHT
  have hnb := nkT_bd k
  refine tt_ar rfl ?_
  refine tt_ar rfl ?_
  refine tt_ar rfl ?_
  refine tt_cs3 3 rfl (c175 _ _ _ _) (kb (fun h0_3 => ?_) (fun h0_3 => ?_))
  · refine tt_ifneT (by decide) ?_
    obtain ⟨un, rfl⟩ : ∃ un : Nat, u = (un : Int) := ⟨u.toNat, by omega⟩
    refine tt_ar rfl ?_
    refine tt_ar rfl ?_
    refine tt_cv2 2 rfl (wo_76 hW) (c255 A σ k nm ns D hA hW hR un (by omega)) (kex fun z1 => kand fun hz1 => ks ?_)
    · refine tt_ar rfl ?_
      refine tt_ar rfl ?_
      refine tt_ifge (fun h1_5 => ?_) (fun h1_5 => ?_)
      · obtain ⟨hn, hhn, bhn, p0, hop, hp0⟩ := hz1.yes (by omega)
        refine tt_loc [(0, vR 76), (2, vI (((hn : Nat) : Int)))] rfl rfl ⟨rfl, lv_to rfl hhn, trivial⟩ ?_
        refine tt_ar rfl ?_
        refine tt_getR (wo_76 hW) rfl (wr_76_28 hW) ?_
        refine tt_ar rfl ?_
        refine tt_iald (hn) (x := ((tb k hn : Nat) : Int)) (wa_92 hW) rfl (by omega) (hR.hs.2 hn bhn).1 ?_
        refine tt_nop ?_
        refine tt_iret ?_
        have hsum : sumN 6 (fun s => p0 s * 10 ^ s) = ((tb k hn : Nat) : Int) := by rw [lw_cast (fun s hs => hp0 s hs), (en_at hk6 bhn).2.2.1]
        exact pm_same hR (show x_household ns A un = (vI ((tb k hn : Nat) : Int), A) by unfold x_household; simp only [Int.toNat_natCast]; rw [if_pos (by omega), hop]; show (vI (sumN 6 (fun s => p0 s * 10 ^ s)), A) = _; rw [hsum]) QR.rf
      · refine tt_ar rfl ?_
        refine tt_goto ?_
        refine tt_iret ?_
        exact pm_same hR (show x_household ns A un = (vI (-9), A) by unfold x_household; simp only [Int.toNat_natCast]; rw [if_pos (by omega), hz1.not (by omega)]; rfl) QR.rf
  · refine tt_ifneF (by decide) ?_
    refine tt_ar rfl ?_
    refine tt_iret ?_
    exact pm_any (M := A) hR (show x_household ns A u = (vI (-1), A) by unfold x_household; (try simp only [Int.toNat_natCast]); (repeat (first | rw [if_pos (by omega)] | rw [if_neg (by omega)])); (first | done | rfl)) QR.rf

theorem c253 (A σ : am_S) (k nm ns : Nat) (D : Nat → Nat → Int) (hA : CI k nm ns D A) (hW : Wd σ) (hR : RRb k nm ns D A σ) (u q : Int) : CC 253 [vR 76, vI (u), vI (q)] σ (fun r σ' => PMd A σ (x_mark ns A u q) r σ') := by
  show TT am_b253 (am_b253.getD 0 []) [(0, vR 76), (1, vI (u)), (2, vI (q))] [] σ _
  have hk5 := hR.aa.1
  have hl27 := hR.aa.2.1
  have hs47 := hR.aa.2.2
  have hk6 := hA.x.1.2.1
  have hm12 := hA.x.2.2.1.2.1
  have hs16 := hA.st.2
  have hDA := hA.x.1
  have hHT := hA.x.2.1
  have hLA := hA.x.2.2.1
  have hHB := HB_of hDA hHT
  have hnb := nkT_bd k
  refine tt_ar rfl ?_
  refine tt_ar rfl ?_
  refine tt_cv2 2 rfl (wo_76 hW) (c251 A σ k nm ns D hA hW hR _) (kb (fun h0_2 => ?_) (fun h0_2 => ?_))
  · refine tt_ifeqF (by decide) ?_
    refine tt_ar rfl ?_
    refine tt_ar rfl ?_
    refine tt_ar rfl ?_
    refine tt_cs3 3 rfl (c175 _ _ _ _) (kb (fun h0_7 => ?_) (fun h0_7 => ?_))
    · refine tt_ifneT (by decide) ?_
      obtain ⟨un, rfl⟩ : ∃ un : Nat, u = (un : Int) := ⟨u.toNat, by omega⟩
      have hse := hA.sh.2 un (by omega)
      have hK : stD A un 0 = A.1 48 un := rfl
      have hDd : stD A un 1 = A.1 49 un := rfl
      have hAa : stD A un 2 = A.1 50 un := rfl
      have hBb : stD A un 3 = A.1 51 un := rfl
      refine tt_ar rfl ?_
      refine tt_ar rfl ?_
      refine tt_ar rfl ?_
      refine tt_cv3 3 rfl (wo_76 hW) (c252 A σ k nm ns D hA hW hR un 0 (by omega) (by omega)) (kp ?_)
      refine tt_ar rfl ?_
      refine tt_cs2 2 rfl (c254 _ _ _) (kb (fun h2_5 => ?_) (fun h2_5 => ?_))
      · refine tt_ifneT (by decide) ?_
        refine tt_ar rfl ?_
        refine tt_ar rfl ?_
        refine tt_icne (fun h3_2 => ?_) (fun h3_2 => ?_)
        · refine tt_ar rfl ?_
          refine tt_ar rfl ?_
          refine tt_icne (fun h6_2 => ?_) (fun h6_2 => ?_)
          · refine tt_ar rfl ?_
            refine tt_ar rfl ?_
            refine tt_ar rfl ?_
            refine tt_cv3 3 rfl (wo_76 hW) (c252 A σ k nm ns D hA hW hR un 2 (by omega) (by omega)) (kp ?_)
            refine tt_nop ?_
            refine tt_iret ?_
            exact pm_same hR (show x_mark ns A un q = (vI (stD A un 2), A) by unfold x_mark tlN; simp only [Int.toNat_natCast, hs47]; rw [if_pos (by omega), if_pos (by omega), if_neg (by omega), if_neg (by omega)]; rfl) QR.rf
          · refine tt_ar rfl ?_
            refine tt_ar rfl ?_
            refine tt_ar rfl ?_
            refine tt_ar rfl ?_
            refine tt_cv3 3 rfl (wo_76 hW) (c252 A σ k nm ns D hA hW hR un 2 (by omega) (by omega)) (kp ?_)
            refine tt_imul (by omega) (by omega) ?_
            refine tt_ar rfl ?_
            refine tt_ar rfl ?_
            refine tt_ar rfl ?_
            refine tt_cv3 3 rfl (wo_76 hW) (c252 A σ k nm ns D hA hW hR un 3 (by omega) (by omega)) (kp ?_)
            refine tt_iadd (by omega) (by omega) ?_
            refine tt_goto ?_
            refine tt_iret ?_
            exact pm_same hR (show x_mark ns A un q = (vI (((10 * stD A un 2) + stD A un 3)), A) by unfold x_mark tlN; simp only [Int.toNat_natCast, hs47]; rw [if_pos (by omega), if_pos (by omega), if_pos (by omega)]; rfl) QR.rf
        · refine tt_ar rfl ?_
          refine tt_ar rfl ?_
          refine tt_ar rfl ?_
          refine tt_ar rfl ?_
          refine tt_cv3 3 rfl (wo_76 hW) (c252 A σ k nm ns D hA hW hR un 1 (by omega) (by omega)) (kp ?_)
          obtain ⟨dn, hdn⟩ : ∃ n : Nat, A.1 49 un = (n : Int) := ⟨_, (Int.toNat_of_nonneg (by omega)).symm⟩
          have hc255 := c255 A σ k nm ns D hA hW hR dn (by omega)
          rw [← hdn] at hc255
          have hc255 : CC 255 [vR 76, vI (stD A un 1)] σ _ := hc255
          have hdt : (A.1 49 un).toNat = dn := by rw [hdn]; rfl
          refine tt_cv2 2 rfl (wo_76 hW) hc255 (kex fun z1 => kand fun hz1 => ks ?_)
          · refine tt_ar rfl ?_
            refine tt_ar rfl ?_
            refine tt_ifge (fun h3_11 => ?_) (fun h3_11 => ?_)
            · obtain ⟨hn, hhn, bhn, p0, hop, hp0⟩ := hz1.yes (by omega)
              refine tt_loc [(0, vR 76), (3, vI (((hn : Nat) : Int)))] rfl rfl ⟨rfl, lv_to rfl hhn, trivial⟩ ?_
              refine tt_ar rfl ?_
              refine tt_ar rfl ?_
              have hds := (en_at hk6 (show hn < nkT k by omega)).2.1
              refine tt_cv2 2 rfl (wo_76 hW) (c224 A σ k nm ns D hA hW hR hn (by omega)) (kp ?_)
              refine tt_nop ?_
              refine tt_iret ?_
              exact pm_same hR (show x_mark ns A un q = (vI (((dsN 6 (tb k hn) : Nat) : Int)), A) by unfold x_mark tlN; simp only [Int.toNat_natCast, hs47]; rw [if_pos (by omega), if_pos (by omega), if_neg (by omega), if_pos (by omega), hdt, hop]; show (vI (evN p0), A) = _; rw [ev_ds hp0]) QR.rf
            · refine tt_ar rfl ?_
              refine tt_goto ?_
              refine tt_iret ?_
              exact pm_same hR (show x_mark ns A un q = (vI (-9), A) by unfold x_mark tlN; simp only [Int.toNat_natCast, hs47]; rw [if_pos (by omega), if_pos (by omega), if_neg (by omega), if_pos (by omega), hdt, hz1.not (by omega)]) QR.rf
      · refine tt_ifneF (by decide) ?_
        refine tt_ar rfl ?_
        refine tt_ar rfl ?_
        refine tt_cv2 2 rfl (wo_76 hW) (c179 σ 3 hW (by omega)) (ks ?_)
        refine tt_iret ?_
        exact pm_mt (f := 3) hR (by decide) (show x_mark ns A un q = (vI (-3), upF 3 A) by unfold x_mark; simp only [Int.toNat_natCast, hs47]; rw [if_pos (by omega), if_neg (by omega)]) QR.rf
    · refine tt_ifneF (by decide) ?_
      refine tt_nop ?_
      refine tt_ar rfl ?_
      refine tt_iret ?_
      exact pm_any (M := A) hR (show x_mark ns A u q = (vI (-1), A) by unfold x_mark; (try simp only [Int.toNat_natCast, hs47]); (repeat (first | rw [if_pos (by omega)] | rw [if_neg (by omega)])); (first | done | rfl)) QR.rf
  · refine tt_ifeqT (by decide) ?_
    refine tt_ar rfl ?_
    refine tt_iret ?_
    exact pm_any (M := A) hR (show x_mark ns A u q = (vI (-1), A) by unfold x_mark; (try simp only [Int.toNat_natCast, hs47]); (repeat (first | rw [if_pos (by omega)] | rw [if_neg (by omega)])); (first | done | rfl)) QR.rf

