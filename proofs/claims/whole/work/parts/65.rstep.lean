/-! THE REFERENCE: ALL STEPS -/
section ST
variable {k nm ns : Nat} {D : Nat → Nat → Int} {A σ σ' : am_S}
theorem RRb.o94 (h : RRb k nm ns D A σ) (h31 : σ.1 76 31 = 0) (hF : Fr [94, 95, 96, 97] σ σ') : RRb k nm ns D A σ' := by
  have s : ∀ a, (a ≠ 94 ∧ a ≠ 95 ∧ a ≠ 96 ∧ a ≠ 97) → σ'.1 a = σ.1 a := fun a ha => funext (hF.2 a (by simp only [List.mem_cons, List.not_mem_nil, or_false, not_or]; exact ha))
  obtain ⟨a, b, c, d, t, w, l, s1, hh, -⟩ := h
  exact ⟨a, by rw [s 76 (by omega)]; exact b, by rw [s 77 (by omega)]; exact c, by rw [s 78 (by omega), s 79 (by omega)]; exact d, by rw [s 81 (by omega), s 82 (by omega)]; exact t, by rw [s 76 (by omega), s 83 (by omega), s 84 (by omega), s 85 (by omega), s 86 (by omega)]; exact w, by rw [s 76 (by omega), s 91 (by omega)]; exact l, by rw [s 76 (by omega), s 104 (by omega)]; exact s1, by rw [s 76 (by omega), s 92 (by omega), s 93 (by omega)]; exact hh, Or.inl (by rw [s 76 (by omega)]; exact h31)⟩
theorem RRb.stp (h : RRb k nm ns D A σ) (hI : DI k (A.1 6) (A.1 9) D) (h94 : ∀ a, a < nkT k → ∀ b, b < nkT k → σ.1 94 (462 * a + b) = D a b) : RRb k nm ns D A (am_set σ 76 31 1) := by
  obtain ⟨a, b, c, d, t, w, l, s1, hh, -⟩ := h
  exact ⟨a, b, c, d, t, w, l, s1, hh, Or.inr ⟨rfl, hI, h94⟩⟩
end ST
theorem c229 (A σ : am_S) (k nm ns : Nat) (D : Nat → Nat → Int) (hA : CI k nm ns D A) (hW : Wd σ) (hR : RRb k nm ns D A σ) : CC 229 [vR 76] σ (fun r σ' => r = none ∧ RRb k nm ns D A σ' ∧ σ'.1 76 31 = 1 ∧ Fr [76, 94, 95, 96, 97] σ σ' ∧ ∀ j, j ≠ 31 → σ'.1 76 j = σ.1 76 j) := by
  show TT am_b229 (am_b229.getD 0 []) [(0, vR 76)] [] σ _
  have hk5 := hR.aa.1
  have hl27 := hR.aa.2.1
  have hs47 := hR.aa.2.2
  have hk6 := hA.x.1.2.1
  have hm12 := hA.x.2.2.1.2.1
  have hs16 := hA.st.2
  have hDA := hA.x.1
  have hHT := hA.x.2.1
  have hLA := hA.x.2.2.1
  have hHB := HB_of hDA hHT
  have hnb := nkT_bd k
  have h3b : σ.1 76 31 = 0 ∨ σ.1 76 31 = 1 := by rcases hR.sp with q | q; exact Or.inl q; exact Or.inr q.1
  refine tt_ar rfl ?_
  refine tt_getZ (x := σ.1 76 (31)) (wo_76 hW) rfl rfl ?_
  refine tt_ifne (fun h0_2 => ?_) (fun h0_2 => ?_)
  · refine tt_vret ?_
    have h31 : σ.1 76 31 = 1 := by rcases hR.sp with q | q; (exfalso; omega); exact q.1
    exact ⟨rfl, hR, h31, Fr.rf, fun _ _ => rfl⟩
  · refine tt_ar rfl ?_
    have h31 : σ.1 76 31 = 0 := by omega
    refine tt_cv1 1 rfl (wo_76 hW) (c230 A σ k nm ns D hA hW hR) ?_
    intro r0 σ2 hq0
    obtain ⟨rfl, hF2, hN⟩ := hq0
    have hW1 := Fr.wd hF2 hW
    refine tt_ar rfl ?_
    refine tt_ar rfl ?_
    refine tt_nop ?_
    have lp1_2 : ∀ (μ : Nat) (h : Nat) (σ1 : am_S), nkT k - h < μ → Fr [94, 95, 96] σ2 σ1 → (h ≤ nkT k) → (∀ g, g < h → ∀ u, u < nkT k → σ1.1 94 (462 * g + u) = D g u) → TT am_b229 (am_b229.getD 1 []) [(0, vR 76), (1, vI (((h : Nat) : Int)))] [] σ1 (fun r σ' => r = none ∧ RRb k nm ns D A σ' ∧ σ'.1 76 31 = 1 ∧ Fr [76, 94, 95, 96, 97] σ σ' ∧ ∀ j, j ≠ 31 → σ'.1 76 j = σ.1 76 j) := by
      intro μ
      induction μ with
      | zero => intro h σ1 hμ; exact absurd hμ (Nat.not_lt_zero _)
      | succ μ ih1 =>
        intro h σ1 hμ hF_σ1 hh hS
        have hW_σ1 := Fr.wd hF_σ1 hW1
        have hRl := hR.o94 h31 (Fr.tr (Fr.mono hF2 (by decide)) hF_σ1 (by decide))
        have hNl : ∀ h, h < nkT k → ∀ j, j < 18 → NXQ k (GP (A.1 6)) h (j / 3) (j % 3) (σ1.1 97 (18 * h + j)) := fun h hh j hj => by rw [hF_σ1.2 97 (by decide)]; exact hN h hh j hj
        refine tt_ar rfl ?_
        refine tt_ar rfl ?_
        refine tt_getI (x := ((nkT k : Nat) : Int)) (wo_76 hW_σ1) rfl (((hF_σ1.2 76 (by decide) (27)).trans (hF2.2 76 (by decide) (27))).trans hR.hs.1) ?_
        refine tt_icge (fun h1_3 => ?_) (fun h1_3 => ?_)
        · refine tt_ar rfl ?_
          refine tt_ar rfl ?_
          refine tt_putZ (wo_76 hW_σ1) rfl (by omega) ?_
          refine tt_nop ?_
          refine tt_vret ?_
          have eh : h = nkT k := by omega
          rw [eh] at hS
          exact ⟨rfl, hRl.stp hA.x.2.2.2 hS, rfl, (Fr.put (Fr.tr (Fr.tr Fr.rf hF2 (by decide)) hF_σ1 (by decide)) (by decide)), fun j hj => (am_set_at).trans ((if_neg hj).trans ((hF_σ1.2 76 (by decide) j).trans (hF2.2 76 (by decide) j)))⟩
        · refine tt_ar rfl ?_
          refine tt_ar rfl ?_
          refine tt_cv2 2 rfl (wo_76 hW_σ1) (c232 A σ1 k nm ns D hA hW_σ1 hRl hNl hA.x.2.2.2 h (by omega)) ?_
          intro r0 σ3 hq0
          obtain ⟨rfl, hF3, hD3, hO3⟩ := hq0
          have hW3 := Fr.wd hF3 hW_σ1
          refine tt_iinc (y := ((h + 1 : Nat) : Int)) rfl (iinc_fit (by omega) (by omega) (by omega)) ?_
          refine tt_goto ?_
          refine tt_loc [(0, vR 76), (1, vI (((h + 1 : Nat) : Int)))] rfl rfl ⟨rfl, rfl, trivial⟩ ?_
          exact ih1 (h + 1) σ3 (by omega) (Fr.tr (Fr.tr Fr.rf hF_σ1 (by decide)) hF3 (by decide)) (by omega) (fun g hg u hu => by by_cases e : g = h; (rw [e]; exact hD3 u hu); (rw [hO3 _ (by omega)]; exact hS g (by omega) u hu))
    refine tt_loc [(0, vR 76), (1, vI (((0 : Nat) : Int)))] rfl rfl ⟨rfl, lv_to rfl (by omega), trivial⟩ ?_
    exact lp1_2 _ (0) σ2 (Nat.lt_succ_self _) Fr.rf (by omega) (fun g hg => absurd hg (Nat.not_lt_zero g))

theorem RRb.dd {k nm ns : Nat} {D : Nat → Nat → Int} {A σ : am_S} (h : RRb k nm ns D A σ) (h31 : σ.1 76 31 = 1) : ∀ a, a < nkT k → ∀ b, b < nkT k → σ.1 94 (462 * a + b) = D a b := by
  rcases h.sp with q | q
  · omega
  · exact q.2.2
theorem c233 (A σ : am_S) (k nm ns : Nat) (D : Nat → Nat → Int) (hA : CI k nm ns D A) (hW : Wd σ) (hR : RRb k nm ns D A σ) (h31 : σ.1 76 31 = 1) (a b : Nat) (ha : a < nkT k) (hb : b < nkT k) : CC 233 [vR 76, vI (((a : Nat) : Int)), vI (((b : Nat) : Int))] σ (fun r σ' => r = some (vI (D a b)) ∧ σ' = σ) := by
  show TT am_b233 (am_b233.getD 0 []) [(0, vR 76), (1, vI (((a : Nat) : Int))), (2, vI (((b : Nat) : Int)))] [] σ _
  have hk5 := hR.aa.1
  have hl27 := hR.aa.2.1
  have hs47 := hR.aa.2.2
  have hk6 := hA.x.1.2.1
  have hm12 := hA.x.2.2.1.2.1
  have hs16 := hA.st.2
  have hDA := hA.x.1
  have hHT := hA.x.2.1
  have hLA := hA.x.2.2.1
  have hHB := HB_of hDA hHT
  have hnb := nkT_bd k
  refine tt_ar rfl ?_
  refine tt_getR (wo_76 hW) rfl (wr_76_32 hW) ?_
  refine tt_ar rfl ?_
  refine tt_ar rfl ?_
  refine tt_imul (by omega) (by omega) ?_
  refine tt_ar rfl ?_
  refine tt_iadd (by omega) (by omega) ?_
  refine tt_iald (((462 * a) + b)) (x := σ.1 94 (((462 * a) + b))) (wa_94 hW) (by omega) (by omega) rfl ?_
  refine tt_iret ?_
  exact ⟨rv (hR.dd h31 a ha b hb), rfl⟩

theorem c228 (A σ : am_S) (k nm ns : Nat) (D : Nat → Nat → Int) (hA : CI k nm ns D A) (hW : Wd σ) (hR : RRb k nm ns D A σ) (u v : Int) : CC 228 [vR 76, vI (u), vI (v)] σ (fun r σ' => PMd A σ (x_step k D A u v) r σ') := by
  show TT am_b228 (am_b228.getD 0 []) [(0, vR 76), (1, vI (u)), (2, vI (v))] [] σ _
  have hk5 := hR.aa.1
  have hl27 := hR.aa.2.1
  have hs47 := hR.aa.2.2
  have hk6 := hA.x.1.2.1
  have hm12 := hA.x.2.2.1.2.1
  have hs16 := hA.st.2
  have hDA := hA.x.1
  have hHT := hA.x.2.1
  have hLA := hA.x.2.2.1
  have hHB := HB_of hDA hHT
  have hnb := nkT_bd k
  refine tt_ar rfl ?_
  refine tt_ar rfl ?_
  have hpl_u := plR_c k u
  refine tt_cv2 2 rfl (wo_76 hW) (c214 A σ k nm ns D hA hW hR (u)) (kp ?_)
  refine tt_ar rfl ?_
  refine tt_ar rfl ?_
  refine tt_ar rfl ?_
  have hpl_v := plR_c k v
  refine tt_cv2 2 rfl (wo_76 hW) (c214 A σ k nm ns D hA hW hR (v)) (kp ?_)
  refine tt_ar rfl ?_
  refine tt_ar rfl ?_
  refine tt_iflt (fun h0_9 => ?_) (fun h0_9 => ?_)
  · refine tt_ar rfl ?_
    refine tt_iret ?_
    exact pm_any (M := A) hR (show x_step k D A u v = (vI (-1), A) by unfold x_step; (try simp only [Int.toNat_natCast]); (repeat (first | rw [if_pos (by omega)] | rw [if_neg (by omega)])); (first | done | rfl)) QR.rf
  · refine tt_ar rfl ?_
    refine tt_ifge (fun h0_11 => ?_) (fun h0_11 => ?_)
    · obtain ⟨hu, hhu⟩ : ∃ hu : Nat, ix k u = (hu : Int) := ⟨_, (Int.toNat_of_nonneg (by omega)).symm⟩
      have bhu : hu < nkT k := by have := ix_bd hk6 u; omega
      refine tt_loc [(0, vR 76), (3, vI (((hu : Nat) : Int))), (4, vI (plR k v))] rfl rfl ⟨rfl, lv_to rfl (by omega), rfl, trivial⟩ ?_
      obtain ⟨hv, hhv⟩ : ∃ hv : Nat, ix k v = (hv : Int) := ⟨_, (Int.toNat_of_nonneg (by omega)).symm⟩
      have bhv : hv < nkT k := by have := ix_bd hk6 v; omega
      refine tt_loc [(0, vR 76), (3, vI (((hu : Nat) : Int))), (4, vI (((hv : Nat) : Int)))] rfl rfl ⟨rfl, rfl, lv_to rfl (by omega), trivial⟩ ?_
      refine tt_ar rfl ?_
      refine tt_cv1 1 rfl (wo_76 hW) (c229 A σ k nm ns D hA hW hR) ?_
      intro r0 σ2 hq0
      obtain ⟨rfl, hRs, h31s, hF2, hKs⟩ := hq0
      have hW1 := Fr.wd hF2 hW
      refine tt_ar rfl ?_
      refine tt_ar rfl ?_
      refine tt_ar rfl ?_
      refine tt_cv3 3 rfl (wo_76 hW1) (c233 A σ2 k nm ns D hA hW1 hRs h31s hu hv (by omega) (by omega)) (kp ?_)
      refine tt_iret ?_
      exact pm_same hRs (show x_step k D A u v = (vI (D hu hv), A) by unfold x_step; (try simp only [Int.toNat_natCast, hhu, hhv]); (repeat (first | rw [if_pos (by omega)] | rw [if_neg (by omega)])); (first | done | rfl)) (QR.of hF2 (by decide))
    · refine tt_nop ?_
      refine tt_ar rfl ?_
      refine tt_iret ?_
      exact pm_any (M := A) hR (show x_step k D A u v = (vI (-1), A) by unfold x_step; (try simp only [Int.toNat_natCast]); (repeat (first | rw [if_pos (by omega)] | rw [if_neg (by omega)])); (first | done | rfl)) QR.rf

