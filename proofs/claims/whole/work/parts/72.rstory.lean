/-! THE REFERENCE'S CALLS: HAPPENINGS -/
def HPr (k : Nat) (z : Int) (o : Option (Nat → Int)) : Prop := (z < 0 ∧ o = none) ∨ (∃ h : Nat, z = (h : Int) ∧ h < nkT k ∧ ∃ p, o = some p ∧ ∀ s, s < 6 → p s = (dg (tb k h) s : Int))
theorem ev_ds {num : Nat} {p : Nat → Int} (hp : ∀ s, s < 6 → p s = (dg num s : Int)) : evN p = ((dsN 6 num : Nat) : Int) := by
  rw [dsN_cast]
  exact sumN_congr hp
theorem hp_come {k h s : Nat} {P : Nat → Nat → Prop} {z : Int} {p : Nat → Int} (hk : k ≤ 6) (hh : h < nkT k) (hs : s < k) (hp : ∀ s, s < 6 → p s = (dg (tb k h) s : Int)) (H : NXQ k P h s 0 z) : HPr k z (jnN (s : Int) p) := by
  have he := ev_ds hp
  unfold jnN
  rcases H.1 with e | e
  · refine Or.inl ⟨by omega, if_pos (Or.inr ?_)⟩
    rw [he]
    rcases Nat.lt_or_ge (dsN 6 (tb k h)) 5 with q | q
    · obtain ⟨u, hu⟩ := MM2.more hk hh hs q
      have := (H.2 u).mp (Or.inl ⟨rfl, hu⟩)
      omega
    · omega
  · obtain ⟨u, hu⟩ : ∃ u : Nat, z = (u : Int) := ⟨_, (Int.toNat_of_nonneg e.1).symm⟩
    rcases (H.2 u).mpr hu with ⟨-, m⟩ | ⟨q, -⟩ | ⟨q, -⟩
    · have h1 := m.ds hk
      have h2 := (en_at hk m.2.2.1).2.1
      refine Or.inr ⟨u, hu, m.2.2.1, _, if_neg (by rw [he]; omega), fun t ht => ?_⟩
      have h3 := m.dgs hk t ht
      have h4 := hp t ht
      unfold upI
      rw [Int.toNat_natCast]
      by_cases q : t = s
      · rw [if_pos q]
        rw [if_pos q] at h3
        rw [← q, h4, h3]
        omega
      · rw [if_neg q]
        rw [if_neg q] at h3
        rw [h4, h3]
        omega
    · omega
    · omega
theorem hp_gone {k h s : Nat} {P : Nat → Nat → Prop} {z : Int} {p : Nat → Int} (hk : k ≤ 6) (hh : h < nkT k) (hs : s < k) (hp : ∀ s, s < 6 → p s = (dg (tb k h) s : Int)) (H : NXQ k P h s 1 z) : HPr k z (lvN s p) := by
  have h0 := hp s (by omega)
  unfold lvN
  rcases H.1 with e | e
  · refine Or.inl ⟨by omega, if_pos ?_⟩
    rcases Nat.eq_zero_or_pos (dg (tb k h) s) with q | q
    · omega
    · obtain ⟨u, hu⟩ := MM2.less hk hh hs q
      have := (H.2 u).mp (Or.inr (Or.inl ⟨rfl, hu⟩))
      omega
  · obtain ⟨u, hu⟩ : ∃ u : Nat, z = (u : Int) := ⟨_, (Int.toNat_of_nonneg e.1).symm⟩
    rcases (H.2 u).mpr hu with ⟨q, -⟩ | ⟨-, m⟩ | ⟨q, -⟩
    · omega
    · have h1 := m.dgs hk s (by omega)
      rw [if_pos rfl] at h1
      refine Or.inr ⟨u, hu, m.2.1, _, if_neg (by omega), fun t ht => ?_⟩
      have h3 := m.dgs hk t ht
      have h4 := hp t ht
      unfold upI
      by_cases q : t = s
      · rw [if_pos q]
        rw [if_pos q] at h3
        rw [← q, h4, h3]
        omega
      · rw [if_neg q]
        rw [if_neg q] at h3
        rw [h4, h3]
        omega
    · omega
theorem hp_lv {k a s h : Nat} {p : Nat → Int} (hk : k ≤ 6) (m : MM2 k a s h) (hp : ∀ s, s < 6 → p s = (dg (tb k h) s : Int)) : ∃ q, lvN s p = some q ∧ ∀ t, t < 6 → q t = (dg (tb k a) t : Int) := by
  have h1 := m.dgs hk s (by have := m.1; omega)
  rw [if_pos rfl] at h1
  have h0 := hp s (by have := m.1; omega)
  refine ⟨_, if_neg (by omega), fun t ht => ?_⟩
  have h3 := m.dgs hk t ht
  have h4 := hp t ht
  unfold upI
  by_cases q : t = s
  · rw [if_pos q]
    rw [if_pos q] at h3
    rw [← q, h4, h3]
    omega
  · rw [if_neg q]
    rw [if_neg q] at h3
    rw [h4, h3]
    omega
theorem hp_grown {k h s : Nat} {into : Nat → Int} {z : Int} {p : Nat → Int} (hk : k ≤ 6) (hi : into s = -9 ∨ (0 ≤ into s ∧ into s < (k : Int))) (hh : h < nkT k) (hs : s < k) (hp : ∀ s, s < 6 → p s = (dg (tb k h) s : Int)) (H : NXQ k (GP into) h s 2 z) : HPr k z ((lvN s p).bind (jnN (into s))) := by
  have h0 := hp s (by omega)
  rcases Nat.eq_zero_or_pos (dg (tb k h) s) with q | q
  · have e1 : lvN s p = none := if_pos (by omega)
    rw [e1]
    refine Or.inl ⟨?_, rfl⟩
    rcases H.1 with e | e
    · omega
    · obtain ⟨u, hu⟩ : ∃ u : Nat, z = (u : Int) := ⟨_, (Int.toNat_of_nonneg e.1).symm⟩
      rcases (H.2 u).mpr hu with ⟨w, -⟩ | ⟨w, -⟩ | ⟨-, a, t, -, m, -⟩
      · omega
      · omega
      · have := m.dgs hk s (by omega)
        rw [if_pos rfl] at this
        omega
  · obtain ⟨a, ha⟩ := MM2.less hk hh hs q
    obtain ⟨p1, e1, hp1⟩ := hp_lv hk ha hp
    rw [e1]
    show HPr k z (jnN (into s) p1)
    rcases hi with e | e
    · refine Or.inl ⟨?_, if_pos (Or.inl (by omega))⟩
      rcases H.1 with w | w
      · omega
      · obtain ⟨u, hu⟩ : ∃ u : Nat, z = (u : Int) := ⟨_, (Int.toNat_of_nonneg w.1).symm⟩
        rcases (H.2 u).mpr hu with ⟨y, -⟩ | ⟨y, -⟩ | ⟨-, b, t, g, -, -⟩
        · omega
        · omega
        · have g : foP into s = some t := g
          unfold foP at g
          rw [if_neg (by omega)] at g
          cases g
    · obtain ⟨t, ht⟩ : ∃ t : Nat, into s = (t : Int) := ⟨_, (Int.toNat_of_nonneg e.1).symm⟩
      have hg : GP into s t := by
        show foP into s = some t
        unfold foP
        rw [if_pos (by omega), ht]
        rfl
      rw [ht]
      refine hp_come (P := GP into) hk ha.2.1 (by omega) hp1 ⟨H.1, fun u => ?_⟩
      rw [← H.2 u]
      constructor
      · rintro (⟨-, m⟩ | ⟨y, -⟩ | ⟨y, -⟩)
        · exact Or.inr (Or.inr ⟨rfl, a, t, hg, ha, m⟩)
        · omega
        · omega
      · rintro (⟨y, -⟩ | ⟨y, -⟩ | ⟨-, b, t', g, m1, m2⟩)
        · omega
        · omega
        · have : t' = t := by
            have g1 : foP into s = some t' := g
            have g2 : foP into s = some t := hg
            rw [g1] at g2
            cases g2
            rfl
          subst this
          have := ha.inj hk m1
          subst this
          exact Or.inl ⟨rfl, m2⟩
theorem dy_none {into K D A : Nat → Int} {d e : Nat} {p : Nat → Int} (h : dyS into K D A d e p = none) : ∀ x, dyS into K D A d (e + x) p = none
  | 0 => h
  | x + 1 => by
    show (dyS into K D A d (e + x) p).bind _ = none
    rw [dy_none h x]
    rfl
theorem bd_none {into K D A : Nat → Int} {d e n : Nat} {o : Option (Nat → Int)} (h : o.bind (dyS into K D A d e) = none) (hn : e ≤ n) : o.bind (dyS into K D A d n) = none := by
  cases o with
  | none => rfl
  | some p =>
    have h : dyS into K D A d e p = none := h
    have := dy_none h (n - e)
    rw [show e + (n - e) = n by omega] at this
    exact this
theorem bd_s {into K D A : Nat → Int} {d e : Nat} {o : Option (Nat → Int)} : o.bind (dyS into K D A d (e + 1)) = (o.bind (dyS into K D A d e)).bind (fun q => if D e = (d : Int) then evS into K A e q else some q) := by
  cases o with
  | none => rfl
  | some p => rfl
theorem HPr.not {k : Nat} {z : Int} {o : Option (Nat → Int)} (h : HPr k z o) (hz : z < 0) : o = none := by
  rcases h with ⟨-, h⟩ | ⟨u, h1, -⟩
  · exact h
  · omega
theorem HPr.yes {k : Nat} {z : Int} {o : Option (Nat → Int)} (h : HPr k z o) (hz : 0 ≤ z) : ∃ u : Nat, z = (u : Int) ∧ u < nkT k ∧ ∃ p, o = some p ∧ ∀ s, s < 6 → p s = (dg (tb k u) s : Int) := by
  rcases h with ⟨h, -⟩ | h
  · omega
  · exact h
theorem c252 (A σ : am_S) (k nm ns : Nat) (D : Nat → Nat → Int) (hA : CI k nm ns D A) (hW : Wd σ) (hR : RRb k nm ns D A σ) (e w : Nat) (he : e < ns) (hw : w < 4) : CC 252 [vR 76, vI (((e : Nat) : Int)), vI (((w : Nat) : Int))] σ (fun r σ' => r = some (vI (stD A e w)) ∧ σ' = σ) := by
  show TT am_b252 (am_b252.getD 0 []) [(0, vR 76), (1, vI (((e : Nat) : Int))), (2, vI (((w : Nat) : Int)))] [] σ _
  have hmx := hA.st.2
  refine tt_ar rfl ?_
  refine tt_getR (wo_76 hW) rfl (wr_76_44 hW) ?_
  refine tt_ar rfl ?_
  refine tt_ar rfl ?_
  refine tt_imul (by omega) (by omega) ?_
  refine tt_ar rfl ?_
  refine tt_iadd (by omega) (by omega) ?_
  refine tt_iald (((4 * e) + w)) (x := σ.1 104 (((4 * e) + w))) (wa_104 hW) (by omega) (by omega) rfl ?_
  refine tt_iret ?_
  exact ⟨rv (hR.st.2 e he w hw), rfl⟩

theorem c254 (σ : am_S) (a b : Int) : CC 254 [vI (a), vI (b)] σ (fun r σ' => σ' = σ ∧ ((a = b ∨ (b = 1 ∧ a = 5)) ∧ r = some (vI 1) ∨ ¬(a = b ∨ (b = 1 ∧ a = 5)) ∧ r = some (vI 0))) := by
  show TT am_b254 (am_b254.getD 0 []) [(0, vI (a)), (1, vI (b))] [] σ _
  refine tt_ar rfl ?_
  refine tt_ar rfl ?_
  refine tt_iceq (fun h0_2 => ?_) (fun h0_2 => ?_)
  · refine tt_ar rfl ?_
    refine tt_goto ?_
    refine tt_zret (by omega) ?_
    exact ⟨rfl, Or.inl ⟨by omega, rfl⟩⟩
  · refine tt_ar rfl ?_
    refine tt_ar rfl ?_
    refine tt_icne (fun h0_5 => ?_) (fun h0_5 => ?_)
    · refine tt_ar rfl ?_
      refine tt_nop ?_
      refine tt_zret (by omega) ?_
      exact ⟨rfl, Or.inr ⟨by omega, rfl⟩⟩
    · refine tt_ar rfl ?_
      refine tt_ar rfl ?_
      refine tt_icne (fun h0_8 => ?_) (fun h0_8 => ?_)
      · refine tt_ar rfl ?_
        refine tt_nop ?_
        refine tt_zret (by omega) ?_
        exact ⟨rfl, Or.inr ⟨by omega, rfl⟩⟩
      · refine tt_nop ?_
        refine tt_ar rfl ?_
        refine tt_goto ?_
        refine tt_zret (by omega) ?_
        exact ⟨rfl, Or.inl ⟨by omega, rfl⟩⟩

theorem c255 (A σ : am_S) (k nm ns : Nat) (D : Nat → Nat → Int) (hA : CI k nm ns D A) (hW : Wd σ) (hR : RRb k nm ns D A σ) (q : Nat) (hq : q < 12) : CC 255 [vR 76, vI (((q : Nat) : Int))] σ (fun r σ' => ∃ z : Int, HPr k z (toS (A.1 6) (A.1 48) (A.1 49) (A.1 50) ns (q + 1)) ∧ σ' = σ ∧ r = some (vI z)) := by
  show TT am_b255 (am_b255.getD 0 []) [(0, vR 76), (1, vI (((q : Nat) : Int)))] [] σ _
  have hk5 := hR.aa.1
  have hl27 := hR.aa.2.1
  have hs47 := hR.aa.2.2
  have hk6 := hA.x.1.2.1
  have hm12 := hA.x.2.2.1.2.1
  have hs16 := hA.st.2
  have hDA := hA.x.1
  have hHT := hA.x.2.1
  have hLA := hA.x.2.2.1
  have hHB := HB_of hDA hHT
  have hnb := nkT_bd k
  have hsh := hA.sh
  refine tt_ar rfl ?_
  refine tt_ar rfl ?_
  refine tt_ar rfl ?_
  refine tt_ar rfl ?_
  refine tt_nop ?_
  have lp1_1 : ∀ (μ : Nat) (m : Nat) (z : Int), q + 1 - m < μ → (m ≤ q + 1) → (HPr k z (toS (A.1 6) (A.1 48) (A.1 49) (A.1 50) ns m)) → (z = -9 ∨ (0 ≤ z ∧ z < (nkT k : Int))) → TT am_b255 (am_b255.getD 1 []) [(0, vR 76), (1, vI (((q : Nat) : Int))), (2, vI (z)), (3, vI (((m : Nat) : Int)))] [] σ (fun r σ' => ∃ z : Int, HPr k z (toS (A.1 6) (A.1 48) (A.1 49) (A.1 50) ns (q + 1)) ∧ σ' = σ ∧ r = some (vI z)) := by
    intro μ
    induction μ with
    | zero => intro m z hμ; exact absurd hμ (Nat.not_lt_zero _)
    | succ μ ih1 =>
      intro m z hμ hm hz hzb
      refine tt_ar rfl ?_
      refine tt_ar rfl ?_
      refine tt_icgt (fun h1_2 => ?_) (fun h1_2 => ?_)
      · refine tt_ar rfl ?_
        refine tt_iret ?_
        have em : m = q + 1 := by omega
        subst em
        exact ⟨z, hz, rfl, rfl⟩
      · refine tt_ar rfl ?_
        refine tt_ar rfl ?_
        refine tt_nop ?_
        have lp2_2 : ∀ (μ : Nat) (e : Nat) (z2 : Int), ns - e < μ → (e ≤ ns) → (HPr k z2 ((toS (A.1 6) (A.1 48) (A.1 49) (A.1 50) ns m).bind (dyS (A.1 6) (A.1 48) (A.1 49) (A.1 50) m e))) → (z2 = -9 ∨ (0 ≤ z2 ∧ z2 < (nkT k : Int))) → TT am_b255 (am_b255.getD 2 []) [(0, vR 76), (1, vI (((q : Nat) : Int))), (2, vI (z2)), (3, vI (((m : Nat) : Int))), (4, vI (((e : Nat) : Int)))] [] σ (fun r σ' => ∃ z : Int, HPr k z (toS (A.1 6) (A.1 48) (A.1 49) (A.1 50) ns (q + 1)) ∧ σ' = σ ∧ r = some (vI z)) := by
          intro μ
          induction μ with
          | zero => intro e z2 hμ; exact absurd hμ (Nat.not_lt_zero _)
          | succ μ ih2 =>
            intro e z2 hμ he hz2 hzb2
            refine tt_ar rfl ?_
            refine tt_ar rfl ?_
            refine tt_getI (x := ((ns : Nat) : Int)) (wo_76 hW) rfl hR.st.1 ?_
            refine tt_icge (fun h2_3 => ?_) (fun h2_3 => ?_)
            · have hzn : HPr k z2 ((toS (A.1 6) (A.1 48) (A.1 49) (A.1 50) ns m).bind (dyS (A.1 6) (A.1 48) (A.1 49) (A.1 50) m ns)) := by
                by_cases hn : z2 < 0
                · exact Or.inl ⟨hn, bd_none (hz2.not hn) (by omega)⟩
                · have es : e = ns := by omega
                  rw [es] at hz2
                  exact hz2
              refine tt_iinc (y := ((m + 1 : Nat) : Int)) rfl (iinc_fit (by omega) (by omega) (by omega)) ?_
              refine tt_goto ?_
              refine tt_loc [(0, vR 76), (1, vI (((q : Nat) : Int))), (2, vI (z2)), (3, vI (((m + 1 : Nat) : Int)))] rfl rfl ⟨rfl, rfl, rfl, rfl, trivial⟩ ?_
              exact ih1 (m + 1) (z2) (by omega) (by omega) (show HPr k z2 ((toS (A.1 6) (A.1 48) (A.1 49) (A.1 50) ns m).bind (dyS (A.1 6) (A.1 48) (A.1 49) (A.1 50) m ns)) from hzn) hzb2
            · refine tt_ar rfl ?_
              refine tt_iflt (fun h2_5 => ?_) (fun h2_5 => ?_)
              · have hzn : HPr k z2 ((toS (A.1 6) (A.1 48) (A.1 49) (A.1 50) ns m).bind (dyS (A.1 6) (A.1 48) (A.1 49) (A.1 50) m ns)) := by
                  by_cases hn : z2 < 0
                  · exact Or.inl ⟨hn, bd_none (hz2.not hn) (by omega)⟩
                  · have es : e = ns := by omega
                    rw [es] at hz2
                    exact hz2
                refine tt_iinc (y := ((m + 1 : Nat) : Int)) rfl (iinc_fit (by omega) (by omega) (by omega)) ?_
                refine tt_goto ?_
                refine tt_loc [(0, vR 76), (1, vI (((q : Nat) : Int))), (2, vI (z2)), (3, vI (((m + 1 : Nat) : Int)))] rfl rfl ⟨rfl, rfl, rfl, rfl, trivial⟩ ?_
                exact ih1 (m + 1) (z2) (by omega) (by omega) (show HPr k z2 ((toS (A.1 6) (A.1 48) (A.1 49) (A.1 50) ns m).bind (dyS (A.1 6) (A.1 48) (A.1 49) (A.1 50) m ns)) from hzn) hzb2
              · obtain ⟨u, hzu, hu, p0, hop, hp0⟩ := hz2.yes (by omega)
                have hK : stD A e 0 = A.1 48 e := rfl
                have hDd : stD A e 1 = A.1 49 e := rfl
                have hAa : stD A e 2 = A.1 50 e := rfl
                have hBb : stD A e 3 = A.1 51 e := rfl
                have hse := hsh.2 e (by omega)
                refine tt_ar rfl ?_
                refine tt_ar rfl ?_
                refine tt_ar rfl ?_
                refine tt_cv3 3 rfl (wo_76 hW) (c252 A σ k nm ns D hA hW hR e 1 (by omega) (by omega)) (kp ?_)
                refine tt_ar rfl ?_
                refine tt_icne (fun h2_11 => ?_) (fun h2_11 => ?_)
                · refine tt_iinc (y := ((e + 1 : Nat) : Int)) rfl (iinc_fit (by omega) (by omega) (by omega)) ?_
                  refine tt_goto ?_
                  refine tt_loc [(0, vR 76), (1, vI (((q : Nat) : Int))), (2, vI (z2)), (3, vI (((m : Nat) : Int))), (4, vI (((e + 1 : Nat) : Int)))] rfl rfl ⟨rfl, rfl, rfl, rfl, rfl, trivial⟩ ?_
                  exact ih2 (e + 1) (z2) (by omega) (by omega) (by rw [bd_s, hop]; show HPr k _ (if A.1 49 e = (m : Int) then evS (A.1 6) (A.1 48) (A.1 50) e p0 else some p0); first | (rw [if_neg (by omega)]; exact Or.inr ⟨u, hzu, hu, p0, rfl, hp0⟩) | (rw [if_pos (by omega)]; unfold evS; rw [if_neg (by omega), if_neg (by omega), if_neg (by omega)]; exact Or.inr ⟨u, hzu, hu, p0, rfl, hp0⟩) | (rw [if_pos (by omega)]; exact hev)) (by first | exact hzb2 | exact hz9.1)
                · refine tt_ar rfl ?_
                  refine tt_ar rfl ?_
                  refine tt_ar rfl ?_
                  refine tt_cv3 3 rfl (wo_76 hW) (c252 A σ k nm ns D hA hW hR e 0 (by omega) (by omega)) (kp ?_)
                  refine tt_ar rfl ?_
                  refine tt_ar rfl ?_
                  refine tt_cs3 3 rfl (c175 _ _ _ _) (kb (fun h2_18 => ?_) (fun h2_18 => ?_))
                  · refine tt_ifeqF (by decide) ?_
                    refine tt_ar rfl ?_
                    refine tt_ar rfl ?_
                    refine tt_ar rfl ?_
                    refine tt_ar rfl ?_
                    refine tt_ar rfl ?_
                    refine tt_cv3 3 rfl (wo_76 hW) (c252 A σ k nm ns D hA hW hR e 2 (by omega) (by omega)) (kp ?_)
                    refine tt_ar rfl ?_
                    refine tt_ar rfl ?_
                    refine tt_ar rfl ?_
                    refine tt_cv3 3 rfl (wo_76 hW) (c252 A σ k nm ns D hA hW hR e 0 (by omega) (by omega)) (kp ?_)
                    refine tt_ar rfl ?_
                    refine tt_isub (by omega) (by omega) ?_
                    obtain ⟨sn, hsn⟩ : ∃ n : Nat, A.1 50 e = (n : Int) := ⟨_, (Int.toNat_of_nonneg (by omega)).symm⟩
                    obtain ⟨how, hhow⟩ : ∃ n : Nat, A.1 48 e - 1 = (n : Int) := ⟨_, (Int.toNat_of_nonneg (by omega)).symm⟩
                    have hc231 := c231 A σ k nm ns D hA hW hR u sn how (by omega) (by omega) (by omega)
                    rw [← hzu, ← hsn, ← hhow] at hc231
                    have hc231 : CC 231 [vR 76, vI z2, vI (stD A e 2), vI (stD A e 0 - 1)] σ _ := hc231
                    refine tt_cv4 4 rfl (wo_76 hW) hc231 (kex fun z9 => kand fun hz9 => ks ?_)
                    · have hev : HPr k z9 (evS (A.1 6) (A.1 48) (A.1 50) e p0) := by
                        have htn : (A.1 50 e).toNat = sn := by rw [hsn]; rfl
                        have hs1 : sn < k := by omega
                        unfold evS
                        rw [htn]
                        by_cases e1 : A.1 48 e = 1
                        · rw [if_pos e1, hsn]
                          have : how = 0 := by omega
                          subst this
                          exact hp_come hk6 hu hs1 hp0 hz9
                        · rw [if_neg e1]
                          by_cases e2 : A.1 48 e = 2
                          · rw [if_pos e2]
                            have : how = 1 := by omega
                            subst this
                            exact hp_gone hk6 hu hs1 hp0 hz9
                          · rw [if_neg e2, if_pos (by omega)]
                            have : how = 2 := by omega
                            subst this
                            exact hp_grown hk6 (hDA.2.2.2.2 sn (by omega)) hu hs1 hp0 hz9
                      refine tt_ar rfl ?_
                      refine tt_nop ?_
                      refine tt_iinc (y := ((e + 1 : Nat) : Int)) rfl (iinc_fit (by omega) (by omega) (by omega)) ?_
                      refine tt_goto ?_
                      refine tt_loc [(0, vR 76), (1, vI (((q : Nat) : Int))), (2, vI (z9)), (3, vI (((m : Nat) : Int))), (4, vI (((e + 1 : Nat) : Int)))] rfl rfl ⟨rfl, rfl, rfl, rfl, rfl, trivial⟩ ?_
                      exact ih2 (e + 1) (z9) (by omega) (by omega) (by rw [bd_s, hop]; show HPr k _ (if A.1 49 e = (m : Int) then evS (A.1 6) (A.1 48) (A.1 50) e p0 else some p0); first | (rw [if_neg (by omega)]; exact Or.inr ⟨u, hzu, hu, p0, rfl, hp0⟩) | (rw [if_pos (by omega)]; unfold evS; rw [if_neg (by omega), if_neg (by omega), if_neg (by omega)]; exact Or.inr ⟨u, hzu, hu, p0, rfl, hp0⟩) | (rw [if_pos (by omega)]; exact hev)) (by first | exact hzb2 | exact hz9.1)
                  · refine tt_ifeqT (by decide) ?_
                    refine tt_iinc (y := ((e + 1 : Nat) : Int)) rfl (iinc_fit (by omega) (by omega) (by omega)) ?_
                    refine tt_goto ?_
                    refine tt_loc [(0, vR 76), (1, vI (((q : Nat) : Int))), (2, vI (z2)), (3, vI (((m : Nat) : Int))), (4, vI (((e + 1 : Nat) : Int)))] rfl rfl ⟨rfl, rfl, rfl, rfl, rfl, trivial⟩ ?_
                    exact ih2 (e + 1) (z2) (by omega) (by omega) (by rw [bd_s, hop]; show HPr k _ (if A.1 49 e = (m : Int) then evS (A.1 6) (A.1 48) (A.1 50) e p0 else some p0); first | (rw [if_neg (by omega)]; exact Or.inr ⟨u, hzu, hu, p0, rfl, hp0⟩) | (rw [if_pos (by omega)]; unfold evS; rw [if_neg (by omega), if_neg (by omega), if_neg (by omega)]; exact Or.inr ⟨u, hzu, hu, p0, rfl, hp0⟩) | (rw [if_pos (by omega)]; exact hev)) (by first | exact hzb2 | exact hz9.1)
        refine tt_loc [(0, vR 76), (1, vI (((q : Nat) : Int))), (2, vI (z)), (3, vI (((m : Nat) : Int))), (4, vI (((0 : Nat) : Int)))] rfl rfl ⟨rfl, rfl, rfl, rfl, lv_to rfl (by omega), trivial⟩ ?_
        exact lp2_2 _ (0) (z) (Nat.lt_succ_self _) (by omega) (by rw [show (toS (A.1 6) (A.1 48) (A.1 49) (A.1 50) ns m).bind (dyS (A.1 6) (A.1 48) (A.1 49) (A.1 50) m 0) = toS (A.1 6) (A.1 48) (A.1 49) (A.1 50) ns m from by cases toS (A.1 6) (A.1 48) (A.1 49) (A.1 50) ns m <;> rfl]; exact hz) (by omega)
  refine tt_loc [(0, vR 76), (1, vI (((q : Nat) : Int))), (2, vI (0)), (3, vI (((0 : Nat) : Int)))] rfl rfl ⟨rfl, rfl, rfl, lv_to rfl (by omega), trivial⟩ ?_
  exact lp1_1 _ (0) (0) (Nat.lt_succ_self _) (by omega) (Or.inr ⟨0, rfl, by omega, _, rfl, fun s hs => by rw [tb_0 k (by omega)]; unfold dg; simp⟩) (by omega)

