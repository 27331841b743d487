/-! THE REFERENCE: HOUSEHOLDS NEXT TO EACH OTHER -/
def EDG (k : Nat) (P : Nat → Nat → Prop) (h s how u : Nat) : Prop := (how = 0 ∧ MM2 k h s u) ∨ (how = 1 ∧ MM2 k u s h) ∨ (how = 2 ∧ ∃ a t, P s t ∧ MM2 k a s h ∧ MM2 k a t u)
def NXQ (k : Nat) (P : Nat → Nat → Prop) (h s how : Nat) (z : Int) : Prop := (z = -9 ∨ (0 ≤ z ∧ z < (nkT k : Int))) ∧ ∀ u : Nat, EDG k P h s how u ↔ z = (u : Int)
theorem pl_iff {k u : Nat} {w : Int} (hk : k ≤ 6) : plR k w = (u : Int) ↔ (u < nkT k ∧ (tb k u : Int) = w) := by
  constructor
  · intro e
    have h1 := plR_c k w
    rcases ix_cases k hk w with ⟨h, h2, h3, h4⟩ | ⟨-, h4⟩
    · have : h = u := by omega
      subst this
      exact ⟨h2, h3⟩
    · omega
  · intro e
    have h1 := plR_c k w
    have h2 := ix_of hk e.1 e.2
    omega
theorem pl_bd {k : Nat} {w : Int} (hk : k ≤ 6) : plR k w = -9 ∨ (0 ≤ plR k w ∧ plR k w < (nkT k : Int)) := by
  have h1 := plR_c k w
  have h2 := ix_bd hk w
  omega
section NX
variable {k h s : Nat} {P : Nat → Nat → Prop} {into : Nat → Int}
theorem nx_none {how : Nat} (hn : ∀ u, ¬ EDG k P h s how u) : NXQ k P h s how (-9) := ⟨Or.inl rfl, fun u => ⟨fun e => absurd e (hn u), fun e => by omega⟩⟩
theorem ed_lt {how u : Nat} (e : EDG k P h s how u) : s < k ∧ u < nkT k := by
  rcases e with ⟨-, e⟩ | ⟨-, e⟩ | ⟨-, a, t, -, e, e2⟩
  · exact ⟨e.1, e.2.2.1⟩
  · exact ⟨e.1, e.2.1⟩
  · exact ⟨e.1, e2.2.2.1⟩
theorem nx_0a (hk : k ≤ 6) (h5 : dsN 6 (tb k h) = 5) : NXQ k P h s 0 (-9) := nx_none (fun u e => by
  rcases e with ⟨-, e⟩ | ⟨z, -⟩ | ⟨z, -⟩
  · have := e.ds hk
    have := (en_at hk e.2.2.1).2.1
    omega
  · omega
  · omega)
theorem nx_0b (hk : k ≤ 6) (hh : h < nkT k) (hs : s < k) : NXQ k P h s 0 (plR k ((tb k h : Int) + ((10 ^ s : Nat) : Int))) := ⟨pl_bd hk, fun u => by
  rw [pl_iff hk]
  constructor
  · rintro (⟨-, e⟩ | ⟨z, -⟩ | ⟨z, -⟩)
    · exact ⟨e.2.2.1, by have := e.2.2.2; omega⟩
    · omega
    · omega
  · intro e
    exact Or.inl ⟨rfl, hs, hh, e.1, by omega⟩⟩
theorem nx_d {how : Nat} (hk : k ≤ 6) (hh : 0 < how) (hd : dg (tb k h) s = 0) : NXQ k P h s how (-9) := nx_none (fun u e => by
  rcases e with ⟨z, -⟩ | ⟨-, e⟩ | ⟨-, a, t, -, e, -⟩
  · omega
  · have := e.dgs hk s (by have := e.1; omega)
    rw [if_pos rfl] at this
    omega
  · have := e.dgs hk s (by have := e.1; omega)
    rw [if_pos rfl] at this
    omega)
theorem nx_1 (hk : k ≤ 6) (hh : h < nkT k) (hs : s < k) : NXQ k P h s 1 (plR k ((tb k h : Int) - ((10 ^ s : Nat) : Int))) := ⟨pl_bd hk, fun u => by
  rw [pl_iff hk]
  constructor
  · rintro (⟨z, -⟩ | ⟨-, e⟩ | ⟨z, -⟩)
    · omega
    · exact ⟨e.2.1, by have := e.2.2.2; omega⟩
    · omega
  · intro e
    exact Or.inr (Or.inl ⟨rfl, hs, e.1, hh, by omega⟩)⟩
theorem nx_2n (hi : into s < 0) : NXQ k (GP into) h s 2 (-9) := nx_none (fun u e => by
  rcases e with ⟨z, -⟩ | ⟨z, -⟩ | ⟨-, a, t, e, -, -⟩
  · omega
  · omega
  · have e : foP into s = some t := e
    unfold foP at e
    rw [if_neg (by omega)] at e
    cases e)
theorem nx_2 {t : Nat} (hk : k ≤ 6) (hh : h < nkT k) (hs : s < k) (ht : t < k) (hi : into s = (t : Int)) (hd : 0 < dg (tb k h) s) : NXQ k (GP into) h s 2 (plR k ((tb k h : Int) - ((10 ^ s : Nat) : Int) + ((10 ^ t : Nat) : Int))) := ⟨pl_bd hk, fun u => by
  have hg : foP into s = some t := by
    unfold foP
    rw [if_pos (by omega), hi]
    rfl
  rw [pl_iff hk]
  constructor
  · rintro (⟨z, -⟩ | ⟨z, -⟩ | ⟨-, a, t', e, e1, e2⟩)
    · omega
    · omega
    · have e : foP into s = some t' := e
      have : t = t' := by
        rw [hg] at e
        cases e
        rfl
      subst this
      exact ⟨e2.2.2.1, by have := e1.2.2.2; have := e2.2.2.2; omega⟩
  · intro e
    obtain ⟨a, ha⟩ := MM2.less hk hh hs hd
    exact Or.inr (Or.inr ⟨rfl, a, t, hg, ha, ht, ha.2.1, e.1, by have := ha.2.2.2; omega⟩)⟩
theorem nx_big {how : Nat} (hs : ¬ s < k) : NXQ k P h s how (-9) := nx_none (fun u e => hs (ed_lt e).1)
end NX
theorem c231 (A σ : am_S) (k nm ns : Nat) (D : Nat → Nat → Int) (hA : CI k nm ns D A) (hW : Wd σ) (hR : RRb k nm ns D A σ) (h s how : Nat) (hh : h < nkT k) (hs : s < k) (hw : how < 3) : CC 231 [vR 76, vI (((h : Nat) : Int)), vI (((s : Nat) : Int)), vI (((how : Nat) : Int))] σ (fun r σ' => ∃ z : Int, NXQ k (GP (A.1 6)) h s how z ∧ σ' = σ ∧ r = some (vI z)) := by
  show TT am_b231 (am_b231.getD 0 []) [(0, vR 76), (1, vI (((h : Nat) : Int))), (2, vI (((s : Nat) : Int))), (3, vI (((how : Nat) : Int)))] [] σ _
  have hk5 := hR.aa.1
  have hl27 := hR.aa.2.1
  have hs47 := hR.aa.2.2
  have hk6 := hA.x.1.2.1
  have hm12 := hA.x.2.2.1.2.1
  have hs16 := hA.st.2
  have hDA := hA.x.1
  have hHT := hA.x.2.1
  have hLA := hA.x.2.2.1
  have hHB := HB_of hDA hHT
  have hnb := nkT_bd k
  have hin := hDA.2.2.2.2 s (by omega)
  have htb := tb_small hk6 hh
  have hd9 := dg_lt (tb k h) s
  refine tt_ar rfl ?_
  refine tt_ar rfl ?_
  refine tt_ar rfl ?_
  refine tt_ar rfl ?_
  refine tt_nop ?_
  have lp1_1 : ∀ (μ : Nat) (i : Nat) (p : Nat), s - i < μ → (i ≤ s) → (p = 10 ^ i) → TT am_b231 (am_b231.getD 1 []) [(0, vR 76), (1, vI (((h : Nat) : Int))), (2, vI (((s : Nat) : Int))), (3, vI (((how : Nat) : Int))), (4, vI (((p : Nat) : Int))), (5, vI (((i : Nat) : Int)))] [] σ (fun r σ' => ∃ z : Int, NXQ k (GP (A.1 6)) h s how z ∧ σ' = σ ∧ r = some (vI z)) := by
    intro μ
    induction μ with
    | zero => intro i p hμ; exact absurd hμ (Nat.not_lt_zero _)
    | succ μ ih1 =>
      intro i p hμ hi hp
      have hp6 := p10_le i (by omega)
      refine tt_ar rfl ?_
      refine tt_ar rfl ?_
      refine tt_icge (fun h1_2 => ?_) (fun h1_2 => ?_)
      · refine tt_ar rfl ?_
        refine tt_ifne (fun h2_1 => ?_) (fun h2_1 => ?_)
        · refine tt_ar rfl ?_
          refine tt_getR (wo_76 hW) rfl (wr_76_29 hW) ?_
          refine tt_ar rfl ?_
          refine tt_ar rfl ?_
          refine tt_imul (by omega) (by omega) ?_
          refine tt_ar rfl ?_
          refine tt_iadd (by omega) (by omega) ?_
          refine tt_iald (((6 * h) + s)) (x := ((dg (tb k h) s : Nat) : Int)) (wa_93 hW) (by omega) (by omega) ((hR.hs.2 h hh).2 s (by omega)) ?_
          refine tt_ifne (fun h5_8 => ?_) (fun h5_8 => ?_)
          · refine tt_ar rfl ?_
            refine tt_ar rfl ?_
            refine tt_icne (fun h6_2 => ?_) (fun h6_2 => ?_)
            · refine tt_ar rfl ?_
              refine tt_ar rfl ?_
              refine tt_ar rfl ?_
              refine tt_ar rfl ?_
              refine tt_nop ?_
              have lp8_2 : ∀ (μ : Nat) (i2 : Nat) (p2 : Nat), 6 - i2 < μ → (i2 = 0 ∨ ((i2 : Nat) : Int) ≤ A.1 6 s) → (p2 = 10 ^ i2) → TT am_b231 (am_b231.getD 8 []) [(0, vR 76), (1, vI (((h : Nat) : Int))), (2, vI (((s : Nat) : Int))), (4, vI (((p : Nat) : Int))), (5, vI (((p2 : Nat) : Int))), (6, vI (((i2 : Nat) : Int)))] [] σ (fun r σ' => ∃ z : Int, NXQ k (GP (A.1 6)) h s how z ∧ σ' = σ ∧ r = some (vI z)) := by
                intro μ
                induction μ with
                | zero => intro i2 p2 hμ; exact absurd hμ (Nat.not_lt_zero _)
                | succ μ ih8 =>
                  intro i2 p2 hμ hi2 hp2
                  have hp62 := p10_le i2 (by omega)
                  refine tt_ar rfl ?_
                  refine tt_ar rfl ?_
                  refine tt_getR (wo_76 hW) rfl (wr_76_12 hW) ?_
                  refine tt_ar rfl ?_
                  refine tt_iald (s) (x := A.1 6 s) (wa_83 hW) rfl (by omega) (hR.wl.2.2.1 s (by omega) hs) ?_
                  refine tt_icge (fun h8_5 => ?_) (fun h8_5 => ?_)
                  · refine tt_ar rfl ?_
                    refine tt_getR (wo_76 hW) rfl (wr_76_12 hW) ?_
                    refine tt_ar rfl ?_
                    refine tt_iald (s) (x := A.1 6 s) (wa_83 hW) rfl (by omega) (hR.wl.2.2.1 s (by omega) hs) ?_
                    refine tt_ifge (fun h9_4 => ?_) (fun h9_4 => ?_)
                    · refine tt_ar rfl ?_
                      refine tt_ar rfl ?_
                      refine tt_getR (wo_76 hW) rfl (wr_76_28 hW) ?_
                      refine tt_ar rfl ?_
                      refine tt_iald (h) (x := ((tb k h : Nat) : Int)) (wa_92 hW) rfl (by omega) (hR.hs.2 h hh).1 ?_
                      refine tt_ar rfl ?_
                      refine tt_isub (by omega) (by omega) ?_
                      refine tt_ar rfl ?_
                      refine tt_iadd (by omega) (by omega) ?_
                      refine tt_cv2 2 rfl (wo_76 hW) (c214 A σ k nm ns D hA hW hR (((((tb k h : Nat) : Int) - ((p : Nat) : Int)) + ((p2 : Nat) : Int)))) (kp ?_)
                      refine tt_nop ?_
                      refine tt_iret ?_
                      have eh : how = 2 := by omega
                      subst eh
                      have ei : i = s := by omega
                      subst ei
                      have ei2 : A.1 6 i = ((i2 : Nat) : Int) := by omega
                      rw [hp, hp2]
                      exact ⟨_, nx_2 hk6 hh hs (by omega) ei2 (by omega), rfl, rfl⟩
                    · refine tt_ar rfl ?_
                      refine tt_goto ?_
                      refine tt_iret ?_
                      have eh : how = 2 := by omega
                      subst eh
                      exact ⟨_, nx_2n (by omega), rfl, rfl⟩
                  · refine tt_ar rfl ?_
                    refine tt_ar rfl ?_
                    refine tt_imul (by omega) (by omega) ?_
                    refine tt_ar rfl ?_
                    refine tt_iinc (y := ((i2 + 1 : Nat) : Int)) rfl (iinc_fit (by omega) (by omega) (by omega)) ?_
                    refine tt_goto ?_
                    refine tt_loc [(0, vR 76), (1, vI (((h : Nat) : Int))), (2, vI (((s : Nat) : Int))), (4, vI (((p : Nat) : Int))), (5, vI (((p2 * 10 : Nat) : Int))), (6, vI (((i2 + 1 : Nat) : Int)))] rfl rfl ⟨rfl, rfl, rfl, rfl, lv_to rfl (by omega), rfl, trivial⟩ ?_
                    exact ih8 (i2 + 1) (p2 * 10) (by omega) (by omega) (by rw [Nat.pow_succ, hp2])
              refine tt_loc [(0, vR 76), (1, vI (((h : Nat) : Int))), (2, vI (((s : Nat) : Int))), (4, vI (((p : Nat) : Int))), (5, vI (((1 : Nat) : Int))), (6, vI (((0 : Nat) : Int)))] rfl rfl ⟨rfl, rfl, rfl, rfl, lv_to rfl (by omega), lv_to rfl (by omega), trivial⟩ ?_
              exact lp8_2 _ (0) (1) (Nat.lt_succ_self _) (by omega) rfl
            · refine tt_ar rfl ?_
              refine tt_ar rfl ?_
              refine tt_getR (wo_76 hW) rfl (wr_76_28 hW) ?_
              refine tt_ar rfl ?_
              refine tt_iald (h) (x := ((tb k h : Nat) : Int)) (wa_92 hW) rfl (by omega) (hR.hs.2 h hh).1 ?_
              refine tt_ar rfl ?_
              refine tt_isub (by omega) (by omega) ?_
              refine tt_cv2 2 rfl (wo_76 hW) (c214 A σ k nm ns D hA hW hR ((((tb k h : Nat) : Int) - ((p : Nat) : Int)))) (kp ?_)
              refine tt_iret ?_
              have eh : how = 1 := by omega
              subst eh
              have ei : i = s := by omega
              subst ei
              rw [hp]
              exact ⟨_, nx_1 hk6 hh hs, rfl, rfl⟩
          · refine tt_ar rfl ?_
            refine tt_iret ?_
            exact ⟨_, nx_d hk6 (by omega) (by omega), rfl, rfl⟩
        · refine tt_ar rfl ?_
          refine tt_ar rfl ?_
          have hds := (en_at hk6 (show h < nkT k by omega)).2.1
          refine tt_cv2 2 rfl (wo_76 hW) (c224 A σ k nm ns D hA hW hR h (by omega)) (kp ?_)
          refine tt_ar rfl ?_
          refine tt_icne (fun h2_6 => ?_) (fun h2_6 => ?_)
          · refine tt_ar rfl ?_
            refine tt_ar rfl ?_
            refine tt_getR (wo_76 hW) rfl (wr_76_28 hW) ?_
            refine tt_ar rfl ?_
            refine tt_iald (h) (x := ((tb k h : Nat) : Int)) (wa_92 hW) rfl (by omega) (hR.hs.2 h hh).1 ?_
            refine tt_ar rfl ?_
            refine tt_iadd (by omega) (by omega) ?_
            refine tt_cv2 2 rfl (wo_76 hW) (c214 A σ k nm ns D hA hW hR ((((tb k h : Nat) : Int) + ((p : Nat) : Int)))) (kp ?_)
            refine tt_nop ?_
            refine tt_iret ?_
            have eh : how = 0 := by omega
            subst eh
            have ei : i = s := by omega
            subst ei
            rw [hp]
            exact ⟨_, nx_0b hk6 hh hs, rfl, rfl⟩
          · refine tt_ar rfl ?_
            refine tt_goto ?_
            refine tt_iret ?_
            have eh : how = 0 := by omega
            subst eh
            exact ⟨_, nx_0a hk6 (by omega), rfl, rfl⟩
      · refine tt_ar rfl ?_
        refine tt_ar rfl ?_
        refine tt_imul (by omega) (by omega) ?_
        refine tt_ar rfl ?_
        refine tt_iinc (y := ((i + 1 : Nat) : Int)) rfl (iinc_fit (by omega) (by omega) (by omega)) ?_
        refine tt_goto ?_
        refine tt_loc [(0, vR 76), (1, vI (((h : Nat) : Int))), (2, vI (((s : Nat) : Int))), (3, vI (((how : Nat) : Int))), (4, vI (((p * 10 : Nat) : Int))), (5, vI (((i + 1 : Nat) : Int)))] rfl rfl ⟨rfl, rfl, rfl, rfl, lv_to rfl (by omega), rfl, trivial⟩ ?_
        exact ih1 (i + 1) (p * 10) (by omega) (by omega) (by rw [Nat.pow_succ, hp])
  refine tt_loc [(0, vR 76), (1, vI (((h : Nat) : Int))), (2, vI (((s : Nat) : Int))), (3, vI (((how : Nat) : Int))), (4, vI (((1 : Nat) : Int))), (5, vI (((0 : Nat) : Int)))] rfl rfl ⟨rfl, rfl, rfl, rfl, lv_to rfl (by omega), lv_to rfl (by omega), trivial⟩ ?_
  exact lp1_1 _ (0) (1) (Nat.lt_succ_self _) (by omega) rfl

theorem tdiv3 {r : Nat} (h : r ≤ 2000000) : w32 (Int.tdiv (r : Int) 3) = ((r / 3 : Nat) : Int) := by
  have z := iinc_fit (x := Int.tdiv (r : Int) 3) (n := 0) (y := ((r / 3 : Nat) : Int)) (by rw [Int.add_zero]; rfl) (by omega) (by omega)
  rwa [Int.add_zero] at z
theorem c230 (A σ : am_S) (k nm ns : Nat) (D : Nat → Nat → Int) (hA : CI k nm ns D A) (hW : Wd σ) (hR : RRb k nm ns D A σ) : CC 230 [vR 76] σ (fun r σ' => r = none ∧ Fr [97] σ σ' ∧ (∀ h, h < nkT k → ∀ j, j < 18 → NXQ k (GP (A.1 6)) h (j / 3) (j % 3) (σ'.1 97 (18 * h + j)))) := by
  show TT am_b230 (am_b230.getD 0 []) [(0, vR 76)] [] σ _
  have hk5 := hR.aa.1
  have hl27 := hR.aa.2.1
  have hs47 := hR.aa.2.2
  have hk6 := hA.x.1.2.1
  have hm12 := hA.x.2.2.1.2.1
  have hs16 := hA.st.2
  have hDA := hA.x.1
  have hHT := hA.x.2.1
  have hLA := hA.x.2.2.1
  have hHB := HB_of hDA hHT
  have hnb := nkT_bd k
  refine tt_ar rfl ?_
  refine tt_ar rfl ?_
  refine tt_nop ?_
  have lp1_1 : ∀ (μ : Nat) (h : Nat) (σ1 : am_S), nkT k - h < μ → Fr [97] σ σ1 → (h ≤ nkT k) → (∀ g, g < h → ∀ j, j < 18 → NXQ k (GP (A.1 6)) g (j / 3) (j % 3) (σ1.1 97 (18 * g + j))) → TT am_b230 (am_b230.getD 1 []) [(0, vR 76), (1, vI (((h : Nat) : Int)))] [] σ1 (fun r σ' => r = none ∧ Fr [97] σ σ' ∧ (∀ h, h < nkT k → ∀ j, j < 18 → NXQ k (GP (A.1 6)) h (j / 3) (j % 3) (σ'.1 97 (18 * h + j)))) := by
    intro μ
    induction μ with
    | zero => intro h σ1 hμ; exact absurd hμ (Nat.not_lt_zero _)
    | succ μ ih1 =>
      intro h σ1 hμ hF_σ1 hh hN
      have hW_σ1 := Fr.wd hF_σ1 hW
      refine tt_ar rfl ?_
      refine tt_ar rfl ?_
      refine tt_getI (x := ((nkT k : Nat) : Int)) (wo_76 hW_σ1) rfl ((hF_σ1.2 76 (by decide) (27)).trans hR.hs.1) ?_
      refine tt_icge (fun h1_3 => ?_) (fun h1_3 => ?_)
      · refine tt_vret ?_
        have eh : h = nkT k := by omega
        rw [eh] at hN
        exact ⟨rfl, hF_σ1, hN⟩
      · refine tt_ar rfl ?_
        refine tt_ar rfl ?_
        refine tt_nop ?_
        have lp2_2 : ∀ (μ : Nat) (j : Nat) (σ2 : am_S), 18 - j < μ → Fr [97] σ1 σ2 → (j ≤ 18) → (∀ i, i < j → NXQ k (GP (A.1 6)) h (i / 3) (i % 3) (σ2.1 97 (18 * h + i))) → (∀ y, y < 18 * h → σ2.1 97 y = σ1.1 97 y) → TT am_b230 (am_b230.getD 2 []) [(0, vR 76), (1, vI (((h : Nat) : Int))), (2, vI (((j : Nat) : Int)))] [] σ2 (fun r σ' => r = none ∧ Fr [97] σ σ' ∧ (∀ h, h < nkT k → ∀ j, j < 18 → NXQ k (GP (A.1 6)) h (j / 3) (j % 3) (σ'.1 97 (18 * h + j)))) := by
          intro μ
          induction μ with
          | zero => intro j σ2 hμ; exact absurd hμ (Nat.not_lt_zero _)
          | succ μ ih2 =>
            intro j σ2 hμ hF_σ2 hj hN2 hO
            have hW_σ2 := Fr.wd hF_σ2 hW_σ1
            refine tt_ar rfl ?_
            refine tt_ar rfl ?_
            refine tt_icge (fun h2_2 => ?_) (fun h2_2 => ?_)
            · refine tt_iinc (y := ((h + 1 : Nat) : Int)) rfl (iinc_fit (by omega) (by omega) (by omega)) ?_
              refine tt_goto ?_
              refine tt_loc [(0, vR 76), (1, vI (((h + 1 : Nat) : Int)))] rfl rfl ⟨rfl, rfl, trivial⟩ ?_
              exact ih1 (h + 1) σ2 (by omega) (Fr.tr (Fr.tr Fr.rf hF_σ1 (by decide)) hF_σ2 (by decide)) (by omega) (fun g hg j hj => by by_cases e : g = h; (rw [e]; exact hN2 j (by omega)); (rw [hO (18 * g + j) (by omega)]; exact hN g (by omega) j hj))
            · refine tt_ar rfl ?_
              refine tt_getR (wo_76 hW_σ2) rfl (wr_76_35 hW_σ2) ?_
              refine tt_ar rfl ?_
              refine tt_ar rfl ?_
              refine tt_imul (by omega) (by omega) ?_
              refine tt_ar rfl ?_
              refine tt_iadd (by omega) (by omega) ?_
              refine tt_ar rfl ?_
              refine tt_ar rfl ?_
              refine tt_dI (g := (fun a b => w32 (Int.tdiv a b))) (z := ((j / 3 : Nat) : Int)) rfl (by omega) (tdiv3 (by omega)) ?_
              refine tt_ar rfl ?_
              refine tt_getI (x := ((k : Nat) : Int)) (wo_76 hW_σ2) rfl (((hF_σ2.2 76 (by decide) (11)).trans (hF_σ1.2 76 (by decide) (11))).trans hR.wl.1) ?_
              refine tt_icge (fun h2_15 => ?_) (fun h2_15 => ?_)
              · refine tt_ar rfl ?_
                refine tt_nop ?_
                refine tt_iast (((18 * h) + j)) (wa_97 hW_σ2) (by omega) (by omega) (by omega) ?_
                refine tt_iinc (y := ((j + 1 : Nat) : Int)) rfl (iinc_fit (by omega) (by omega) (by omega)) ?_
                refine tt_goto ?_
                refine tt_loc [(0, vR 76), (1, vI (((h : Nat) : Int))), (2, vI (((j + 1 : Nat) : Int)))] rfl rfl ⟨rfl, rfl, rfl, trivial⟩ ?_
                exact ih2 (j + 1) _ (by omega) (Fr.put (Fr.tr Fr.rf hF_σ2 (by decide)) (by decide)) (by omega) (fun i hi => by rw [am_set_at]; by_cases e : i = j; (rw [if_pos (by omega), e]; first | exact hz1 | exact nx_big (by omega)); (rw [if_neg (by omega)]; exact hN2 i (by omega))) (fun y hy => by rw [am_set_at, if_neg (by omega)]; exact hO y hy)
              · refine tt_ar rfl ?_
                refine tt_ar rfl ?_
                refine tt_ar rfl ?_
                refine tt_ar rfl ?_
                refine tt_dI (g := (fun a b => w32 (Int.tdiv a b))) (z := ((j / 3 : Nat) : Int)) rfl (by omega) (tdiv3 (by omega)) ?_
                refine tt_ar rfl ?_
                refine tt_ar rfl ?_
                refine tt_dI (g := (fun a b => Int.tmod a b)) (z := ((j % 3 : Nat) : Int)) rfl (by omega) rfl ?_
                refine tt_cv4 4 rfl (wo_76 hW_σ2) (c231 A σ2 k nm ns D hA hW_σ2 (hR.fr (W := [97]) (Fr.tr (Fr.tr Fr.rf hF_σ1 (by decide)) hF_σ2 (by decide)) (by decide)) h (j / 3) (j % 3) (by omega) (by omega) (by omega)) (kex fun z1 => kand fun hz1 => ks ?_)
                · refine tt_goto ?_
                  refine tt_iast (((18 * h) + j)) (wa_97 hW_σ2) (by omega) (by omega) (by omega) ?_
                  refine tt_iinc (y := ((j + 1 : Nat) : Int)) rfl (iinc_fit (by omega) (by omega) (by omega)) ?_
                  refine tt_goto ?_
                  refine tt_loc [(0, vR 76), (1, vI (((h : Nat) : Int))), (2, vI (((j + 1 : Nat) : Int)))] rfl rfl ⟨rfl, rfl, rfl, trivial⟩ ?_
                  exact ih2 (j + 1) _ (by omega) (Fr.put (Fr.tr Fr.rf hF_σ2 (by decide)) (by decide)) (by omega) (fun i hi => by rw [am_set_at]; by_cases e : i = j; (rw [if_pos (by omega), e]; first | exact hz1 | exact nx_big (by omega)); (rw [if_neg (by omega)]; exact hN2 i (by omega))) (fun y hy => by rw [am_set_at, if_neg (by omega)]; exact hO y hy)
        refine tt_loc [(0, vR 76), (1, vI (((h : Nat) : Int))), (2, vI (((0 : Nat) : Int)))] rfl rfl ⟨rfl, rfl, lv_to rfl (by omega), trivial⟩ ?_
        exact lp2_2 _ (0) σ1 (Nat.lt_succ_self _) Fr.rf (by omega) (fun i hi => absurd hi (Nat.not_lt_zero i)) (fun _ _ => rfl)
  refine tt_loc [(0, vR 76), (1, vI (((0 : Nat) : Int)))] rfl rfl ⟨rfl, lv_to rfl (by omega), trivial⟩ ?_
  exact lp1_1 _ (0) σ (Nat.lt_succ_self _) Fr.rf (by omega) (fun g hg => absurd hg (Nat.not_lt_zero g))

