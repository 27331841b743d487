/-! WINTER WEIGHED, TALES COUNTED -/
def CK (k nm : Nat) (D ex : Nat → Nat → Int) (σ : am_S) : Prop := σ.1 36 7 = (if bsN 1000000 (nkT k) nm D ex < 1000000 then cpM 1000000000000001 (wyM 1000000 (nkT k) nm D ex) else 0) ∧ (bsN 1000000 (nkT k) nm D ex < 1000000 → wyM 1000000 (nkT k) nm D ex ≤ 1000000000000000 → ∀ m, m < nm → ∀ h, h < nkT k → plM 1000000 (nkT k) nm D ex m h = true → σ.1 44 (m * 462 + h) = (toM 1000000 (nkT k) nm D ex m h) ∧ σ.1 45 (m * 462 + h) = (onM 1000000 (nkT k) nm D ex (nm - 1 - m) h))
theorem WK.fzs {W : List Nat} {k nm : Nat} {D ex : Nat → Nat → Int} {σ σ' : am_S} (h : FZ W σ σ') (hw : ∀ a ∈ W, a < 39 ∨ 41 < a) (h6 : σ'.1 36 6 = σ.1 36 6) (R : WK k nm D ex σ) : WK k nm D ex σ' := by
  have q : ∀ a, (a = 39 ∨ a = 40 ∨ a = 41) → ∀ j, σ'.1 a j = σ.1 a j := fun a h1 j => h.2 a ⟨fun e => by have := hw a e; omega, Or.inl (by omega)⟩ j
  obtain ⟨h1, h2, h3⟩ := R
  exact ⟨by rw [h6]; exact h1, fun m hm x hx => by rw [q 39 (by omega), q 40 (by omega)]; exact h2 m hm x hx, fun ht m hm x hx => by rw [q 41 (by omega)]; exact h3 ht m hm x hx⟩
def onG (k nm : Nat) (D ex : Nat → Nat → Int) (z : Int) : Int := onM 1000000 (nkT k) nm D ex (nm - 1) z.toNat
theorem onG_sum {k nm : Nat} {D ex : Nat → Nat → Int} {L : Nat → Int} (hn : 0 < nm) (hL : LI (plM 1000000 (nkT k) nm D ex 0) (nkT k) L) : sumN (ctN (plM 1000000 (nkT k) nm D ex 0) (nkT k)) (fun i => onG k nm D ex (L i)) = wyM 1000000 (nkT k) nm D ex := by
  rw [LI.sum (f := onG k nm D ex) hL]
  unfold wyM
  rw [if_neg (by omega)]
  refine sumN_congr (fun h hh => ?_)
  unfold onG
  rw [Int.toNat_natCast]
  cases hp : plM 1000000 (nkT k) nm D ex 0 h with
  | false => exact (on_z (by rw [show nm - 1 - (nm - 1) = 0 by omega]; exact hp)).symm
  | true => rfl
theorem c116 (σ : am_S) (k nm : Nat) (hW : Wd σ) (D ex : Nat → Nat → Int) (hX : WX k nm D σ) (hex : ∀ m h, h < nkT k → 0 ≤ ex m h ∧ ex m h ≤ 1000000) (hK : WK k nm D ex σ) (hKN : KNs k D σ) (hLS : bsN 1000000 (nkT k) nm D ex < 1000000 → LQ k nm D ex σ) (hC : σ.1 36 5 = 0 ∨ σ.1 36 5 = 1 ∧ CK k nm D ex σ) : CC 116 [vR 36] σ (fun r σ' => r = none ∧ KNs k D σ' ∧ FZ [33, 34, 35, 36, 44, 45] σ σ' ∧ σ'.1 36 5 = 1 ∧ (∀ j, j ≠ 5 → j ≠ 7 → σ'.1 36 j = σ.1 36 j) ∧ CK k nm D ex σ') := by
  show TT am_b116 (am_b116.getD 0 []) [(0, vR 36)] [] σ _
  obtain ⟨hD, hH, hL, hDI⟩ := id hX
  have hk6 := hD.2.1
  have hnb := nkT_bd k
  have hnm := hL.2.1
  have hpr := hD.2.2.2.1
  have hDb : ∀ a b, a < nkT k → b < nkT k → 0 ≤ D a b := fun a b ha hb => (DI.bd hk6 hpr hDI ha hb).1
  have hab : ∀ m h, h < nkT k → 0 ≤ ahN 1000000 (nkT k) D ex m h ∧ ahN 1000000 (nkT k) D ex m h ≤ 1000000 := fun m h hh => ahN_bd (by omega) (by omega) hDb (fun m h hh => (hex m h hh).1) m hh
  refine tt_ar rfl ?_
  refine tt_getZ (x := σ.1 36 (5)) (wo_36 hW) rfl rfl ?_
  refine tt_ifeq (fun h0_2 => ?_) (fun h0_2 => ?_)
  · refine tt_ar rfl ?_
    refine tt_ar rfl ?_
    refine tt_putZ (wo_36 hW) rfl (by omega) ?_
    refine tt_ar rfl ?_
    refine tt_ar rfl ?_
    refine tt_cv1 1 rfl (wo_36 hW) (c106 (am_set σ 36 (5) (1)) hW) (kb (fun h1_5 => ?_) (fun h1_5 => ?_))
    · rw [show (am_set σ 36 (5) (1)).1 36 6 = bsN 1000000 (nkT k) nm D ex from (rfl).trans hK.1] at h1_5
      refine tt_ifeqF (by decide) ?_
      refine tt_ar rfl ?_
      refine tt_goto ?_
      refine tt_putL (wo_36 hW) rfl ?_
      refine tt_ar rfl ?_
      refine tt_cv1 1 rfl (wo_36 hW) (c106 (am_set (am_set σ 36 (5) (1)) 36 (7) (1)) hW) (kb (fun h3_2 => ?_) (fun h3_2 => ?_))
      · rw [show (am_set (am_set σ 36 (5) (1)) 36 (7) (1)).1 36 6 = bsN 1000000 (nkT k) nm D ex from (rfl).trans hK.1] at h3_2
        refine tt_ifeqF (by decide) ?_
        refine tt_ar rfl ?_
        have hZr : FZ [36] σ (am_set (am_set σ 36 (5) (1)) 36 (7) (1)) := (FZ.put (FZ.put FZ.rf (by decide)) (by decide))
        have hFr : Fr [36] σ (am_set (am_set σ 36 (5) (1)) 36 (7) (1)) := (Fr.put (Fr.put Fr.rf (by decide)) (by decide))
        have h367 : (am_set (am_set σ 36 (5) (1)) 36 (7) (1)).1 36 7 = 1 := am_set_rd
        have h365 : (am_set (am_set σ 36 (5) (1)) 36 (7) (1)).1 36 5 = 1 := (am_set_at).trans ((if_neg (by decide)).trans am_set_rd)
        have h36 : ∀ j, j ≠ 5 → j ≠ 7 → (am_set (am_set σ 36 (5) (1)) 36 (7) (1)).1 36 j = σ.1 36 j := fun j h1 h2 => (am_set_at).trans ((if_neg h2).trans ((am_set_at).trans (if_neg h1)))
        have hW_σr : Wd (am_set (am_set σ 36 (5) (1)) 36 (7) (1)) := hW
        obtain ⟨σr, hσr⟩ : ∃ x, x = (am_set (am_set σ 36 (5) (1)) 36 (7) (1)) := ⟨_, rfl⟩
        rw [← hσr] at hZr hFr h367 h365 h36 hW_σr
        refine tt_st hσr.symm ?_
        have hXr := WX.fz hZr (by decide) hX
        have hKr := WK.fzs hZr (by decide) (h36 6 (by decide) (by decide)) hK
        have hKNr := KNs.fr hFr (by decide) hKN
        have hTb : bsN 1000000 (nkT k) nm D ex < 1000000 := h1_5
        have hLSr := LQ.fz hZr (by decide) (hLS hTb)
        have hTH : TH 1000000 (nkT k) nm D ex := ⟨by decide, by omega, hDb, fun m h hh => (hex m h hh).1, hTb⟩
        refine tt_getR (wo_36 hW_σr) rfl (wr_36_1 hW_σr) ?_
        refine tt_getI (x := ((nm : Nat) : Int)) (wo_27 hW_σr) rfl hXr.2.2.1.1 ?_
        refine tt_ifle (fun h3_7 => ?_) (fun h3_7 => ?_)
        · refine tt_vret ?_
          have e0 : nm = 0 := by omega
          refine ⟨rfl, hKNr, FZ.mono hZr (by decide), h365, h36, ?_, fun _ _ m hm => absurd hm (by omega)⟩
          rw [h367, if_pos hTb]; unfold wyM; rw [if_pos e0]; rfl
        · refine tt_ar rfl ?_
          refine tt_getR (wo_36 hW_σr) rfl (wr_36_1 hW_σr) ?_
          refine tt_getI (x := ((nm : Nat) : Int)) (wo_27 hW_σr) rfl hXr.2.2.1.1 ?_
          refine tt_ar rfl ?_
          refine tt_isub (by omega) (by omega) ?_
          refine tt_ar rfl ?_
          refine tt_nop ?_
          have lp4_1 : ∀ (μ : Nat) (c : Nat) (σ1 : am_S), c < μ → FZ [33, 34, 35, 45] σr σ1 → (c ≤ nm) → (KNs k D σ1) → (∀ m, c ≤ m → m < nm → ∀ h, h < nkT k → (plM 1000000 (nkT k) nm D ex m) h = true → σ1.1 45 (m * 462 + h) = cpM 1000000000000001 (onM 1000000 (nkT k) nm D ex (nm - 1 - m) h) ∧ σ1.1 35 h = 1) → TT am_b116 (am_b116.getD 4 []) [(0, vR 36), (1, vI ((((c : Nat) : Int) - 1)))] [] σ1 (fun r σ' => r = none ∧ KNs k D σ' ∧ FZ [33, 34, 35, 36, 44, 45] σ σ' ∧ σ'.1 36 5 = 1 ∧ (∀ j, j ≠ 5 → j ≠ 7 → σ'.1 36 j = σ.1 36 j) ∧ CK k nm D ex σ') := by
            intro μ
            induction μ with
            | zero => intro c σ1 hμ; exact absurd hμ (Nat.not_lt_zero _)
            | succ μ ih4 =>
              intro c σ1 hμ hF_σ1 hc hKN1 hA
              have hW_σ1 := FZ.wd hF_σ1 hW_σr
              refine tt_ar rfl ?_
              refine tt_iflt (fun h4_1 => ?_) (fun h4_1 => ?_)
              · refine tt_ar rfl ?_
                refine tt_ar rfl ?_
                refine tt_putL (wo_36 hW_σ1) rfl ?_
                have hFs : FZ [33, 34, 35, 36, 45] σr (am_set σ1 36 (7) (0)) := (FZ.put (FZ.tr FZ.rf hF_σ1 (by decide)) (by decide))
                have hKNs : KNs k D (am_set σ1 36 (7) (0)) := KNs.fr (Fr.put Fr.rf (by decide) : Fr [36] σ1 _) (by decide) hKN1
                have hs7 : (am_set σ1 36 (7) (0)).1 36 7 = 0 := am_set_rd
                have hs36 : ∀ j, j ≠ 7 → (am_set σ1 36 (7) (0)).1 36 j = σr.1 36 j := fun j hj => (am_set_at).trans ((if_neg hj).trans (hF_σ1.2 36 ⟨by decide, Or.inl (by decide)⟩ j))
                have hA2 : ∀ m, m < nm → ∀ h, h < nkT k → (plM 1000000 (nkT k) nm D ex m) h = true → (am_set σ1 36 (7) (0)).1 45 (m * 462 + h) = cpM 1000000000000001 (onM 1000000 (nkT k) nm D ex (nm - 1 - m) h) ∧ (am_set σ1 36 (7) (0)).1 35 h = 1 := fun m hm h hh hp => (by have := hA m (by omega) hm h hh hp; exact ⟨(am_set_nb (by decide)).trans this.1, (am_set_nb (by decide)).trans this.2⟩)
                have hW_σs : Wd (am_set σ1 36 (7) (0)) := hW_σ1
                obtain ⟨σs, hσs⟩ : ∃ x, x = (am_set σ1 36 (7) (0)) := ⟨_, rfl⟩
                rw [← hσs] at hFs hKNs hs7 hs36 hA2 hW_σs
                refine tt_st hσs.symm ?_
                have hXs := WX.fz hFs (by decide) hXr
                have hKs := WK.fzs hFs (by decide) (hs36 6 (by decide)) hKr
                have hLSs := LQ.fz hFs (by decide) hLSr
                have e42 : σs.1 42 = σr.1 42 := funext (hFs.2 42 ⟨by decide, Or.inl (by decide)⟩)
                refine tt_ar rfl ?_
                refine tt_ar rfl ?_
                refine tt_nop ?_
                have lp6_2 : ∀ (μ : Nat) (i : Nat) (σ3 : am_S), (ctN (plM 1000000 (nkT k) nm D ex 0) (nkT k)) - i < μ → Fr [36] σs σ3 → (i ≤ (ctN (plM 1000000 (nkT k) nm D ex 0) (nkT k))) → (σ3.1 36 7 = cpM 1000000000000001 (sumN i (fun i => onG k nm D ex (σr.1 42 i)))) → (∀ j, j ≠ 7 → σ3.1 36 j = σs.1 36 j) → TT am_b116 (am_b116.getD 6 []) [(0, vR 36), (1, vI (((i : Nat) : Int)))] [] σ3 (fun r σ' => r = none ∧ KNs k D σ' ∧ FZ [33, 34, 35, 36, 44, 45] σ σ' ∧ σ'.1 36 5 = 1 ∧ (∀ j, j ≠ 5 → j ≠ 7 → σ'.1 36 j = σ.1 36 j) ∧ CK k nm D ex σ') := by
                  intro μ
                  induction μ with
                  | zero => intro i σ3 hμ; exact absurd hμ (Nat.not_lt_zero _)
                  | succ μ ih6 =>
                    intro i σ3 hμ hF_σ3 hi h7 h36s
                    have hW_σ3 := Fr.wd hF_σ3 hW_σs
                    have hcm := ctN_le (p := (plM 1000000 (nkT k) nm D ex 0)) (nkT k)
                    have hnl : nkT k ≤ 462 := hnb.2
                    have hsb := cpM_bd (C := 1000000000000001) (sumN_nn (n := i) (f := (fun i => onG k nm D ex (σr.1 42 i))) (fun _ _ => on_nn _)) (by decide)
                    refine tt_ar rfl ?_
                    refine tt_ar rfl ?_
                    refine tt_getR (wo_36 hW_σ3) rfl (wr_36_14 hW_σ3) ?_
                    refine tt_ar rfl ?_
                    refine tt_iald (0) (x := (((ctN (plM 1000000 (nkT k) nm D ex 0) (nkT k)) : Nat) : Int)) (wa_43 hW_σ3) rfl (by omega) ((hF_σ3.2 43 (by decide) (0)).trans (hLSs 0 (by omega)).2) ?_
                    refine tt_icge (fun h6_5 => ?_) (fun h6_5 => ?_)
                    · have hFt : FZ [33, 34, 35, 36, 45] σr σ3 := FZ.trF hFs hF_σ3 (by decide)
                      have hKNt : KNs k D σ3 := KNs.fr hF_σ3 (by decide) hKNs
                      have ht7 : σ3.1 36 7 = cpM 1000000000000001 (wyM 1000000 (nkT k) nm D ex) := (by rw [h7, show i = (ctN (plM 1000000 (nkT k) nm D ex 0) (nkT k)) by omega]; refine congrArg (cpM 1000000000000001) ?_; have z := onG_sum (k := k) (D := D) (ex := ex) (nm := nm) (by omega) (hLSr 0 (by omega)).1; simp only [Nat.zero_mul, Nat.zero_add] at z; exact z)
                      have ht36 : ∀ j, j ≠ 7 → σ3.1 36 j = σr.1 36 j := fun j hj => (h36s j hj).trans (hs36 j hj)
                      have hA3 : ∀ m, m < nm → ∀ h, h < nkT k → (plM 1000000 (nkT k) nm D ex m) h = true → σ3.1 45 (m * 462 + h) = cpM 1000000000000001 (onM 1000000 (nkT k) nm D ex (nm - 1 - m) h) ∧ σ3.1 35 h = 1 := fun m hm h hh hp => (by have := hA2 m hm h hh hp; exact ⟨(hF_σ3.2 45 (by decide) _).trans this.1, (hF_σ3.2 35 (by decide) _).trans this.2⟩)
                      have hW_σt : Wd σ3 := hW_σ3
                      obtain ⟨σt, hσt⟩ : ∃ x, x = σ3 := ⟨_, rfl⟩
                      rw [← hσt] at hFt hKNt ht7 ht36 hA3 hW_σt
                      refine tt_st hσt.symm ?_
                      have hXt := WX.fz hFt (by decide) hXr
                      have hKt := WK.fzs hFt (by decide) (ht36 6 (by decide)) hKr
                      have hLSt := LQ.fz hFt (by decide) hLSr
                      refine tt_ar rfl ?_
                      refine tt_ar rfl ?_
                      refine tt_nop ?_
                      have lp8_3 : ∀ (μ : Nat) (m : Nat) (σ4 : am_S), nm - m < μ → Fr [44] σt σ4 → (m ≤ nm) → (∀ q, q < m → ∀ h, h < nkT k → (plM 1000000 (nkT k) nm D ex q) h = true → σ4.1 44 (q * 462 + h) = cpM 1000000000000001 (toM 1000000 (nkT k) nm D ex q h)) → TT am_b116 (am_b116.getD 8 []) [(0, vR 36), (1, vI (((m : Nat) : Int)))] [] σ4 (fun r σ' => r = none ∧ KNs k D σ' ∧ FZ [33, 34, 35, 36, 44, 45] σ σ' ∧ σ'.1 36 5 = 1 ∧ (∀ j, j ≠ 5 → j ≠ 7 → σ'.1 36 j = σ.1 36 j) ∧ CK k nm D ex σ') := by
                        intro μ
                        induction μ with
                        | zero => intro m σ4 hμ; exact absurd hμ (Nat.not_lt_zero _)
                        | succ μ ih8 =>
                          intro m σ4 hμ hF_σ4 hm hB
                          have hW_σ4 := Fr.wd hF_σ4 hW_σt
                          refine tt_ar rfl ?_
                          refine tt_ar rfl ?_
                          refine tt_getR (wo_36 hW_σ4) rfl (wr_36_1 hW_σ4) ?_
                          refine tt_getI (x := ((nm : Nat) : Int)) (wo_27 hW_σ4) rfl ((hF_σ4.2 27 (by decide) (0)).trans hXt.2.2.1.1) ?_
                          refine tt_icge (fun h8_4 => ?_) (fun h8_4 => ?_)
                          · refine tt_vret ?_
                            refine ⟨rfl, KNs.fr hF_σ4 (by decide) hKNt, FZ.trF (FZ.tr (FZ.mono hZr (by decide)) hFt (by decide)) hF_σ4 (by decide), (hF_σ4.2 36 (by decide) _).trans ((ht36 5 (by decide)).trans h365), fun j h1 h2 => (hF_σ4.2 36 (by decide) _).trans ((ht36 j h2).trans (h36 j h1 h2)), ?_, fun _ hw m2 hm2 h hh hp => ?_⟩
                            · rw [hF_σ4.2 36 (by decide), ht7, if_pos hTb]
                            · refine ⟨(hB m2 (by omega) h hh hp).trans (cpM_eq (Int.le_trans (to_le hTH hm2 hh) (by omega))), ?_⟩
                              exact (hF_σ4.2 45 (by decide) _).trans ((hA3 m2 hm2 h hh hp).1.trans (cpM_eq (Int.le_trans (on_le hTH hm2 hh) (by omega))))
                          · refine tt_ar rfl ?_
                            refine tt_getL (x := σt.1 36 (7)) (wo_36 hW_σ4) rfl (hF_σ4.2 36 (by decide) (7)) ?_
                            refine tt_ar rfl ?_
                            refine tt_lcmp (fun h4 => ?_) (fun h5 => ?_) (fun h6 => ?_)
                            ·
                              refine tt_ifgtF (by decide) ?_
                              refine tt_ar rfl ?_
                              refine tt_ar rfl ?_
                              have hXa := WX.fz (FZ.of hF_σ4) (by decide) hXt
                              have hKa := WK.fz (FZ.of hF_σ4) (by decide) hKt
                              have hLSa := LQ.fz (FZ.of hF_σ4) (by decide) hLSt
                              have hKNa := KNs.fr hF_σ4 (by decide) hKNt
                              refine tt_cv2 2 rfl (wo_36 hW_σ4) (c119 σ4 k nm hW_σ4 D ex hXa hex hKa hKNa hTb hLSa m (by omega) (fun hm h hh hp => ⟨hB (m - 1) (by omega) h hh hp, (hF_σ4.2 35 (by decide) _).trans (hA3 (m - 1) (by omega) h hh hp).2⟩)) ?_
                              intro r0 σ5 hq0
                              obtain ⟨rfl, hF5, hB5, hO5⟩ := hq0
                              have hW7 := Fr.wd hF5 hW_σ4
                              refine tt_iinc (y := ((m + 1 : Nat) : Int)) rfl (iinc_fit (by omega) (by omega) (by omega)) ?_
                              refine tt_goto ?_
                              refine tt_loc [(0, vR 36), (1, vI (((m + 1 : Nat) : Int)))] rfl rfl ⟨rfl, rfl, trivial⟩ ?_
                              exact ih8 (m + 1) σ5 (by omega) (Fr.tr (Fr.tr Fr.rf hF_σ4 (by decide)) hF5 (by decide)) (by omega) (fun q hq h hh hp => by by_cases e : q = m; (subst e; exact hB5 h hh hp); exact (hO5 _ (Or.inl (by omega))).trans (hB q (by omega) h hh hp))
                            ·
                              refine tt_ifgtF (by decide) ?_
                              refine tt_ar rfl ?_
                              refine tt_ar rfl ?_
                              have hXa := WX.fz (FZ.of hF_σ4) (by decide) hXt
                              have hKa := WK.fz (FZ.of hF_σ4) (by decide) hKt
                              have hLSa := LQ.fz (FZ.of hF_σ4) (by decide) hLSt
                              have hKNa := KNs.fr hF_σ4 (by decide) hKNt
                              refine tt_cv2 2 rfl (wo_36 hW_σ4) (c119 σ4 k nm hW_σ4 D ex hXa hex hKa hKNa hTb hLSa m (by omega) (fun hm h hh hp => ⟨hB (m - 1) (by omega) h hh hp, (hF_σ4.2 35 (by decide) _).trans (hA3 (m - 1) (by omega) h hh hp).2⟩)) ?_
                              intro r0 σ5 hq0
                              obtain ⟨rfl, hF5, hB5, hO5⟩ := hq0
                              have hW8 := Fr.wd hF5 hW_σ4
                              refine tt_iinc (y := ((m + 1 : Nat) : Int)) rfl (iinc_fit (by omega) (by omega) (by omega)) ?_
                              refine tt_goto ?_
                              refine tt_loc [(0, vR 36), (1, vI (((m + 1 : Nat) : Int)))] rfl rfl ⟨rfl, rfl, trivial⟩ ?_
                              exact ih8 (m + 1) σ5 (by omega) (Fr.tr (Fr.tr Fr.rf hF_σ4 (by decide)) hF5 (by decide)) (by omega) (fun q hq h hh hp => by by_cases e : q = m; (subst e; exact hB5 h hh hp); exact (hO5 _ (Or.inl (by omega))).trans (hB q (by omega) h hh hp))
                            ·
                              refine tt_ifgtT (by decide) ?_
                              refine tt_vret ?_
                              refine ⟨rfl, KNs.fr hF_σ4 (by decide) hKNt, FZ.trF (FZ.tr (FZ.mono hZr (by decide)) hFt (by decide)) hF_σ4 (by decide), (hF_σ4.2 36 (by decide) _).trans ((ht36 5 (by decide)).trans h365), fun j h1 h2 => (hF_σ4.2 36 (by decide) _).trans ((ht36 j h2).trans (h36 j h1 h2)), ?_, fun _ hw m2 hm2 h hh hp => ?_⟩
                              · rw [hF_σ4.2 36 (by decide), ht7, if_pos hTb]
                              · exfalso
                                have z := cpM_eq (C := 1000000000000001) (a := (wyM 1000000 (nkT k) nm D ex)) (by omega)
                                rw [← ht7] at z
                                have z2 : σ4.1 36 7 = σt.1 36 7 := hF_σ4.2 36 (by decide) 7
                                omega
                      refine tt_loc [(0, vR 36), (1, vI (((0 : Nat) : Int)))] rfl rfl ⟨rfl, lv_to rfl (by omega), trivial⟩ ?_
                      exact lp8_3 _ (0) σt (Nat.lt_succ_self _) Fr.rf (by omega) (fun q hq => absurd hq (Nat.not_lt_zero q))
                    · refine tt_ar rfl ?_
                      refine tt_ar rfl ?_
                      refine tt_getL (x := cpM 1000000000000001 (sumN i (fun i => onG k nm D ex (σr.1 42 i)))) (wo_36 hW_σ3) rfl h7 ?_
                      refine tt_ar rfl ?_
                      refine tt_getR (wo_36 hW_σ3) rfl (wr_36_16 hW_σ3) ?_
                      obtain ⟨h, h1, h2, h3, h4⟩ := LI.at (hLSr 0 (by omega)).1 (show i < (ctN (plM 1000000 (nkT k) nm D ex 0) (nkT k)) by omega)
                      have h5 : σr.1 42 i = (h : Int) := by have h4 : σr.1 42 (0 * 462 + i) = (h : Int) := h4; rw [show 0 * 462 + i = i by omega] at h4; exact h4
                      have hq1 : σ3.1 45 h = cpM 1000000000000001 (onM 1000000 (nkT k) nm D ex (nm - 1) h) := by rw [hF_σ3.2 45 (by decide)]; have := (hA2 0 (by omega) h h1 h2).1; rw [show 0 * 462 + h = h by omega] at this; exact this
                      have hq2 := cpM_bd (C := 1000000000000001) (on_nn (F := 1000000) (N := nkT k) (n := nm) (D := D) (ex := ex) (nm - 1) (h := h)) (by decide)
                      have hq3 : (fun i => onG k nm D ex (σr.1 42 i)) i = onM 1000000 (nkT k) nm D ex (nm - 1) h := by show onG k nm D ex (σr.1 42 i) = _; rw [h5]; unfold onG; rw [Int.toNat_natCast]
                      have hz := cp_S (C := 1000000000000001) (f := (fun i => onG k nm D ex (σr.1 42 i))) (q := i) (by decide) (fun _ => on_nn _) hq3
                      refine tt_ar rfl ?_
                      refine tt_getR (wo_36 hW_σ3) rfl (wr_36_13 hW_σ3) ?_
                      refine tt_ar rfl ?_
                      refine tt_iald (i) (x := ((h : Nat) : Int)) (wa_42 hW_σ3) rfl (by omega) ((hF_σ3.2 42 (by decide) (i)).trans ((congrFun e42 i).trans h5)) ?_
                      refine tt_lald (h) (x := cpM 1000000000000001 (onM 1000000 (nkT k) nm D ex (nm - 1) h)) (wa_45 hW_σ3) rfl (by omega) hq1 ?_
                      refine tt_bL (g := (fun a b => w64 (a + b))) (z := (cpM 1000000000000001 (sumN i (fun i => onG k nm D ex (σr.1 42 i))) + cpM 1000000000000001 (onM 1000000 (nkT k) nm D ex (nm - 1) h))) rfl (w64_i (by omega) (by omega)) ?_
                      refine tt_cs1 2 rfl (c118 σ3 ((cpM 1000000000000001 (sumN i (fun i => onG k nm D ex (σr.1 42 i))) + cpM 1000000000000001 (onM 1000000 (nkT k) nm D ex (nm - 1) h)))) (kp ?_)
                      refine tt_putL (wo_36 hW_σ3) rfl ?_
                      refine tt_iinc (y := ((i + 1 : Nat) : Int)) rfl (iinc_fit (by omega) (by omega) (by omega)) ?_
                      refine tt_goto ?_
                      refine tt_loc [(0, vR 36), (1, vI (((i + 1 : Nat) : Int)))] rfl rfl ⟨rfl, rfl, trivial⟩ ?_
                      exact ih6 (i + 1) _ (by omega) (Fr.put (Fr.tr Fr.rf hF_σ3 (by decide)) (by decide)) (by omega) ((am_set_rd).trans hz) (fun j hj => (am_set_at).trans ((if_neg hj).trans (h36s j hj)))
                refine tt_loc [(0, vR 36), (1, vI (((0 : Nat) : Int)))] rfl rfl ⟨rfl, lv_to rfl (by omega), trivial⟩ ?_
                exact lp6_2 _ (0) σs (Nat.lt_succ_self _) Fr.rf (by omega) (hs7.trans (cpM_0 (by decide)).symm) (fun _ _ => rfl)
              · refine tt_loc [(0, vR 36), (1, vI (((c - 1 : Nat) : Int)))] rfl rfl ⟨rfl, lv_to rfl (by omega), trivial⟩ ?_
                refine tt_ar rfl ?_
                refine tt_ar rfl ?_
                have hXa := WX.fz hF_σ1 (by decide) hXr
                have hKa := WK.fz hF_σ1 (by decide) hKr
                have hLSa := LQ.fz hF_σ1 (by decide) hLSr
                refine tt_cv2 2 rfl (wo_36 hW_σ1) (c117 σ1 k nm hW_σ1 D ex hXa hex hKa hKN1 hTb hLSa (c - 1) (by omega) (fun hc h hh hp => by rw [show c - 1 + 1 = c by omega] at hc hp ⊢; exact (hA c (Nat.le_refl _) hc h hh hp).1)) ?_
                intro r0 σ2 hq0
                obtain ⟨rfl, hKN2, hF2, hB2, hO2, hM2⟩ := hq0
                have hW9 := FZ.wd hF2 hW_σ1
                refine tt_iinc (y := (((c - 1 : Nat) : Int) - 1)) rfl (iinc_fit (by omega) (by omega) (by omega)) ?_
                refine tt_goto ?_
                refine tt_loc [(0, vR 36), (1, vI ((((c - 1 : Nat) : Int) - 1)))] rfl rfl ⟨rfl, rfl, trivial⟩ ?_
                exact ih4 (c - 1) σ2 (by omega) (FZ.tr (FZ.tr FZ.rf hF_σ1 (by decide)) hF2 (by decide)) (by omega) hKN2 (fun m h1 h2 h hh hp => by by_cases e : m = c - 1; (subst e; exact hB2 h hh hp); (have e3 := hA m (by omega) h2 h hh hp; exact ⟨(hO2 _ (Or.inr (by omega))).trans e3.1, hM2 h e3.2⟩))
          refine tt_loc [(0, vR 36), (1, vI ((((nm : Nat) : Int) - 1)))] rfl rfl ⟨rfl, rfl, trivial⟩ ?_
          exact lp4_1 _ (nm) σr (Nat.lt_succ_self _) FZ.rf (by omega) hKNr (fun m h1 h2 => absurd h1 (by omega))
      · rw [show (am_set (am_set σ 36 (5) (1)) 36 (7) (1)).1 36 6 = bsN 1000000 (nkT k) nm D ex from (rfl).trans hK.1] at h3_2
        exact absurd h1_5 h3_2
    · rw [show (am_set σ 36 (5) (1)).1 36 6 = bsN 1000000 (nkT k) nm D ex from (rfl).trans hK.1] at h1_5
      refine tt_ifeqT (by decide) ?_
      refine tt_ar rfl ?_
      refine tt_nop ?_
      refine tt_putL (wo_36 hW) rfl ?_
      refine tt_ar rfl ?_
      refine tt_cv1 1 rfl (wo_36 hW) (c106 (am_set (am_set σ 36 (5) (1)) 36 (7) (0)) hW) (kb (fun h3_2 => ?_) (fun h3_2 => ?_))
      · rw [show (am_set (am_set σ 36 (5) (1)) 36 (7) (0)).1 36 6 = bsN 1000000 (nkT k) nm D ex from (rfl).trans hK.1] at h3_2
        exact absurd h3_2 h1_5
      · rw [show (am_set (am_set σ 36 (5) (1)) 36 (7) (0)).1 36 6 = bsN 1000000 (nkT k) nm D ex from (rfl).trans hK.1] at h3_2
        refine tt_ifeqT (by decide) ?_
        refine tt_vret ?_
        refine ⟨rfl, KNs.fr (Fr.put (Fr.put Fr.rf (by decide)) (by decide) : Fr [36] σ _) (by decide) hKN, FZ.put (FZ.put FZ.rf (by decide)) (by decide), (am_set_at).trans ((if_neg (by decide)).trans am_set_rd), fun j h1 h2 => (am_set_at).trans ((if_neg h2).trans ((am_set_at).trans (if_neg h1))), ?_, fun e => absurd e (by omega)⟩
        exact am_set_rd.trans (if_neg (by omega)).symm
  · refine tt_vret ?_
    exact ⟨rfl, hKN, FZ.rf, (by rcases hC with e | e; exact absurd e h0_2; exact e.1), fun _ _ _ => rfl, (by rcases hC with e | e; exact absurd e h0_2; exact e.2)⟩

