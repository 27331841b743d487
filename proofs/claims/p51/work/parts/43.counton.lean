/-! TALES COUNTED ON THE MACHINE -/
def onF (k nm m a : Nat) (D ex : Nat → Nat → Int) (z : Int) : Int := if foM 1000000 (nkT k) D ex m a z.toNat then onM 1000000 (nkT k) nm D ex (nm - 1 - (m + 1)) z.toNat else 0
def toF (k nm m b : Nat) (D ex : Nat → Nat → Int) (z : Int) : Int := if foM 1000000 (nkT k) D ex m z.toNat b then toM 1000000 (nkT k) nm D ex m z.toNat else 0
theorem onF_nn {k nm m a : Nat} {D ex : Nat → Nat → Int} {z : Int} : 0 ≤ onF k nm m a D ex z := by
  unfold onF
  split
  · exact on_nn _
  · exact Int.le_refl _
theorem toF_nn {k nm m a : Nat} {D ex : Nat → Nat → Int} {z : Int} : 0 ≤ toF k nm m a D ex z := by
  unfold toF
  split
  · exact to_nn _
  · exact Int.le_refl _
theorem onF_sum {k nm m a : Nat} {D ex : Nat → Nat → Int} {L : Nat → Int} (hm : m + 1 < nm) (ha : plM 1000000 (nkT k) nm D ex m a = true) (hL : LI (plM 1000000 (nkT k) nm D ex (m + 1)) (nkT k) L) : sumN (ctN (plM 1000000 (nkT k) nm D ex (m + 1)) (nkT k)) (fun i => onF k nm m a D ex (L i)) = onM 1000000 (nkT k) nm D ex (nm - 1 - m) a := by
  rw [LI.sum (f := onF k nm m a D ex) hL, show nm - 1 - m = (nm - 1 - (m + 1)) + 1 by omega]
  show _ = (if plM 1000000 (nkT k) nm D ex (nm - 1 - ((nm - 1 - (m + 1)) + 1)) a then _ else _)
  rw [show nm - 1 - ((nm - 1 - (m + 1)) + 1) = m by omega, ha, if_pos rfl]
  refine sumN_congr (fun h hh => ?_)
  unfold onF
  rw [Int.toNat_natCast]
  cases hp : plM 1000000 (nkT k) nm D ex (m + 1) h with
  | false =>
    rw [on_zz hm hp]
    show 0 = if _ then (0 : Int) else 0
    split <;> rfl
  | true => rfl
theorem toF_sum {k nm m b : Nat} {D ex : Nat → Nat → Int} {L : Nat → Int} (hb : plM 1000000 (nkT k) nm D ex (m + 1) b = true) (hL : LI (plM 1000000 (nkT k) nm D ex m) (nkT k) L) : sumN (ctN (plM 1000000 (nkT k) nm D ex m) (nkT k)) (fun i => toF k nm m b D ex (L i)) = toM 1000000 (nkT k) nm D ex (m + 1) b := by
  rw [LI.sum (f := toF k nm m b D ex) hL]
  show _ = (if plM 1000000 (nkT k) nm D ex (m + 1) b then _ else _)
  rw [hb, if_pos rfl]
  refine sumN_congr (fun h hh => ?_)
  unfold toF
  rw [Int.toNat_natCast]
  cases hp : plM 1000000 (nkT k) nm D ex m h with
  | false =>
    rw [to_z hp]
    show 0 = if _ then (0 : Int) else 0
    split <;> rfl
  | true => rfl
theorem am_set_nb {σ : am_S} {a b k j : Nat} {x : Int} (h : b ≠ a) : (am_set σ a k x).1 b j = σ.1 b j := if_neg (fun z => h z.1)
theorem cp_S {C a : Int} {f : Nat → Int} {q : Nat} (hC : 0 ≤ C) (hn : ∀ i, 0 ≤ f i) (ha : f q = a) : cpM C (cpM C (sumN q f) + cpM C a) = cpM C (sumN (q + 1) f) := by
  rw [sumN_s, ha]
  exact cpM_add (sumN_nn (fun i _ => hn i)) (by rw [← ha]; exact hn q) hC
theorem cp_Z {C : Int} {f : Nat → Int} {q : Nat} (ha : f q = 0) : cpM C (sumN q f) = cpM C (sumN (q + 1) f) := by
  rw [sumN_s, ha, Int.add_zero]
theorem c118 (σ : am_S) (x : Int) : CC 118 [vL (x)] σ (fun r σ' => r = some (vL (cpM 1000000000000001 x)) ∧ σ' = σ) := by
  show TT am_b118 (am_b118.getD 0 []) [(0, vL (x))] [] σ _
  refine tt_ar rfl ?_
  refine tt_ar rfl ?_
  refine tt_lmin (z := (if 1000000000000001 < x then 1000000000000001 else x)) rfl rfl ?_
  refine tt_lret ?_
  exact ⟨rfl, rfl⟩

theorem c117 (σ : am_S) (k nm : Nat) (hW : Wd σ) (D ex : Nat → Nat → Int) (hX : WX k nm D σ) (hex : ∀ m h, h < nkT k → 0 ≤ ex m h ∧ ex m h ≤ 1000000) (hK : WK k nm D ex σ) (hKN : KNs k D σ) (hT : bsN 1000000 (nkT k) nm D ex < 1000000) (hLS : LQ k nm D ex σ) (m : Nat) (hm : m < nm) (hon : m + 1 < nm → ∀ h, h < nkT k → (plM 1000000 (nkT k) nm D ex (m + 1)) h = true → σ.1 45 ((m + 1) * 462 + h) = cpM 1000000000000001 (onM 1000000 (nkT k) nm D ex (nm - 1 - (m + 1)) h)) : CC 117 [vR 36, vI (((m : Nat) : Int))] σ (fun r σ' => r = none ∧ KNs k D σ' ∧ FZ [33, 34, 35, 45] σ σ' ∧ (∀ h, h < nkT k → (plM 1000000 (nkT k) nm D ex m) h = true → σ'.1 45 (m * 462 + h) = cpM 1000000000000001 (onM 1000000 (nkT k) nm D ex (nm - 1 - m) h) ∧ σ'.1 35 h = 1) ∧ (∀ j, (j < m * 462 ∨ m * 462 + 462 ≤ j) → σ'.1 45 j = σ.1 45 j) ∧ ∀ h, σ.1 35 h = 1 → σ'.1 35 h = 1) := by
  show TT am_b117 (am_b117.getD 0 []) [(0, vR 36), (1, vI (((m : Nat) : Int)))] [] σ _
  obtain ⟨hD, hH, hL, hDI⟩ := id hX
  have hk6 := hD.2.1
  have hnb := nkT_bd k
  have hnm := hL.2.1
  have hpr := hD.2.2.2.1
  have hDb : ∀ a b, a < nkT k → b < nkT k → 0 ≤ D a b := fun a b ha hb => (DI.bd hk6 hpr hDI ha hb).1
  have hab : ∀ m h, h < nkT k → 0 ≤ ahN 1000000 (nkT k) D ex m h ∧ ahN 1000000 (nkT k) D ex m h ≤ 1000000 := fun m h hh => ahN_bd (by omega) (by omega) hDb (fun m h hh => (hex m h hh).1) m hh
  refine tt_ar rfl ?_
  refine tt_ar rfl ?_
  refine tt_getR (wo_36 hW) rfl (wr_36_1 hW) ?_
  refine tt_getI (x := ((nm : Nat) : Int)) (wo_27 hW) rfl hL.1 ?_
  refine tt_ar rfl ?_
  refine tt_isub (by omega) (by omega) ?_
  refine tt_icne (fun h0_6 => ?_) (fun h0_6 => ?_)
  · refine tt_ar rfl ?_
    refine tt_nop ?_
    refine tt_ar rfl ?_
    refine tt_ar rfl ?_
    refine tt_ar rfl ?_
    refine tt_nop ?_
    have lp3_1 : ∀ (μ : Nat) (i : Nat) (σ1 : am_S), (ctN (plM 1000000 (nkT k) nm D ex m) (nkT k)) - i < μ → FZ [33, 34, 35, 45] σ σ1 → (i ≤ (ctN (plM 1000000 (nkT k) nm D ex m) (nkT k))) → (KNs k D σ1) → (∀ h, h < nkT k → (plM 1000000 (nkT k) nm D ex m) h = true → ctN (plM 1000000 (nkT k) nm D ex m) h < i → σ1.1 45 (m * 462 + h) = cpM 1000000000000001 (onM 1000000 (nkT k) nm D ex (nm - 1 - m) h) ∧ σ1.1 35 h = 1) → (∀ j, (j < m * 462 ∨ m * 462 + 462 ≤ j) → σ1.1 45 j = σ.1 45 j) → (∀ h, σ.1 35 h = 1 → σ1.1 35 h = 1) → TT am_b117 (am_b117.getD 3 []) [(0, vR 36), (1, vI (((m : Nat) : Int))), (2, vI 0), (3, vI (((i : Nat) : Int)))] [] σ1 (fun r σ' => r = none ∧ KNs k D σ' ∧ FZ [33, 34, 35, 45] σ σ' ∧ (∀ h, h < nkT k → (plM 1000000 (nkT k) nm D ex m) h = true → σ'.1 45 (m * 462 + h) = cpM 1000000000000001 (onM 1000000 (nkT k) nm D ex (nm - 1 - m) h) ∧ σ'.1 35 h = 1) ∧ (∀ j, (j < m * 462 ∨ m * 462 + 462 ≤ j) → σ'.1 45 j = σ.1 45 j) ∧ ∀ h, σ.1 35 h = 1 → σ'.1 35 h = 1) := by
      intro μ
      induction μ with
      | zero => intro i σ1 hμ; exact absurd hμ (Nat.not_lt_zero _)
      | succ μ ih3 =>
        intro i σ1 hμ hF_σ1 hi hKN1 hA hO hM
        have hW_σ1 := FZ.wd hF_σ1 hW
        have hcm := ctN_le (p := (plM 1000000 (nkT k) nm D ex m)) (nkT k)
        have hnl : nkT k ≤ 462 := hnb.2
        refine tt_ar rfl ?_
        refine tt_ar rfl ?_
        refine tt_getR (wo_36 hW_σ1) rfl (wr_36_14 hW_σ1) ?_
        refine tt_ar rfl ?_
        refine tt_iald (m) (x := (((ctN (plM 1000000 (nkT k) nm D ex m) (nkT k)) : Nat) : Int)) (wa_43 hW_σ1) rfl (by omega) ((hF_σ1.2 43 ⟨(by decide), Or.inl (by decide)⟩ (m)).trans (hLS m (by omega)).2) ?_
        refine tt_icge (fun h3_5 => ?_) (fun h3_5 => ?_)
        · refine tt_vret ?_
          have e1 : i = (ctN (plM 1000000 (nkT k) nm D ex m) (nkT k)) := by omega
          exact ⟨rfl, hKN1, hF_σ1, fun h hh hp => hA h hh hp (by have := ctN_lt hp hh; omega), hO, hM⟩
        · refine tt_ar rfl ?_
          refine tt_getR (wo_36 hW_σ1) rfl (wr_36_13 hW_σ1) ?_
          refine tt_ar rfl ?_
          refine tt_ar rfl ?_
          refine tt_imul (by omega) (by omega) ?_
          refine tt_ar rfl ?_
          refine tt_iadd (by omega) (by omega) ?_
          obtain ⟨a, a1, a2, a3, a4⟩ := LI.at (hLS m (by omega)).1 (show i < (ctN (plM 1000000 (nkT k) nm D ex m) (nkT k)) by omega)
          refine tt_iald (((m * 462) + i)) (x := ((a : Nat) : Int)) (wa_42 hW_σ1) (by omega) (by omega) ((hF_σ1.2 42 ⟨(by decide), Or.inl (by decide)⟩ (((m * 462) + i))).trans a4) ?_
          refine tt_ar rfl ?_
          refine tt_ar rfl ?_
          refine tt_ifeqT (by decide) ?_
          refine tt_ar rfl ?_
          refine tt_nop ?_
          refine tt_ar rfl ?_
          refine tt_ar rfl ?_
          refine tt_getR (wo_36 hW_σ1) rfl (wr_36_3 hW_σ1) ?_
          refine tt_ar rfl ?_
          have hZa : FZ [33, 34, 35, 45] σ σ1 := (FZ.tr FZ.rf hF_σ1 (by decide))
          have hXa := WX.fz hZa (by decide) hX
          have hKa := WK.fz hZa (by decide) hK
          have hLSa := LQ.fz hZa (by decide) hLS
          refine tt_cv2 2 rfl (wo_32 hW_σ1) (know_z σ1 k a D hW_σ1 hXa.1 hXa.2.1 hXa.2.2.2 hKN1 a1) ?_
          intro r0 σ2 hq0
          obtain ⟨rfl, hKN2, h35b, h35m, hF2⟩ := hq0
          have hW2 := FZ.wd hF2 hW_σ1
          refine tt_ar rfl ?_
          refine tt_ar rfl ?_
          refine tt_nop ?_
          have lp6_3 : ∀ (μ : Nat) (q : Nat), (ctN (plM 1000000 (nkT k) nm D ex (m + 1)) (nkT k)) - q < μ → (q ≤ (ctN (plM 1000000 (nkT k) nm D ex (m + 1)) (nkT k))) → TT am_b117 (am_b117.getD 6 []) [(0, vR 36), (1, vI (((m : Nat) : Int))), (2, vI 0), (3, vI (((i : Nat) : Int))), (4, vI (((a : Nat) : Int))), (5, vL (cpM 1000000000000001 (sumN q (fun i => onF k nm m a D ex (σ.1 42 ((m + 1) * 462 + i)))))), (7, vI (((q : Nat) : Int)))] [] σ2 (fun r σ' => r = none ∧ KNs k D σ' ∧ FZ [33, 34, 35, 45] σ σ' ∧ (∀ h, h < nkT k → (plM 1000000 (nkT k) nm D ex m) h = true → σ'.1 45 (m * 462 + h) = cpM 1000000000000001 (onM 1000000 (nkT k) nm D ex (nm - 1 - m) h) ∧ σ'.1 35 h = 1) ∧ (∀ j, (j < m * 462 ∨ m * 462 + 462 ≤ j) → σ'.1 45 j = σ.1 45 j) ∧ ∀ h, σ.1 35 h = 1 → σ'.1 35 h = 1) := by
            intro μ
            induction μ with
            | zero => intro q hμ; exact absurd hμ (Nat.not_lt_zero _)
            | succ μ ih6 =>
              intro q hμ hq
              have hcm1 := ctN_le (p := (plM 1000000 (nkT k) nm D ex (m + 1))) (nkT k)
              have hsb := cpM_bd (C := 1000000000000001) (sumN_nn (n := q) (f := (fun i => onF k nm m a D ex (σ.1 42 ((m + 1) * 462 + i)))) (fun _ _ => onF_nn)) (by decide)
              refine tt_ar rfl ?_
              refine tt_ifneF (by decide) ?_
              refine tt_ar rfl ?_
              refine tt_ar rfl ?_
              refine tt_getR (wo_36 hW2) rfl (wr_36_14 hW2) ?_
              refine tt_ar rfl ?_
              refine tt_ar rfl ?_
              refine tt_iadd (by omega) (by omega) ?_
              refine tt_iald ((m + 1)) (x := (((ctN (plM 1000000 (nkT k) nm D ex (m + 1)) (nkT k)) : Nat) : Int)) (wa_43 hW2) (by omega) (by omega) (((hF2.2 43 ⟨(by decide), Or.inl (by decide)⟩ ((m + 1))).trans (hF_σ1.2 43 ⟨(by decide), Or.inl (by decide)⟩ ((m + 1)))).trans (hLS (m + 1) (by omega)).2) ?_
              refine tt_icge (fun h6_9 => ?_) (fun h6_9 => ?_)
              · have eq1 : q = (ctN (plM 1000000 (nkT k) nm D ex (m + 1)) (nkT k)) := by omega
                have hv : cpM 1000000000000001 (onM 1000000 (nkT k) nm D ex (nm - 1 - m) a) = cpM 1000000000000001 (sumN q (fun i => onF k nm m a D ex (σ.1 42 ((m + 1) * 462 + i)))) := by rw [eq1]; exact congrArg (cpM 1000000000000001) (onF_sum (by omega) a2 (hLS (m + 1) (by omega)).1).symm
                refine tt_ar rfl ?_
                refine tt_getR (wo_36 hW2) rfl (wr_36_16 hW2) ?_
                refine tt_ar rfl ?_
                refine tt_ar rfl ?_
                refine tt_imul (by omega) (by omega) ?_
                refine tt_ar rfl ?_
                refine tt_iadd (by omega) (by omega) ?_
                refine tt_ar rfl ?_
                refine tt_last (((m * 462) + a)) (wa_45 hW2) (by omega) (by omega) (by omega) ?_
                refine tt_iinc (y := ((i + 1 : Nat) : Int)) rfl (iinc_fit (by omega) (by omega) (by omega)) ?_
                refine tt_goto ?_
                refine tt_loc [(0, vR 36), (1, vI (((m : Nat) : Int))), (2, vI 0), (3, vI (((i + 1 : Nat) : Int)))] rfl rfl ⟨rfl, rfl, rfl, rfl, trivial⟩ ?_
                exact ih3 (i + 1) _ (by omega) (FZ.put (FZ.tr (FZ.tr FZ.rf hF_σ1 (by decide)) hF2 (by decide)) (by decide)) (by omega) (KNs.fr (Fr.put Fr.rf (by decide) : Fr [45] σ2 _) (by decide) hKN2) (fun h hh hp hc => by by_cases e : h = a; (subst e; exact ⟨(am_set_at).trans ((if_pos rfl).trans hv.symm), (am_set_nb (by decide)).trans h35b⟩); (have e2 : ctN (plM 1000000 (nkT k) nm D ex m) h < i := by (rcases Nat.lt_or_ge (ctN (plM 1000000 (nkT k) nm D ex m) h) i with z | z; exact z; exact absurd (ctN_inj hp a2 (by omega)) e)); have e3 := hA h hh hp e2; exact ⟨(am_set_at).trans ((if_neg (by omega)).trans ((hF2.2 45 ⟨by decide, Or.inl (by decide)⟩ _).trans e3.1)), (am_set_nb (by decide)).trans (h35m h e3.2)⟩) (fun j hj => (am_set_at).trans ((if_neg (by omega)).trans ((hF2.2 45 ⟨by decide, Or.inl (by decide)⟩ _).trans (hO j hj)))) (fun h e => (am_set_nb (by decide)).trans (h35m h (hM h e)))
              · refine tt_ar rfl ?_
                refine tt_getR (wo_36 hW2) rfl (wr_36_13 hW2) ?_
                refine tt_ar rfl ?_
                refine tt_ar rfl ?_
                refine tt_iadd (by omega) (by omega) ?_
                refine tt_ar rfl ?_
                refine tt_imul (by omega) (by omega) ?_
                refine tt_ar rfl ?_
                refine tt_iadd (by omega) (by omega) ?_
                obtain ⟨h, h1, h2, h3, h4⟩ := LI.at (hLS (m + 1) (by omega)).1 (show q < (ctN (plM 1000000 (nkT k) nm D ex (m + 1)) (nkT k)) by omega)
                refine tt_iald ((((m + 1) * 462) + q)) (x := ((h : Nat) : Int)) (wa_42 hW2) (by omega) (by omega) (((hF2.2 42 ⟨(by decide), Or.inl (by decide)⟩ ((((m + 1) * 462) + q))).trans (hF_σ1.2 42 ⟨(by decide), Or.inl (by decide)⟩ ((((m + 1) * 462) + q)))).trans h4) ?_
                refine tt_ar rfl ?_
                refine tt_ar rfl ?_
                refine tt_ar rfl ?_
                refine tt_ar rfl ?_
                refine tt_ar rfl ?_
                have hZf : FZ [33, 34, 35, 45] σ σ2 := (FZ.tr (FZ.tr FZ.rf hF_σ1 (by decide)) hF2 (by decide))
                have hXf := WX.fz hZf (by decide) hX
                have hKf := WK.fz hZf (by decide) hK
                have hLSf := LQ.fz hZf (by decide) hLS
                refine tt_cv4 4 rfl (wo_36 hW2) (c113 σ2 k nm hW2 D ex hXf hex hKf hKN2 m a h (by omega) a1 h1 h35b) (kb (fun h6_25 => ?_) (fun h6_25 => ?_))
                · refine tt_ifeqF (by decide) ?_
                  refine tt_ar rfl ?_
                  refine tt_ar rfl ?_
                  refine tt_getR (wo_36 hW2) rfl (wr_36_16 hW2) ?_
                  refine tt_ar rfl ?_
                  refine tt_ar rfl ?_
                  refine tt_iadd (by omega) (by omega) ?_
                  refine tt_ar rfl ?_
                  refine tt_imul (by omega) (by omega) ?_
                  refine tt_ar rfl ?_
                  refine tt_iadd (by omega) (by omega) ?_
                  have hq1 : σ2.1 45 ((m + 1) * 462 + h) = cpM 1000000000000001 (onM 1000000 (nkT k) nm D ex (nm - 1 - (m + 1)) h) := (hF2.2 45 ⟨by decide, Or.inl (by decide)⟩ _).trans ((hO _ (Or.inr (by omega))).trans (hon (by omega) h h1 h2))
                  have hq2 := cpM_bd (C := 1000000000000001) (on_nn (F := 1000000) (N := nkT k) (n := nm) (D := D) (ex := ex) (nm - 1 - (m + 1)) (h := h)) (by decide)
                  have hq3 : (fun i => onF k nm m a D ex (σ.1 42 ((m + 1) * 462 + i))) q = (onM 1000000 (nkT k) nm D ex (nm - 1 - (m + 1)) h) := by show onF k nm m a D ex (σ.1 42 ((m + 1) * 462 + q)) = _; rw [show σ.1 42 ((m + 1) * 462 + q) = (h : Int) from h4]; unfold onF; rw [Int.toNat_natCast, h6_25]; rfl
                  refine tt_lald ((((m + 1) * 462) + h)) (x := cpM 1000000000000001 (onM 1000000 (nkT k) nm D ex (nm - 1 - (m + 1)) h)) (wa_45 hW2) (by omega) (by omega) hq1 ?_
                  refine tt_bL (g := (fun a b => w64 (a + b))) (z := (cpM 1000000000000001 (sumN q (fun i => onF k nm m a D ex (σ.1 42 ((m + 1) * 462 + i)))) + cpM 1000000000000001 (onM 1000000 (nkT k) nm D ex (nm - 1 - (m + 1)) h))) rfl (w64_i (by omega) (by omega)) ?_
                  refine tt_cs1 2 rfl (c118 σ2 ((cpM 1000000000000001 (sumN q (fun i => onF k nm m a D ex (σ.1 42 ((m + 1) * 462 + i)))) + cpM 1000000000000001 (onM 1000000 (nkT k) nm D ex (nm - 1 - (m + 1)) h)))) (kp ?_)
                  refine tt_ar rfl ?_
                  refine tt_nop ?_
                  have hz := cp_S (C := 1000000000000001) (f := (fun i => onF k nm m a D ex (σ.1 42 ((m + 1) * 462 + i)))) (q := q) (by decide) (fun _ => onF_nn) hq3
                  refine tt_iinc (y := ((q + 1 : Nat) : Int)) rfl (iinc_fit (by omega) (by omega) (by omega)) ?_
                  refine tt_goto ?_
                  refine tt_loc [(0, vR 36), (1, vI (((m : Nat) : Int))), (2, vI 0), (3, vI (((i : Nat) : Int))), (4, vI (((a : Nat) : Int))), (5, vL (cpM 1000000000000001 (sumN (q + 1) (fun i => onF k nm m a D ex (σ.1 42 ((m + 1) * 462 + i)))))), (7, vI (((q + 1 : Nat) : Int)))] rfl rfl ⟨rfl, rfl, rfl, rfl, rfl, lv_toL rfl (by first | exact hz | exact hz2), rfl, trivial⟩ ?_
                  exact ih6 (q + 1) (by omega) (by omega)
                · refine tt_ifeqT (by decide) ?_
                  have hz2 : cpM 1000000000000001 (sumN q (fun i => onF k nm m a D ex (σ.1 42 ((m + 1) * 462 + i)))) = cpM 1000000000000001 (sumN (q + 1) (fun i => onF k nm m a D ex (σ.1 42 ((m + 1) * 462 + i)))) := cp_Z (f := (fun i => onF k nm m a D ex (σ.1 42 ((m + 1) * 462 + i)))) (q := q) (by show onF k nm m a D ex (σ.1 42 ((m + 1) * 462 + q)) = _; rw [show σ.1 42 ((m + 1) * 462 + q) = (h : Int) from h4]; unfold onF; rw [Int.toNat_natCast, Bool.eq_false_iff.mpr h6_25]; rfl)
                  refine tt_iinc (y := ((q + 1 : Nat) : Int)) rfl (iinc_fit (by omega) (by omega) (by omega)) ?_
                  refine tt_goto ?_
                  refine tt_loc [(0, vR 36), (1, vI (((m : Nat) : Int))), (2, vI 0), (3, vI (((i : Nat) : Int))), (4, vI (((a : Nat) : Int))), (5, vL (cpM 1000000000000001 (sumN (q + 1) (fun i => onF k nm m a D ex (σ.1 42 ((m + 1) * 462 + i)))))), (7, vI (((q + 1 : Nat) : Int)))] rfl rfl ⟨rfl, rfl, rfl, rfl, rfl, lv_toL rfl (by first | exact hz | exact hz2), rfl, trivial⟩ ?_
                  exact ih6 (q + 1) (by omega) (by omega)
          refine tt_loc [(0, vR 36), (1, vI (((m : Nat) : Int))), (2, vI 0), (3, vI (((i : Nat) : Int))), (4, vI (((a : Nat) : Int))), (5, vL (cpM 1000000000000001 (sumN 0 (fun i => onF k nm m a D ex (σ.1 42 ((m + 1) * 462 + i)))))), (7, vI (((0 : Nat) : Int)))] rfl rfl ⟨rfl, rfl, rfl, rfl, rfl, lv_toL rfl (cpM_0 (by decide)).symm, lv_to rfl (by omega), trivial⟩ ?_
          exact lp6_3 _ (0) (Nat.lt_succ_self _) (by omega)
    refine tt_loc [(0, vR 36), (1, vI (((m : Nat) : Int))), (2, vI 0), (3, vI (((0 : Nat) : Int)))] rfl rfl ⟨rfl, rfl, rfl, lv_to rfl (by omega), trivial⟩ ?_
    exact lp3_1 _ (0) σ (Nat.lt_succ_self _) FZ.rf (by omega) hKN (fun h _ _ hc => absurd hc (Nat.not_lt_zero _)) (fun j _ => rfl) (fun h e => e)
  · refine tt_ar rfl ?_
    refine tt_goto ?_
    refine tt_ar rfl ?_
    refine tt_ar rfl ?_
    refine tt_ar rfl ?_
    refine tt_nop ?_
    have lp3_4 : ∀ (μ : Nat) (i : Nat) (σ1 : am_S), (ctN (plM 1000000 (nkT k) nm D ex m) (nkT k)) - i < μ → FZ [33, 34, 35, 45] σ σ1 → (i ≤ (ctN (plM 1000000 (nkT k) nm D ex m) (nkT k))) → (KNs k D σ1) → (∀ h, h < nkT k → (plM 1000000 (nkT k) nm D ex m) h = true → ctN (plM 1000000 (nkT k) nm D ex m) h < i → σ1.1 45 (m * 462 + h) = cpM 1000000000000001 (onM 1000000 (nkT k) nm D ex (nm - 1 - m) h) ∧ σ1.1 35 h = 1) → (∀ j, (j < m * 462 ∨ m * 462 + 462 ≤ j) → σ1.1 45 j = σ.1 45 j) → (∀ h, σ.1 35 h = 1 → σ1.1 35 h = 1) → TT am_b117 (am_b117.getD 3 []) [(0, vR 36), (1, vI (((m : Nat) : Int))), (2, vI 1), (3, vI (((i : Nat) : Int)))] [] σ1 (fun r σ' => r = none ∧ KNs k D σ' ∧ FZ [33, 34, 35, 45] σ σ' ∧ (∀ h, h < nkT k → (plM 1000000 (nkT k) nm D ex m) h = true → σ'.1 45 (m * 462 + h) = cpM 1000000000000001 (onM 1000000 (nkT k) nm D ex (nm - 1 - m) h) ∧ σ'.1 35 h = 1) ∧ (∀ j, (j < m * 462 ∨ m * 462 + 462 ≤ j) → σ'.1 45 j = σ.1 45 j) ∧ ∀ h, σ.1 35 h = 1 → σ'.1 35 h = 1) := by
      intro μ
      induction μ with
      | zero => intro i σ1 hμ; exact absurd hμ (Nat.not_lt_zero _)
      | succ μ ih3 =>
        intro i σ1 hμ hF_σ1 hi hKN1 hA hO hM
        have hW_σ1 := FZ.wd hF_σ1 hW
        have hcm := ctN_le (p := (plM 1000000 (nkT k) nm D ex m)) (nkT k)
        have hnl : nkT k ≤ 462 := hnb.2
        refine tt_ar rfl ?_
        refine tt_ar rfl ?_
        refine tt_getR (wo_36 hW_σ1) rfl (wr_36_14 hW_σ1) ?_
        refine tt_ar rfl ?_
        refine tt_iald (m) (x := (((ctN (plM 1000000 (nkT k) nm D ex m) (nkT k)) : Nat) : Int)) (wa_43 hW_σ1) rfl (by omega) ((hF_σ1.2 43 ⟨(by decide), Or.inl (by decide)⟩ (m)).trans (hLS m (by omega)).2) ?_
        refine tt_icge (fun h3_5 => ?_) (fun h3_5 => ?_)
        · refine tt_vret ?_
          have e1 : i = (ctN (plM 1000000 (nkT k) nm D ex m) (nkT k)) := by omega
          exact ⟨rfl, hKN1, hF_σ1, fun h hh hp => hA h hh hp (by have := ctN_lt hp hh; omega), hO, hM⟩
        · refine tt_ar rfl ?_
          refine tt_getR (wo_36 hW_σ1) rfl (wr_36_13 hW_σ1) ?_
          refine tt_ar rfl ?_
          refine tt_ar rfl ?_
          refine tt_imul (by omega) (by omega) ?_
          refine tt_ar rfl ?_
          refine tt_iadd (by omega) (by omega) ?_
          obtain ⟨a, a1, a2, a3, a4⟩ := LI.at (hLS m (by omega)).1 (show i < (ctN (plM 1000000 (nkT k) nm D ex m) (nkT k)) by omega)
          refine tt_iald (((m * 462) + i)) (x := ((a : Nat) : Int)) (wa_42 hW_σ1) (by omega) (by omega) ((hF_σ1.2 42 ⟨(by decide), Or.inl (by decide)⟩ (((m * 462) + i))).trans a4) ?_
          refine tt_ar rfl ?_
          refine tt_ar rfl ?_
          refine tt_ifeqF (by decide) ?_
          refine tt_ar rfl ?_
          refine tt_goto ?_
          refine tt_ar rfl ?_
          refine tt_ar rfl ?_
          refine tt_getR (wo_36 hW_σ1) rfl (wr_36_3 hW_σ1) ?_
          refine tt_ar rfl ?_
          have hZa : FZ [33, 34, 35, 45] σ σ1 := (FZ.tr FZ.rf hF_σ1 (by decide))
          have hXa := WX.fz hZa (by decide) hX
          have hKa := WK.fz hZa (by decide) hK
          have hLSa := LQ.fz hZa (by decide) hLS
          refine tt_cv2 2 rfl (wo_32 hW_σ1) (know_z σ1 k a D hW_σ1 hXa.1 hXa.2.1 hXa.2.2.2 hKN1 a1) ?_
          intro r0 σ2 hq0
          obtain ⟨rfl, hKN2, h35b, h35m, hF2⟩ := hq0
          have hW5 := FZ.wd hF2 hW_σ1
          refine tt_ar rfl ?_
          refine tt_ar rfl ?_
          refine tt_nop ?_
          refine tt_ar rfl ?_
          refine tt_ifneT (by decide) ?_
          have em : nm - 1 - m = 0 := by omega
          have hv : cpM 1000000000000001 (onM 1000000 (nkT k) nm D ex (nm - 1 - m) a) = 1 := by rw [em]; unfold onM; rw [show nm - 1 = m by omega, a2]; rfl
          refine tt_ar rfl ?_
          refine tt_getR (wo_36 hW5) rfl (wr_36_16 hW5) ?_
          refine tt_ar rfl ?_
          refine tt_ar rfl ?_
          refine tt_imul (by omega) (by omega) ?_
          refine tt_ar rfl ?_
          refine tt_iadd (by omega) (by omega) ?_
          refine tt_ar rfl ?_
          refine tt_last (((m * 462) + a)) (wa_45 hW5) (by omega) (by omega) (by omega) ?_
          refine tt_iinc (y := ((i + 1 : Nat) : Int)) rfl (iinc_fit (by omega) (by omega) (by omega)) ?_
          refine tt_goto ?_
          refine tt_loc [(0, vR 36), (1, vI (((m : Nat) : Int))), (2, vI 1), (3, vI (((i + 1 : Nat) : Int)))] rfl rfl ⟨rfl, rfl, rfl, rfl, trivial⟩ ?_
          exact ih3 (i + 1) _ (by omega) (FZ.put (FZ.tr (FZ.tr FZ.rf hF_σ1 (by decide)) hF2 (by decide)) (by decide)) (by omega) (KNs.fr (Fr.put Fr.rf (by decide) : Fr [45] σ2 _) (by decide) hKN2) (fun h hh hp hc => by by_cases e : h = a; (subst e; exact ⟨(am_set_at).trans ((if_pos rfl).trans hv.symm), (am_set_nb (by decide)).trans h35b⟩); (have e2 : ctN (plM 1000000 (nkT k) nm D ex m) h < i := by (rcases Nat.lt_or_ge (ctN (plM 1000000 (nkT k) nm D ex m) h) i with z | z; exact z; exact absurd (ctN_inj hp a2 (by omega)) e)); have e3 := hA h hh hp e2; exact ⟨(am_set_at).trans ((if_neg (by omega)).trans ((hF2.2 45 ⟨by decide, Or.inl (by decide)⟩ _).trans e3.1)), (am_set_nb (by decide)).trans (h35m h e3.2)⟩) (fun j hj => (am_set_at).trans ((if_neg (by omega)).trans ((hF2.2 45 ⟨by decide, Or.inl (by decide)⟩ _).trans (hO j hj)))) (fun h e => (am_set_nb (by decide)).trans (h35m h (hM h e)))
    refine tt_loc [(0, vR 36), (1, vI (((m : Nat) : Int))), (2, vI 1), (3, vI (((0 : Nat) : Int)))] rfl rfl ⟨rfl, rfl, rfl, lv_to rfl (by omega), trivial⟩ ?_
    exact lp3_4 _ (0) σ (Nat.lt_succ_self _) FZ.rf (by omega) hKN (fun h _ _ hc => absurd hc (Nat.not_lt_zero _)) (fun j _ => rfl) (fun h e => e)

theorem c119 (σ : am_S) (k nm : Nat) (hW : Wd σ) (D ex : Nat → Nat → Int) (hX : WX k nm D σ) (hex : ∀ m h, h < nkT k → 0 ≤ ex m h ∧ ex m h ≤ 1000000) (hK : WK k nm D ex σ) (hKN : KNs k D σ) (hT : bsN 1000000 (nkT k) nm D ex < 1000000) (hLS : LQ k nm D ex σ) (m : Nat) (hm : m < nm) (hto : 0 < m → ∀ h, h < nkT k → (plM 1000000 (nkT k) nm D ex (m - 1)) h = true → σ.1 44 ((m - 1) * 462 + h) = cpM 1000000000000001 (toM 1000000 (nkT k) nm D ex (m - 1) h) ∧ σ.1 35 h = 1) : CC 119 [vR 36, vI (((m : Nat) : Int))] σ (fun r σ' => r = none ∧ Fr [44] σ σ' ∧ (∀ h, h < nkT k → (plM 1000000 (nkT k) nm D ex m) h = true → σ'.1 44 (m * 462 + h) = cpM 1000000000000001 (toM 1000000 (nkT k) nm D ex m h)) ∧ (∀ j, (j < m * 462 ∨ m * 462 + 462 ≤ j) → σ'.1 44 j = σ.1 44 j)) := by
  show TT am_b119 (am_b119.getD 0 []) [(0, vR 36), (1, vI (((m : Nat) : Int)))] [] σ _
  obtain ⟨hD, hH, hL, hDI⟩ := id hX
  have hk6 := hD.2.1
  have hnb := nkT_bd k
  have hnm := hL.2.1
  have hpr := hD.2.2.2.1
  have hDb : ∀ a b, a < nkT k → b < nkT k → 0 ≤ D a b := fun a b ha hb => (DI.bd hk6 hpr hDI ha hb).1
  have hab : ∀ m h, h < nkT k → 0 ≤ ahN 1000000 (nkT k) D ex m h ∧ ahN 1000000 (nkT k) D ex m h ≤ 1000000 := fun m h hh => ahN_bd (by omega) (by omega) hDb (fun m h hh => (hex m h hh).1) m hh
  refine tt_ar rfl ?_
  refine tt_ar rfl ?_
  refine tt_nop ?_
  have lp1_1 : ∀ (μ : Nat) (i : Nat) (σ1 : am_S), (ctN (plM 1000000 (nkT k) nm D ex m) (nkT k)) - i < μ → Fr [44] σ σ1 → (i ≤ (ctN (plM 1000000 (nkT k) nm D ex m) (nkT k))) → (∀ h, h < nkT k → (plM 1000000 (nkT k) nm D ex m) h = true → ctN (plM 1000000 (nkT k) nm D ex m) h < i → σ1.1 44 (m * 462 + h) = cpM 1000000000000001 (toM 1000000 (nkT k) nm D ex m h)) → (∀ j, (j < m * 462 ∨ m * 462 + 462 ≤ j) → σ1.1 44 j = σ.1 44 j) → TT am_b119 (am_b119.getD 1 []) [(0, vR 36), (1, vI (((m : Nat) : Int))), (2, vI (((i : Nat) : Int)))] [] σ1 (fun r σ' => r = none ∧ Fr [44] σ σ' ∧ (∀ h, h < nkT k → (plM 1000000 (nkT k) nm D ex m) h = true → σ'.1 44 (m * 462 + h) = cpM 1000000000000001 (toM 1000000 (nkT k) nm D ex m h)) ∧ (∀ j, (j < m * 462 ∨ m * 462 + 462 ≤ j) → σ'.1 44 j = σ.1 44 j)) := by
    intro μ
    induction μ with
    | zero => intro i σ1 hμ; exact absurd hμ (Nat.not_lt_zero _)
    | succ μ ih1 =>
      intro i σ1 hμ hF_σ1 hi hA hO
      have hW_σ1 := Fr.wd hF_σ1 hW
      have hcm := ctN_le (p := (plM 1000000 (nkT k) nm D ex m)) (nkT k)
      have hnl : nkT k ≤ 462 := hnb.2
      refine tt_ar rfl ?_
      refine tt_ar rfl ?_
      refine tt_getR (wo_36 hW_σ1) rfl (wr_36_14 hW_σ1) ?_
      refine tt_ar rfl ?_
      refine tt_iald (m) (x := (((ctN (plM 1000000 (nkT k) nm D ex m) (nkT k)) : Nat) : Int)) (wa_43 hW_σ1) rfl (by omega) ((hF_σ1.2 43 (by decide) (m)).trans (hLS m (by omega)).2) ?_
      refine tt_icge (fun h1_5 => ?_) (fun h1_5 => ?_)
      · refine tt_vret ?_
        have e1 : i = (ctN (plM 1000000 (nkT k) nm D ex m) (nkT k)) := by omega
        exact ⟨rfl, hF_σ1, fun h hh hp => hA h hh hp (by have := ctN_lt hp hh; omega), hO⟩
      · refine tt_ar rfl ?_
        refine tt_getR (wo_36 hW_σ1) rfl (wr_36_13 hW_σ1) ?_
        refine tt_ar rfl ?_
        refine tt_ar rfl ?_
        refine tt_imul (by omega) (by omega) ?_
        obtain ⟨b, b1, b2, b3, b4⟩ := LI.at (hLS m (by omega)).1 (show i < (ctN (plM 1000000 (nkT k) nm D ex m) (nkT k)) by omega)
        refine tt_ar rfl ?_
        refine tt_iadd (by omega) (by omega) ?_
        refine tt_iald (((m * 462) + i)) (x := ((b : Nat) : Int)) (wa_42 hW_σ1) (by omega) (by omega) ((hF_σ1.2 42 (by decide) (((m * 462) + i))).trans b4) ?_
        refine tt_ar rfl ?_
        refine tt_ar rfl ?_
        refine tt_ifne (fun h1_16 => ?_) (fun h1_16 => ?_)
        · refine tt_ar rfl ?_
          refine tt_nop ?_
          refine tt_ar rfl ?_
          refine tt_ar rfl ?_
          refine tt_ar rfl ?_
          refine tt_nop ?_
          have lp4_2 : ∀ (μ : Nat) (q : Nat), (ctN (plM 1000000 (nkT k) nm D ex (m - 1)) (nkT k)) - q < μ → (q ≤ (ctN (plM 1000000 (nkT k) nm D ex (m - 1)) (nkT k))) → TT am_b119 (am_b119.getD 4 []) [(0, vR 36), (1, vI (((m : Nat) : Int))), (2, vI (((i : Nat) : Int))), (3, vI (((b : Nat) : Int))), (4, vL (cpM 1000000000000001 (sumN q (fun i => toF k nm (m - 1) b D ex (σ.1 42 ((m - 1) * 462 + i)))))), (6, vI (((q : Nat) : Int)))] [] σ1 (fun r σ' => r = none ∧ Fr [44] σ σ' ∧ (∀ h, h < nkT k → (plM 1000000 (nkT k) nm D ex m) h = true → σ'.1 44 (m * 462 + h) = cpM 1000000000000001 (toM 1000000 (nkT k) nm D ex m h)) ∧ (∀ j, (j < m * 462 ∨ m * 462 + 462 ≤ j) → σ'.1 44 j = σ.1 44 j)) := by
            intro μ
            induction μ with
            | zero => intro q hμ; exact absurd hμ (Nat.not_lt_zero _)
            | succ μ ih4 =>
              intro q hμ hq
              have hcm1 := ctN_le (p := (plM 1000000 (nkT k) nm D ex (m - 1))) (nkT k)
              have hsb := cpM_bd (C := 1000000000000001) (sumN_nn (n := q) (f := (fun i => toF k nm (m - 1) b D ex (σ.1 42 ((m - 1) * 462 + i)))) (fun _ _ => toF_nn)) (by decide)
              refine tt_ar rfl ?_
              refine tt_ifleF (by omega) ?_
              refine tt_ar rfl ?_
              refine tt_ar rfl ?_
              refine tt_getR (wo_36 hW_σ1) rfl (wr_36_14 hW_σ1) ?_
              refine tt_ar rfl ?_
              refine tt_ar rfl ?_
              refine tt_bI (g := fun a b => w32 (a - b)) (z := ((m - 1 : Nat) : Int)) rfl (by rw [show ((m : Nat) : Int) - 1 = ((m - 1 : Nat) : Int) by omega]; exact w32_i (by omega) (by omega)) ?_
              refine tt_iald ((m - 1)) (x := (((ctN (plM 1000000 (nkT k) nm D ex (m - 1)) (nkT k)) : Nat) : Int)) (wa_43 hW_σ1) (by omega) (by omega) ((hF_σ1.2 43 (by decide) ((m - 1))).trans (hLS (m - 1) (by omega)).2) ?_
              refine tt_icge (fun h4_9 => ?_) (fun h4_9 => ?_)
              · have eq1 : q = (ctN (plM 1000000 (nkT k) nm D ex (m - 1)) (nkT k)) := by omega
                have hv : cpM 1000000000000001 (toM 1000000 (nkT k) nm D ex m b) = cpM 1000000000000001 (sumN q (fun i => toF k nm (m - 1) b D ex (σ.1 42 ((m - 1) * 462 + i)))) := by rw [eq1]; have z := toF_sum (nm := nm) (D := D) (ex := ex) (k := k) (m := m - 1) (b := b) (by rw [show m - 1 + 1 = m by omega]; exact b2) (hLS (m - 1) (by omega)).1; rw [show m - 1 + 1 = m by omega] at z; exact congrArg (cpM 1000000000000001) z.symm
                refine tt_ar rfl ?_
                refine tt_getR (wo_36 hW_σ1) rfl (wr_36_15 hW_σ1) ?_
                refine tt_ar rfl ?_
                refine tt_ar rfl ?_
                refine tt_imul (by omega) (by omega) ?_
                refine tt_ar rfl ?_
                refine tt_iadd (by omega) (by omega) ?_
                refine tt_ar rfl ?_
                refine tt_last (((m * 462) + b)) (wa_44 hW_σ1) (by omega) (by omega) (by omega) ?_
                refine tt_iinc (y := ((i + 1 : Nat) : Int)) rfl (iinc_fit (by omega) (by omega) (by omega)) ?_
                refine tt_goto ?_
                refine tt_loc [(0, vR 36), (1, vI (((m : Nat) : Int))), (2, vI (((i + 1 : Nat) : Int)))] rfl rfl ⟨rfl, rfl, rfl, trivial⟩ ?_
                exact ih1 (i + 1) _ (by omega) (Fr.put (Fr.tr Fr.rf hF_σ1 (by decide)) (by decide)) (by omega) (fun h hh hp hc => by by_cases e : h = b; (subst e; exact (am_set_at).trans ((if_pos rfl).trans hv.symm)); (have e2 : ctN (plM 1000000 (nkT k) nm D ex m) h < i := by (rcases Nat.lt_or_ge (ctN (plM 1000000 (nkT k) nm D ex m) h) i with z | z; exact z; exact absurd (ctN_inj hp b2 (by omega)) e)); exact (am_set_at).trans ((if_neg (by omega)).trans (hA h hh hp e2))) (fun j hj => (am_set_at).trans ((if_neg (by omega)).trans (hO j hj)))
              · refine tt_ar rfl ?_
                refine tt_getR (wo_36 hW_σ1) rfl (wr_36_13 hW_σ1) ?_
                refine tt_ar rfl ?_
                refine tt_ar rfl ?_
                refine tt_bI (g := fun a b => w32 (a - b)) (z := ((m - 1 : Nat) : Int)) rfl (by rw [show ((m : Nat) : Int) - 1 = ((m - 1 : Nat) : Int) by omega]; exact w32_i (by omega) (by omega)) ?_
                refine tt_ar rfl ?_
                refine tt_imul (by omega) (by omega) ?_
                refine tt_ar rfl ?_
                refine tt_iadd (by omega) (by omega) ?_
                obtain ⟨h, h1, h2, h3, h4⟩ := LI.at (hLS (m - 1) (by omega)).1 (show q < (ctN (plM 1000000 (nkT k) nm D ex (m - 1)) (nkT k)) by omega)
                refine tt_iald ((((m - 1) * 462) + q)) (x := ((h : Nat) : Int)) (wa_42 hW_σ1) (by omega) (by omega) ((hF_σ1.2 42 (by decide) ((((m - 1) * 462) + q))).trans h4) ?_
                refine tt_ar rfl ?_
                refine tt_ar rfl ?_
                refine tt_ar rfl ?_
                refine tt_ar rfl ?_
                refine tt_bI (g := fun a b => w32 (a - b)) (z := ((m - 1 : Nat) : Int)) rfl (by rw [show ((m : Nat) : Int) - 1 = ((m - 1 : Nat) : Int) by omega]; exact w32_i (by omega) (by omega)) ?_
                refine tt_ar rfl ?_
                refine tt_ar rfl ?_
                have hZf : FZ [44] σ σ1 := (FZ.trF FZ.rf hF_σ1 (by decide))
                have hXf := WX.fz hZf (by decide) hX
                have hKf := WK.fz hZf (by decide) hK
                have hLSf := LQ.fz hZf (by decide) hLS
                refine tt_cv4 4 rfl (wo_36 hW_σ1) (c113 σ1 k nm hW_σ1 D ex hXf hex hKf (KNs.fr hF_σ1 (by decide) hKN) (m - 1) h b (by omega) h1 b1 ((hF_σ1.2 35 (by decide) _).trans (hto (by omega) h h1 h2).2)) (kb (fun h4_27 => ?_) (fun h4_27 => ?_))
                · refine tt_ifeqF (by decide) ?_
                  refine tt_ar rfl ?_
                  refine tt_ar rfl ?_
                  refine tt_getR (wo_36 hW_σ1) rfl (wr_36_15 hW_σ1) ?_
                  refine tt_ar rfl ?_
                  refine tt_ar rfl ?_
                  refine tt_bI (g := fun a b => w32 (a - b)) (z := ((m - 1 : Nat) : Int)) rfl (by rw [show ((m : Nat) : Int) - 1 = ((m - 1 : Nat) : Int) by omega]; exact w32_i (by omega) (by omega)) ?_
                  refine tt_ar rfl ?_
                  refine tt_imul (by omega) (by omega) ?_
                  refine tt_ar rfl ?_
                  refine tt_iadd (by omega) (by omega) ?_
                  have hq1 : σ1.1 44 ((m - 1) * 462 + h) = cpM 1000000000000001 (toM 1000000 (nkT k) nm D ex (m - 1) h) := (hO _ (Or.inl (by omega))).trans (hto (by omega) h h1 h2).1
                  have hq2 := cpM_bd (C := 1000000000000001) (to_nn (F := 1000000) (N := nkT k) (n := nm) (D := D) (ex := ex) (m - 1) (h := h)) (by decide)
                  have hq3 : (fun i => toF k nm (m - 1) b D ex (σ.1 42 ((m - 1) * 462 + i))) q = (toM 1000000 (nkT k) nm D ex (m - 1) h) := by show toF k nm (m - 1) b D ex (σ.1 42 ((m - 1) * 462 + q)) = _; rw [show σ.1 42 ((m - 1) * 462 + q) = (h : Int) from h4]; unfold toF; rw [Int.toNat_natCast, h4_27]; rfl
                  refine tt_lald ((((m - 1) * 462) + h)) (x := cpM 1000000000000001 (toM 1000000 (nkT k) nm D ex (m - 1) h)) (wa_44 hW_σ1) (by omega) (by omega) hq1 ?_
                  refine tt_bL (g := (fun a b => w64 (a + b))) (z := (cpM 1000000000000001 (sumN q (fun i => toF k nm (m - 1) b D ex (σ.1 42 ((m - 1) * 462 + i)))) + cpM 1000000000000001 (toM 1000000 (nkT k) nm D ex (m - 1) h))) rfl (w64_i (by omega) (by omega)) ?_
                  refine tt_cs1 2 rfl (c118 σ1 ((cpM 1000000000000001 (sumN q (fun i => toF k nm (m - 1) b D ex (σ.1 42 ((m - 1) * 462 + i)))) + cpM 1000000000000001 (toM 1000000 (nkT k) nm D ex (m - 1) h)))) (kp ?_)
                  refine tt_ar rfl ?_
                  refine tt_nop ?_
                  have hz := cp_S (C := 1000000000000001) (f := (fun i => toF k nm (m - 1) b D ex (σ.1 42 ((m - 1) * 462 + i)))) (q := q) (by decide) (fun _ => toF_nn) hq3
                  refine tt_iinc (y := ((q + 1 : Nat) : Int)) rfl (iinc_fit (by omega) (by omega) (by omega)) ?_
                  refine tt_goto ?_
                  refine tt_loc [(0, vR 36), (1, vI (((m : Nat) : Int))), (2, vI (((i : Nat) : Int))), (3, vI (((b : Nat) : Int))), (4, vL (cpM 1000000000000001 (sumN (q + 1) (fun i => toF k nm (m - 1) b D ex (σ.1 42 ((m - 1) * 462 + i)))))), (6, vI (((q + 1 : Nat) : Int)))] rfl rfl ⟨rfl, rfl, rfl, rfl, lv_toL rfl (by first | exact hz | exact hz2), rfl, trivial⟩ ?_
                  exact ih4 (q + 1) (by omega) (by omega)
                · refine tt_ifeqT (by decide) ?_
                  have hz2 : cpM 1000000000000001 (sumN q (fun i => toF k nm (m - 1) b D ex (σ.1 42 ((m - 1) * 462 + i)))) = cpM 1000000000000001 (sumN (q + 1) (fun i => toF k nm (m - 1) b D ex (σ.1 42 ((m - 1) * 462 + i)))) := cp_Z (f := (fun i => toF k nm (m - 1) b D ex (σ.1 42 ((m - 1) * 462 + i)))) (q := q) (by show toF k nm (m - 1) b D ex (σ.1 42 ((m - 1) * 462 + q)) = _; rw [show σ.1 42 ((m - 1) * 462 + q) = (h : Int) from h4]; unfold toF; rw [Int.toNat_natCast, Bool.eq_false_iff.mpr h4_27]; rfl)
                  refine tt_iinc (y := ((q + 1 : Nat) : Int)) rfl (iinc_fit (by omega) (by omega) (by omega)) ?_
                  refine tt_goto ?_
                  refine tt_loc [(0, vR 36), (1, vI (((m : Nat) : Int))), (2, vI (((i : Nat) : Int))), (3, vI (((b : Nat) : Int))), (4, vL (cpM 1000000000000001 (sumN (q + 1) (fun i => toF k nm (m - 1) b D ex (σ.1 42 ((m - 1) * 462 + i)))))), (6, vI (((q + 1 : Nat) : Int)))] rfl rfl ⟨rfl, rfl, rfl, rfl, lv_toL rfl (by first | exact hz | exact hz2), rfl, trivial⟩ ?_
                  exact ih4 (q + 1) (by omega) (by omega)
          refine tt_loc [(0, vR 36), (1, vI (((m : Nat) : Int))), (2, vI (((i : Nat) : Int))), (3, vI (((b : Nat) : Int))), (4, vL (cpM 1000000000000001 (sumN 0 (fun i => toF k nm (m - 1) b D ex (σ.1 42 ((m - 1) * 462 + i)))))), (6, vI (((0 : Nat) : Int)))] rfl rfl ⟨rfl, rfl, rfl, rfl, lv_toL rfl (cpM_0 (by decide)).symm, lv_to rfl (by omega), trivial⟩ ?_
          exact lp4_2 _ (0) (Nat.lt_succ_self _) (by omega)
        · refine tt_ar rfl ?_
          refine tt_goto ?_
          refine tt_ar rfl ?_
          refine tt_ar rfl ?_
          refine tt_ar rfl ?_
          refine tt_nop ?_
          refine tt_ar rfl ?_
          refine tt_ifleT (by omega) ?_
          have em : m = 0 := by omega
          have hv : cpM 1000000000000001 (toM 1000000 (nkT k) nm D ex m b) = 1 := by rw [em] at b2 ⊢; unfold toM; rw [b2]; rfl
          refine tt_ar rfl ?_
          refine tt_getR (wo_36 hW_σ1) rfl (wr_36_15 hW_σ1) ?_
          refine tt_ar rfl ?_
          refine tt_ar rfl ?_
          refine tt_imul (by omega) (by omega) ?_
          refine tt_ar rfl ?_
          refine tt_iadd (by omega) (by omega) ?_
          refine tt_ar rfl ?_
          refine tt_last (((m * 462) + b)) (wa_44 hW_σ1) (by omega) (by omega) (by omega) ?_
          refine tt_iinc (y := ((i + 1 : Nat) : Int)) rfl (iinc_fit (by omega) (by omega) (by omega)) ?_
          refine tt_goto ?_
          refine tt_loc [(0, vR 36), (1, vI (((m : Nat) : Int))), (2, vI (((i + 1 : Nat) : Int)))] rfl rfl ⟨rfl, rfl, rfl, trivial⟩ ?_
          exact ih1 (i + 1) _ (by omega) (Fr.put (Fr.tr Fr.rf hF_σ1 (by decide)) (by decide)) (by omega) (fun h hh hp hc => by by_cases e : h = b; (subst e; exact (am_set_at).trans ((if_pos rfl).trans hv.symm)); (have e2 : ctN (plM 1000000 (nkT k) nm D ex m) h < i := by (rcases Nat.lt_or_ge (ctN (plM 1000000 (nkT k) nm D ex m) h) i with z | z; exact z; exact absurd (ctN_inj hp b2 (by omega)) e)); exact (am_set_at).trans ((if_neg (by omega)).trans (hA h hh hp e2))) (fun j hj => (am_set_at).trans ((if_neg (by omega)).trans (hO j hj)))
  refine tt_loc [(0, vR 36), (1, vI (((m : Nat) : Int))), (2, vI (((0 : Nat) : Int)))] rfl rfl ⟨rfl, rfl, lv_to rfl (by omega), trivial⟩ ?_
  exact lp1_1 _ (0) σ (Nat.lt_succ_self _) Fr.rf (by omega) (fun h _ _ hc => absurd hc (Nat.not_lt_zero _)) (fun j _ => rfl)

