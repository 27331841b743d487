/-! THE REFERENCE'S CALLS: JUDGE -/
theorem hdL_s {K D A B : Nat → Int} {d e : Nat} {L : Nat → Int} : hdL K D A B d (e + 1) L = if D e = (d : Int) ∧ K e = 6 then upI (upI (hdL K D A B d e L) (A e).toNat (dm (hdL K D A B d e L (A e).toNat - 1))) (B e).toNat (upI (hdL K D A B d e L) (A e).toNat (dm (hdL K D A B d e L (A e).toNat - 1)) (B e).toNat + 1) else hdL K D A B d e L := rfl
theorem hdM_s {K D A B : Nat → Int} {n d : Nat} {L : Nat → Int} : hdM K D A B n (d + 1) L = hdL K D A B d n (hdM K D A B n d L) := rfl
theorem c259 (A σ : am_S) (k nm ns : Nat) (D : Nat → Nat → Int) (hA : CI k nm ns D A) (hW : Wd σ) (hR : RRb k nm ns D A σ) (m s : Nat) (kind : Int) : CC 259 [vR 76, vI (((m : Nat) : Int)), vI (kind), vI (((s : Nat) : Int))] σ (fun r σ' => r = some (vI (amN (A.1 48) (A.1 49) (A.1 50) (m : Int) kind (s : Int) ns)) ∧ σ' = σ) := by
  show TT am_b259 (am_b259.getD 0 []) [(0, vR 76), (1, vI (((m : Nat) : Int))), (2, vI (kind)), (3, vI (((s : Nat) : Int)))] [] σ _
  have hk5 := hR.aa.1
  have hl27 := hR.aa.2.1
  have hs47 := hR.aa.2.2
  have hk6 := hA.x.1.2.1
  have hm12 := hA.x.2.2.1.2.1
  have hs16 := hA.st.2
  have hDA := hA.x.1
  have hHT := hA.x.2.1
  have hLA := hA.x.2.2.1
  have hHB := HB_of hDA hHT
  have hnb := nkT_bd k
  refine tt_ar rfl ?_
  refine tt_ar rfl ?_
  refine tt_ar rfl ?_
  refine tt_ar rfl ?_
  refine tt_nop ?_
  have lp1_1 : ∀ (μ : Nat) (e : Nat), ns - e < μ → (e ≤ ns) → TT am_b259 (am_b259.getD 1 []) [(0, vR 76), (1, vI (((m : Nat) : Int))), (2, vI (kind)), (3, vI (((s : Nat) : Int))), (4, vI (amN (A.1 48) (A.1 49) (A.1 50) m kind s e)), (5, vI (((e : Nat) : Int)))] [] σ (fun r σ' => r = some (vI (amN (A.1 48) (A.1 49) (A.1 50) (m : Int) kind (s : Int) ns)) ∧ σ' = σ) := by
    intro μ
    induction μ with
    | zero => intro e hμ; exact absurd hμ (Nat.not_lt_zero _)
    | succ μ ih1 =>
      intro e hμ he
      have hab := amN_bd (A.1 48) (A.1 49) (A.1 50) m kind s e
      have hK : stD A e 0 = A.1 48 e := rfl
      have hDd : stD A e 1 = A.1 49 e := rfl
      have hAa : stD A e 2 = A.1 50 e := rfl
      have hBb : stD A e 3 = A.1 51 e := rfl
      refine tt_ar rfl ?_
      refine tt_ar rfl ?_
      refine tt_getI (x := ((ns : Nat) : Int)) (wo_76 hW) rfl hR.st.1 ?_
      refine tt_icge (fun h1_3 => ?_) (fun h1_3 => ?_)
      · refine tt_ar rfl ?_
        refine tt_iret ?_
        have ee : e = ns := by omega
        subst ee
        exact ⟨rfl, rfl⟩
      · refine tt_ar rfl ?_
        refine tt_ar rfl ?_
        refine tt_ar rfl ?_
        refine tt_ar rfl ?_
        refine tt_cv3 3 rfl (wo_76 hW) (c252 A σ k nm ns D hA hW hR e 0 (by omega) (by omega)) (kp ?_)
        refine tt_ar rfl ?_
        refine tt_icne (fun h1_10 => ?_) (fun h1_10 => ?_)
        · refine tt_ar rfl ?_
          refine tt_nop ?_
          refine tt_iadd (by omega) (by omega) ?_
          refine tt_ar rfl ?_
          refine tt_iinc (y := ((e + 1 : Nat) : Int)) rfl (iinc_fit (by omega) (by omega) (by omega)) ?_
          refine tt_goto ?_
          refine tt_loc [(0, vR 76), (1, vI (((m : Nat) : Int))), (2, vI (kind)), (3, vI (((s : Nat) : Int))), (4, vI (amN (A.1 48) (A.1 49) (A.1 50) m kind s (e + 1))), (5, vI (((e + 1 : Nat) : Int)))] rfl rfl ⟨rfl, rfl, rfl, rfl, lv_to rfl (by rw [show amN (A.1 48) (A.1 49) (A.1 50) m kind s (e + 1) = amN (A.1 48) (A.1 49) (A.1 50) m kind s e + (if A.1 49 e = (m : Int) ∧ A.1 48 e = kind ∧ A.1 50 e = (s : Int) then 1 else 0) from rfl]; first | (rw [if_pos (by omega)]) | (rw [if_neg (by omega)])), rfl, trivial⟩ ?_
          exact ih1 (e + 1) (by omega) (by omega)
        · refine tt_ar rfl ?_
          refine tt_ar rfl ?_
          refine tt_ar rfl ?_
          refine tt_cv3 3 rfl (wo_76 hW) (c252 A σ k nm ns D hA hW hR e 1 (by omega) (by omega)) (kp ?_)
          refine tt_ar rfl ?_
          refine tt_icne (fun h1_16 => ?_) (fun h1_16 => ?_)
          · refine tt_ar rfl ?_
            refine tt_nop ?_
            refine tt_iadd (by omega) (by omega) ?_
            refine tt_ar rfl ?_
            refine tt_iinc (y := ((e + 1 : Nat) : Int)) rfl (iinc_fit (by omega) (by omega) (by omega)) ?_
            refine tt_goto ?_
            refine tt_loc [(0, vR 76), (1, vI (((m : Nat) : Int))), (2, vI (kind)), (3, vI (((s : Nat) : Int))), (4, vI (amN (A.1 48) (A.1 49) (A.1 50) m kind s (e + 1))), (5, vI (((e + 1 : Nat) : Int)))] rfl rfl ⟨rfl, rfl, rfl, rfl, lv_to rfl (by rw [show amN (A.1 48) (A.1 49) (A.1 50) m kind s (e + 1) = amN (A.1 48) (A.1 49) (A.1 50) m kind s e + (if A.1 49 e = (m : Int) ∧ A.1 48 e = kind ∧ A.1 50 e = (s : Int) then 1 else 0) from rfl]; first | (rw [if_pos (by omega)]) | (rw [if_neg (by omega)])), rfl, trivial⟩ ?_
            exact ih1 (e + 1) (by omega) (by omega)
          · refine tt_ar rfl ?_
            refine tt_ar rfl ?_
            refine tt_ar rfl ?_
            refine tt_cv3 3 rfl (wo_76 hW) (c252 A σ k nm ns D hA hW hR e 2 (by omega) (by omega)) (kp ?_)
            refine tt_ar rfl ?_
            refine tt_icne (fun h1_22 => ?_) (fun h1_22 => ?_)
            · refine tt_ar rfl ?_
              refine tt_nop ?_
              refine tt_iadd (by omega) (by omega) ?_
              refine tt_ar rfl ?_
              refine tt_iinc (y := ((e + 1 : Nat) : Int)) rfl (iinc_fit (by omega) (by omega) (by omega)) ?_
              refine tt_goto ?_
              refine tt_loc [(0, vR 76), (1, vI (((m : Nat) : Int))), (2, vI (kind)), (3, vI (((s : Nat) : Int))), (4, vI (amN (A.1 48) (A.1 49) (A.1 50) m kind s (e + 1))), (5, vI (((e + 1 : Nat) : Int)))] rfl rfl ⟨rfl, rfl, rfl, rfl, lv_to rfl (by rw [show amN (A.1 48) (A.1 49) (A.1 50) m kind s (e + 1) = amN (A.1 48) (A.1 49) (A.1 50) m kind s e + (if A.1 49 e = (m : Int) ∧ A.1 48 e = kind ∧ A.1 50 e = (s : Int) then 1 else 0) from rfl]; first | (rw [if_pos (by omega)]) | (rw [if_neg (by omega)])), rfl, trivial⟩ ?_
              exact ih1 (e + 1) (by omega) (by omega)
            · refine tt_ar rfl ?_
              refine tt_goto ?_
              refine tt_iadd (by omega) (by omega) ?_
              refine tt_ar rfl ?_
              refine tt_iinc (y := ((e + 1 : Nat) : Int)) rfl (iinc_fit (by omega) (by omega) (by omega)) ?_
              refine tt_goto ?_
              refine tt_loc [(0, vR 76), (1, vI (((m : Nat) : Int))), (2, vI (kind)), (3, vI (((s : Nat) : Int))), (4, vI (amN (A.1 48) (A.1 49) (A.1 50) m kind s (e + 1))), (5, vI (((e + 1 : Nat) : Int)))] rfl rfl ⟨rfl, rfl, rfl, rfl, lv_to rfl (by rw [show amN (A.1 48) (A.1 49) (A.1 50) m kind s (e + 1) = amN (A.1 48) (A.1 49) (A.1 50) m kind s e + (if A.1 49 e = (m : Int) ∧ A.1 48 e = kind ∧ A.1 50 e = (s : Int) then 1 else 0) from rfl]; first | (rw [if_pos (by omega)]) | (rw [if_neg (by omega)])), rfl, trivial⟩ ?_
              exact ih1 (e + 1) (by omega) (by omega)
  refine tt_loc [(0, vR 76), (1, vI (((m : Nat) : Int))), (2, vI (kind)), (3, vI (((s : Nat) : Int))), (4, vI (amN (A.1 48) (A.1 49) (A.1 50) m kind s 0)), (5, vI (((0 : Nat) : Int)))] rfl rfl ⟨rfl, rfl, rfl, rfl, lv_to rfl rfl, lv_to rfl (by omega), trivial⟩ ?_
  exact lp1_1 _ (0) (Nat.lt_succ_self _) (by omega)

theorem c260 (A σ : am_S) (k nm ns : Nat) (D : Nat → Nat → Int) (hA : CI k nm ns D A) (hW : Wd σ) (hR : RRb k nm ns D A σ) (s : Nat) (a b : Int) (hs : s < k) (ha : 0 ≤ a ∧ a ≤ 40) (hb : 0 ≤ b ∧ b ≤ 40) (L M : Nat → Int) (c : Int) (hL : ∀ x, x < 8 → σ.1 105 x = L x) (hM : ∀ x, x < 8 → σ.1 106 x = M x) (hbL : wiN L c) (hbM : wiN M c) (hc : c ≤ 100000) : CC 260 [vR 76, vI (((s : Nat) : Int)), vI (a), vI (b)] σ (fun r σ' => r = none ∧ Fr [105, 106] σ σ' ∧ (∀ x, x < 8 → σ'.1 105 x = L x + a * A.1 7 (s * 8 + x)) ∧ ∀ x, x < 8 → σ'.1 106 x = M x + b * A.1 8 (s * 8 + x)) := by
  show TT am_b260 (am_b260.getD 0 []) [(0, vR 76), (1, vI (((s : Nat) : Int))), (2, vI (a)), (3, vI (b))] [] σ _
  have hk5 := hR.aa.1
  have hl27 := hR.aa.2.1
  have hs47 := hR.aa.2.2
  have hk6 := hA.x.1.2.1
  have hm12 := hA.x.2.2.1.2.1
  have hs16 := hA.st.2
  have hDA := hA.x.1
  have hHT := hA.x.2.1
  have hLA := hA.x.2.2.1
  have hHB := HB_of hDA hHT
  have hnb := nkT_bd k
  refine tt_ar rfl ?_
  refine tt_ar rfl ?_
  refine tt_nop ?_
  have lp1_1 : ∀ (μ : Nat) (x : Nat) (σ1 : am_S), 8 - x < μ → Fr [105, 106] σ σ1 → (x ≤ 8) → (∀ y, y < x → σ1.1 105 y = L y + a * A.1 7 (s * 8 + y) ∧ σ1.1 106 y = M y + b * A.1 8 (s * 8 + y)) → (∀ y, x ≤ y → y < 8 → σ1.1 105 y = L y ∧ σ1.1 106 y = M y) → TT am_b260 (am_b260.getD 1 []) [(0, vR 76), (1, vI (((s : Nat) : Int))), (2, vI (a)), (3, vI (b)), (4, vI (((x : Nat) : Int)))] [] σ1 (fun r σ' => r = none ∧ Fr [105, 106] σ σ' ∧ (∀ x, x < 8 → σ'.1 105 x = L x + a * A.1 7 (s * 8 + x)) ∧ ∀ x, x < 8 → σ'.1 106 x = M x + b * A.1 8 (s * 8 + x)) := by
    intro μ
    induction μ with
    | zero => intro x σ1 hμ; exact absurd hμ (Nat.not_lt_zero _)
    | succ μ ih1 =>
      intro x σ1 hμ hF_σ1 hx8 h1 h2
      have hW_σ1 := Fr.wd hF_σ1 hW
      refine tt_ar rfl ?_
      refine tt_ar rfl ?_
      refine tt_icge (fun h1_2 => ?_) (fun h1_2 => ?_)
      · refine tt_vret ?_
        have e : x = 8 := by omega
        subst e
        exact ⟨rfl, hF_σ1, fun y hy => (h1 y hy).1, fun y hy => (h1 y hy).2⟩
      · have hw7 := hDA.2.2.1 (s * 8 + x) (by omega)
        have hm7 := mul_bd (a := a) (b := A.1 7 (s * 8 + x)) (A := 40) (B := 9) ha.1 ha.2 hw7.1 (by omega)
        have hm8 := mul_bd (a := b) (b := A.1 8 (s * 8 + x)) (A := 40) (B := 9) hb.1 hb.2 (by omega) hw7.2.2
        have hLx := hbL x (by omega)
        have hMx := hbM x (by omega)
        refine tt_ar rfl ?_
        refine tt_getR (wo_76 hW_σ1) rfl (wr_76_45 hW_σ1) ?_
        refine tt_ar rfl ?_
        refine tt_ar rfl ?_
        refine tt_iald (x) (x := L x) (wa_105 hW_σ1) rfl (by omega) ((h2 x (Nat.le_refl x) (by omega)).1) ?_
        refine tt_ar rfl ?_
        refine tt_ar rfl ?_
        refine tt_getR (wo_76 hW_σ1) rfl (wr_76_13 hW_σ1) ?_
        refine tt_ar rfl ?_
        refine tt_ar rfl ?_
        refine tt_imul (by omega) (by omega) ?_
        refine tt_ar rfl ?_
        refine tt_iadd (by omega) (by omega) ?_
        refine tt_iald (((8 * s) + x)) (x := A.1 7 (s * 8 + x)) (wa_84 hW_σ1) (by omega) (by omega) ((hF_σ1.2 84 (by decide) (((8 * s) + x))).trans ((hR.wl.2.2.2.1 (8 * s + x) (by omega)).1.trans (by rw [Nat.mul_comm]))) ?_
        refine tt_bI (g := fun a b => w32 (a * b)) (z := (a * A.1 7 (s * 8 + x))) rfl (w32_i (by omega) (by omega)) ?_
        refine tt_iadd (by omega) (by omega) ?_
        refine tt_iast (x) (wa_105 hW_σ1) (by omega) rfl (by omega) ?_
        refine tt_ar rfl ?_
        refine tt_getR (wo_76 hW_σ1) rfl (wr_76_46 hW_σ1) ?_
        refine tt_ar rfl ?_
        refine tt_ar rfl ?_
        refine tt_iald (x) (x := M x) (wa_106 hW_σ1) rfl (by omega) ((h2 x (Nat.le_refl x) (by omega)).2) ?_
        refine tt_ar rfl ?_
        refine tt_ar rfl ?_
        refine tt_getR (wo_76 hW_σ1) rfl (wr_76_14 hW_σ1) ?_
        refine tt_ar rfl ?_
        refine tt_ar rfl ?_
        refine tt_imul (by omega) (by omega) ?_
        refine tt_ar rfl ?_
        refine tt_iadd (by omega) (by omega) ?_
        refine tt_iald (((8 * s) + x)) (x := A.1 8 (s * 8 + x)) (wa_85 hW_σ1) (by omega) (by omega) ((hF_σ1.2 85 (by decide) (((8 * s) + x))).trans ((hR.wl.2.2.2.1 (8 * s + x) (by omega)).2.trans (by rw [Nat.mul_comm]))) ?_
        refine tt_bI (g := fun a b => w32 (a * b)) (z := (b * A.1 8 (s * 8 + x))) rfl (w32_i (by omega) (by omega)) ?_
        refine tt_iadd (by omega) (by omega) ?_
        refine tt_iast (x) (wa_106 hW_σ1) (by omega) rfl (by omega) ?_
        refine tt_iinc (y := ((x + 1 : Nat) : Int)) rfl (iinc_fit (by omega) (by omega) (by omega)) ?_
        refine tt_goto ?_
        refine tt_loc [(0, vR 76), (1, vI (((s : Nat) : Int))), (2, vI (a)), (3, vI (b)), (4, vI (((x + 1 : Nat) : Int)))] rfl rfl ⟨rfl, rfl, rfl, rfl, rfl, trivial⟩ ?_
        exact ih1 (x + 1) _ (by omega) (Fr.put (Fr.put (Fr.tr Fr.rf hF_σ1 (by decide)) (by decide)) (by decide)) (by omega) (fun y hy => by rw [am_set_nb (show (105 : Nat) ≠ 106 by decide), am_set_at, am_set_at]; by_cases e : y = x; (rw [if_pos e, if_pos e, e]; exact ⟨rfl, rfl⟩); (rw [if_neg e, if_neg e, am_set_nb (show (106 : Nat) ≠ 105 by decide)]; exact h1 y (by omega))) (fun y h3 h4 => by rw [am_set_nb (show (105 : Nat) ≠ 106 by decide), am_set_at, am_set_at, if_neg (by omega), if_neg (by omega), am_set_nb (show (106 : Nat) ≠ 105 by decide)]; exact h2 y (by omega) h4)
  refine tt_loc [(0, vR 76), (1, vI (((s : Nat) : Int))), (2, vI (a)), (3, vI (b)), (4, vI (((0 : Nat) : Int)))] rfl rfl ⟨rfl, rfl, rfl, rfl, lv_to rfl (by omega), trivial⟩ ?_
  exact lp1_1 _ (0) σ (Nat.lt_succ_self _) Fr.rf (by omega) (fun y hy => absurd hy (Nat.not_lt_zero y)) (fun y _ hy => ⟨hL y hy, hM y hy⟩)

theorem c261 (σ : am_S) (a b : Nat) (hW : Wd σ) (ha : a < 8) (hb : b < 8) (L M : Nat → Int) (c : Int) (hL : ∀ x, x < 8 → σ.1 105 x = L x) (hM : ∀ x, x < 8 → σ.1 106 x = M x) (hbL : wiN L c) (hbM : wiN M c) (hc : c ≤ 100000) : CC 261 [vR 76, vI (((a : Nat) : Int)), vI (((b : Nat) : Int))] σ (fun r σ' => r = none ∧ Fr [105, 106] σ σ' ∧ (∀ x, x < 8 → σ'.1 105 x = (upI (upI L a (dm (L a - 1))) b (upI L a (dm (L a - 1)) b + 1)) x) ∧ ∀ x, x < 8 → σ'.1 106 x = (upI (upI M a (dm (M a - 1))) b (upI M a (dm (M a - 1)) b + 1)) x) := by
  show TT am_b261 (am_b261.getD 0 []) [(0, vR 76), (1, vI (((a : Nat) : Int))), (2, vI (((b : Nat) : Int)))] [] σ _
  have hLa := hbL a ha
  have hMa := hbM a ha
  have hLb := hbL b hb
  have hMb := hbM b hb
  have ub : 0 ≤ upI L a (dm (L a - 1)) b ∧ upI L a (dm (L a - 1)) b ≤ 100001 := by unfold upI dm; split <;> (try split) <;> omega
  have um : 0 ≤ upI M a (dm (M a - 1)) b ∧ upI M a (dm (M a - 1)) b ≤ 100001 := by unfold upI dm; split <;> (try split) <;> omega
  refine tt_ar rfl ?_
  refine tt_getR (wo_76 hW) rfl (wr_76_45 hW) ?_
  refine tt_ar rfl ?_
  refine tt_ar rfl ?_
  refine tt_ar rfl ?_
  refine tt_getR (wo_76 hW) rfl (wr_76_45 hW) ?_
  refine tt_ar rfl ?_
  refine tt_iald (a) (x := L a) (wa_105 hW) (by omega) (by omega) (hL a ha) ?_
  refine tt_ar rfl ?_
  refine tt_isub (by omega) (by omega) ?_
  refine tt_cs2 2 rfl (c226 _ (0) ((L a - 1))) (kp ?_)
  refine tt_iast (a) (wa_105 hW) (by omega) rfl (by omega) ?_
  refine tt_ar rfl ?_
  refine tt_getR (wo_76 hW) rfl (wr_76_46 hW) ?_
  refine tt_ar rfl ?_
  refine tt_ar rfl ?_
  refine tt_ar rfl ?_
  refine tt_getR (wo_76 hW) rfl (wr_76_46 hW) ?_
  refine tt_ar rfl ?_
  refine tt_iald (a) (x := M a) (wa_106 hW) (by omega) (by omega) ((am_set_nb (by decide)).trans (hM a ha)) ?_
  refine tt_ar rfl ?_
  refine tt_isub (by omega) (by omega) ?_
  refine tt_cs2 2 rfl (c226 _ (0) ((M a - 1))) (kp ?_)
  refine tt_iast (a) (wa_106 hW) (by omega) rfl (by omega) ?_
  refine tt_ar rfl ?_
  refine tt_getR (wo_76 hW) rfl (wr_76_45 hW) ?_
  refine tt_ar rfl ?_
  refine tt_ar rfl ?_
  refine tt_iald (b) (x := upI L a (dm (L a - 1)) b) (wa_105 hW) (by omega) (by omega) (by rw [am_set_nb (by decide), am_set_at]; show _ = if b = a then dm (L a - 1) else L b; by_cases q : b = a; (rw [if_pos q, if_pos q]; rfl); (rw [if_neg q, if_neg q]; exact hL b hb)) ?_
  refine tt_ar rfl ?_
  refine tt_iadd (by omega) (by omega) ?_
  refine tt_iast (b) (wa_105 hW) (by omega) rfl (by omega) ?_
  refine tt_ar rfl ?_
  refine tt_getR (wo_76 hW) rfl (wr_76_46 hW) ?_
  refine tt_ar rfl ?_
  refine tt_ar rfl ?_
  refine tt_iald (b) (x := upI M a (dm (M a - 1)) b) (wa_106 hW) (by omega) (by omega) (by rw [am_set_nb (by decide), am_set_at]; show _ = if b = a then dm (M a - 1) else M b; by_cases q : b = a; (rw [if_pos q, if_pos q]; rfl); (rw [if_neg q, if_neg q, am_set_nb (by decide)]; exact hM b hb)) ?_
  refine tt_ar rfl ?_
  refine tt_iadd (by omega) (by omega) ?_
  refine tt_iast (b) (wa_106 hW) (by omega) rfl (by omega) ?_
  refine tt_vret ?_
  refine ⟨rfl, (Fr.put (Fr.put (Fr.put (Fr.put Fr.rf (by decide)) (by decide)) (by decide)) (by decide)), fun x hx => ?_, fun x hx => ?_⟩
  · rw [am_set_nb (by decide), am_set_at]
    show _ = if x = b then upI L a (dm (L a - 1)) b + 1 else upI L a (dm (L a - 1)) x
    by_cases q : x = b
    · rw [if_pos q, if_pos q]
    · rw [if_neg q, if_neg q, am_set_nb (by decide), am_set_at]
      show _ = if x = a then dm (L a - 1) else L x
      by_cases q2 : x = a
      · rw [if_pos q2, if_pos q2]
        rfl
      · rw [if_neg q2, if_neg q2]
        exact hL x hx
  · rw [am_set_at]
    show _ = if x = b then upI M a (dm (M a - 1)) b + 1 else upI M a (dm (M a - 1)) x
    by_cases q : x = b
    · rw [if_pos q, if_pos q]
    · rw [if_neg q, if_neg q, am_set_nb (by decide), am_set_at]
      show _ = if x = a then dm (M a - 1) else M x
      by_cases q2 : x = a
      · rw [if_pos q2, if_pos q2]
        rfl
      · rw [if_neg q2, if_neg q2, am_set_nb (by decide)]
        exact hM x hx

