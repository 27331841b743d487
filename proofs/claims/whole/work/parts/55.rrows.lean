/-! THE REFERENCE'S CALLS: ROWS, TEXTS -/
theorem upS_1 {s n : Nat} {v : Nat → Int} {z : Int} {A : am_S} : (upS s n v z A).1 s 1 = z := if_pos ⟨rfl, rfl⟩
theorem upS_2 {s n j : Nat} {v : Nat → Int} {z : Int} {A : am_S} (h : j < n) : (upS s n v z A).1 (s + 1) j = v j := (if_neg (fun e => by omega)).trans (if_pos ⟨rfl, h⟩)
theorem upS_o {s n a j : Nat} {v : Nat → Int} {z : Int} {A : am_S} (h1 : a ≠ s) (h2 : a ≠ s + 1) : (upS s n v z A).1 a j = A.1 a j := (if_neg (fun e => h1 e.1)).trans (if_neg (fun e => h2 e.1))
theorem am_swap {A : am_S} {a b j k : Nat} {x y : Int} (h : a ≠ b) : EqB (am_set (am_set A a j x) b k y) (am_set (am_set A b k y) a j x) := fun c i _ => by
  show (if c = a ∧ i = j then x else if c = b ∧ i = k then y else A.1 c i) = if c = b ∧ i = k then y else if c = a ∧ i = j then x else A.1 c i
  by_cases e1 : c = a ∧ i = j
  · rw [if_pos e1, if_pos e1, if_neg (fun e2 => h (e1.1.symm.trans e2.1))]
  · rw [if_neg e1, if_neg e1]
theorem c177 (A σ : am_S) (k nm ns : Nat) (D : Nat → Nat → Int) (hA : CI k nm ns D A) (hW : Wd σ) (hR : RRb k nm ns D A σ) (u n : Int) : CC 177 [vR 76, vI (u), vI (n)] σ (fun r σ' => PMd A σ (x_row A u n) r σ') := by
  show TT am_b177 (am_b177.getD 0 []) [(0, vR 76), (1, vI (u)), (2, vI (n))] [] σ _
  refine tt_ar rfl ?_
  refine tt_cs1 1 rfl (c178 _ _) (kb (fun h0_1 => ?_) (fun h0_1 => ?_))
  · refine tt_ifeqF (by decide) ?_
    refine tt_ar rfl ?_
    refine tt_ar rfl ?_
    refine tt_icle (fun h0_5 => ?_) (fun h0_5 => ?_)
    · obtain ⟨un, rfl⟩ : ∃ un : Nat, u = (un : Int) := ⟨u.toNat, by omega⟩
      refine tt_ar rfl ?_
      refine tt_ifge (fun h2_1 => ?_) (fun h2_1 => ?_)
      · refine tt_ar rfl ?_
        refine tt_getR (wo_76 hW) rfl (wr_76_6 hW) ?_
        refine tt_ar rfl ?_
        refine tt_ar rfl ?_
        refine tt_iast (un) (wa_78 hW) (by omega) rfl (by omega) ?_
        refine tt_ar rfl ?_
        refine tt_ar rfl ?_
        refine tt_nop ?_
        have lp4_1 : ∀ (μ : Nat) (i : Nat) (σ1 : am_S), 40 - i < μ → Fr [79] (am_set σ 78 (un) (n)) σ1 → (i ≤ 40) → (∀ x, σ1.1 79 x = if 40 * un ≤ x ∧ x < 40 * un + i then 0 else σ.1 79 x) → TT am_b177 (am_b177.getD 4 []) [(0, vR 76), (1, vI (((un : Nat) : Int))), (2, vI (n)), (3, vI (((i : Nat) : Int)))] [] σ1 (fun r σ' => PMd A σ (x_row A (un : Int) n) r σ') := by
          intro μ
          induction μ with
          | zero => intro i σ1 hμ; exact absurd hμ (Nat.not_lt_zero _)
          | succ μ ih4 =>
            intro i σ1 hμ hF_σ1 hi hC
            have hW_σ1 := Fr.wd hF_σ1 hW
            refine tt_ar rfl ?_
            refine tt_ar rfl ?_
            refine tt_icge (fun h4_2 => ?_) (fun h4_2 => ?_)
            · refine tt_ar rfl ?_
              refine tt_iret ?_
              have e : i = 40 := by omega
              subst e
              have hFz : Fr [78, 79] σ σ1 := Fr.tr (Fr.put Fr.rf (by decide) : Fr [78, 79] σ (am_set σ 78 un n)) hF_σ1 (by decide)
              exact pm_any (M := (upS (56 + 2 * un) 40 (fun _ => 0) n A)) (hR.row (by omega) (fun a j h1 h2 => upS_o h1 (by omega)) hFz (fun q => by rw [hF_σ1.2 78 (by decide) q, am_set_at, upS_1]; have := szR_c n; split; omega; rfl) (fun j hj => by rw [hC, if_pos (by omega)]; exact (show (upS (56 + 2 * un) 40 (fun _ => 0) n A).1 (57 + 2 * un) j = 0 by rw [show 57 + 2 * un = 56 + 2 * un + 1 by omega]; exact upS_2 hj).symm) (fun x hx => by rw [hC, if_neg (by omega)])) (show x_row A un n = (vI n, (upS (56 + 2 * un) 40 (fun _ => 0) n A)) by unfold x_row; (try simp only [Int.toNat_natCast]); (repeat (first | rw [if_pos (by omega)] | rw [if_neg (by omega)])); (first | done | rfl)) (QR.of hFz (by decide))
            · refine tt_ar rfl ?_
              refine tt_getR (wo_76 hW_σ1) rfl (wr_76_7 hW_σ1) ?_
              refine tt_ar rfl ?_
              refine tt_ar rfl ?_
              refine tt_imul (by omega) (by omega) ?_
              refine tt_ar rfl ?_
              refine tt_iadd (by omega) (by omega) ?_
              refine tt_ar rfl ?_
              refine tt_iast (((40 * un) + i)) (wa_79 hW_σ1) (by omega) (by omega) (by omega) ?_
              refine tt_iinc (y := ((i + 1 : Nat) : Int)) rfl (iinc_fit (by omega) (by omega) (by omega)) ?_
              refine tt_goto ?_
              refine tt_loc [(0, vR 76), (1, vI (((un : Nat) : Int))), (2, vI (n)), (3, vI (((i + 1 : Nat) : Int)))] rfl rfl ⟨rfl, rfl, rfl, rfl, trivial⟩ ?_
              exact ih4 (i + 1) _ (by omega) (Fr.put (Fr.tr Fr.rf hF_σ1 (by decide)) (by decide)) (by omega) (fillr_step (by omega) hC)
        refine tt_loc [(0, vR 76), (1, vI (((un : Nat) : Int))), (2, vI (n)), (3, vI (((0 : Nat) : Int)))] rfl rfl ⟨rfl, rfl, rfl, lv_to rfl (by omega), trivial⟩ ?_
        exact lp4_1 _ (0) _ (Nat.lt_succ_self _) Fr.rf (by omega) (fun x => by rw [if_neg (by omega)]; rfl)
      · refine tt_ar rfl ?_
        refine tt_ar rfl ?_
        refine tt_cv2 2 rfl (wo_76 hW) (c179 σ 5 hW (by omega)) (ks ?_)
        refine tt_iret ?_
        exact pm_mt (f := 5) hR (by decide) (show x_row A (un : Int) n = (vI (-3), upF 5 A) by unfold x_row; (try simp only [Int.toNat_natCast]); (repeat (first | rw [if_pos (by omega)] | rw [if_neg (by omega)])); (first | done | rfl)) QR.rf
    · refine tt_nop ?_
      refine tt_ar rfl ?_
      refine tt_iret ?_
      exact pm_any (M := A) hR (show x_row A u n = (vI (-1), A) by unfold x_row; (try simp only [Int.toNat_natCast]); (repeat (first | rw [if_pos (by omega)] | rw [if_neg (by omega)])); (first | done | rfl)) QR.rf
  · refine tt_ifeqT (by decide) ?_
    refine tt_ar rfl ?_
    refine tt_iret ?_
    exact pm_any (M := A) hR (show x_row A u n = (vI (-1), A) by unfold x_row; (try simp only [Int.toNat_natCast]); (repeat (first | rw [if_pos (by omega)] | rw [if_neg (by omega)])); (first | done | rfl)) QR.rf

theorem c188 (A σ : am_S) (k nm ns : Nat) (D : Nat → Nat → Int) (hA : CI k nm ns D A) (hW : Wd σ) (hR : RRb k nm ns D A σ) (u n : Int) : CC 188 [vR 76, vI (u), vI (n)] σ (fun r σ' => PMd A σ (x_text A u n) r σ') := by
  show TT am_b188 (am_b188.getD 0 []) [(0, vR 76), (1, vI (u)), (2, vI (n))] [] σ _
  refine tt_ar rfl ?_
  refine tt_cs1 1 rfl (c189 _ _) (kb (fun h0_1 => ?_) (fun h0_1 => ?_))
  · refine tt_ifeqF (by decide) ?_
    refine tt_ar rfl ?_
    refine tt_ar rfl ?_
    refine tt_icle (fun h0_5 => ?_) (fun h0_5 => ?_)
    · obtain ⟨un, rfl⟩ : ∃ un : Nat, u = (un : Int) := ⟨u.toNat, by omega⟩
      refine tt_ar rfl ?_
      refine tt_ifge (fun h2_1 => ?_) (fun h2_1 => ?_)
      · refine tt_ar rfl ?_
        refine tt_getR (wo_76 hW) rfl (wr_76_9 hW) ?_
        refine tt_ar rfl ?_
        refine tt_ar rfl ?_
        refine tt_iast (un) (wa_81 hW) (by omega) rfl (by omega) ?_
        refine tt_ar rfl ?_
        refine tt_ar rfl ?_
        refine tt_nop ?_
        have lp4_1 : ∀ (μ : Nat) (i : Nat) (σ1 : am_S), 120 - i < μ → Fr [82] (am_set σ 81 (un) (n)) σ1 → (i ≤ 120) → (∀ x, σ1.1 82 x = if 120 * un ≤ x ∧ x < 120 * un + i then 32 else σ.1 82 x) → TT am_b188 (am_b188.getD 4 []) [(0, vR 76), (1, vI (((un : Nat) : Int))), (2, vI (n)), (3, vI (((i : Nat) : Int)))] [] σ1 (fun r σ' => PMd A σ (x_text A (un : Int) n) r σ') := by
          intro μ
          induction μ with
          | zero => intro i σ1 hμ; exact absurd hμ (Nat.not_lt_zero _)
          | succ μ ih4 =>
            intro i σ1 hμ hF_σ1 hi hC
            have hW_σ1 := Fr.wd hF_σ1 hW
            refine tt_ar rfl ?_
            refine tt_ar rfl ?_
            refine tt_icge (fun h4_2 => ?_) (fun h4_2 => ?_)
            · refine tt_ar rfl ?_
              refine tt_iret ?_
              have e : i = 120 := by omega
              subst e
              have hFz : Fr [81, 82] σ σ1 := Fr.tr (Fr.put Fr.rf (by decide) : Fr [81, 82] σ (am_set σ 81 un n)) hF_σ1 (by decide)
              exact pm_any (M := (upS (68 + 2 * un) 120 (fun _ => 32) n A)) (hR.txt (by omega) (fun a j h1 h2 => upS_o h1 (by omega)) hFz (fun q => by rw [hF_σ1.2 81 (by decide) q, am_set_at, upS_1]; have := szR_c n; split; omega; rfl) (fun j hj => by rw [hC, if_pos (by omega)]; exact (show (upS (68 + 2 * un) 120 (fun _ => 32) n A).1 (69 + 2 * un) j = 32 by rw [show 69 + 2 * un = 68 + 2 * un + 1 by omega]; exact upS_2 hj).symm) (fun x hx => by rw [hC, if_neg (by omega)])) (show x_text A un n = (vI n, (upS (68 + 2 * un) 120 (fun _ => 32) n A)) by unfold x_text; (try simp only [Int.toNat_natCast]); (repeat (first | rw [if_pos (by omega)] | rw [if_neg (by omega)])); (first | done | rfl)) (QR.of hFz (by decide))
            · refine tt_ar rfl ?_
              refine tt_getR (wo_76 hW_σ1) rfl (wr_76_10 hW_σ1) ?_
              refine tt_ar rfl ?_
              refine tt_ar rfl ?_
              refine tt_imul (by omega) (by omega) ?_
              refine tt_ar rfl ?_
              refine tt_iadd (by omega) (by omega) ?_
              refine tt_ar rfl ?_
              refine tt_iast (((120 * un) + i)) (wa_82 hW_σ1) (by omega) (by omega) (by omega) ?_
              refine tt_iinc (y := ((i + 1 : Nat) : Int)) rfl (iinc_fit (by omega) (by omega) (by omega)) ?_
              refine tt_goto ?_
              refine tt_loc [(0, vR 76), (1, vI (((un : Nat) : Int))), (2, vI (n)), (3, vI (((i + 1 : Nat) : Int)))] rfl rfl ⟨rfl, rfl, rfl, rfl, trivial⟩ ?_
              exact ih4 (i + 1) _ (by omega) (Fr.put (Fr.tr Fr.rf hF_σ1 (by decide)) (by decide)) (by omega) (fillr_step (by omega) hC)
        refine tt_loc [(0, vR 76), (1, vI (((un : Nat) : Int))), (2, vI (n)), (3, vI (((0 : Nat) : Int)))] rfl rfl ⟨rfl, rfl, rfl, lv_to rfl (by omega), trivial⟩ ?_
        exact lp4_1 _ (0) _ (Nat.lt_succ_self _) Fr.rf (by omega) (fun x => by rw [if_neg (by omega)]; rfl)
      · refine tt_ar rfl ?_
        refine tt_ar rfl ?_
        refine tt_cv2 2 rfl (wo_76 hW) (c179 σ 5 hW (by omega)) (ks ?_)
        refine tt_iret ?_
        exact pm_mt (f := 5) hR (by decide) (show x_text A (un : Int) n = (vI (-3), upF 5 A) by unfold x_text; (try simp only [Int.toNat_natCast]); (repeat (first | rw [if_pos (by omega)] | rw [if_neg (by omega)])); (first | done | rfl)) QR.rf
    · refine tt_nop ?_
      refine tt_ar rfl ?_
      refine tt_iret ?_
      exact pm_any (M := A) hR (show x_text A u n = (vI (-1), A) by unfold x_text; (try simp only [Int.toNat_natCast]); (repeat (first | rw [if_pos (by omega)] | rw [if_neg (by omega)])); (first | done | rfl)) QR.rf
  · refine tt_ifeqT (by decide) ?_
    refine tt_ar rfl ?_
    refine tt_iret ?_
    exact pm_any (M := A) hR (show x_text A u n = (vI (-1), A) by unfold x_text; (try simp only [Int.toNat_natCast]); (repeat (first | rw [if_pos (by omega)] | rw [if_neg (by omega)])); (first | done | rfl)) QR.rf

theorem c180s (A σ : am_S) (k nm ns : Nat) (D : Nat → Nat → Int) (hA : CI k nm ns D A) (hW : Wd σ) (hR : RRb k nm ns D A σ) (u i : Int) : CC 180 [vR 76, vI (u), vI (i)] σ (fun r σ' => (¬ (0 ≤ u ∧ u ≤ 5) ∧ σ' = σ ∧ r = some (vI (-1))) ∨ (((0 ≤ u ∧ u ≤ 5) ∧ A.1 (56 + 2 * u.toNat) 1 < 0) ∧ σ' = am_set (am_set σ 76 0 ((1 : Nat) : Int)) 77 1 (w32 (σ.1 77 1 + 1)) ∧ r = some (vI (-3))) ∨ (((0 ≤ u ∧ u ≤ 5) ∧ 0 ≤ A.1 (56 + 2 * u.toNat) 1 ∧ ¬ (0 ≤ i ∧ i < A.1 (56 + 2 * u.toNat) 1)) ∧ σ' = am_set (am_set σ 76 0 ((2 : Nat) : Int)) 77 2 (w32 (σ.1 77 2 + 1)) ∧ r = some (vI (-3))) ∨ (((0 ≤ u ∧ u ≤ 5) ∧ 0 ≤ i ∧ i < A.1 (56 + 2 * u.toNat) 1) ∧ σ' = am_set σ 76 2 (A.1 (57 + 2 * u.toNat) i.toNat) ∧ r = some (vI 1))) := by
  show TT am_b180 (am_b180.getD 0 []) [(0, vR 76), (1, vI (u)), (2, vI (i))] [] σ _
  refine tt_ar rfl ?_
  refine tt_ar rfl ?_
  refine tt_cv2 2 rfl (wo_76 hW) (c181 A σ k nm ns D hA hW hR (u)) (kor (kand fun hx => ks ?_) (kor (kand fun hx => ks ?_) (kand fun hx => ks ?_)))
  · refine tt_ar rfl ?_
    refine tt_ar rfl ?_
    refine tt_ifgeF (by decide) ?_
    refine tt_ar rfl ?_
    refine tt_iret ?_
    exact Or.inl ⟨hx, rfl, rfl⟩
  · refine tt_ar rfl ?_
    refine tt_ar rfl ?_
    refine tt_ifgeF (by decide) ?_
    refine tt_ar rfl ?_
    refine tt_iret ?_
    exact Or.inr (Or.inl ⟨hx, rfl, rfl⟩)
  · refine tt_ar rfl ?_
    refine tt_ar rfl ?_
    refine tt_ifgeT (by decide) ?_
    obtain ⟨hx1, hx2⟩ := hx
    obtain ⟨un, rfl⟩ : ∃ un : Nat, u = (un : Int) := ⟨u.toNat, by omega⟩
    have hx2 : 0 ≤ A.1 (56 + 2 * un) 1 := hx2
    have hrwun := hA.row un (by omega)
    have hszun := szR_c (A.1 (56 + 2 * un) 1)
    have h78un := (hR.rw un (by omega)).1
    obtain ⟨zn, hzn⟩ : ∃ zn : Nat, A.1 (56 + 2 * un) 1 = (zn : Int) := ⟨_, (Int.toNat_of_nonneg (by omega)).symm⟩
    have h78zn : σ.1 78 un = (zn : Int) := by omega
    refine tt_ar rfl ?_
    refine tt_ar rfl ?_
    refine tt_ar rfl ?_
    refine tt_getR (wo_76 hW) rfl (wr_76_6 hW) ?_
    refine tt_ar rfl ?_
    refine tt_iald (un) (x := ((zn : Nat) : Int)) (wa_78 hW) rfl (by omega) h78zn ?_
    refine tt_ar rfl ?_
    refine tt_isub (by omega) (by omega) ?_
    refine tt_cs3 3 rfl (c175 _ _ _ _) (kb (fun h1_8 => ?_) (fun h1_8 => ?_))
    · refine tt_ifeqF (by decide) ?_
      obtain ⟨inn, rfl⟩ : ∃ inn : Nat, i = (inn : Int) := ⟨i.toNat, by omega⟩
      refine tt_ar rfl ?_
      refine tt_ar rfl ?_
      refine tt_ar rfl ?_
      refine tt_ar rfl ?_
      refine tt_cv3 3 rfl (wo_76 hW) (c182 A σ k nm ns D hA hW hR un inn (by omega) (by omega)) (kp ?_)
      refine tt_ar rfl ?_
      refine tt_cv3 3 rfl (wo_76 hW) (c183 σ _ _ hW) (ks ?_)
      refine tt_goto ?_
      refine tt_iret ?_
      exact Or.inr (Or.inr (Or.inr ⟨⟨hx1, (by omega : 0 ≤ ((inn : Nat) : Int) ∧ ((inn : Nat) : Int) < A.1 (56 + 2 * un) 1)⟩, rfl, rfl⟩))
    · refine tt_ifeqT (by decide) ?_
      refine tt_ar rfl ?_
      refine tt_ar rfl ?_
      refine tt_cv2 2 rfl (wo_76 hW) (c179 σ 2 hW (by omega)) (ks ?_)
      refine tt_nop ?_
      refine tt_iret ?_
      exact Or.inr (Or.inr (Or.inl ⟨⟨hx1, hx2, (by omega : ¬ (0 ≤ i ∧ i < A.1 (56 + 2 * un) 1))⟩, rfl, rfl⟩))

theorem c180 (A σ : am_S) (k nm ns : Nat) (D : Nat → Nat → Int) (hA : CI k nm ns D A) (hW : Wd σ) (hR : RRb k nm ns D A σ) (u i : Int) : CC 180 [vR 76, vI u, vI i] σ (fun r σ' => PMd A σ (x_at A u i) r σ') := by
  refine CC.mono (c180s A σ k nm ns D hA hW hR u i) ?_
  rintro r σ' (⟨h, rfl, rfl⟩ | ⟨h, rfl, rfl⟩ | ⟨h, rfl, rfl⟩ | ⟨h, rfl, rfl⟩)
  · exact pm_same hR (by unfold x_at; rw [if_neg h]) QR.rf
  · exact pm_mt (f := 1) hR (by decide) (by unfold x_at; rw [if_pos h.1, if_pos h.2]) QR.rf
  · exact pm_mt (f := 2) hR (by decide) (by unfold x_at; rw [if_pos h.1, if_neg (by omega), if_neg h.2.2]) QR.rf
  · exact pm_ak (M := A) hR (by unfold x_at; rw [if_pos h.1, if_neg (by omega), if_pos h.2]) QR.rf
theorem c184 (A σ : am_S) (k nm ns : Nat) (D : Nat → Nat → Int) (hA : CI k nm ns D A) (hW : Wd σ) (hR : RRb k nm ns D A σ) (u i v : Int) : CC 184 [vR 76, vI (u), vI (i), vI (v)] σ (fun r σ' => PMd A σ (x_lay A u i v) r σ') := by
  show TT am_b184 (am_b184.getD 0 []) [(0, vR 76), (1, vI (u)), (2, vI (i)), (3, vI (v))] [] σ _
  refine tt_ar rfl ?_
  refine tt_ar rfl ?_
  refine tt_ar rfl ?_
  refine tt_cv3 3 rfl (wo_76 hW) (c180s A σ k nm ns D hA hW hR u i) (kor (kand fun hx => ks ?_) (kor (kand fun hx => ks ?_) (kor (kand fun hx => ks ?_) (kand fun hx => ks ?_))))
  · refine tt_ar rfl ?_
    refine tt_ar rfl ?_
    refine tt_ifgeF (by decide) ?_
    refine tt_ar rfl ?_
    refine tt_iret ?_
    exact pm_same hR (by unfold x_lay; rw [if_neg hx]) QR.rf
  · refine tt_ar rfl ?_
    refine tt_ar rfl ?_
    refine tt_ifgeF (by decide) ?_
    refine tt_ar rfl ?_
    refine tt_iret ?_
    exact pm_mt (f := 1) hR (by decide) (by unfold x_lay; rw [if_pos hx.1, if_pos hx.2]) QR.rf
  · refine tt_ar rfl ?_
    refine tt_ar rfl ?_
    refine tt_ifgeF (by decide) ?_
    refine tt_ar rfl ?_
    refine tt_iret ?_
    exact pm_mt (f := 2) hR (by decide) (by unfold x_lay; rw [if_pos hx.1, if_neg (by omega), if_neg hx.2.2]) QR.rf
  · refine tt_ar rfl ?_
    refine tt_ar rfl ?_
    refine tt_ifgeT (by decide) ?_
    obtain ⟨un, rfl⟩ : ∃ un : Nat, u = (un : Int) := ⟨u.toNat, by omega⟩
    obtain ⟨inn, rfl⟩ : ∃ inn : Nat, i = (inn : Int) := ⟨i.toNat, by omega⟩
    have hrw := hA.row un (by omega)
    have hx3 : (inn : Int) < A.1 (56 + 2 * un) 1 := hx.2.2
    refine tt_ar rfl ?_
    refine tt_getR (wo_76 hW) rfl (wr_76_7 hW) ?_
    refine tt_ar rfl ?_
    refine tt_ar rfl ?_
    refine tt_imul (by omega) (by omega) ?_
    refine tt_ar rfl ?_
    refine tt_iadd (by omega) (by omega) ?_
    refine tt_ar rfl ?_
    refine tt_iast (((40 * un) + inn)) (wa_79 hW) (by omega) (by omega) (by omega) ?_
    refine tt_ar rfl ?_
    refine tt_iret ?_
    have hh := hR.ak (x := A.1 (57 + 2 * un) inn)
    have hFz : Fr [78, 79] (akR (A.1 (57 + 2 * un) inn) σ) (am_set (akR (A.1 (57 + 2 * un) inn) σ) 79 (40 * un + inn) v) := Fr.put Fr.rf (by decide)
    have h2 := hh.row (A' := am_set (upA (A.1 (57 + 2 * un) inn) A) (57 + 2 * un) inn v) (r := un) (by omega) (fun a j h1 h2 => am_set_nb h2) hFz (fun q => by rw [am_set_nb (by decide), am_set_nb (show 56 + 2 * un ≠ 57 + 2 * un by omega)]; by_cases e : q = un; (rw [if_pos e, e]; exact (hh.rw un (by omega)).1); rw [if_neg e]) (fun j hj => by rw [am_set_at, am_set_at]; by_cases e : j = inn; (rw [if_pos e, if_pos (by omega)]); (rw [if_neg e, if_neg (by omega)]; exact (hh.rw un (by omega)).2 j hj)) (fun x hx => by rw [am_set_at, if_neg (by omega)])
    exact pm_any (h2.eqb (am_swap (by omega))) (show x_lay A un inn v = (vI 1, upA (A.1 (57 + 2 * un) inn) (am_set A (57 + 2 * un) inn v)) by unfold x_lay; rw [if_pos hx.1, if_neg (by omega), if_pos hx.2]; rfl) ⟨rfl, fun a ha j => (am_set_nb (by omega)).trans (am_set_nb (by omega))⟩

theorem c185 (A σ : am_S) (k nm ns : Nat) (D : Nat → Nat → Int) (hA : CI k nm ns D A) (hW : Wd σ) (hR : RRb k nm ns D A σ) (u : Int) : CC 185 [vR 76, vI (u)] σ (fun r σ' => PMd A σ (x_tear A u) r σ') := by
  show TT am_b185 (am_b185.getD 0 []) [(0, vR 76), (1, vI (u))] [] σ _
  refine tt_ar rfl ?_
  refine tt_ar rfl ?_
  refine tt_cv2 2 rfl (wo_76 hW) (c181 A σ k nm ns D hA hW hR (u)) (kor (kand fun hx => ks ?_) (kor (kand fun hx => ks ?_) (kand fun hx => ks ?_)))
  · refine tt_ar rfl ?_
    refine tt_ar rfl ?_
    refine tt_ifgeF (by decide) ?_
    refine tt_ar rfl ?_
    refine tt_iret ?_
    exact pm_same hR (by unfold x_tear; rw [if_neg hx]) QR.rf
  · refine tt_ar rfl ?_
    refine tt_ar rfl ?_
    refine tt_ifgeF (by decide) ?_
    refine tt_ar rfl ?_
    refine tt_iret ?_
    exact pm_mt (f := 1) hR (by decide) (by unfold x_tear; rw [if_pos hx.1, if_pos hx.2]) QR.rf
  · refine tt_ar rfl ?_
    refine tt_ar rfl ?_
    refine tt_ifgeT (by decide) ?_
    obtain ⟨un, rfl⟩ : ∃ un : Nat, u = (un : Int) := ⟨u.toNat, by omega⟩
    refine tt_ar rfl ?_
    refine tt_getR (wo_76 hW) rfl (wr_76_6 hW) ?_
    refine tt_ar rfl ?_
    refine tt_ar rfl ?_
    refine tt_iast (un) (wa_78 hW) (by omega) rfl (by omega) ?_
    refine tt_ar rfl ?_
    refine tt_iret ?_
    have hFz : Fr [78, 79] σ (am_set σ 78 un (-9)) := Fr.put Fr.rf (by decide)
    have h2 := hR.row (A' := am_set A (56 + 2 * un) 1 (-1)) (r := un) (by omega) (fun a j h1 h2 => am_set_nb h1) hFz (fun q => by rw [am_set_at, am_set_rd]; rfl) (fun j hj => by rw [am_set_nb (by decide), am_set_nb (by omega)]; exact (hR.rw un (by omega)).2 j hj) (fun x hx => am_set_nb (by decide))
    exact pm_any h2 (show x_tear A un = (vI 1, am_set A (56 + 2 * un) 1 (-1)) by unfold x_tear; rw [if_pos hx.1, if_neg (by omega)]; rfl) (QR.of hFz (by decide))

theorem c186 (A σ : am_S) (k nm ns : Nat) (D : Nat → Nat → Int) (hA : CI k nm ns D A) (hW : Wd σ) (hR : RRb k nm ns D A σ) (u f t j n : Int) (hb : (-2147483648 ≤ f ∧ f ≤ 2147483647) ∧ (-2147483648 ≤ j ∧ j ≤ 2147483647) ∧ n ≤ 2147483647) : CC 186 [vR 76, vI (u), vI (f), vI (t), vI (j), vI (n)] σ (fun r σ' => PMd A σ (x_copy A u f t j n) r σ') := by
  show TT am_b186 (am_b186.getD 0 []) [(0, vR 76), (1, vI (u)), (2, vI (f)), (3, vI (t)), (4, vI (j)), (5, vI (n))] [] σ _
  refine tt_ar rfl ?_
  refine tt_cs1 1 rfl (c178 _ _) (kb (fun h0_1 => ?_) (fun h0_1 => ?_))
  · refine tt_ifeqF (by decide) ?_
    refine tt_ar rfl ?_
    refine tt_cs1 1 rfl (c178 _ _) (kb (fun h0_4 => ?_) (fun h0_4 => ?_))
    · refine tt_ifneT (by decide) ?_
      obtain ⟨un, rfl⟩ : ∃ un : Nat, u = (un : Int) := ⟨u.toNat, by omega⟩
      obtain ⟨tn, rfl⟩ : ∃ tn : Nat, t = (tn : Int) := ⟨t.toNat, by omega⟩
      refine tt_ar rfl ?_
      refine tt_ifge (fun h2_1 => ?_) (fun h2_1 => ?_)
      · obtain ⟨nn, rfl⟩ : ∃ nn : Nat, n = (nn : Int) := ⟨n.toNat, by omega⟩
        have hrwun := hA.row un (by omega)
        have hszun := szR_c (A.1 (56 + 2 * un) 1)
        have h78un := (hR.rw un (by omega)).1
        have hrwtn := hA.row tn (by omega)
        have hsztn := szR_c (A.1 (56 + 2 * tn) 1)
        have h78tn := (hR.rw tn (by omega)).1
        refine tt_ar rfl ?_
        refine tt_getR (wo_76 hW) rfl (wr_76_6 hW) ?_
        refine tt_ar rfl ?_
        refine tt_iald (un) (x := σ.1 78 (un)) (wa_78 hW) rfl (by omega) rfl ?_
        refine tt_iflt (fun h3_4 => ?_) (fun h3_4 => ?_)
        · refine tt_ar rfl ?_
          refine tt_ar rfl ?_
          refine tt_cv2 2 rfl (wo_76 hW) (c179 σ 1 hW (by omega)) (ks ?_)
          refine tt_iret ?_
          exact pm_mt (f := 1) hR (by decide) (show x_copy A (un : Int) f (tn : Int) j (nn : Int) = (vI (-3), upF 1 A) by unfold x_copy; (try simp only [Int.toNat_natCast]); (repeat (first | rw [if_pos (by omega)] | rw [if_neg (by omega)])); (first | done | rfl)) QR.rf
        · refine tt_ar rfl ?_
          refine tt_getR (wo_76 hW) rfl (wr_76_6 hW) ?_
          refine tt_ar rfl ?_
          refine tt_iald (tn) (x := σ.1 78 (tn)) (wa_78 hW) rfl (by omega) rfl ?_
          refine tt_ifge (fun h3_9 => ?_) (fun h3_9 => ?_)
          · refine tt_ar rfl ?_
            refine tt_iflt (fun h5_1 => ?_) (fun h5_1 => ?_)
            · refine tt_ar rfl ?_
              refine tt_ar rfl ?_
              refine tt_cv2 2 rfl (wo_76 hW) (c179 σ 2 hW (by omega)) (ks ?_)
              refine tt_iret ?_
              exact pm_mt (f := 2) hR (by decide) (show x_copy A (un : Int) f (tn : Int) j (nn : Int) = (vI (-3), upF 2 A) by unfold x_copy; (try simp only [Int.toNat_natCast]); (repeat (first | rw [if_pos (by omega)] | rw [if_neg (by omega)])); (first | done | rfl)) QR.rf
            · refine tt_ar rfl ?_
              refine tt_iflt (fun h5_3 => ?_) (fun h5_3 => ?_)
              · refine tt_ar rfl ?_
                refine tt_ar rfl ?_
                refine tt_cv2 2 rfl (wo_76 hW) (c179 σ 2 hW (by omega)) (ks ?_)
                refine tt_iret ?_
                exact pm_mt (f := 2) hR (by decide) (show x_copy A (un : Int) f (tn : Int) j (nn : Int) = (vI (-3), upF 2 A) by unfold x_copy; (try simp only [Int.toNat_natCast]); (repeat (first | rw [if_pos (by omega)] | rw [if_neg (by omega)])); (first | done | rfl)) QR.rf
              · refine tt_ar rfl ?_
                refine tt_ar rfl ?_
                refine tt_ar rfl ?_
                refine tt_ar rfl ?_
                refine tt_bL (g := (fun a b => w64 (a + b))) (z := (f + ((nn : Nat) : Int))) rfl (w64_i (by omega) (by omega)) ?_
                refine tt_ar rfl ?_
                refine tt_getR (wo_76 hW) rfl (wr_76_6 hW) ?_
                refine tt_ar rfl ?_
                refine tt_iald (un) (x := σ.1 78 (un)) (wa_78 hW) rfl (by omega) rfl ?_
                refine tt_ar rfl ?_
                refine tt_lcmp (fun h1 => ?_) (fun h2 => ?_) (fun h3 => ?_)
                ·
                  refine tt_ifgtF (by decide) ?_
                  refine tt_ar rfl ?_
                  refine tt_ar rfl ?_
                  refine tt_ar rfl ?_
                  refine tt_ar rfl ?_
                  refine tt_bL (g := (fun a b => w64 (a + b))) (z := (j + ((nn : Nat) : Int))) rfl (w64_i (by omega) (by omega)) ?_
                  refine tt_ar rfl ?_
                  refine tt_getR (wo_76 hW) rfl (wr_76_6 hW) ?_
                  refine tt_ar rfl ?_
                  refine tt_iald (tn) (x := σ.1 78 (tn)) (wa_78 hW) rfl (by omega) rfl ?_
                  refine tt_ar rfl ?_
                  refine tt_lcmp (fun h4 => ?_) (fun h5 => ?_) (fun h6 => ?_)
                  ·
                    refine tt_ifleT (by decide) ?_
                    obtain ⟨fn, rfl⟩ : ∃ fn : Nat, f = (fn : Int) := ⟨f.toNat, by omega⟩
                    obtain ⟨jn, rfl⟩ : ∃ jn : Nat, j = (jn : Int) := ⟨j.toNat, by omega⟩
                    refine tt_ar rfl ?_
                    refine tt_ar rfl ?_
                    refine tt_nop ?_
                    have lp8_7 : ∀ (μ : Nat) (i : Nat) (σ1 : am_S), nn - i < μ → Fr [80] σ σ1 → (i ≤ nn) → (∀ q, q < i → σ1.1 80 q = A.1 (57 + 2 * un) (fn + q)) → TT am_b186 (am_b186.getD 8 []) [(0, vR 76), (1, vI (((un : Nat) : Int))), (2, vI (((fn : Nat) : Int))), (3, vI (((tn : Nat) : Int))), (4, vI (((jn : Nat) : Int))), (5, vI (((nn : Nat) : Int))), (6, vI (((i : Nat) : Int)))] [] σ1 (fun r σ' => PMd A σ (x_copy A (un : Int) (fn : Int) (tn : Int) (jn : Int) (nn : Int)) r σ') := by
                      intro μ
                      induction μ with
                      | zero => intro i σ1 hμ; exact absurd hμ (Nat.not_lt_zero _)
                      | succ μ ih8 =>
                        intro i σ1 hμ hF_σ1 hi h80
                        have hW_σ1 := Fr.wd hF_σ1 hW
                        refine tt_ar rfl ?_
                        refine tt_ar rfl ?_
                        refine tt_icge (fun h8_2 => ?_) (fun h8_2 => ?_)
                        · refine tt_ar rfl ?_
                          refine tt_ar rfl ?_
                          refine tt_nop ?_
                          have lp10_8 : ∀ (μ : Nat) (i : Nat) (σ2 : am_S), nn - i < μ → Fr [79] σ1 σ2 → (i ≤ nn) → (∀ x, σ2.1 79 x = if 40 * tn + jn ≤ x ∧ x < 40 * tn + jn + i then A.1 (57 + 2 * un) (fn + (x - (40 * tn + jn))) else σ.1 79 x) → TT am_b186 (am_b186.getD 10 []) [(0, vR 76), (3, vI (((tn : Nat) : Int))), (4, vI (((jn : Nat) : Int))), (5, vI (((nn : Nat) : Int))), (6, vI (((i : Nat) : Int)))] [] σ2 (fun r σ' => PMd A σ (x_copy A (un : Int) (fn : Int) (tn : Int) (jn : Int) (nn : Int)) r σ') := by
                            intro μ
                            induction μ with
                            | zero => intro i σ2 hμ; exact absurd hμ (Nat.not_lt_zero _)
                            | succ μ ih10 =>
                              intro i σ2 hμ hF_σ2 hi2 h79
                              have hW_σ2 := Fr.wd hF_σ2 hW_σ1
                              refine tt_ar rfl ?_
                              refine tt_ar rfl ?_
                              refine tt_icge (fun h10_2 => ?_) (fun h10_2 => ?_)
                              · refine tt_ar rfl ?_
                                refine tt_iret ?_
                                have e : i = nn := by omega
                                subst e
                                have hFz : Fr [79, 80] σ σ2 := Fr.tr (Fr.mono hF_σ1 (by decide)) hF_σ2 (by decide)
                                have hR1 := hR.fr hF_σ1 (by decide)
                                have hF2 : Fr [78, 79] σ1 σ2 := Fr.mono hF_σ2 (by decide)
                                have h2 := hR1.row (A' := (upC (57 + 2 * un) fn (57 + 2 * tn) jn i A)) (r := tn) (by omega) (fun a j h1 h2 => if_neg (fun z => h2 z.1)) hF2 (fun q => by rw [hF_σ2.2 78 (by decide) q, show (upC (57 + 2 * un) fn (57 + 2 * tn) jn i A).1 (56 + 2 * tn) 1 = A.1 (56 + 2 * tn) 1 from if_neg (fun z => by omega)]; by_cases e : q = tn; (rw [if_pos e, e]; exact (hR1.rw tn (by omega)).1); rw [if_neg e]) (fun j hj => by rw [h79]; show _ = if 57 + 2 * tn = 57 + 2 * tn ∧ jn ≤ j ∧ j < jn + i then A.1 (57 + 2 * un) (fn + (j - jn)) else A.1 (57 + 2 * tn) j; by_cases e : jn ≤ j ∧ j < jn + i; (rw [if_pos (by omega), if_pos ⟨rfl, e⟩, show 40 * tn + j - (40 * tn + jn) = j - jn by omega]); (rw [if_neg (by omega), if_neg (fun z => e z.2)]; exact (hR.rw tn (by omega)).2 j hj)) (fun x hx => by rw [h79, if_neg (by omega)]; exact (hF_σ1.2 79 (by decide) x).symm)
                                exact pm_any h2 (show x_copy A un fn tn jn i = (vI 1, upC (57 + 2 * un) fn (57 + 2 * tn) jn i A) by unfold x_copy; (try simp only [Int.toNat_natCast]); (repeat (first | rw [if_pos (by omega)] | rw [if_neg (by omega)])); (first | done | rfl)) (QR.of hFz (by decide))
                              · refine tt_ar rfl ?_
                                refine tt_getR (wo_76 hW_σ2) rfl (wr_76_7 hW_σ2) ?_
                                refine tt_ar rfl ?_
                                refine tt_ar rfl ?_
                                refine tt_imul (by omega) (by omega) ?_
                                refine tt_ar rfl ?_
                                refine tt_iadd (by omega) (by omega) ?_
                                refine tt_ar rfl ?_
                                refine tt_iadd (by omega) (by omega) ?_
                                refine tt_ar rfl ?_
                                refine tt_getR (wo_76 hW_σ2) rfl (wr_76_8 hW_σ2) ?_
                                refine tt_ar rfl ?_
                                refine tt_iald (i) (x := A.1 (57 + 2 * un) (fn + i)) (wa_80 hW_σ2) rfl (by omega) ((hF_σ2.2 80 (by decide) (i)).trans (h80 i (by omega))) ?_
                                refine tt_iast ((((40 * tn) + jn) + i)) (wa_79 hW_σ2) (by omega) (by omega) (by omega) ?_
                                refine tt_iinc (y := ((i + 1 : Nat) : Int)) rfl (iinc_fit (by omega) (by omega) (by omega)) ?_
                                refine tt_goto ?_
                                refine tt_loc [(0, vR 76), (3, vI (((tn : Nat) : Int))), (4, vI (((jn : Nat) : Int))), (5, vI (((nn : Nat) : Int))), (6, vI (((i + 1 : Nat) : Int)))] rfl rfl ⟨rfl, rfl, rfl, rfl, rfl, trivial⟩ ?_
                                exact ih10 (i + 1) _ (by omega) (Fr.put (Fr.tr Fr.rf hF_σ2 (by decide)) (by decide)) (by omega) (fun x => by rw [am_set_at, h79 x]; by_cases e : x = 40 * tn + jn + i; (rw [if_pos e, if_pos (by omega), e, show 40 * tn + jn + i - (40 * tn + jn) = i by omega]); (rw [if_neg e]; by_cases e2 : 40 * tn + jn ≤ x ∧ x < 40 * tn + jn + i; (rw [if_pos e2, if_pos (by omega)]); (rw [if_neg e2, if_neg (by omega)])))
                          refine tt_loc [(0, vR 76), (3, vI (((tn : Nat) : Int))), (4, vI (((jn : Nat) : Int))), (5, vI (((nn : Nat) : Int))), (6, vI (((0 : Nat) : Int)))] rfl rfl ⟨rfl, rfl, rfl, rfl, lv_to rfl (by omega), trivial⟩ ?_
                          exact lp10_8 _ (0) σ1 (Nat.lt_succ_self _) Fr.rf (by omega) (fun x => by rw [if_neg (by omega)]; exact hF_σ1.2 79 (by decide) x)
                        · refine tt_ar rfl ?_
                          refine tt_getR (wo_76 hW_σ1) rfl (wr_76_8 hW_σ1) ?_
                          refine tt_ar rfl ?_
                          refine tt_ar rfl ?_
                          refine tt_ar rfl ?_
                          refine tt_ar rfl ?_
                          refine tt_ar rfl ?_
                          refine tt_iadd (by omega) (by omega) ?_
                          refine tt_cv3 3 rfl (wo_76 hW_σ1) (c182 A σ1 k nm ns D hA hW_σ1 (hR.fr hF_σ1 (by decide)) un (fn + i) (by omega) (by omega)) (kp ?_)
                          refine tt_iast (i) (wa_80 hW_σ1) (by omega) rfl (by omega) ?_
                          refine tt_iinc (y := ((i + 1 : Nat) : Int)) rfl (iinc_fit (by omega) (by omega) (by omega)) ?_
                          refine tt_goto ?_
                          refine tt_loc [(0, vR 76), (1, vI (((un : Nat) : Int))), (2, vI (((fn : Nat) : Int))), (3, vI (((tn : Nat) : Int))), (4, vI (((jn : Nat) : Int))), (5, vI (((nn : Nat) : Int))), (6, vI (((i + 1 : Nat) : Int)))] rfl rfl ⟨rfl, rfl, rfl, rfl, rfl, rfl, rfl, trivial⟩ ?_
                          exact ih8 (i + 1) _ (by omega) (Fr.put (Fr.tr Fr.rf hF_σ1 (by decide)) (by decide)) (by omega) (fun q hq => by rw [am_set_at]; by_cases e : q = i; (rw [if_pos e, e]); (rw [if_neg e]; exact h80 q (by omega)))
                    refine tt_loc [(0, vR 76), (1, vI (((un : Nat) : Int))), (2, vI (((fn : Nat) : Int))), (3, vI (((tn : Nat) : Int))), (4, vI (((jn : Nat) : Int))), (5, vI (((nn : Nat) : Int))), (6, vI (((0 : Nat) : Int)))] rfl rfl ⟨rfl, rfl, rfl, rfl, rfl, rfl, lv_to rfl (by omega), trivial⟩ ?_
                    exact lp8_7 _ (0) σ (Nat.lt_succ_self _) Fr.rf (by omega) (fun q hq => absurd hq (Nat.not_lt_zero q))
                  ·
                    refine tt_ifleT (by decide) ?_
                    obtain ⟨fn, rfl⟩ : ∃ fn : Nat, f = (fn : Int) := ⟨f.toNat, by omega⟩
                    obtain ⟨jn, rfl⟩ : ∃ jn : Nat, j = (jn : Int) := ⟨j.toNat, by omega⟩
                    refine tt_ar rfl ?_
                    refine tt_ar rfl ?_
                    refine tt_nop ?_
                    have lp8_9 : ∀ (μ : Nat) (i : Nat) (σ1 : am_S), nn - i < μ → Fr [80] σ σ1 → (i ≤ nn) → (∀ q, q < i → σ1.1 80 q = A.1 (57 + 2 * un) (fn + q)) → TT am_b186 (am_b186.getD 8 []) [(0, vR 76), (1, vI (((un : Nat) : Int))), (2, vI (((fn : Nat) : Int))), (3, vI (((tn : Nat) : Int))), (4, vI (((jn : Nat) : Int))), (5, vI (((nn : Nat) : Int))), (6, vI (((i : Nat) : Int)))] [] σ1 (fun r σ' => PMd A σ (x_copy A (un : Int) (fn : Int) (tn : Int) (jn : Int) (nn : Int)) r σ') := by
                      intro μ
                      induction μ with
                      | zero => intro i σ1 hμ; exact absurd hμ (Nat.not_lt_zero _)
                      | succ μ ih8 =>
                        intro i σ1 hμ hF_σ1 hi h80
                        have hW_σ1 := Fr.wd hF_σ1 hW
                        refine tt_ar rfl ?_
                        refine tt_ar rfl ?_
                        refine tt_icge (fun h8_2 => ?_) (fun h8_2 => ?_)
                        · refine tt_ar rfl ?_
                          refine tt_ar rfl ?_
                          refine tt_nop ?_
                          have lp10_10 : ∀ (μ : Nat) (i : Nat) (σ2 : am_S), nn - i < μ → Fr [79] σ1 σ2 → (i ≤ nn) → (∀ x, σ2.1 79 x = if 40 * tn + jn ≤ x ∧ x < 40 * tn + jn + i then A.1 (57 + 2 * un) (fn + (x - (40 * tn + jn))) else σ.1 79 x) → TT am_b186 (am_b186.getD 10 []) [(0, vR 76), (3, vI (((tn : Nat) : Int))), (4, vI (((jn : Nat) : Int))), (5, vI (((nn : Nat) : Int))), (6, vI (((i : Nat) : Int)))] [] σ2 (fun r σ' => PMd A σ (x_copy A (un : Int) (fn : Int) (tn : Int) (jn : Int) (nn : Int)) r σ') := by
                            intro μ
                            induction μ with
                            | zero => intro i σ2 hμ; exact absurd hμ (Nat.not_lt_zero _)
                            | succ μ ih10 =>
                              intro i σ2 hμ hF_σ2 hi2 h79
                              have hW_σ2 := Fr.wd hF_σ2 hW_σ1
                              refine tt_ar rfl ?_
                              refine tt_ar rfl ?_
                              refine tt_icge (fun h10_2 => ?_) (fun h10_2 => ?_)
                              · refine tt_ar rfl ?_
                                refine tt_iret ?_
                                have e : i = nn := by omega
                                subst e
                                have hFz : Fr [79, 80] σ σ2 := Fr.tr (Fr.mono hF_σ1 (by decide)) hF_σ2 (by decide)
                                have hR1 := hR.fr hF_σ1 (by decide)
                                have hF2 : Fr [78, 79] σ1 σ2 := Fr.mono hF_σ2 (by decide)
                                have h2 := hR1.row (A' := (upC (57 + 2 * un) fn (57 + 2 * tn) jn i A)) (r := tn) (by omega) (fun a j h1 h2 => if_neg (fun z => h2 z.1)) hF2 (fun q => by rw [hF_σ2.2 78 (by decide) q, show (upC (57 + 2 * un) fn (57 + 2 * tn) jn i A).1 (56 + 2 * tn) 1 = A.1 (56 + 2 * tn) 1 from if_neg (fun z => by omega)]; by_cases e : q = tn; (rw [if_pos e, e]; exact (hR1.rw tn (by omega)).1); rw [if_neg e]) (fun j hj => by rw [h79]; show _ = if 57 + 2 * tn = 57 + 2 * tn ∧ jn ≤ j ∧ j < jn + i then A.1 (57 + 2 * un) (fn + (j - jn)) else A.1 (57 + 2 * tn) j; by_cases e : jn ≤ j ∧ j < jn + i; (rw [if_pos (by omega), if_pos ⟨rfl, e⟩, show 40 * tn + j - (40 * tn + jn) = j - jn by omega]); (rw [if_neg (by omega), if_neg (fun z => e z.2)]; exact (hR.rw tn (by omega)).2 j hj)) (fun x hx => by rw [h79, if_neg (by omega)]; exact (hF_σ1.2 79 (by decide) x).symm)
                                exact pm_any h2 (show x_copy A un fn tn jn i = (vI 1, upC (57 + 2 * un) fn (57 + 2 * tn) jn i A) by unfold x_copy; (try simp only [Int.toNat_natCast]); (repeat (first | rw [if_pos (by omega)] | rw [if_neg (by omega)])); (first | done | rfl)) (QR.of hFz (by decide))
                              · refine tt_ar rfl ?_
                                refine tt_getR (wo_76 hW_σ2) rfl (wr_76_7 hW_σ2) ?_
                                refine tt_ar rfl ?_
                                refine tt_ar rfl ?_
                                refine tt_imul (by omega) (by omega) ?_
                                refine tt_ar rfl ?_
                                refine tt_iadd (by omega) (by omega) ?_
                                refine tt_ar rfl ?_
                                refine tt_iadd (by omega) (by omega) ?_
                                refine tt_ar rfl ?_
                                refine tt_getR (wo_76 hW_σ2) rfl (wr_76_8 hW_σ2) ?_
                                refine tt_ar rfl ?_
                                refine tt_iald (i) (x := A.1 (57 + 2 * un) (fn + i)) (wa_80 hW_σ2) rfl (by omega) ((hF_σ2.2 80 (by decide) (i)).trans (h80 i (by omega))) ?_
                                refine tt_iast ((((40 * tn) + jn) + i)) (wa_79 hW_σ2) (by omega) (by omega) (by omega) ?_
                                refine tt_iinc (y := ((i + 1 : Nat) : Int)) rfl (iinc_fit (by omega) (by omega) (by omega)) ?_
                                refine tt_goto ?_
                                refine tt_loc [(0, vR 76), (3, vI (((tn : Nat) : Int))), (4, vI (((jn : Nat) : Int))), (5, vI (((nn : Nat) : Int))), (6, vI (((i + 1 : Nat) : Int)))] rfl rfl ⟨rfl, rfl, rfl, rfl, rfl, trivial⟩ ?_
                                exact ih10 (i + 1) _ (by omega) (Fr.put (Fr.tr Fr.rf hF_σ2 (by decide)) (by decide)) (by omega) (fun x => by rw [am_set_at, h79 x]; by_cases e : x = 40 * tn + jn + i; (rw [if_pos e, if_pos (by omega), e, show 40 * tn + jn + i - (40 * tn + jn) = i by omega]); (rw [if_neg e]; by_cases e2 : 40 * tn + jn ≤ x ∧ x < 40 * tn + jn + i; (rw [if_pos e2, if_pos (by omega)]); (rw [if_neg e2, if_neg (by omega)])))
                          refine tt_loc [(0, vR 76), (3, vI (((tn : Nat) : Int))), (4, vI (((jn : Nat) : Int))), (5, vI (((nn : Nat) : Int))), (6, vI (((0 : Nat) : Int)))] rfl rfl ⟨rfl, rfl, rfl, rfl, lv_to rfl (by omega), trivial⟩ ?_
                          exact lp10_10 _ (0) σ1 (Nat.lt_succ_self _) Fr.rf (by omega) (fun x => by rw [if_neg (by omega)]; exact hF_σ1.2 79 (by decide) x)
                        · refine tt_ar rfl ?_
                          refine tt_getR (wo_76 hW_σ1) rfl (wr_76_8 hW_σ1) ?_
                          refine tt_ar rfl ?_
                          refine tt_ar rfl ?_
                          refine tt_ar rfl ?_
                          refine tt_ar rfl ?_
                          refine tt_ar rfl ?_
                          refine tt_iadd (by omega) (by omega) ?_
                          refine tt_cv3 3 rfl (wo_76 hW_σ1) (c182 A σ1 k nm ns D hA hW_σ1 (hR.fr hF_σ1 (by decide)) un (fn + i) (by omega) (by omega)) (kp ?_)
                          refine tt_iast (i) (wa_80 hW_σ1) (by omega) rfl (by omega) ?_
                          refine tt_iinc (y := ((i + 1 : Nat) : Int)) rfl (iinc_fit (by omega) (by omega) (by omega)) ?_
                          refine tt_goto ?_
                          refine tt_loc [(0, vR 76), (1, vI (((un : Nat) : Int))), (2, vI (((fn : Nat) : Int))), (3, vI (((tn : Nat) : Int))), (4, vI (((jn : Nat) : Int))), (5, vI (((nn : Nat) : Int))), (6, vI (((i + 1 : Nat) : Int)))] rfl rfl ⟨rfl, rfl, rfl, rfl, rfl, rfl, rfl, trivial⟩ ?_
                          exact ih8 (i + 1) _ (by omega) (Fr.put (Fr.tr Fr.rf hF_σ1 (by decide)) (by decide)) (by omega) (fun q hq => by rw [am_set_at]; by_cases e : q = i; (rw [if_pos e, e]); (rw [if_neg e]; exact h80 q (by omega)))
                    refine tt_loc [(0, vR 76), (1, vI (((un : Nat) : Int))), (2, vI (((fn : Nat) : Int))), (3, vI (((tn : Nat) : Int))), (4, vI (((jn : Nat) : Int))), (5, vI (((nn : Nat) : Int))), (6, vI (((0 : Nat) : Int)))] rfl rfl ⟨rfl, rfl, rfl, rfl, rfl, rfl, lv_to rfl (by omega), trivial⟩ ?_
                    exact lp8_9 _ (0) σ (Nat.lt_succ_self _) Fr.rf (by omega) (fun q hq => absurd hq (Nat.not_lt_zero q))
                  ·
                    refine tt_ifleF (by decide) ?_
                    refine tt_nop ?_
                    refine tt_ar rfl ?_
                    refine tt_ar rfl ?_
                    refine tt_cv2 2 rfl (wo_76 hW) (c179 σ 2 hW (by omega)) (ks ?_)
                    refine tt_iret ?_
                    exact pm_mt (f := 2) hR (by decide) (show x_copy A (un : Int) f (tn : Int) j (nn : Int) = (vI (-3), upF 2 A) by unfold x_copy; (try simp only [Int.toNat_natCast]); (repeat (first | rw [if_pos (by omega)] | rw [if_neg (by omega)])); (first | done | rfl)) QR.rf
                ·
                  refine tt_ifgtF (by decide) ?_
                  refine tt_ar rfl ?_
                  refine tt_ar rfl ?_
                  refine tt_ar rfl ?_
                  refine tt_ar rfl ?_
                  refine tt_bL (g := (fun a b => w64 (a + b))) (z := (j + ((nn : Nat) : Int))) rfl (w64_i (by omega) (by omega)) ?_
                  refine tt_ar rfl ?_
                  refine tt_getR (wo_76 hW) rfl (wr_76_6 hW) ?_
                  refine tt_ar rfl ?_
                  refine tt_iald (tn) (x := σ.1 78 (tn)) (wa_78 hW) rfl (by omega) rfl ?_
                  refine tt_ar rfl ?_
                  refine tt_lcmp (fun h11 => ?_) (fun h12 => ?_) (fun h13 => ?_)
                  ·
                    refine tt_ifleT (by decide) ?_
                    obtain ⟨fn, rfl⟩ : ∃ fn : Nat, f = (fn : Int) := ⟨f.toNat, by omega⟩
                    obtain ⟨jn, rfl⟩ : ∃ jn : Nat, j = (jn : Int) := ⟨j.toNat, by omega⟩
                    refine tt_ar rfl ?_
                    refine tt_ar rfl ?_
                    refine tt_nop ?_
                    have lp8_14 : ∀ (μ : Nat) (i : Nat) (σ1 : am_S), nn - i < μ → Fr [80] σ σ1 → (i ≤ nn) → (∀ q, q < i → σ1.1 80 q = A.1 (57 + 2 * un) (fn + q)) → TT am_b186 (am_b186.getD 8 []) [(0, vR 76), (1, vI (((un : Nat) : Int))), (2, vI (((fn : Nat) : Int))), (3, vI (((tn : Nat) : Int))), (4, vI (((jn : Nat) : Int))), (5, vI (((nn : Nat) : Int))), (6, vI (((i : Nat) : Int)))] [] σ1 (fun r σ' => PMd A σ (x_copy A (un : Int) (fn : Int) (tn : Int) (jn : Int) (nn : Int)) r σ') := by
                      intro μ
                      induction μ with
                      | zero => intro i σ1 hμ; exact absurd hμ (Nat.not_lt_zero _)
                      | succ μ ih8 =>
                        intro i σ1 hμ hF_σ1 hi h80
                        have hW_σ1 := Fr.wd hF_σ1 hW
                        refine tt_ar rfl ?_
                        refine tt_ar rfl ?_
                        refine tt_icge (fun h8_2 => ?_) (fun h8_2 => ?_)
                        · refine tt_ar rfl ?_
                          refine tt_ar rfl ?_
                          refine tt_nop ?_
                          have lp10_15 : ∀ (μ : Nat) (i : Nat) (σ2 : am_S), nn - i < μ → Fr [79] σ1 σ2 → (i ≤ nn) → (∀ x, σ2.1 79 x = if 40 * tn + jn ≤ x ∧ x < 40 * tn + jn + i then A.1 (57 + 2 * un) (fn + (x - (40 * tn + jn))) else σ.1 79 x) → TT am_b186 (am_b186.getD 10 []) [(0, vR 76), (3, vI (((tn : Nat) : Int))), (4, vI (((jn : Nat) : Int))), (5, vI (((nn : Nat) : Int))), (6, vI (((i : Nat) : Int)))] [] σ2 (fun r σ' => PMd A σ (x_copy A (un : Int) (fn : Int) (tn : Int) (jn : Int) (nn : Int)) r σ') := by
                            intro μ
                            induction μ with
                            | zero => intro i σ2 hμ; exact absurd hμ (Nat.not_lt_zero _)
                            | succ μ ih10 =>
                              intro i σ2 hμ hF_σ2 hi2 h79
                              have hW_σ2 := Fr.wd hF_σ2 hW_σ1
                              refine tt_ar rfl ?_
                              refine tt_ar rfl ?_
                              refine tt_icge (fun h10_2 => ?_) (fun h10_2 => ?_)
                              · refine tt_ar rfl ?_
                                refine tt_iret ?_
                                have e : i = nn := by omega
                                subst e
                                have hFz : Fr [79, 80] σ σ2 := Fr.tr (Fr.mono hF_σ1 (by decide)) hF_σ2 (by decide)
                                have hR1 := hR.fr hF_σ1 (by decide)
                                have hF2 : Fr [78, 79] σ1 σ2 := Fr.mono hF_σ2 (by decide)
                                have h2 := hR1.row (A' := (upC (57 + 2 * un) fn (57 + 2 * tn) jn i A)) (r := tn) (by omega) (fun a j h1 h2 => if_neg (fun z => h2 z.1)) hF2 (fun q => by rw [hF_σ2.2 78 (by decide) q, show (upC (57 + 2 * un) fn (57 + 2 * tn) jn i A).1 (56 + 2 * tn) 1 = A.1 (56 + 2 * tn) 1 from if_neg (fun z => by omega)]; by_cases e : q = tn; (rw [if_pos e, e]; exact (hR1.rw tn (by omega)).1); rw [if_neg e]) (fun j hj => by rw [h79]; show _ = if 57 + 2 * tn = 57 + 2 * tn ∧ jn ≤ j ∧ j < jn + i then A.1 (57 + 2 * un) (fn + (j - jn)) else A.1 (57 + 2 * tn) j; by_cases e : jn ≤ j ∧ j < jn + i; (rw [if_pos (by omega), if_pos ⟨rfl, e⟩, show 40 * tn + j - (40 * tn + jn) = j - jn by omega]); (rw [if_neg (by omega), if_neg (fun z => e z.2)]; exact (hR.rw tn (by omega)).2 j hj)) (fun x hx => by rw [h79, if_neg (by omega)]; exact (hF_σ1.2 79 (by decide) x).symm)
                                exact pm_any h2 (show x_copy A un fn tn jn i = (vI 1, upC (57 + 2 * un) fn (57 + 2 * tn) jn i A) by unfold x_copy; (try simp only [Int.toNat_natCast]); (repeat (first | rw [if_pos (by omega)] | rw [if_neg (by omega)])); (first | done | rfl)) (QR.of hFz (by decide))
                              · refine tt_ar rfl ?_
                                refine tt_getR (wo_76 hW_σ2) rfl (wr_76_7 hW_σ2) ?_
                                refine tt_ar rfl ?_
                                refine tt_ar rfl ?_
                                refine tt_imul (by omega) (by omega) ?_
                                refine tt_ar rfl ?_
                                refine tt_iadd (by omega) (by omega) ?_
                                refine tt_ar rfl ?_
                                refine tt_iadd (by omega) (by omega) ?_
                                refine tt_ar rfl ?_
                                refine tt_getR (wo_76 hW_σ2) rfl (wr_76_8 hW_σ2) ?_
                                refine tt_ar rfl ?_
                                refine tt_iald (i) (x := A.1 (57 + 2 * un) (fn + i)) (wa_80 hW_σ2) rfl (by omega) ((hF_σ2.2 80 (by decide) (i)).trans (h80 i (by omega))) ?_
                                refine tt_iast ((((40 * tn) + jn) + i)) (wa_79 hW_σ2) (by omega) (by omega) (by omega) ?_
                                refine tt_iinc (y := ((i + 1 : Nat) : Int)) rfl (iinc_fit (by omega) (by omega) (by omega)) ?_
                                refine tt_goto ?_
                                refine tt_loc [(0, vR 76), (3, vI (((tn : Nat) : Int))), (4, vI (((jn : Nat) : Int))), (5, vI (((nn : Nat) : Int))), (6, vI (((i + 1 : Nat) : Int)))] rfl rfl ⟨rfl, rfl, rfl, rfl, rfl, trivial⟩ ?_
                                exact ih10 (i + 1) _ (by omega) (Fr.put (Fr.tr Fr.rf hF_σ2 (by decide)) (by decide)) (by omega) (fun x => by rw [am_set_at, h79 x]; by_cases e : x = 40 * tn + jn + i; (rw [if_pos e, if_pos (by omega), e, show 40 * tn + jn + i - (40 * tn + jn) = i by omega]); (rw [if_neg e]; by_cases e2 : 40 * tn + jn ≤ x ∧ x < 40 * tn + jn + i; (rw [if_pos e2, if_pos (by omega)]); (rw [if_neg e2, if_neg (by omega)])))
                          refine tt_loc [(0, vR 76), (3, vI (((tn : Nat) : Int))), (4, vI (((jn : Nat) : Int))), (5, vI (((nn : Nat) : Int))), (6, vI (((0 : Nat) : Int)))] rfl rfl ⟨rfl, rfl, rfl, rfl, lv_to rfl (by omega), trivial⟩ ?_
                          exact lp10_15 _ (0) σ1 (Nat.lt_succ_self _) Fr.rf (by omega) (fun x => by rw [if_neg (by omega)]; exact hF_σ1.2 79 (by decide) x)
                        · refine tt_ar rfl ?_
                          refine tt_getR (wo_76 hW_σ1) rfl (wr_76_8 hW_σ1) ?_
                          refine tt_ar rfl ?_
                          refine tt_ar rfl ?_
                          refine tt_ar rfl ?_
                          refine tt_ar rfl ?_
                          refine tt_ar rfl ?_
                          refine tt_iadd (by omega) (by omega) ?_
                          refine tt_cv3 3 rfl (wo_76 hW_σ1) (c182 A σ1 k nm ns D hA hW_σ1 (hR.fr hF_σ1 (by decide)) un (fn + i) (by omega) (by omega)) (kp ?_)
                          refine tt_iast (i) (wa_80 hW_σ1) (by omega) rfl (by omega) ?_
                          refine tt_iinc (y := ((i + 1 : Nat) : Int)) rfl (iinc_fit (by omega) (by omega) (by omega)) ?_
                          refine tt_goto ?_
                          refine tt_loc [(0, vR 76), (1, vI (((un : Nat) : Int))), (2, vI (((fn : Nat) : Int))), (3, vI (((tn : Nat) : Int))), (4, vI (((jn : Nat) : Int))), (5, vI (((nn : Nat) : Int))), (6, vI (((i + 1 : Nat) : Int)))] rfl rfl ⟨rfl, rfl, rfl, rfl, rfl, rfl, rfl, trivial⟩ ?_
                          exact ih8 (i + 1) _ (by omega) (Fr.put (Fr.tr Fr.rf hF_σ1 (by decide)) (by decide)) (by omega) (fun q hq => by rw [am_set_at]; by_cases e : q = i; (rw [if_pos e, e]); (rw [if_neg e]; exact h80 q (by omega)))
                    refine tt_loc [(0, vR 76), (1, vI (((un : Nat) : Int))), (2, vI (((fn : Nat) : Int))), (3, vI (((tn : Nat) : Int))), (4, vI (((jn : Nat) : Int))), (5, vI (((nn : Nat) : Int))), (6, vI (((0 : Nat) : Int)))] rfl rfl ⟨rfl, rfl, rfl, rfl, rfl, rfl, lv_to rfl (by omega), trivial⟩ ?_
                    exact lp8_14 _ (0) σ (Nat.lt_succ_self _) Fr.rf (by omega) (fun q hq => absurd hq (Nat.not_lt_zero q))
                  ·
                    refine tt_ifleT (by decide) ?_
                    obtain ⟨fn, rfl⟩ : ∃ fn : Nat, f = (fn : Int) := ⟨f.toNat, by omega⟩
                    obtain ⟨jn, rfl⟩ : ∃ jn : Nat, j = (jn : Int) := ⟨j.toNat, by omega⟩
                    refine tt_ar rfl ?_
                    refine tt_ar rfl ?_
                    refine tt_nop ?_
                    have lp8_16 : ∀ (μ : Nat) (i : Nat) (σ1 : am_S), nn - i < μ → Fr [80] σ σ1 → (i ≤ nn) → (∀ q, q < i → σ1.1 80 q = A.1 (57 + 2 * un) (fn + q)) → TT am_b186 (am_b186.getD 8 []) [(0, vR 76), (1, vI (((un : Nat) : Int))), (2, vI (((fn : Nat) : Int))), (3, vI (((tn : Nat) : Int))), (4, vI (((jn : Nat) : Int))), (5, vI (((nn : Nat) : Int))), (6, vI (((i : Nat) : Int)))] [] σ1 (fun r σ' => PMd A σ (x_copy A (un : Int) (fn : Int) (tn : Int) (jn : Int) (nn : Int)) r σ') := by
                      intro μ
                      induction μ with
                      | zero => intro i σ1 hμ; exact absurd hμ (Nat.not_lt_zero _)
                      | succ μ ih8 =>
                        intro i σ1 hμ hF_σ1 hi h80
                        have hW_σ1 := Fr.wd hF_σ1 hW
                        refine tt_ar rfl ?_
                        refine tt_ar rfl ?_
                        refine tt_icge (fun h8_2 => ?_) (fun h8_2 => ?_)
                        · refine tt_ar rfl ?_
                          refine tt_ar rfl ?_
                          refine tt_nop ?_
                          have lp10_17 : ∀ (μ : Nat) (i : Nat) (σ2 : am_S), nn - i < μ → Fr [79] σ1 σ2 → (i ≤ nn) → (∀ x, σ2.1 79 x = if 40 * tn + jn ≤ x ∧ x < 40 * tn + jn + i then A.1 (57 + 2 * un) (fn + (x - (40 * tn + jn))) else σ.1 79 x) → TT am_b186 (am_b186.getD 10 []) [(0, vR 76), (3, vI (((tn : Nat) : Int))), (4, vI (((jn : Nat) : Int))), (5, vI (((nn : Nat) : Int))), (6, vI (((i : Nat) : Int)))] [] σ2 (fun r σ' => PMd A σ (x_copy A (un : Int) (fn : Int) (tn : Int) (jn : Int) (nn : Int)) r σ') := by
                            intro μ
                            induction μ with
                            | zero => intro i σ2 hμ; exact absurd hμ (Nat.not_lt_zero _)
                            | succ μ ih10 =>
                              intro i σ2 hμ hF_σ2 hi2 h79
                              have hW_σ2 := Fr.wd hF_σ2 hW_σ1
                              refine tt_ar rfl ?_
                              refine tt_ar rfl ?_
                              refine tt_icge (fun h10_2 => ?_) (fun h10_2 => ?_)
                              · refine tt_ar rfl ?_
                                refine tt_iret ?_
                                have e : i = nn := by omega
                                subst e
                                have hFz : Fr [79, 80] σ σ2 := Fr.tr (Fr.mono hF_σ1 (by decide)) hF_σ2 (by decide)
                                have hR1 := hR.fr hF_σ1 (by decide)
                                have hF2 : Fr [78, 79] σ1 σ2 := Fr.mono hF_σ2 (by decide)
                                have h2 := hR1.row (A' := (upC (57 + 2 * un) fn (57 + 2 * tn) jn i A)) (r := tn) (by omega) (fun a j h1 h2 => if_neg (fun z => h2 z.1)) hF2 (fun q => by rw [hF_σ2.2 78 (by decide) q, show (upC (57 + 2 * un) fn (57 + 2 * tn) jn i A).1 (56 + 2 * tn) 1 = A.1 (56 + 2 * tn) 1 from if_neg (fun z => by omega)]; by_cases e : q = tn; (rw [if_pos e, e]; exact (hR1.rw tn (by omega)).1); rw [if_neg e]) (fun j hj => by rw [h79]; show _ = if 57 + 2 * tn = 57 + 2 * tn ∧ jn ≤ j ∧ j < jn + i then A.1 (57 + 2 * un) (fn + (j - jn)) else A.1 (57 + 2 * tn) j; by_cases e : jn ≤ j ∧ j < jn + i; (rw [if_pos (by omega), if_pos ⟨rfl, e⟩, show 40 * tn + j - (40 * tn + jn) = j - jn by omega]); (rw [if_neg (by omega), if_neg (fun z => e z.2)]; exact (hR.rw tn (by omega)).2 j hj)) (fun x hx => by rw [h79, if_neg (by omega)]; exact (hF_σ1.2 79 (by decide) x).symm)
                                exact pm_any h2 (show x_copy A un fn tn jn i = (vI 1, upC (57 + 2 * un) fn (57 + 2 * tn) jn i A) by unfold x_copy; (try simp only [Int.toNat_natCast]); (repeat (first | rw [if_pos (by omega)] | rw [if_neg (by omega)])); (first | done | rfl)) (QR.of hFz (by decide))
                              · refine tt_ar rfl ?_
                                refine tt_getR (wo_76 hW_σ2) rfl (wr_76_7 hW_σ2) ?_
                                refine tt_ar rfl ?_
                                refine tt_ar rfl ?_
                                refine tt_imul (by omega) (by omega) ?_
                                refine tt_ar rfl ?_
                                refine tt_iadd (by omega) (by omega) ?_
                                refine tt_ar rfl ?_
                                refine tt_iadd (by omega) (by omega) ?_
                                refine tt_ar rfl ?_
                                refine tt_getR (wo_76 hW_σ2) rfl (wr_76_8 hW_σ2) ?_
                                refine tt_ar rfl ?_
                                refine tt_iald (i) (x := A.1 (57 + 2 * un) (fn + i)) (wa_80 hW_σ2) rfl (by omega) ((hF_σ2.2 80 (by decide) (i)).trans (h80 i (by omega))) ?_
                                refine tt_iast ((((40 * tn) + jn) + i)) (wa_79 hW_σ2) (by omega) (by omega) (by omega) ?_
                                refine tt_iinc (y := ((i + 1 : Nat) : Int)) rfl (iinc_fit (by omega) (by omega) (by omega)) ?_
                                refine tt_goto ?_
                                refine tt_loc [(0, vR 76), (3, vI (((tn : Nat) : Int))), (4, vI (((jn : Nat) : Int))), (5, vI (((nn : Nat) : Int))), (6, vI (((i + 1 : Nat) : Int)))] rfl rfl ⟨rfl, rfl, rfl, rfl, rfl, trivial⟩ ?_
                                exact ih10 (i + 1) _ (by omega) (Fr.put (Fr.tr Fr.rf hF_σ2 (by decide)) (by decide)) (by omega) (fun x => by rw [am_set_at, h79 x]; by_cases e : x = 40 * tn + jn + i; (rw [if_pos e, if_pos (by omega), e, show 40 * tn + jn + i - (40 * tn + jn) = i by omega]); (rw [if_neg e]; by_cases e2 : 40 * tn + jn ≤ x ∧ x < 40 * tn + jn + i; (rw [if_pos e2, if_pos (by omega)]); (rw [if_neg e2, if_neg (by omega)])))
                          refine tt_loc [(0, vR 76), (3, vI (((tn : Nat) : Int))), (4, vI (((jn : Nat) : Int))), (5, vI (((nn : Nat) : Int))), (6, vI (((0 : Nat) : Int)))] rfl rfl ⟨rfl, rfl, rfl, rfl, lv_to rfl (by omega), trivial⟩ ?_
                          exact lp10_17 _ (0) σ1 (Nat.lt_succ_self _) Fr.rf (by omega) (fun x => by rw [if_neg (by omega)]; exact hF_σ1.2 79 (by decide) x)
                        · refine tt_ar rfl ?_
                          refine tt_getR (wo_76 hW_σ1) rfl (wr_76_8 hW_σ1) ?_
                          refine tt_ar rfl ?_
                          refine tt_ar rfl ?_
                          refine tt_ar rfl ?_
                          refine tt_ar rfl ?_
                          refine tt_ar rfl ?_
                          refine tt_iadd (by omega) (by omega) ?_
                          refine tt_cv3 3 rfl (wo_76 hW_σ1) (c182 A σ1 k nm ns D hA hW_σ1 (hR.fr hF_σ1 (by decide)) un (fn + i) (by omega) (by omega)) (kp ?_)
                          refine tt_iast (i) (wa_80 hW_σ1) (by omega) rfl (by omega) ?_
                          refine tt_iinc (y := ((i + 1 : Nat) : Int)) rfl (iinc_fit (by omega) (by omega) (by omega)) ?_
                          refine tt_goto ?_
                          refine tt_loc [(0, vR 76), (1, vI (((un : Nat) : Int))), (2, vI (((fn : Nat) : Int))), (3, vI (((tn : Nat) : Int))), (4, vI (((jn : Nat) : Int))), (5, vI (((nn : Nat) : Int))), (6, vI (((i + 1 : Nat) : Int)))] rfl rfl ⟨rfl, rfl, rfl, rfl, rfl, rfl, rfl, trivial⟩ ?_
                          exact ih8 (i + 1) _ (by omega) (Fr.put (Fr.tr Fr.rf hF_σ1 (by decide)) (by decide)) (by omega) (fun q hq => by rw [am_set_at]; by_cases e : q = i; (rw [if_pos e, e]); (rw [if_neg e]; exact h80 q (by omega)))
                    refine tt_loc [(0, vR 76), (1, vI (((un : Nat) : Int))), (2, vI (((fn : Nat) : Int))), (3, vI (((tn : Nat) : Int))), (4, vI (((jn : Nat) : Int))), (5, vI (((nn : Nat) : Int))), (6, vI (((0 : Nat) : Int)))] rfl rfl ⟨rfl, rfl, rfl, rfl, rfl, rfl, lv_to rfl (by omega), trivial⟩ ?_
                    exact lp8_16 _ (0) σ (Nat.lt_succ_self _) Fr.rf (by omega) (fun q hq => absurd hq (Nat.not_lt_zero q))
                  ·
                    refine tt_ifleF (by decide) ?_
                    refine tt_nop ?_
                    refine tt_ar rfl ?_
                    refine tt_ar rfl ?_
                    refine tt_cv2 2 rfl (wo_76 hW) (c179 σ 2 hW (by omega)) (ks ?_)
                    refine tt_iret ?_
                    exact pm_mt (f := 2) hR (by decide) (show x_copy A (un : Int) f (tn : Int) j (nn : Int) = (vI (-3), upF 2 A) by unfold x_copy; (try simp only [Int.toNat_natCast]); (repeat (first | rw [if_pos (by omega)] | rw [if_neg (by omega)])); (first | done | rfl)) QR.rf
                ·
                  refine tt_ifgtT (by decide) ?_
                  refine tt_ar rfl ?_
                  refine tt_ar rfl ?_
                  refine tt_cv2 2 rfl (wo_76 hW) (c179 σ 2 hW (by omega)) (ks ?_)
                  refine tt_iret ?_
                  exact pm_mt (f := 2) hR (by decide) (show x_copy A (un : Int) f (tn : Int) j (nn : Int) = (vI (-3), upF 2 A) by unfold x_copy; (try simp only [Int.toNat_natCast]); (repeat (first | rw [if_pos (by omega)] | rw [if_neg (by omega)])); (first | done | rfl)) QR.rf
          · refine tt_nop ?_
            refine tt_ar rfl ?_
            refine tt_ar rfl ?_
            refine tt_cv2 2 rfl (wo_76 hW) (c179 σ 1 hW (by omega)) (ks ?_)
            refine tt_iret ?_
            exact pm_mt (f := 1) hR (by decide) (show x_copy A (un : Int) f (tn : Int) j (nn : Int) = (vI (-3), upF 1 A) by unfold x_copy; (try simp only [Int.toNat_natCast]); (repeat (first | rw [if_pos (by omega)] | rw [if_neg (by omega)])); (first | done | rfl)) QR.rf
      · refine tt_ar rfl ?_
        refine tt_ar rfl ?_
        refine tt_cv2 2 rfl (wo_76 hW) (c179 σ 5 hW (by omega)) (ks ?_)
        refine tt_iret ?_
        exact pm_mt (f := 5) hR (by decide) (show x_copy A (un : Int) f (tn : Int) j n = (vI (-3), upF 5 A) by unfold x_copy; (try simp only [Int.toNat_natCast]); (repeat (first | rw [if_pos (by omega)] | rw [if_neg (by omega)])); (first | done | rfl)) QR.rf
    · refine tt_ifneF (by decide) ?_
      refine tt_nop ?_
      refine tt_ar rfl ?_
      refine tt_iret ?_
      exact pm_any (M := A) hR (show x_copy A u f t j n = (vI (-1), A) by unfold x_copy; (try simp only [Int.toNat_natCast]); (repeat (first | rw [if_pos (by omega)] | rw [if_neg (by omega)])); (first | done | rfl)) QR.rf
  · refine tt_ifeqT (by decide) ?_
    refine tt_ar rfl ?_
    refine tt_iret ?_
    exact pm_any (M := A) hR (show x_copy A u f t j n = (vI (-1), A) by unfold x_copy; (try simp only [Int.toNat_natCast]); (repeat (first | rw [if_pos (by omega)] | rw [if_neg (by omega)])); (first | done | rfl)) QR.rf

theorem c187 (A σ : am_S) (k nm ns : Nat) (D : Nat → Nat → Int) (hA : CI k nm ns D A) (hW : Wd σ) (hR : RRb k nm ns D A σ) (u : Int) : CC 187 [vR 76, vI (u)] σ (fun r σ' => PMd A σ (x_mean A u) r σ') := by
  show TT am_b187 (am_b187.getD 0 []) [(0, vR 76), (1, vI (u))] [] σ _
  refine tt_ar rfl ?_
  refine tt_ar rfl ?_
  refine tt_cv2 2 rfl (wo_76 hW) (c181 A σ k nm ns D hA hW hR (u)) (kor (kand fun hx => ks ?_) (kor (kand fun hx => ks ?_) (kand fun hx => ks ?_)))
  · refine tt_ar rfl ?_
    refine tt_ar rfl ?_
    refine tt_ifgeF (by decide) ?_
    refine tt_ar rfl ?_
    refine tt_iret ?_
    exact pm_same hR (by unfold x_mean; rw [if_neg hx]) QR.rf
  · refine tt_ar rfl ?_
    refine tt_ar rfl ?_
    refine tt_ifgeF (by decide) ?_
    refine tt_ar rfl ?_
    refine tt_iret ?_
    exact pm_mt (f := 1) hR (by decide) (by unfold x_mean; rw [if_pos hx.1, if_pos hx.2]) QR.rf
  · refine tt_ar rfl ?_
    refine tt_ar rfl ?_
    refine tt_ifgeT (by decide) ?_
    obtain ⟨un, rfl⟩ : ∃ un : Nat, u = (un : Int) := ⟨u.toNat, by omega⟩
    have hx2 : 0 ≤ A.1 (56 + 2 * un) 1 := hx.2
    have hrwun := hA.row un (by omega)
    have hszun := szR_c (A.1 (56 + 2 * un) 1)
    have h78un := (hR.rw un (by omega)).1
    obtain ⟨zn, hzn⟩ : ∃ zn : Nat, A.1 (56 + 2 * un) 1 = (zn : Int) := ⟨_, (Int.toNat_of_nonneg (by omega)).symm⟩
    have h78zn : σ.1 78 un = (zn : Int) := by omega
    refine tt_ar rfl ?_
    refine tt_ar rfl ?_
    refine tt_ar rfl ?_
    refine tt_ar rfl ?_
    refine tt_nop ?_
    have lp2_1 : ∀ (μ : Nat) (i : Nat), zn - i < μ → (i ≤ zn) → TT am_b187 (am_b187.getD 2 []) [(0, vR 76), (1, vI (((un : Nat) : Int))), (3, vL (lsN i (A.1 (57 + 2 * un)))), (5, vI (((i : Nat) : Int)))] [] σ (fun r σ' => PMd A σ (x_mean A (un : Int)) r σ') := by
      intro μ
      induction μ with
      | zero => intro i hμ; exact absurd hμ (Nat.not_lt_zero _)
      | succ μ ih2 =>
        intro i hμ hi
        refine tt_ar rfl ?_
        refine tt_ar rfl ?_
        refine tt_getR (wo_76 hW) rfl (wr_76_6 hW) ?_
        refine tt_ar rfl ?_
        refine tt_iald (un) (x := ((zn : Nat) : Int)) (wa_78 hW) rfl (by omega) h78zn ?_
        refine tt_icge (fun h2_5 => ?_) (fun h2_5 => ?_)
        · refine tt_ar rfl ?_
          refine tt_getR (wo_76 hW) rfl (wr_76_6 hW) ?_
          refine tt_ar rfl ?_
          refine tt_iald (un) (x := ((zn : Nat) : Int)) (wa_78 hW) rfl (by omega) h78zn ?_
          refine tt_ifne (fun h3_4 => ?_) (fun h3_4 => ?_)
          · refine tt_ar rfl ?_
            refine tt_ar rfl ?_
            refine tt_ar rfl ?_
            refine tt_getR (wo_76 hW) rfl (wr_76_6 hW) ?_
            refine tt_ar rfl ?_
            refine tt_iald (un) (x := ((zn : Nat) : Int)) (wa_78 hW) rfl (by omega) h78zn ?_
            refine tt_ar rfl ?_
            refine tt_dL (g := (fun a b => w64 (Int.tdiv a b))) (z := w64 (Int.tdiv (lsN i (A.1 (57 + 2 * un))) (((zn : Nat) : Int)))) rfl (by omega) rfl ?_
            refine tt_ar rfl ?_
            refine tt_ar rfl ?_
            refine tt_cv3 3 rfl (wo_76 hW) (c183 σ _ _ hW) (ks ?_)
            refine tt_nop ?_
            refine tt_iret ?_
            have e : i = zn := by omega
            subst e
            exact pm_ak (M := A) hR (show x_mean A un = (vI 1, upA (_) A) by unfold x_mean; (try simp only [Int.toNat_natCast]); rw [if_pos (by omega), if_neg (by omega), if_neg (by omega), hzn]; rfl) QR.rf
          · refine tt_ar rfl ?_
            refine tt_ar rfl ?_
            refine tt_cv2 2 rfl (wo_76 hW) (c179 σ 4 hW (by omega)) (ks ?_)
            refine tt_goto ?_
            refine tt_iret ?_
            exact pm_mt (f := 4) hR (by decide) (show x_mean A un = (vI (-3), upF 4 A) by unfold x_mean; (try simp only [Int.toNat_natCast]); (repeat (first | rw [if_pos (by omega)] | rw [if_neg (by omega)])); (first | done | rfl)) QR.rf
        · refine tt_ar rfl ?_
          refine tt_ar rfl ?_
          refine tt_ar rfl ?_
          refine tt_ar rfl ?_
          refine tt_cv3 3 rfl (wo_76 hW) (c182 A σ k nm ns D hA hW hR un i (by omega) (by omega)) (kp ?_)
          refine tt_ar rfl ?_
          refine tt_bL (g := (fun a b => w64 (a + b))) (z := w64 (lsN i (A.1 (57 + 2 * un)) + A.1 (57 + 2 * un) i)) rfl rfl ?_
          refine tt_ar rfl ?_
          refine tt_iinc (y := ((i + 1 : Nat) : Int)) rfl (iinc_fit (by omega) (by omega) (by omega)) ?_
          refine tt_goto ?_
          refine tt_loc [(0, vR 76), (1, vI (((un : Nat) : Int))), (3, vL (lsN (i + 1) (A.1 (57 + 2 * un)))), (5, vI (((i + 1 : Nat) : Int)))] rfl rfl ⟨rfl, rfl, lv_toL rfl rfl, rfl, trivial⟩ ?_
          exact ih2 (i + 1) (by omega) (by omega)
    refine tt_loc [(0, vR 76), (1, vI (((un : Nat) : Int))), (3, vL (lsN 0 (A.1 (57 + 2 * un)))), (5, vI (((0 : Nat) : Int)))] rfl rfl ⟨rfl, rfl, lv_toL rfl rfl, lv_to rfl (by omega), trivial⟩ ?_
    exact lp2_1 _ (0) (Nat.lt_succ_self _) (by omega)

theorem c190 (A σ : am_S) (k nm ns : Nat) (D : Nat → Nat → Int) (hA : CI k nm ns D A) (hW : Wd σ) (hR : RRb k nm ns D A σ) (u i v : Int) : CC 190 [vR 76, vI (u), vI (i), vI (v)] σ (fun r σ' => PMd A σ (x_put A u i v) r σ') := by
  show TT am_b190 (am_b190.getD 0 []) [(0, vR 76), (1, vI (u)), (2, vI (i)), (3, vI (v))] [] σ _
  refine tt_ar rfl ?_
  refine tt_ar rfl ?_
  refine tt_cv2 2 rfl (wo_76 hW) (c191 A σ k nm ns D hA hW hR (u)) (kor (kand fun hx => ks ?_) (kor (kand fun hx => ks ?_) (kand fun hx => ks ?_)))
  · refine tt_ar rfl ?_
    refine tt_ar rfl ?_
    refine tt_ifgeF (by decide) ?_
    refine tt_ar rfl ?_
    refine tt_iret ?_
    exact pm_same hR (by unfold x_put; rw [if_neg hx]) QR.rf
  · refine tt_ar rfl ?_
    refine tt_ar rfl ?_
    refine tt_ifgeF (by decide) ?_
    refine tt_ar rfl ?_
    refine tt_iret ?_
    exact pm_mt (f := 1) hR (by decide) (by unfold x_put; rw [if_pos hx.1, if_pos hx.2]) QR.rf
  · refine tt_ar rfl ?_
    refine tt_ar rfl ?_
    refine tt_ifgeT (by decide) ?_
    obtain ⟨un, rfl⟩ : ∃ un : Nat, u = (un : Int) := ⟨u.toNat, by omega⟩
    have hx2 : 0 ≤ A.1 (68 + 2 * un) 1 := hx.2
    have hrwun := (hA.txt un (by omega)).1
    have hszun := szR_c (A.1 (68 + 2 * un) 1)
    have h78un := (hR.tx un (by omega)).1
    obtain ⟨zn, hzn⟩ : ∃ zn : Nat, A.1 (68 + 2 * un) 1 = (zn : Int) := ⟨_, (Int.toNat_of_nonneg (by omega)).symm⟩
    have h78zn : σ.1 81 un = (zn : Int) := by omega
    refine tt_ar rfl ?_
    refine tt_ar rfl ?_
    refine tt_ar rfl ?_
    refine tt_getR (wo_76 hW) rfl (wr_76_9 hW) ?_
    refine tt_ar rfl ?_
    refine tt_iald (un) (x := ((zn : Nat) : Int)) (wa_81 hW) rfl (by omega) h78zn ?_
    refine tt_ar rfl ?_
    refine tt_isub (by omega) (by omega) ?_
    refine tt_cs3 3 rfl (c175 _ _ _ _) (kb (fun h1_8 => ?_) (fun h1_8 => ?_))
    · refine tt_ifneT (by decide) ?_
      obtain ⟨inn, rfl⟩ : ∃ inn : Nat, i = (inn : Int) := ⟨i.toNat, by omega⟩
      have htb := (hA.txt un (by omega)).2 inn (by omega)
      refine tt_ar rfl ?_
      refine tt_getR (wo_76 hW) rfl (wr_76_10 hW) ?_
      refine tt_ar rfl ?_
      refine tt_ar rfl ?_
      refine tt_imul (by omega) (by omega) ?_
      refine tt_ar rfl ?_
      refine tt_iadd (by omega) (by omega) ?_
      refine tt_iald (((120 * un) + inn)) (x := A.1 (69 + 2 * un) inn) (wa_82 hW) (by omega) (by omega) ((hR.tx un (by omega)).2 inn (by omega)) ?_
      refine tt_ar rfl ?_
      refine tt_ar rfl ?_
      refine tt_getR (wo_76 hW) rfl (wr_76_10 hW) ?_
      refine tt_ar rfl ?_
      refine tt_ar rfl ?_
      refine tt_imul (by omega) (by omega) ?_
      refine tt_ar rfl ?_
      refine tt_iadd (by omega) (by omega) ?_
      refine tt_ar rfl ?_
      refine tt_ar rfl ?_
      refine tt_iast (((120 * un) + inn)) (wa_82 hW) (by omega) (by omega) (by omega) ?_
      refine tt_ar rfl ?_
      refine tt_ar rfl ?_
      refine tt_iadd (by omega) (by omega) ?_
      refine tt_iret ?_
      have hFz : Fr [81, 82] σ (am_set σ 82 (120 * un + inn) (w8 v)) := Fr.put Fr.rf (by decide)
      have h2 := hR.txt (A' := am_set A (69 + 2 * un) inn (w8 v)) (r := un) (by omega) (fun a j h1 h2 => am_set_nb h2) hFz (fun q => by rw [am_set_nb (by decide), am_set_nb (show 68 + 2 * un ≠ 69 + 2 * un by omega)]; by_cases e : q = un; (rw [if_pos e, e]; exact (hR.tx un (by omega)).1); rw [if_neg e]) (fun j hj => by rw [am_set_at, am_set_at]; by_cases e : j = inn; (rw [if_pos e, if_pos (by omega)]); (rw [if_neg e, if_neg (by omega)]; exact (hR.tx un (by omega)).2 j hj)) (fun x hx => by rw [am_set_at, if_neg (by omega)])
      exact pm_any h2 (show x_put A un inn v = (vI ((A.1 (69 + 2 * un) inn + 1000)), am_set A (69 + 2 * un) inn (w8 v)) by unfold x_put; (try simp only [Int.toNat_natCast]); (repeat (first | rw [if_pos (by omega)] | rw [if_neg (by omega)])); (first | done | rfl)) (QR.of hFz (by decide))
    · refine tt_ifneF (by decide) ?_
      refine tt_ar rfl ?_
      refine tt_ar rfl ?_
      refine tt_cv2 2 rfl (wo_76 hW) (c179 σ 2 hW (by omega)) (ks ?_)
      refine tt_iret ?_
      exact pm_mt (f := 2) hR (by decide) (show x_put A un i v = (vI (-3), upF 2 A) by unfold x_put; (try simp only [Int.toNat_natCast]); (repeat (first | rw [if_pos (by omega)] | rw [if_neg (by omega)])); (first | done | rfl)) QR.rf

