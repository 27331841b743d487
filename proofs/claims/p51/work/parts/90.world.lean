/-! THE LAW'S WORLD -/
section KX
variable {bs : List (List am_I)} {is : List am_I} {l : am_Lc} {st : List am_V} {σ : am_S} {Q : Option am_V → am_S → Prop}
theorem kx {P : Nat → Prop} (K : ∀ i : Nat, P i → TT bs is l (vI (i : Int) :: st) σ Q) : ∀ r σ1, (σ1 = σ ∧ ∃ i : Nat, P i ∧ r = some (vI (i : Int))) → TT bs is l (r.toList ++ st) σ1 Q := by
  rintro r σ1 ⟨h, i, hi, rfl⟩
  rw [h]
  exact K i hi
theorem kxI {P : Int → Prop} (K : ∀ x : Int, P x → TT bs is l (vI x :: st) σ Q) : ∀ r σ1, (σ1 = σ ∧ ∃ x : Int, P x ∧ r = some (vI x)) → TT bs is l (r.toList ++ st) σ1 Q := by
  rintro r σ1 ⟨h, i, hi, rfl⟩
  rw [h]
  exact K i hi
end KX
theorem c173' (σ : am_S) (L : Nat) (xs : Nat → Int32) (hS : Sc L xs σ) (hL : L ≤ 260) (i : Nat) (hi : i ≤ 40) (u : Int) (hu : u = (i : Int)) : CC 173 [vR 1, vI u] σ (fun r σ' => σ' = σ ∧ ∃ x : Int, (-2147483648 ≤ x ∧ x ≤ 2147483647) ∧ r = some (vI x)) := by
  subst hu
  exact c173 σ L xs hS hL i hi
theorem Sc.fr {W : List Nat} {L : Nat} {xs : Nat → Int32} {σ σ' : am_S} (h : Sc L xs σ) (hF : Fr W σ σ') (hw : 1 ∉ W) : Sc L xs σ' := ⟨fun j => (hF.2 1 hw j).trans (h.1 j), by rw [hF.1]; exact h.2⟩
theorem Sc.qw {L : Nat} {xs : Nat → Int32} {σ σ' : am_S} (h : Sc L xs σ) (hQ : QW σ σ') : Sc L xs σ' := ⟨fun j => (hQ.2.2 1 (by omega) j).trans (h.1 j), hQ.2.1.1 _ _ h.2⟩
/-- so many more rows of ints, so many more ints -/
def LX (c z : Nat) (l l' : List am_Ly) : Prop := (∀ (a : Nat) q, l[a]? = some q → l'[a]? = some q) ∧ nIN l' = nIN l + c ∧ sIN l' = sIN l + z
theorem LX.tr {c z c' z' : Nat} {l l' l'' : List am_Ly} (h : LX c z l l') (h2 : LX c' z' l' l'') : LX (c + c') (z + z') l l'' := ⟨fun a q hq => h2.1 a q (h.1 a q hq), by rw [h2.2.1, h.2.1]; omega, by rw [h2.2.2, h.2.2]; omega⟩
theorem LX.lk {l l' : List am_Ly} (h : LK l l') : LX 0 0 l l' := ⟨h.1, h.2.1, h.2.2⟩
theorem LX.new {σ : am_S} {n : Nat} : LX 1 n σ.2.2.1 (am_new σ (.inl .int, n)).2.2.1 := by
  show LX 1 n σ.2.2.1 (σ.2.2.1 ++ [_])
  exact ⟨fun a r hr => by
    rw [List.getElem?_append_left (List.getElem?_eq_some_iff.mp hr).1]
    exact hr, by rw [nIN_app, if_pos rfl], by rw [sIN_app, if_pos rfl]⟩
theorem upS_1 {s n : Nat} {v : Nat → Int} {z : Int} {A : am_S} : (upS s n v z A).1 s 1 = z := if_pos ⟨rfl, rfl⟩
theorem upS_n {s n j : Nat} {v : Nat → Int} {z : Int} {A : am_S} (hj : j < n) : (upS s n v z A).1 (s + 1) j = v j := (if_neg (c := s + 1 = s ∧ j = 1) (fun e => by have := e.1; omega)).trans (if_pos (c := s + 1 = s + 1 ∧ j < n) ⟨rfl, hj⟩)
theorem pg_6 {W : Nat → Nat → Int} {i : Nat} : p_grow W 6 i = W 6 i := if_neg (c := (6 : Nat) = 7 ∧ W 6 0 ≤ W 7 i) (fun e => by have := e.1; omega)
theorem upW_5 {W : Nat → Nat → Int} {A : am_S} : (upW W A).1 5 0 = W 6 0 := rfl
theorem upW_9 {W : Nat → Nat → Int} {A : am_S} {i : Nat} (hi : i < 5) : (upW W A).1 9 i = W 10 i := by
  show (if (9 : Nat) = 5 ∧ i = 0 then W 6 0 else if (9 : Nat) = 5 ∧ i = 4 then W 6 1 else if (9 : Nat) = 6 ∧ i < 6 then W 7 i else if (9 : Nat) = 7 ∧ i < 48 then W 8 i else if (9 : Nat) = 8 ∧ i < 48 then W 9 i else if (9 : Nat) = 9 ∧ i < 5 then W 10 i else if (9 : Nat) = 27 ∧ i = 0 then 0 else if (9 : Nat) = 47 ∧ i = 2 then 0 else A.1 9 i) = _
  rw [if_neg (by omega), if_neg (by omega), if_neg (by omega), if_neg (by omega), if_neg (by omega), if_pos ⟨rfl, hi⟩]
theorem pg_10 {W : Nat → Nat → Int} {i : Nat} : p_grow W 10 i = W 10 i := if_neg (fun e => by have := e.1; omega)
theorem c175 (σ : am_S) (L : Nat) (xs : Nat → Int32) (k0 nm0 ns0 : Nat) (D : Nat → Nat → Int) (hCI : CI k0 nm0 ns0 D σ) (hS : Sc L xs σ) (hL : L ≤ 260) (hlen : σ.2.2.1.length = 80) (k76 : σ.2.2.1[76]? = some (.inl .int, 6)) (k77 : σ.2.2.1[77]? = some (.inl .int, 24)) (k78 : σ.2.2.1[78]? = some (.inl .int, 24)) (k79 : σ.2.2.1[79]? = some (.inl .int, 6)) (z77 : ∀ i, σ.1 77 i = 0) (z78 : ∀ i, σ.1 78 i = 0) : CC 175 [vR 2, vR 1, vI 0, vI 3, vR 76, vR 77, vR 78, vR 79] σ (fun r σ' => ∃ kk : Nat, (1 ≤ kk ∧ kk ≤ 3) ∧ r = some (vI (kk : Int)) ∧ (∃ D', CI kk 0 0 D' σ') ∧ (∀ i, i < 5 → σ'.1 9 i = σ'.1 79 (1 + i)) ∧ (∀ i, i < 24 → 0 ≤ σ'.1 77 i ∧ σ'.1 77 i ≤ σ'.1 78 i ∧ σ'.1 78 i ≤ 4) ∧ Sc L xs σ' ∧ LX 1 64 σ.2.2.1 σ'.2.2.1) := by
  show TT am_b175 (am_b175.getD 0 []) [(0, vR 2), (1, vR 1), (2, vI 0), (3, vI 3), (4, vR 76), (5, vR 77), (6, vR 78), (7, vR 79)] [] σ _
  have hW := hCI.w
  refine tt_ar rfl ?_
  refine tt_newa (by omega) (by omega) ?_
  obtain ⟨σn, hσn⟩ : ∃ x, x = am_new σ (.inl .int, 64) := ⟨_, rfl⟩
  rw [hlen]
  refine tt_st hσn.symm ?_
  have hWn : Wd σn := by rw [hσn]; exact Wd.new hCI.w
  have hCIn : CI k0 nm0 ns0 D σn := by rw [hσn]; exact hCI.new
  have hLn : LX 1 64 σ.2.2.1 σn.2.2.1 := by rw [hσn]; exact LX.new
  have ho0 : ∀ a, a ≠ 80 → ∀ j, σn.1 a j = σ.1 a j := fun a ha j => by rw [hσn]; exact if_neg (fun e => ha (e.trans hlen))
  have hSn : Sc L xs σn := ⟨fun j => (ho0 1 (by decide) j).trans (hS.1 j), hLn.1 _ _ hS.2⟩
  have k76_σn : σn.2.2.1[76]? = some (.inl .int, 6) := hLn.1 _ _ k76
  have k77_σn : σn.2.2.1[77]? = some (.inl .int, 24) := hLn.1 _ _ k77
  have k78_σn : σn.2.2.1[78]? = some (.inl .int, 24) := hLn.1 _ _ k78
  have k79_σn : σn.2.2.1[79]? = some (.inl .int, 6) := hLn.1 _ _ k79
  have k80_σn : σn.2.2.1[80]? = some (.inl .int, 64) := by rw [hσn]; show (σ.2.2.1 ++ [_])[80]? = _; rw [List.getElem?_append_right (by omega), hlen]; rfl
  have hMn : ∀ i, i < 24 → 0 ≤ σn.1 77 i ∧ σn.1 77 i ≤ σn.1 78 i ∧ σn.1 78 i ≤ 4 := fun i _ => by rw [ho0 77 (by decide), ho0 78 (by decide), z77, z78]; decide
  refine tt_ar rfl ?_
  refine tt_ar rfl ?_
  refine tt_ar rfl ?_
  refine tt_ar rfl ?_
  refine tt_ar rfl ?_
  refine tt_ar rfl ?_
  refine tt_cs2 2 rfl (c173' σn L xs hSn hL (0) (by omega) _ (by omega)) (kxI (fun x1 hx1 => ?_))
  · refine tt_ar rfl ?_
    refine tt_cs2 2 rfl (c172 σn _ _ (by omega)) (kx (fun i2 hi2 => ?_))
    · refine tt_iadd (by omega) (by omega) ?_
      refine tt_ar rfl ?_
      refine tt_ar rfl ?_
      refine tt_ar rfl ?_
      obtain ⟨kk, hkk, hk13⟩ : ∃ kk : Nat, (1 + ((i2 : Nat) : Int)) = (kk : Int) ∧ (1 ≤ kk ∧ kk ≤ 3) := ⟨((1 + ((i2 : Nat) : Int))).toNat, by omega, by omega⟩
      refine tt_loc [(0, vR 2), (1, vR 1), (2, vI 0), (4, vR 76), (5, vR 77), (6, vR 78), (7, vR 79), (8, vR 80), (9, vI 0), (10, vI (((kk : Nat) : Int))), (11, vI 0)] rfl rfl ⟨rfl, rfl, rfl, rfl, rfl, rfl, rfl, rfl, rfl, lv_to rfl hkk, rfl, trivial⟩ ?_
      refine tt_nop ?_
      have lp1_1 : ∀ (μ : Nat) (n : Nat) (j : Nat) (σa : am_S), kk - j < μ → Fr [76, 80] σn σa → (j ≤ kk) → (n = 2 * j) → (TQ (σa.1 80) n j (p_W0 10)) → TT am_b175 (am_b175.getD 1 []) [(0, vR 2), (1, vR 1), (2, vI 0), (4, vR 76), (5, vR 77), (6, vR 78), (7, vR 79), (8, vR 80), (9, vI (((n : Nat) : Int))), (10, vI (((kk : Nat) : Int))), (11, vI (((j : Nat) : Int)))] [] σa (fun r σ' => ∃ kk : Nat, (1 ≤ kk ∧ kk ≤ 3) ∧ r = some (vI (kk : Int)) ∧ (∃ D', CI kk 0 0 D' σ') ∧ (∀ i, i < 5 → σ'.1 9 i = σ'.1 79 (1 + i)) ∧ (∀ i, i < 24 → 0 ≤ σ'.1 77 i ∧ σ'.1 77 i ≤ σ'.1 78 i ∧ σ'.1 78 i ≤ 4) ∧ Sc L xs σ' ∧ LX 1 64 σ.2.2.1 σ'.2.2.1) := by
        intro μ
        induction μ with
        | zero => intro n j σa hμ; exact absurd hμ (Nat.not_lt_zero _)
        | succ μ ih1 =>
          intro n j σa hμ hF_σa hj hn hT
          have hW_σa := Fr.wd hF_σa hWn
          refine tt_ar rfl ?_
          refine tt_ar rfl ?_
          refine tt_icge (fun h1_2 => ?_) (fun h1_2 => ?_)
          · refine tt_ar rfl ?_
            refine tt_ar rfl ?_
            refine tt_nop ?_
            have lp9_2 : ∀ (μ : Nat) (n : Nat) (j : Nat) (σb : am_S), kk - j < μ → Fr [77, 78, 80] σa σb → (j ≤ kk) → (n = 2 * kk + 16 * j) → (TQ (σb.1 80) n kk (p_W0 10)) → (∀ i, i < 24 → 0 ≤ σb.1 77 i ∧ σb.1 77 i ≤ σb.1 78 i ∧ σb.1 78 i ≤ 4) → TT am_b175 (am_b175.getD 9 []) [(0, vR 2), (1, vR 1), (2, vI 0), (5, vR 77), (6, vR 78), (7, vR 79), (8, vR 80), (9, vI (((n : Nat) : Int))), (10, vI (((kk : Nat) : Int))), (11, vI (((j : Nat) : Int)))] [] σb (fun r σ' => ∃ kk : Nat, (1 ≤ kk ∧ kk ≤ 3) ∧ r = some (vI (kk : Int)) ∧ (∃ D', CI kk 0 0 D' σ') ∧ (∀ i, i < 5 → σ'.1 9 i = σ'.1 79 (1 + i)) ∧ (∀ i, i < 24 → 0 ≤ σ'.1 77 i ∧ σ'.1 77 i ≤ σ'.1 78 i ∧ σ'.1 78 i ≤ 4) ∧ Sc L xs σ' ∧ LX 1 64 σ.2.2.1 σ'.2.2.1) := by
              intro μ
              induction μ with
              | zero => intro n j σb hμ; exact absurd hμ (Nat.not_lt_zero _)
              | succ μ ih9 =>
                intro n j σb hμ hF_σb hj hn hT hM
                have hW_σb := Fr.wd hF_σb hW_σa
                refine tt_ar rfl ?_
                refine tt_ar rfl ?_
                refine tt_icge (fun h9_2 => ?_) (fun h9_2 => ?_)
                · have lp22_3 : ∀ (n : Nat) (σf : am_S), Fr [79, 80] σb σf → (n ≤ 64) → (TQ (σf.1 80) n kk (fun i => σf.1 79 (1 + i))) → TT am_b175 (am_b175.getD 22 []) [(0, vR 2), (8, vR 80), (9, vI (((n : Nat) : Int))), (10, vI (((kk : Nat) : Int)))] [] σf (fun r σ' => ∃ kk : Nat, (1 ≤ kk ∧ kk ≤ 3) ∧ r = some (vI (kk : Int)) ∧ (∃ D', CI kk 0 0 D' σ') ∧ (∀ i, i < 5 → σ'.1 9 i = σ'.1 79 (1 + i)) ∧ (∀ i, i < 24 → 0 ≤ σ'.1 77 i ∧ σ'.1 77 i ≤ σ'.1 78 i ∧ σ'.1 78 i ≤ 4) ∧ Sc L xs σ' ∧ LX 1 64 σ.2.2.1 σ'.2.2.1) := by
                    intro n σf hF_σf hn hT
                    have hW_σf := Fr.wd hF_σf hW_σb
                    have hFf : Fr [76, 77, 78, 79, 80] σn σf := (Fr.tr (Fr.tr (Fr.tr Fr.rf hF_σa (by decide)) hF_σb (by decide)) hF_σf (by decide))
                    have hCf : CI k0 nm0 ns0 D σf := hCIn.law hFf (fun a ha => by simp only [List.mem_cons, List.not_mem_nil, or_false] at ha; rcases ha with rfl | rfl | rfl | rfl | rfl; exact ⟨by omega, _, k76_σn⟩; exact ⟨by omega, _, k77_σn⟩; exact ⟨by omega, _, k78_σn⟩; exact ⟨by omega, _, k79_σn⟩; exact ⟨by omega, _, k80_σn⟩)
                    have hSf : Sc L xs σf := hSn.fr hFf (by decide)
                    have hLf : LX 1 64 σ.2.2.1 σf.2.2.1 := by rw [hFf.1]; exact hLn
                    have k76_σf : σf.2.2.1[76]? = some (.inl .int, 6) := by rw [hFf.1]; exact k76_σn
                    have k77_σf : σf.2.2.1[77]? = some (.inl .int, 24) := by rw [hFf.1]; exact k77_σn
                    have k78_σf : σf.2.2.1[78]? = some (.inl .int, 24) := by rw [hFf.1]; exact k78_σn
                    have k79_σf : σf.2.2.1[79]? = some (.inl .int, 6) := by rw [hFf.1]; exact k79_σn
                    have k80_σf : σf.2.2.1[80]? = some (.inl .int, 64) := by rw [hFf.1]; exact k80_σn
                    have hMf : ∀ i, i < 24 → 0 ≤ σf.1 77 i ∧ σf.1 77 i ≤ σf.1 78 i ∧ σf.1 78 i ≤ 4 := fun i hi => by rw [hF_σf.2 77 (by decide), hF_σf.2 78 (by decide)]; exact hM i hi
                    refine tt_ar rfl ?_
                    refine tt_ar rfl ?_
                    refine tt_ar rfl ?_
                    refine tt_cv3 3 rfl (wo_2 hCf.w) (c37 σf k0 nm0 ns0 D hCf 3 (n : Int)) ?_
                    intro r1 σ1 hq1
                    rw [show x_text σf 3 (n : Int) = (vI (n : Int), upS 74 120 (fun _ => 32) (n : Int) σf) from by unfold x_text; rw [if_pos (by omega), if_neg (by omega)]; rfl] at hq1
                    obtain ⟨hC1, rfl, hE1, hQ1⟩ := hq1
                    have z74 : σ1.1 74 1 = (n : Int) := (hE1 74 1 (by unfold bcP; omega)).trans (upS_1 (s := 74))
                    have z75 : ∀ j, j < 120 → σ1.1 75 j = 32 := fun j hj => (hE1 75 j (by unfold bcP; omega)).trans (upS_n (s := 74) (v := fun _ => 32) hj)
                    · refine tt_ar rfl ?_
                      refine tt_icne (fun h22_5 => ?_) (fun h22_5 => ?_)
                      · exfalso; omega
                      · refine tt_ar rfl ?_
                        refine tt_goto ?_
                        refine tt_ar rfl ?_
                        refine tt_ar rfl ?_
                        refine tt_ar rfl ?_
                        refine tt_nop ?_
                        have lp25_4 : ∀ (μ : Nat) (j : Nat) (σg : am_S), n - j < μ → (j ≤ n) → (CI k0 nm0 ns0 D σg) → (QC σf σg) → (σg.1 74 1 = (n : Int)) → (∀ i, i < 120 → σg.1 75 i = if i < j then σf.1 80 i else 32) → TT am_b175 (am_b175.getD 25 []) [(0, vR 2), (8, vR 80), (9, vI (((n : Nat) : Int))), (10, vI (((kk : Nat) : Int))), (12, vI (1)), (13, vI (((j : Nat) : Int)))] [] σg (fun r σ' => ∃ kk : Nat, (1 ≤ kk ∧ kk ≤ 3) ∧ r = some (vI (kk : Int)) ∧ (∃ D', CI kk 0 0 D' σ') ∧ (∀ i, i < 5 → σ'.1 9 i = σ'.1 79 (1 + i)) ∧ (∀ i, i < 24 → 0 ≤ σ'.1 77 i ∧ σ'.1 77 i ≤ σ'.1 78 i ∧ σ'.1 78 i ≤ 4) ∧ Sc L xs σ' ∧ LX 1 64 σ.2.2.1 σ'.2.2.1) := by
                          intro μ
                          induction μ with
                          | zero => intro j σg hμ; exact absurd hμ (Nat.not_lt_zero _)
                          | succ μ ih25 =>
                            intro j σg hμ hj hCg hQg h74 h75
                            have k80g : σg.2.2.1[80]? = some (.inl .int, 64) := hQg.2.1.1 _ _ k80_σf
                            have v80 : ∀ i, σg.1 80 i = σf.1 80 i := fun i => hQg.2.2 80 (Or.inr (Or.inr (Or.inr ⟨by omega, _, k80_σf⟩))) i
                            refine tt_ar rfl ?_
                            refine tt_ar rfl ?_
                            refine tt_icge (fun h25_2 => ?_) (fun h25_2 => ?_)
                            · refine tt_ar rfl ?_
                              refine tt_ifeqF (by decide) ?_
                              refine tt_ar rfl ?_
                              refine tt_ar rfl ?_
                              have e9 : j = n := by omega
                              subst e9
                              obtain ⟨W, w1, w2, w3⟩ := hT.fin (g := σg.1 75) (fun i hi => by rw [h75 i (by omega), if_pos hi]) (by omega)
                              have hrd : rdT σg 3 = (j, some W) := by unfold rdT; show p_run (σg.1 75) (σg.1 74 1).toNat 120 0 p_W0 = _; rw [h74, Int.toNat_natCast]; exact w1
                              refine tt_cv2 2 rfl (wo_2 hCg.w) (c40 σg k0 nm0 ns0 D hCg 3) ?_
                              intro r3 σ3 hq3
                              rw [show x_fault σg 3 = (vI (-9), σg) from by unfold x_fault; rw [if_pos (by omega), if_neg (show ¬ σg.1 (68 + 2 * Int.toNat 3) 1 < 0 from by show ¬ σg.1 74 1 < 0; omega), show Int.toNat 3 = 3 from rfl, hrd]; rfl] at hq3
                              obtain ⟨hC3, rfl, hE3, hQ3⟩ := hq3
                              · refine tt_ar rfl ?_
                                refine tt_icne (fun h => absurd h (by omega)) (fun _ => ?_)
                                refine tt_ar rfl ?_
                                refine tt_ar rfl ?_
                                have h74c : σ3.1 74 1 = (j : Int) := (hE3 74 1 (by unfold bcP; omega)).trans h74
                                have hrd3 : rdT σ3 3 = (j, some W) := by rw [← hrd]; unfold rdT; rw [show σ3.1 (69 + 2 * 3) = σg.1 (69 + 2 * 3) from funext (fun i => hE3 75 i (by unfold bcP; omega)), show σ3.1 (68 + 2 * 3) 1 = σg.1 (68 + 2 * 3) 1 from hE3 74 1 (by unfold bcP; omega)]
                                refine tt_cv2 2 rfl (wo_2 hC3.w) (c51 σ3 k0 nm0 ns0 D hC3 3) ?_
                                intro r4 σ4 hq4
                                rw [show x_world σ3 3 = (vI (kk : Int), upW (p_grow W) σ3) from by unfold x_world; rw [if_pos (by omega), if_neg (show ¬ σ3.1 (68 + 2 * Int.toNat 3) 1 < 0 from by show ¬ σ3.1 74 1 < 0; omega), show Int.toNat 3 = 3 from rfl, hrd3]; show (vI (W 6 0), upW (p_grow W) σ3) = _; rw [w2]] at hq4
                                obtain ⟨⟨k4, nm4, ns4, D4, hC4⟩, rfl, hE4, hQ4⟩ := hq4
                                · refine tt_ar rfl ?_
                                  refine tt_icne (fun h28_11 => ?_) (fun h28_11 => ?_)
                                  · exfalso; omega
                                  · refine tt_ar rfl ?_
                                    refine tt_goto ?_
                                    refine tt_iret ?_
                                    have hQW : QW σf σ4 := (hQg.w.tr hQ3.w).tr hQ4
                                    have p50 : σ4.1 5 0 = (kk : Int) := (hE4 5 0 (by unfold bcP; omega)).trans (upW_5.trans (pg_6.trans w2))
                                    have p27 : σ4.1 27 0 = 0 := hE4 27 0 (by unfold bcP; omega)
                                    have p47 : σ4.1 47 2 = 0 := hE4 47 2 (by unfold bcP; omega)
                                    have p9 : ∀ i, i < 5 → σ4.1 9 i = W 10 i := fun i hi => (hE4 9 i (by unfold bcP; omega)).trans ((upW_9 hi).trans pg_10)
                                    have hk4 : k4 = kk := by have := hC4.x.1.1; omega
                                    have hn4 : nm4 = 0 := by have := hC4.x.2.2.1.1; omega
                                    have hs4 : ns4 = 0 := by have := hC4.st.1; omega
                                    subst hk4
                                    subst hn4
                                    subst hs4
                                    have lc : ∀ a n, 76 ≤ a → σf.2.2.1[a]? = some (.inl .int, n) → ∀ j, σ4.1 a j = σf.1 a j := fun a n ha hk => hQW.2.2 a (Or.inr ⟨ha, n, hk⟩)
                                    have hLX := hLf.tr (LX.lk hQW.2.1)
                                    exact ⟨k4, hk13, rfl, ⟨D4, hC4⟩, fun i hi => by rw [p9 i hi, w3 i hi, lc 79 _ (by omega) k79_σf], fun i hi => by rw [lc 77 _ (by omega) k77_σf, lc 78 _ (by omega) k78_σf]; exact hMf i hi, hSf.qw hQW, hLX⟩
                            · refine tt_ar rfl ?_
                              refine tt_ifeqF (by decide) ?_
                              refine tt_ar rfl ?_
                              refine tt_ar rfl ?_
                              refine tt_ar rfl ?_
                              refine tt_ar rfl ?_
                              refine tt_ar rfl ?_
                              refine tt_iald (j) (x := σg.1 80 (j)) k80g rfl (by omega) rfl ?_
                              refine tt_cv4 4 rfl (wo_2 hCg.w) (c39 σg k0 nm0 ns0 D hCg 3 (j : Int) (σg.1 80 (j))) ?_
                              intro r2 σ2 hq2
                              rw [show x_put σg 3 (j : Int) (σg.1 80 (j)) = (vI 1032, am_set σg 75 j (w8 (σf.1 80 j))) from by unfold x_put; rw [if_pos (by omega), if_neg (show ¬ σg.1 (68 + 2 * Int.toNat 3) 1 < 0 from by show ¬ σg.1 74 1 < 0; omega), if_pos (show 0 ≤ (j : Int) ∧ (j : Int) < σg.1 (68 + 2 * Int.toNat 3) 1 from by show 0 ≤ (j : Int) ∧ (j : Int) < σg.1 74 1; omega)]; show (vI (σg.1 75 (Int.toNat (j : Int)) + 1000), am_set σg 75 (Int.toNat (j : Int)) (w8 (σg.1 80 j))) = _; rw [Int.toNat_natCast, h75 j (by omega), if_neg (Nat.lt_irrefl j), v80]; rfl] at hq2
                              obtain ⟨hC2, rfl, hE2, hQ2⟩ := hq2
                              have z74b : σ2.1 74 1 = (n : Int) := (hE2 74 1 (by unfold bcP; omega)).trans ((am_set_nb (by decide)).trans h74)
                              have z75b : ∀ i, i < 120 → σ2.1 75 i = if i < j + 1 then σf.1 80 i else 32 := fun i hi => by
                                rw [hE2 75 i (by unfold bcP; omega), am_set_at]
                                by_cases e : i = j
                                · subst e
                                  have hb := hT.2 i (by omega)
                                  rw [if_pos rfl, if_pos (by omega), w8_i (by omega) (by omega)]
                                · rw [if_neg e, h75 i hi]
                                  by_cases e2 : i < j
                                  · rw [if_pos e2, if_pos (by omega)]
                                  · rw [if_neg e2, if_neg (by omega)]
                              · refine tt_ar rfl ?_
                                refine tt_icne (fun h => absurd h (by omega)) (fun _ => ?_)
                                refine tt_ar rfl ?_
                                refine tt_goto ?_
                                refine tt_ar rfl ?_
                                refine tt_iinc (y := ((j + 1 : Nat) : Int)) rfl (iinc_fit (by omega) (by omega) (by omega)) ?_
                                refine tt_goto ?_
                                refine tt_loc [(0, vR 2), (8, vR 80), (9, vI (((n : Nat) : Int))), (10, vI (((kk : Nat) : Int))), (12, vI (1)), (13, vI (((j + 1 : Nat) : Int)))] rfl rfl ⟨rfl, rfl, rfl, rfl, rfl, rfl, trivial⟩ ?_
                                exact ih25 (j + 1) σ2 (by omega) (by omega) hC2 (hQg.tr hQ2) z74b z75b
                        refine tt_loc [(0, vR 2), (8, vR 80), (9, vI (((n : Nat) : Int))), (10, vI (((kk : Nat) : Int))), (12, vI (1)), (13, vI (((0 : Nat) : Int)))] rfl rfl ⟨rfl, rfl, rfl, rfl, rfl, lv_to rfl (by omega), trivial⟩ ?_
                        exact lp25_4 _ (0) σ1 (Nat.lt_succ_self _) (by omega) hC1 hQ1 z74 (fun i hi => by rw [if_neg (Nat.not_lt_zero i)]; exact z75 i hi)
                  refine tt_ar rfl ?_
                  refine tt_ar rfl ?_
                  refine tt_ar rfl ?_
                  refine tt_bI (g := fun a b => w32 (a + b)) (z := 7) rfl rfl ?_
                  refine tt_cs2 2 rfl (c173' σb L xs (hSn.fr ((Fr.tr (Fr.tr Fr.rf hF_σa (by decide)) hF_σb (by decide)) : Fr [76, 77, 78, 79, 80] σn σb) (by decide)) hL (7) (by omega) _ (by omega)) (kxI (fun x3 hx3 => ?_))
                  · refine tt_ar rfl ?_
                    have lp16_5 : ∀ (μ : Nat) (n : Nat) (j : Nat) (σd : am_S), 5 - j < μ → Fr [79, 80] σb σd → (j ≤ 5) → (n ≤ 56) → (TQ (σd.1 80) n kk (p_W0 10)) → (∀ i, i < j → σd.1 79 (1 + i) = p_W0 10 i) → TT am_b175 (am_b175.getD 16 []) [(0, vR 2), (7, vR 79), (8, vR 80), (9, vI (((n : Nat) : Int))), (10, vI (((kk : Nat) : Int))), (11, vI (x3)), (12, vI (((j : Nat) : Int)))] [] σd (fun r σ' => ∃ kk : Nat, (1 ≤ kk ∧ kk ≤ 3) ∧ r = some (vI (kk : Int)) ∧ (∃ D', CI kk 0 0 D' σ') ∧ (∀ i, i < 5 → σ'.1 9 i = σ'.1 79 (1 + i)) ∧ (∀ i, i < 24 → 0 ≤ σ'.1 77 i ∧ σ'.1 77 i ≤ σ'.1 78 i ∧ σ'.1 78 i ≤ 4) ∧ Sc L xs σ' ∧ LX 1 64 σ.2.2.1 σ'.2.2.1) := by
                      intro μ
                      induction μ with
                      | zero => intro n j σd hμ; exact absurd hμ (Nat.not_lt_zero _)
                      | succ μ ih16 =>
                        intro n j σd hμ hF_σd hj hn hT hD
                        have hW_σd := Fr.wd hF_σd hW_σb
                        refine tt_ar rfl ?_
                        refine tt_ar rfl ?_
                        refine tt_icge (fun h16_2 => ?_) (fun h16_2 => ?_)
                        · refine tt_ar rfl ?_
                          refine tt_ar rfl ?_
                          refine tt_bI (g := a_shr) (z := a_shr (x3) (4)) rfl rfl ?_
                          refine tt_ar rfl ?_
                          refine tt_cs2 2 rfl (c172 σd _ _ (by omega)) (kx (fun i4 hi4 => ?_))
                          · refine tt_ifne (fun h20_5 => ?_) (fun h20_5 => ?_)
                            · have e5 : j = 5 := by omega
                              subst e5
                              have hTD : TQ (σd.1 80) n kk (fun i => σd.1 79 (1 + i)) := hT.q (fun i hi => (hD i hi).symm)
                              refine tt_loc [(0, vR 2), (8, vR 80), (9, vI (((n : Nat) : Int))), (10, vI (((kk : Nat) : Int)))] rfl rfl ⟨rfl, rfl, rfl, rfl, trivial⟩ ?_
                              exact lp22_3 (n) σd (Fr.tr Fr.rf hF_σd (by decide)) (by omega) (by first | exact hTE | exact hTD)
                            · refine tt_ar rfl ?_
                              refine tt_ar rfl ?_
                              refine tt_ar rfl ?_
                              refine tt_iast (n) ((congrArg (fun z => z.2.1[80]?) hF_σd.1).trans ((congrArg (fun z => z.2.1[80]?) hF_σb.1).trans ((congrArg (fun z => z.2.1[80]?) hF_σa.1).trans k80_σn))) (by omega) rfl (by omega) ?_
                              refine tt_iinc (y := ((n + 1 : Nat) : Int)) rfl (iinc_fit (by omega) (by omega) (by omega)) ?_
                              refine tt_ar rfl ?_
                              refine tt_ar rfl ?_
                              refine tt_nop ?_
                              have lp21_6 : ∀ (μ : Nat) (i : Nat) (σe : am_S), 5 - i < μ → Fr [79, 80] (am_set σd 80 (n) (99)) σe → (i ≤ 5) → (TQ (σe.1 80) n kk (p_W0 10)) → (σe.1 80 n = 99) → (∀ q, q < i → σe.1 80 (n + 1 + q) = 48 + σe.1 79 (1 + q) ∧ 0 ≤ σe.1 79 (1 + q) ∧ σe.1 79 (1 + q) ≤ 4) → TT am_b175 (am_b175.getD 21 []) [(0, vR 2), (7, vR 79), (8, vR 80), (9, vI (((n + 1 + i : Nat) : Int))), (10, vI (((kk : Nat) : Int))), (11, vI (x3)), (12, vI (((i : Nat) : Int)))] [] σe (fun r σ' => ∃ kk : Nat, (1 ≤ kk ∧ kk ≤ 3) ∧ r = some (vI (kk : Int)) ∧ (∃ D', CI kk 0 0 D' σ') ∧ (∀ i, i < 5 → σ'.1 9 i = σ'.1 79 (1 + i)) ∧ (∀ i, i < 24 → 0 ≤ σ'.1 77 i ∧ σ'.1 77 i ≤ σ'.1 78 i ∧ σ'.1 78 i ≤ 4) ∧ Sc L xs σ' ∧ LX 1 64 σ.2.2.1 σ'.2.2.1) := by
                                intro μ
                                induction μ with
                                | zero => intro i σe hμ; exact absurd hμ (Nat.not_lt_zero _)
                                | succ μ ih21 =>
                                  intro i σe hμ hF_σe hi hT h99 hV
                                  have hW_σe := Fr.wd hF_σe hW_σd
                                  refine tt_ar rfl ?_
                                  refine tt_ar rfl ?_
                                  refine tt_icge (fun h21_2 => ?_) (fun h21_2 => ?_)
                                  · have e5 : i = 5 := by omega
                                    subst e5
                                    have hTE : TQ (σe.1 80) (n + 6) kk (fun i => σe.1 79 (1 + i)) := TQ.cost hT (fun _ _ => rfl) h99 (fun i hi => (by have := hV i hi; exact ⟨⟨this.2.1, by omega⟩, this.1⟩))
                                    refine tt_loc [(0, vR 2), (8, vR 80), (9, vI (((n + 6 : Nat) : Int))), (10, vI (((kk : Nat) : Int)))] rfl rfl ⟨rfl, rfl, lv_to rfl (by omega), rfl, trivial⟩ ?_
                                    exact lp22_3 (n + 6) σe (Fr.tr (Fr.put (Fr.tr Fr.rf hF_σd (by decide)) (by decide)) hF_σe (by decide)) (by omega) (by first | exact hTE | exact hTD)
                                  · refine tt_ar rfl ?_
                                    refine tt_ar rfl ?_
                                    refine tt_ar rfl ?_
                                    refine tt_iadd (by omega) (by omega) ?_
                                    refine tt_ar rfl ?_
                                    refine tt_ar rfl ?_
                                    refine tt_ar rfl ?_
                                    refine tt_ar rfl ?_
                                    refine tt_imul (by omega) (by omega) ?_
                                    refine tt_iadd (by omega) (by omega) ?_
                                    refine tt_bI (g := a_shr) (z := a_shr (x3) ((6 + (3 * ((i : Nat) : Int))))) rfl rfl ?_
                                    refine tt_ar rfl ?_
                                    refine tt_cs2 2 rfl (c172 σe _ _ (by omega)) (kx (fun i5 hi5 => ?_))
                                    · refine tt_iast ((1 + i)) ((congrArg (fun z => z.2.1[79]?) hF_σe.1).trans ((congrArg (fun z => z.2.1[79]?) hF_σd.1).trans ((congrArg (fun z => z.2.1[79]?) hF_σb.1).trans ((congrArg (fun z => z.2.1[79]?) hF_σa.1).trans k79_σn)))) (by omega) (by omega) (by omega) ?_
                                      refine tt_ar rfl ?_
                                      refine tt_ar rfl ?_
                                      refine tt_ar rfl ?_
                                      refine tt_ar rfl ?_
                                      refine tt_ar rfl ?_
                                      refine tt_ar rfl ?_
                                      refine tt_iadd (by omega) (by omega) ?_
                                      refine tt_iald ((1 + i)) (x := ((i5 : Nat) : Int)) ((congrArg (fun z => z.2.1[79]?) hF_σe.1).trans ((congrArg (fun z => z.2.1[79]?) hF_σd.1).trans ((congrArg (fun z => z.2.1[79]?) hF_σb.1).trans ((congrArg (fun z => z.2.1[79]?) hF_σa.1).trans k79_σn)))) (by omega) (by omega) (@am_set_rd σe 79 ((1 + i)) (((i5 : Nat) : Int))) ?_
                                      refine tt_iadd (by omega) (by omega) ?_
                                      refine tt_iast (n + 1 + i) ((congrArg (fun z => z.2.1[80]?) hF_σe.1).trans ((congrArg (fun z => z.2.1[80]?) hF_σd.1).trans ((congrArg (fun z => z.2.1[80]?) hF_σb.1).trans ((congrArg (fun z => z.2.1[80]?) hF_σa.1).trans k80_σn)))) (by omega) rfl (by omega) ?_
                                      refine tt_iinc (y := ((n + 1 + i + 1 : Nat) : Int)) rfl (iinc_fit (by omega) (by omega) (by omega)) ?_
                                      refine tt_iinc (y := ((i + 1 : Nat) : Int)) rfl (iinc_fit (by omega) (by omega) (by omega)) ?_
                                      refine tt_goto ?_
                                      have hE : ∀ z0, (am_set (am_set σe 79 ((1 + i)) (((i5 : Nat) : Int))) 80 (n + 1 + i) ((48 + ((i5 : Nat) : Int)))).1 80 z0 = (if z0 = n + 1 + i then (48 + ((i5 : Nat) : Int)) else σe.1 80 z0) := fun z0 => by simp only [am_set_nb (show (80 : Nat) ≠ 76 by decide), am_set_nb (show (80 : Nat) ≠ 77 by decide), am_set_nb (show (80 : Nat) ≠ 78 by decide), am_set_nb (show (80 : Nat) ≠ 79 by decide), am_set_at]
                                      have hE9 : ∀ z0, (am_set (am_set σe 79 ((1 + i)) (((i5 : Nat) : Int))) 80 (n + 1 + i) ((48 + ((i5 : Nat) : Int)))).1 79 z0 = (if z0 = (1 + i) then ((i5 : Nat) : Int) else σe.1 79 z0) := fun z0 => by simp only [am_set_nb (show (79 : Nat) ≠ 76 by decide), am_set_nb (show (79 : Nat) ≠ 77 by decide), am_set_nb (show (79 : Nat) ≠ 78 by decide), am_set_nb (show (79 : Nat) ≠ 80 by decide), am_set_at]
                                      refine tt_loc [(0, vR 2), (7, vR 79), (8, vR 80), (9, vI (((n + 1 + (i + 1) : Nat) : Int))), (10, vI (((kk : Nat) : Int))), (11, vI (x3)), (12, vI (((i + 1 : Nat) : Int)))] rfl rfl ⟨rfl, rfl, rfl, lv_to rfl (by omega), rfl, rfl, rfl, trivial⟩ ?_
                                      exact ih21 (i + 1) _ (by omega) (Fr.put (Fr.put (Fr.tr Fr.rf hF_σe (by decide)) (by decide)) (by decide)) (by omega) (hT.congr (fun q hq => by rw [hE]; (repeat (first | rw [if_pos (by omega)] | rw [if_neg (by omega)])); (first | done | rfl | omega))) (by rw [hE]; rw [if_neg (by omega)]; exact h99) (fun q hq => by rw [hE, hE9]; by_cases e : q = i; (subst e; rw [if_pos (by omega), if_pos (by omega)]; omega); (rw [if_neg (by omega), if_neg (by omega)]; exact hV q (by omega)))
                              have hE : ∀ z0, (am_set σd 80 (n) (99)).1 80 z0 = (if z0 = n then 99 else σd.1 80 z0) := fun z0 => by simp only [am_set_nb (show (80 : Nat) ≠ 76 by decide), am_set_nb (show (80 : Nat) ≠ 77 by decide), am_set_nb (show (80 : Nat) ≠ 78 by decide), am_set_nb (show (80 : Nat) ≠ 79 by decide), am_set_at]
                              refine tt_loc [(0, vR 2), (7, vR 79), (8, vR 80), (9, vI (((n + 1 + 0 : Nat) : Int))), (10, vI (((kk : Nat) : Int))), (11, vI (x3)), (12, vI (((0 : Nat) : Int)))] rfl rfl ⟨rfl, rfl, rfl, lv_to rfl (by omega), rfl, rfl, lv_to rfl (by omega), trivial⟩ ?_
                              exact lp21_6 _ (0) _ (Nat.lt_succ_self _) Fr.rf (by omega) (hT.congr (fun i hi => by rw [hE]; (repeat (first | rw [if_pos (by omega)] | rw [if_neg (by omega)])); (first | done | rfl | omega))) (by rw [hE]; (repeat (first | rw [if_pos (by omega)] | rw [if_neg (by omega)])); (first | done | rfl | omega)) (fun q hq => absurd hq (Nat.not_lt_zero q))
                        · refine tt_ar rfl ?_
                          refine tt_ar rfl ?_
                          refine tt_ar rfl ?_
                          refine tt_iadd (by omega) (by omega) ?_
                          refine tt_ar rfl ?_
                          refine tt_ar rfl ?_
                          refine tt_icge (fun h16_9 => ?_) (fun h16_9 => ?_)
                          · refine tt_ar rfl ?_
                            refine tt_ar rfl ?_
                            refine tt_icne (fun h17_2 => ?_) (fun h17_2 => ?_)
                            · refine tt_ar rfl ?_
                              refine tt_nop ?_
                              refine tt_iast ((1 + j)) ((congrArg (fun z => z.2.1[79]?) hF_σd.1).trans ((congrArg (fun z => z.2.1[79]?) hF_σb.1).trans ((congrArg (fun z => z.2.1[79]?) hF_σa.1).trans k79_σn))) (by omega) (by omega) (by omega) ?_
                              refine tt_iinc (y := ((j + 1 : Nat) : Int)) rfl (iinc_fit (by omega) (by omega) (by omega)) ?_
                              refine tt_goto ?_
                              have hE9 : ∀ z0, (am_set σd 79 ((1 + j)) (2)).1 79 z0 = (if z0 = (1 + j) then 2 else σd.1 79 z0) := fun z0 => by simp only [am_set_nb (show (79 : Nat) ≠ 76 by decide), am_set_nb (show (79 : Nat) ≠ 77 by decide), am_set_nb (show (79 : Nat) ≠ 78 by decide), am_set_nb (show (79 : Nat) ≠ 80 by decide), am_set_at]
                              refine tt_loc [(0, vR 2), (7, vR 79), (8, vR 80), (9, vI (((n : Nat) : Int))), (10, vI (((kk : Nat) : Int))), (11, vI (x3)), (12, vI (((j + 1 : Nat) : Int)))] rfl rfl ⟨rfl, rfl, rfl, rfl, rfl, rfl, rfl, trivial⟩ ?_
                              exact ih16 (n) (j + 1) _ (by omega) (Fr.put (Fr.tr Fr.rf hF_σd (by decide)) (by decide)) (by omega) (by omega) hT (fun i hi => by rw [hE9]; by_cases e : i = j; (subst e; rw [if_pos rfl]; rcases (show i = 0 ∨ i = 1 ∨ i = 2 ∨ i = 3 ∨ i = 4 by omega) with rfl | rfl | rfl | rfl | rfl <;> first | rfl | (exfalso; omega)); (rw [if_neg (by omega)]; exact hD i (by omega)))
                            · refine tt_ar rfl ?_
                              refine tt_goto ?_
                              refine tt_iast ((1 + j)) ((congrArg (fun z => z.2.1[79]?) hF_σd.1).trans ((congrArg (fun z => z.2.1[79]?) hF_σb.1).trans ((congrArg (fun z => z.2.1[79]?) hF_σa.1).trans k79_σn))) (by omega) (by omega) (by omega) ?_
                              refine tt_iinc (y := ((j + 1 : Nat) : Int)) rfl (iinc_fit (by omega) (by omega) (by omega)) ?_
                              refine tt_goto ?_
                              have hE9 : ∀ z0, (am_set σd 79 ((1 + j)) (1)).1 79 z0 = (if z0 = (1 + j) then 1 else σd.1 79 z0) := fun z0 => by simp only [am_set_nb (show (79 : Nat) ≠ 76 by decide), am_set_nb (show (79 : Nat) ≠ 77 by decide), am_set_nb (show (79 : Nat) ≠ 78 by decide), am_set_nb (show (79 : Nat) ≠ 80 by decide), am_set_at]
                              refine tt_loc [(0, vR 2), (7, vR 79), (8, vR 80), (9, vI (((n : Nat) : Int))), (10, vI (((kk : Nat) : Int))), (11, vI (x3)), (12, vI (((j + 1 : Nat) : Int)))] rfl rfl ⟨rfl, rfl, rfl, rfl, rfl, rfl, rfl, trivial⟩ ?_
                              exact ih16 (n) (j + 1) _ (by omega) (Fr.put (Fr.tr Fr.rf hF_σd (by decide)) (by decide)) (by omega) (by omega) hT (fun i hi => by rw [hE9]; by_cases e : i = j; (subst e; rw [if_pos rfl]; rcases (show i = 0 ∨ i = 1 ∨ i = 2 ∨ i = 3 ∨ i = 4 by omega) with rfl | rfl | rfl | rfl | rfl <;> first | rfl | (exfalso; omega)); (rw [if_neg (by omega)]; exact hD i (by omega)))
                          · refine tt_ar rfl ?_
                            refine tt_goto ?_
                            refine tt_iast ((1 + j)) ((congrArg (fun z => z.2.1[79]?) hF_σd.1).trans ((congrArg (fun z => z.2.1[79]?) hF_σb.1).trans ((congrArg (fun z => z.2.1[79]?) hF_σa.1).trans k79_σn))) (by omega) (by omega) (by omega) ?_
                            refine tt_iinc (y := ((j + 1 : Nat) : Int)) rfl (iinc_fit (by omega) (by omega) (by omega)) ?_
                            refine tt_goto ?_
                            have hE9 : ∀ z0, (am_set σd 79 ((1 + j)) (3)).1 79 z0 = (if z0 = (1 + j) then 3 else σd.1 79 z0) := fun z0 => by simp only [am_set_nb (show (79 : Nat) ≠ 76 by decide), am_set_nb (show (79 : Nat) ≠ 77 by decide), am_set_nb (show (79 : Nat) ≠ 78 by decide), am_set_nb (show (79 : Nat) ≠ 80 by decide), am_set_at]
                            refine tt_loc [(0, vR 2), (7, vR 79), (8, vR 80), (9, vI (((n : Nat) : Int))), (10, vI (((kk : Nat) : Int))), (11, vI (x3)), (12, vI (((j + 1 : Nat) : Int)))] rfl rfl ⟨rfl, rfl, rfl, rfl, rfl, rfl, rfl, trivial⟩ ?_
                            exact ih16 (n) (j + 1) _ (by omega) (Fr.put (Fr.tr Fr.rf hF_σd (by decide)) (by decide)) (by omega) (by omega) hT (fun i hi => by rw [hE9]; by_cases e : i = j; (subst e; rw [if_pos rfl]; rcases (show i = 0 ∨ i = 1 ∨ i = 2 ∨ i = 3 ∨ i = 4 by omega) with rfl | rfl | rfl | rfl | rfl <;> first | rfl | (exfalso; omega)); (rw [if_neg (by omega)]; exact hD i (by omega)))
                    refine tt_ar rfl ?_
                    refine tt_ar rfl ?_
                    refine tt_ar rfl ?_
                    refine tt_ar rfl ?_
                    refine tt_cs2 2 rfl (c172 σb _ _ (by omega)) (kx (fun i6 hi6 => ?_))
                    · refine tt_ifne (fun h12_11 => ?_) (fun h12_11 => ?_)
                      · refine tt_ar rfl ?_
                        refine tt_ar rfl ?_
                        refine tt_ar rfl ?_
                        refine tt_bI (g := a_shr) (z := a_shr (x3) (1)) rfl rfl ?_
                        refine tt_ar rfl ?_
                        refine tt_cs2 2 rfl (c172 σb _ _ (by omega)) (kx (fun i7 hi7 => ?_))
                        · refine tt_bI (g := a_shl) (z := a_shl (1) (((i7 : Nat) : Int))) rfl rfl ?_
                          refine tt_nop ?_
                          refine tt_iast (0) ((congrArg (fun z => z.2.1[79]?) hF_σb.1).trans ((congrArg (fun z => z.2.1[79]?) hF_σa.1).trans k79_σn)) (by omega) rfl (by omega) ?_
                          refine tt_ar rfl ?_
                          refine tt_ar rfl ?_
                          refine tt_iald (0) (x := a_shl (1) (((i7 : Nat) : Int))) ((congrArg (fun z => z.2.1[79]?) hF_σb.1).trans ((congrArg (fun z => z.2.1[79]?) hF_σa.1).trans k79_σn)) rfl (by omega) (@am_set_rd σb 79 (0) (a_shl (1) (((i7 : Nat) : Int)))) ?_
                          refine tt_ifle (fun h14_4 => ?_) (fun h14_4 => ?_)
                          · refine tt_ar rfl ?_
                            refine tt_ar rfl ?_
                            refine tt_nop ?_
                            have hE : ∀ z0, (am_set σb 79 (0) (a_shl (1) (((i7 : Nat) : Int)))).1 80 z0 = σb.1 80 z0 := fun z0 => by simp only [am_set_nb (show (80 : Nat) ≠ 76 by decide), am_set_nb (show (80 : Nat) ≠ 77 by decide), am_set_nb (show (80 : Nat) ≠ 78 by decide), am_set_nb (show (80 : Nat) ≠ 79 by decide), am_set_at]
                            refine tt_loc [(0, vR 2), (7, vR 79), (8, vR 80), (9, vI (((n : Nat) : Int))), (10, vI (((kk : Nat) : Int))), (11, vI (x3)), (12, vI (((0 : Nat) : Int)))] rfl rfl ⟨rfl, rfl, rfl, rfl, rfl, rfl, lv_to rfl (by omega), trivial⟩ ?_
                            exact lp16_5 _ (n) (0) _ (Nat.lt_succ_self _) (Fr.put Fr.rf (by decide)) (by omega) (by omega) (hT.congr (fun i hi => by rw [hE]; (repeat (first | rw [if_pos (by omega)] | rw [if_neg (by omega)])); (first | done | rfl | omega))) (fun i hi => absurd hi (Nat.not_lt_zero i))
                          · refine tt_ar rfl ?_
                            refine tt_ar rfl ?_
                            refine tt_ar rfl ?_
                            refine tt_iast (n) ((congrArg (fun z => z.2.1[80]?) hF_σb.1).trans ((congrArg (fun z => z.2.1[80]?) hF_σa.1).trans k80_σn)) (by omega) rfl (by omega) ?_
                            refine tt_ar rfl ?_
                            refine tt_ar rfl ?_
                            refine tt_ar rfl ?_
                            refine tt_iadd (by omega) (by omega) ?_
                            refine tt_ar rfl ?_
                            refine tt_ar rfl ?_
                            refine tt_ar rfl ?_
                            refine tt_bI (g := a_shr) (z := a_shr (x3) (1)) rfl rfl ?_
                            refine tt_ar rfl ?_
                            refine tt_cs2 2 rfl (c172 (am_set (am_set σb 79 (0) (a_shl (1) (((i7 : Nat) : Int)))) 80 (n) (105)) _ _ (by omega)) (kx (fun i8 hi8 => ?_))
                            · refine tt_iadd (by omega) (by omega) ?_
                              refine tt_iast ((n + 1)) ((congrArg (fun z => z.2.1[80]?) hF_σb.1).trans ((congrArg (fun z => z.2.1[80]?) hF_σa.1).trans k80_σn)) (by omega) (by omega) (by omega) ?_
                              refine tt_iinc (y := ((n + 2 : Nat) : Int)) rfl (iinc_fit (by omega) (by omega) (by omega)) ?_
                              refine tt_nop ?_
                              refine tt_ar rfl ?_
                              refine tt_ar rfl ?_
                              refine tt_nop ?_
                              have hE : ∀ z0, (am_set (am_set (am_set σb 79 (0) (a_shl (1) (((i7 : Nat) : Int)))) 80 (n) (105)) 80 ((n + 1)) ((48 + ((i8 : Nat) : Int)))).1 80 z0 = (if z0 = (n + 1) then (48 + ((i8 : Nat) : Int)) else (if z0 = n then 105 else σb.1 80 z0)) := fun z0 => by simp only [am_set_nb (show (80 : Nat) ≠ 76 by decide), am_set_nb (show (80 : Nat) ≠ 77 by decide), am_set_nb (show (80 : Nat) ≠ 78 by decide), am_set_nb (show (80 : Nat) ≠ 79 by decide), am_set_at]
                              refine tt_loc [(0, vR 2), (7, vR 79), (8, vR 80), (9, vI (((n + 2 : Nat) : Int))), (10, vI (((kk : Nat) : Int))), (11, vI (x3)), (12, vI (((0 : Nat) : Int)))] rfl rfl ⟨rfl, rfl, rfl, rfl, rfl, rfl, lv_to rfl (by omega), trivial⟩ ?_
                              exact lp16_5 _ (n + 2) (0) _ (Nat.lt_succ_self _) (Fr.put (Fr.put (Fr.put Fr.rf (by decide)) (by decide)) (by decide)) (by omega) (by omega) (TQ.inn (x := i8) hT (fun i hi => by rw [hE]; (repeat (first | rw [if_pos (by omega)] | rw [if_neg (by omega)])); (first | done | rfl | omega)) (by omega) (by rw [hE]; (repeat (first | rw [if_pos (by omega)] | rw [if_neg (by omega)])); (first | done | rfl | omega)) (by rw [hE]; (repeat (first | rw [if_pos (by omega)] | rw [if_neg (by omega)])); (first | done | rfl | omega))) (fun i hi => absurd hi (Nat.not_lt_zero i))
                      · refine tt_ar rfl ?_
                        refine tt_goto ?_
                        refine tt_iast (0) ((congrArg (fun z => z.2.1[79]?) hF_σb.1).trans ((congrArg (fun z => z.2.1[79]?) hF_σa.1).trans k79_σn)) (by omega) rfl (by omega) ?_
                        refine tt_ar rfl ?_
                        refine tt_ar rfl ?_
                        refine tt_iald (0) (x := 0) ((congrArg (fun z => z.2.1[79]?) hF_σb.1).trans ((congrArg (fun z => z.2.1[79]?) hF_σa.1).trans k79_σn)) rfl (by omega) (@am_set_rd σb 79 (0) (0)) ?_
                        refine tt_ifle (fun h14_4 => ?_) (fun h14_4 => ?_)
                        · refine tt_ar rfl ?_
                          refine tt_ar rfl ?_
                          refine tt_nop ?_
                          have hE : ∀ z0, (am_set σb 79 (0) (0)).1 80 z0 = σb.1 80 z0 := fun z0 => by simp only [am_set_nb (show (80 : Nat) ≠ 76 by decide), am_set_nb (show (80 : Nat) ≠ 77 by decide), am_set_nb (show (80 : Nat) ≠ 78 by decide), am_set_nb (show (80 : Nat) ≠ 79 by decide), am_set_at]
                          refine tt_loc [(0, vR 2), (7, vR 79), (8, vR 80), (9, vI (((n : Nat) : Int))), (10, vI (((kk : Nat) : Int))), (11, vI (x3)), (12, vI (((0 : Nat) : Int)))] rfl rfl ⟨rfl, rfl, rfl, rfl, rfl, rfl, lv_to rfl (by omega), trivial⟩ ?_
                          exact lp16_5 _ (n) (0) _ (Nat.lt_succ_self _) (Fr.put Fr.rf (by decide)) (by omega) (by omega) (hT.congr (fun i hi => by rw [hE]; (repeat (first | rw [if_pos (by omega)] | rw [if_neg (by omega)])); (first | done | rfl | omega))) (fun i hi => absurd hi (Nat.not_lt_zero i))
                        · refine tt_ar rfl ?_
                          refine tt_ar rfl ?_
                          refine tt_ar rfl ?_
                          refine tt_iast (n) ((congrArg (fun z => z.2.1[80]?) hF_σb.1).trans ((congrArg (fun z => z.2.1[80]?) hF_σa.1).trans k80_σn)) (by omega) rfl (by omega) ?_
                          refine tt_ar rfl ?_
                          refine tt_ar rfl ?_
                          refine tt_ar rfl ?_
                          refine tt_iadd (by omega) (by omega) ?_
                          refine tt_ar rfl ?_
                          refine tt_ar rfl ?_
                          refine tt_ar rfl ?_
                          refine tt_bI (g := a_shr) (z := a_shr (x3) (1)) rfl rfl ?_
                          refine tt_ar rfl ?_
                          refine tt_cs2 2 rfl (c172 (am_set (am_set σb 79 (0) (0)) 80 (n) (105)) _ _ (by omega)) (kx (fun i9 hi9 => ?_))
                          · refine tt_iadd (by omega) (by omega) ?_
                            refine tt_iast ((n + 1)) ((congrArg (fun z => z.2.1[80]?) hF_σb.1).trans ((congrArg (fun z => z.2.1[80]?) hF_σa.1).trans k80_σn)) (by omega) (by omega) (by omega) ?_
                            refine tt_iinc (y := ((n + 2 : Nat) : Int)) rfl (iinc_fit (by omega) (by omega) (by omega)) ?_
                            refine tt_nop ?_
                            refine tt_ar rfl ?_
                            refine tt_ar rfl ?_
                            refine tt_nop ?_
                            have hE : ∀ z0, (am_set (am_set (am_set σb 79 (0) (0)) 80 (n) (105)) 80 ((n + 1)) ((48 + ((i9 : Nat) : Int)))).1 80 z0 = (if z0 = (n + 1) then (48 + ((i9 : Nat) : Int)) else (if z0 = n then 105 else σb.1 80 z0)) := fun z0 => by simp only [am_set_nb (show (80 : Nat) ≠ 76 by decide), am_set_nb (show (80 : Nat) ≠ 77 by decide), am_set_nb (show (80 : Nat) ≠ 78 by decide), am_set_nb (show (80 : Nat) ≠ 79 by decide), am_set_at]
                            refine tt_loc [(0, vR 2), (7, vR 79), (8, vR 80), (9, vI (((n + 2 : Nat) : Int))), (10, vI (((kk : Nat) : Int))), (11, vI (x3)), (12, vI (((0 : Nat) : Int)))] rfl rfl ⟨rfl, rfl, rfl, rfl, rfl, rfl, lv_to rfl (by omega), trivial⟩ ?_
                            exact lp16_5 _ (n + 2) (0) _ (Nat.lt_succ_self _) (Fr.put (Fr.put (Fr.put Fr.rf (by decide)) (by decide)) (by decide)) (by omega) (by omega) (TQ.inn (x := i9) hT (fun i hi => by rw [hE]; (repeat (first | rw [if_pos (by omega)] | rw [if_neg (by omega)])); (first | done | rfl | omega)) (by omega) (by rw [hE]; (repeat (first | rw [if_pos (by omega)] | rw [if_neg (by omega)])); (first | done | rfl | omega)) (by rw [hE]; (repeat (first | rw [if_pos (by omega)] | rw [if_neg (by omega)])); (first | done | rfl | omega))) (fun i hi => absurd hi (Nat.not_lt_zero i))
                · refine tt_ar rfl ?_
                  refine tt_ar rfl ?_
                  refine tt_ar rfl ?_
                  refine tt_bI (g := fun a b => w32 (a + b)) (z := 4) rfl rfl ?_
                  refine tt_ar rfl ?_
                  refine tt_iadd (by omega) (by omega) ?_
                  refine tt_cs2 2 rfl (c173' σb L xs (hSn.fr ((Fr.tr (Fr.tr Fr.rf hF_σa (by decide)) hF_σb (by decide)) : Fr [76, 77, 78, 79, 80] σn σb) (by decide)) hL ((4 + j)) (by omega) _ (by omega)) (kxI (fun x10 hx10 => ?_))
                  · refine tt_ar rfl ?_
                    refine tt_ar rfl ?_
                    refine tt_ar rfl ?_
                    refine tt_nop ?_
                    have lp10_7 : ∀ (μ : Nat) (n : Nat) (t : Nat) (σc : am_S), 2 - t < μ → Fr [77, 78, 80] σb σc → (t ≤ 2) → (n = 2 * kk + 16 * j + 8 * t) → (TQ (σc.1 80) n kk (p_W0 10)) → (∀ i, i < 24 → 0 ≤ σc.1 77 i ∧ σc.1 77 i ≤ σc.1 78 i ∧ σc.1 78 i ≤ 4) → TT am_b175 (am_b175.getD 10 []) [(0, vR 2), (1, vR 1), (2, vI 0), (5, vR 77), (6, vR 78), (7, vR 79), (8, vR 80), (9, vI (((n : Nat) : Int))), (10, vI (((kk : Nat) : Int))), (11, vI (((j : Nat) : Int))), (12, vI (x10)), (13, vI (((t : Nat) : Int)))] [] σc (fun r σ' => ∃ kk : Nat, (1 ≤ kk ∧ kk ≤ 3) ∧ r = some (vI (kk : Int)) ∧ (∃ D', CI kk 0 0 D' σ') ∧ (∀ i, i < 5 → σ'.1 9 i = σ'.1 79 (1 + i)) ∧ (∀ i, i < 24 → 0 ≤ σ'.1 77 i ∧ σ'.1 77 i ≤ σ'.1 78 i ∧ σ'.1 78 i ≤ 4) ∧ Sc L xs σ' ∧ LX 1 64 σ.2.2.1 σ'.2.2.1) := by
                      intro μ
                      induction μ with
                      | zero => intro n t σc hμ; exact absurd hμ (Nat.not_lt_zero _)
                      | succ μ ih10 =>
                        intro n t σc hμ hF_σc ht hn hT hM
                        have hW_σc := Fr.wd hF_σc hW_σb
                        refine tt_ar rfl ?_
                        refine tt_ar rfl ?_
                        refine tt_icge (fun h10_2 => ?_) (fun h10_2 => ?_)
                        · refine tt_iinc (y := ((j + 1 : Nat) : Int)) rfl (iinc_fit (by omega) (by omega) (by omega)) ?_
                          refine tt_goto ?_
                          refine tt_loc [(0, vR 2), (1, vR 1), (2, vI 0), (5, vR 77), (6, vR 78), (7, vR 79), (8, vR 80), (9, vI (((n : Nat) : Int))), (10, vI (((kk : Nat) : Int))), (11, vI (((j + 1 : Nat) : Int)))] rfl rfl ⟨rfl, rfl, rfl, rfl, rfl, rfl, rfl, rfl, rfl, rfl, trivial⟩ ?_
                          exact ih9 (n) (j + 1) σc (by omega) (Fr.tr (Fr.tr Fr.rf hF_σb (by decide)) hF_σc (by decide)) (by omega) (by omega) hT hM
                        · refine tt_ar rfl ?_
                          refine tt_ar rfl ?_
                          refine tt_ar rfl ?_
                          refine tt_imul (by omega) (by omega) ?_
                          refine tt_bI (g := a_shr) (z := a_shr (x10) ((3 * ((t : Nat) : Int)))) rfl rfl ?_
                          refine tt_ar rfl ?_
                          refine tt_cs2 2 rfl (c172 σc _ _ (by omega)) (kx (fun i11 hi11 => ?_))
                          · refine tt_ar rfl ?_
                            refine tt_ar rfl ?_
                            refine tt_ar rfl ?_
                            refine tt_ar rfl ?_
                            refine tt_ar rfl ?_
                            refine tt_imul (by omega) (by omega) ?_
                            refine tt_iadd (by omega) (by omega) ?_
                            refine tt_bI (g := a_shr) (z := a_shr (x10) ((6 + (2 * ((t : Nat) : Int))))) rfl rfl ?_
                            refine tt_ar rfl ?_
                            refine tt_cs2 2 rfl (c172 σc _ _ (by omega)) (kx (fun i12 hi12 => ?_))
                            · refine tt_ar rfl ?_
                              refine tt_ar rfl ?_
                              refine tt_ar rfl ?_
                              refine tt_ar rfl ?_
                              refine tt_ar rfl ?_
                              refine tt_ar rfl ?_
                              refine tt_imul (by omega) (by omega) ?_
                              refine tt_iadd (by omega) (by omega) ?_
                              refine tt_bI (g := a_shr) (z := a_shr (x10) ((11 + (2 * ((t : Nat) : Int))))) rfl rfl ?_
                              refine tt_ar rfl ?_
                              refine tt_cs2 2 rfl (c172 σc _ _ (by omega)) (kx (fun i13 hi13 => ?_))
                              · refine tt_iadd (by omega) (by omega) ?_
                                refine tt_ar rfl ?_
                                refine tt_ar rfl ?_
                                refine tt_ar rfl ?_
                                refine tt_ar rfl ?_
                                refine tt_imul (by omega) (by omega) ?_
                                refine tt_ar rfl ?_
                                refine tt_iadd (by omega) (by omega) ?_
                                refine tt_ar rfl ?_
                                refine tt_iast (((8 * j) + i11)) ((congrArg (fun z => z.2.1[77]?) hF_σc.1).trans ((congrArg (fun z => z.2.1[77]?) hF_σb.1).trans ((congrArg (fun z => z.2.1[77]?) hF_σa.1).trans k77_σn))) (by omega) (by omega) (by omega) ?_
                                refine tt_ar rfl ?_
                                refine tt_ar rfl ?_
                                refine tt_ar rfl ?_
                                refine tt_imul (by omega) (by omega) ?_
                                refine tt_ar rfl ?_
                                refine tt_iadd (by omega) (by omega) ?_
                                refine tt_ar rfl ?_
                                refine tt_iast (((8 * j) + i11)) ((congrArg (fun z => z.2.1[78]?) hF_σc.1).trans ((congrArg (fun z => z.2.1[78]?) hF_σb.1).trans ((congrArg (fun z => z.2.1[78]?) hF_σa.1).trans k78_σn))) (by omega) (by omega) (by omega) ?_
                                refine tt_ar rfl ?_
                                refine tt_ar rfl ?_
                                refine tt_ar rfl ?_
                                refine tt_iast (n) ((congrArg (fun z => z.2.1[80]?) hF_σc.1).trans ((congrArg (fun z => z.2.1[80]?) hF_σb.1).trans ((congrArg (fun z => z.2.1[80]?) hF_σa.1).trans k80_σn))) (by omega) rfl (by omega) ?_
                                refine tt_ar rfl ?_
                                refine tt_ar rfl ?_
                                refine tt_ar rfl ?_
                                refine tt_iadd (by omega) (by omega) ?_
                                refine tt_ar rfl ?_
                                refine tt_ar rfl ?_
                                refine tt_iadd (by omega) (by omega) ?_
                                refine tt_iast ((n + 1)) ((congrArg (fun z => z.2.1[80]?) hF_σc.1).trans ((congrArg (fun z => z.2.1[80]?) hF_σb.1).trans ((congrArg (fun z => z.2.1[80]?) hF_σa.1).trans k80_σn))) (by omega) (by omega) (by omega) ?_
                                refine tt_ar rfl ?_
                                refine tt_ar rfl ?_
                                refine tt_ar rfl ?_
                                refine tt_iadd (by omega) (by omega) ?_
                                refine tt_ar rfl ?_
                                refine tt_iast ((n + 2)) ((congrArg (fun z => z.2.1[80]?) hF_σc.1).trans ((congrArg (fun z => z.2.1[80]?) hF_σb.1).trans ((congrArg (fun z => z.2.1[80]?) hF_σa.1).trans k80_σn))) (by omega) (by omega) (by omega) ?_
                                refine tt_ar rfl ?_
                                refine tt_ar rfl ?_
                                refine tt_ar rfl ?_
                                refine tt_iadd (by omega) (by omega) ?_
                                refine tt_ar rfl ?_
                                refine tt_ar rfl ?_
                                refine tt_iadd (by omega) (by omega) ?_
                                refine tt_iast ((n + 3)) ((congrArg (fun z => z.2.1[80]?) hF_σc.1).trans ((congrArg (fun z => z.2.1[80]?) hF_σb.1).trans ((congrArg (fun z => z.2.1[80]?) hF_σa.1).trans k80_σn))) (by omega) (by omega) (by omega) ?_
                                refine tt_ar rfl ?_
                                refine tt_ar rfl ?_
                                refine tt_ar rfl ?_
                                refine tt_iadd (by omega) (by omega) ?_
                                refine tt_ar rfl ?_
                                refine tt_iast ((n + 4)) ((congrArg (fun z => z.2.1[80]?) hF_σc.1).trans ((congrArg (fun z => z.2.1[80]?) hF_σb.1).trans ((congrArg (fun z => z.2.1[80]?) hF_σa.1).trans k80_σn))) (by omega) (by omega) (by omega) ?_
                                refine tt_ar rfl ?_
                                refine tt_ar rfl ?_
                                refine tt_ar rfl ?_
                                refine tt_iadd (by omega) (by omega) ?_
                                refine tt_ar rfl ?_
                                refine tt_ar rfl ?_
                                refine tt_iadd (by omega) (by omega) ?_
                                refine tt_iast ((n + 5)) ((congrArg (fun z => z.2.1[80]?) hF_σc.1).trans ((congrArg (fun z => z.2.1[80]?) hF_σb.1).trans ((congrArg (fun z => z.2.1[80]?) hF_σa.1).trans k80_σn))) (by omega) (by omega) (by omega) ?_
                                refine tt_ar rfl ?_
                                refine tt_ar rfl ?_
                                refine tt_ar rfl ?_
                                refine tt_iadd (by omega) (by omega) ?_
                                refine tt_ar rfl ?_
                                refine tt_iast ((n + 6)) ((congrArg (fun z => z.2.1[80]?) hF_σc.1).trans ((congrArg (fun z => z.2.1[80]?) hF_σb.1).trans ((congrArg (fun z => z.2.1[80]?) hF_σa.1).trans k80_σn))) (by omega) (by omega) (by omega) ?_
                                refine tt_ar rfl ?_
                                refine tt_ar rfl ?_
                                refine tt_ar rfl ?_
                                refine tt_iadd (by omega) (by omega) ?_
                                refine tt_ar rfl ?_
                                refine tt_ar rfl ?_
                                refine tt_iadd (by omega) (by omega) ?_
                                refine tt_iast ((n + 7)) ((congrArg (fun z => z.2.1[80]?) hF_σc.1).trans ((congrArg (fun z => z.2.1[80]?) hF_σb.1).trans ((congrArg (fun z => z.2.1[80]?) hF_σa.1).trans k80_σn))) (by omega) (by omega) (by omega) ?_
                                refine tt_iinc (y := ((n + 8 : Nat) : Int)) rfl (iinc_fit (by omega) (by omega) (by omega)) ?_
                                refine tt_iinc (y := ((t + 1 : Nat) : Int)) rfl (iinc_fit (by omega) (by omega) (by omega)) ?_
                                refine tt_goto ?_
                                have hE : ∀ z0, (am_set (am_set (am_set (am_set (am_set (am_set (am_set (am_set (am_set (am_set σc 77 (((8 * j) + i11)) (((i12 : Nat) : Int))) 78 (((8 * j) + i11)) ((((i12 : Nat) : Int) + ((i13 : Nat) : Int)))) 80 (n) (119)) 80 ((n + 1)) ((48 + ((j : Nat) : Int)))) 80 ((n + 2)) (116)) 80 ((n + 3)) ((48 + ((i11 : Nat) : Int)))) 80 ((n + 4)) (58)) 80 ((n + 5)) ((48 + ((i12 : Nat) : Int)))) 80 ((n + 6)) (45)) 80 ((n + 7)) ((48 + (((i12 : Nat) : Int) + ((i13 : Nat) : Int))))).1 80 z0 = (if z0 = (n + 7) then (48 + (((i12 : Nat) : Int) + ((i13 : Nat) : Int))) else (if z0 = (n + 6) then 45 else (if z0 = (n + 5) then (48 + ((i12 : Nat) : Int)) else (if z0 = (n + 4) then 58 else (if z0 = (n + 3) then (48 + ((i11 : Nat) : Int)) else (if z0 = (n + 2) then 116 else (if z0 = (n + 1) then (48 + ((j : Nat) : Int)) else (if z0 = n then 119 else σc.1 80 z0)))))))) := fun z0 => by simp only [am_set_nb (show (80 : Nat) ≠ 76 by decide), am_set_nb (show (80 : Nat) ≠ 77 by decide), am_set_nb (show (80 : Nat) ≠ 78 by decide), am_set_nb (show (80 : Nat) ≠ 79 by decide), am_set_at]
                                have hE7 : ∀ z0, (am_set (am_set (am_set (am_set (am_set (am_set (am_set (am_set (am_set (am_set σc 77 (((8 * j) + i11)) (((i12 : Nat) : Int))) 78 (((8 * j) + i11)) ((((i12 : Nat) : Int) + ((i13 : Nat) : Int)))) 80 (n) (119)) 80 ((n + 1)) ((48 + ((j : Nat) : Int)))) 80 ((n + 2)) (116)) 80 ((n + 3)) ((48 + ((i11 : Nat) : Int)))) 80 ((n + 4)) (58)) 80 ((n + 5)) ((48 + ((i12 : Nat) : Int)))) 80 ((n + 6)) (45)) 80 ((n + 7)) ((48 + (((i12 : Nat) : Int) + ((i13 : Nat) : Int))))).1 77 z0 = (if z0 = ((8 * j) + i11) then ((i12 : Nat) : Int) else σc.1 77 z0) := fun z0 => by simp only [am_set_nb (show (77 : Nat) ≠ 76 by decide), am_set_nb (show (77 : Nat) ≠ 78 by decide), am_set_nb (show (77 : Nat) ≠ 79 by decide), am_set_nb (show (77 : Nat) ≠ 80 by decide), am_set_at]
                                have hE8 : ∀ z0, (am_set (am_set (am_set (am_set (am_set (am_set (am_set (am_set (am_set (am_set σc 77 (((8 * j) + i11)) (((i12 : Nat) : Int))) 78 (((8 * j) + i11)) ((((i12 : Nat) : Int) + ((i13 : Nat) : Int)))) 80 (n) (119)) 80 ((n + 1)) ((48 + ((j : Nat) : Int)))) 80 ((n + 2)) (116)) 80 ((n + 3)) ((48 + ((i11 : Nat) : Int)))) 80 ((n + 4)) (58)) 80 ((n + 5)) ((48 + ((i12 : Nat) : Int)))) 80 ((n + 6)) (45)) 80 ((n + 7)) ((48 + (((i12 : Nat) : Int) + ((i13 : Nat) : Int))))).1 78 z0 = (if z0 = ((8 * j) + i11) then (((i12 : Nat) : Int) + ((i13 : Nat) : Int)) else σc.1 78 z0) := fun z0 => by simp only [am_set_nb (show (78 : Nat) ≠ 76 by decide), am_set_nb (show (78 : Nat) ≠ 77 by decide), am_set_nb (show (78 : Nat) ≠ 79 by decide), am_set_nb (show (78 : Nat) ≠ 80 by decide), am_set_at]
                                obtain ⟨bb14, hbb14⟩ : ∃ b : Nat, (((i12 : Nat) : Int) + ((i13 : Nat) : Int)) = (b : Int) := ⟨_, (Int.toNat_of_nonneg (by omega)).symm⟩
                                have hn64 : n + 8 ≤ 54 := by omega
                                refine tt_loc [(0, vR 2), (1, vR 1), (2, vI 0), (5, vR 77), (6, vR 78), (7, vR 79), (8, vR 80), (9, vI (((n + 8 : Nat) : Int))), (10, vI (((kk : Nat) : Int))), (11, vI (((j : Nat) : Int))), (12, vI (x10)), (13, vI (((t + 1 : Nat) : Int)))] rfl rfl ⟨rfl, rfl, rfl, rfl, rfl, rfl, rfl, rfl, rfl, rfl, rfl, rfl, trivial⟩ ?_
                                exact ih10 (n + 8) (t + 1) _ (by omega) (Fr.put (Fr.put (Fr.put (Fr.put (Fr.put (Fr.put (Fr.put (Fr.put (Fr.put (Fr.put (Fr.tr Fr.rf hF_σc (by decide)) (by decide)) (by decide)) (by decide)) (by decide)) (by decide)) (by decide)) (by decide)) (by decide)) (by decide)) (by decide)) (by omega) (by omega) (TQ.wash (s := j) (x := i11) (a := i12) (b := bb14) hT (fun i hi => by rw [hE]; (repeat (first | rw [if_pos (by omega)] | rw [if_neg (by omega)])); (first | done | rfl | omega)) (by omega) (by omega) (by omega) (by omega) (by omega) (by rw [hE]; (repeat (first | rw [if_pos (by omega)] | rw [if_neg (by omega)])); (first | done | rfl | omega)) (by rw [hE]; (repeat (first | rw [if_pos (by omega)] | rw [if_neg (by omega)])); (first | done | rfl | omega)) (by rw [hE]; (repeat (first | rw [if_pos (by omega)] | rw [if_neg (by omega)])); (first | done | rfl | omega)) (by rw [hE]; (repeat (first | rw [if_pos (by omega)] | rw [if_neg (by omega)])); (first | done | rfl | omega)) (by rw [hE]; (repeat (first | rw [if_pos (by omega)] | rw [if_neg (by omega)])); (first | done | rfl | omega)) (by rw [hE]; (repeat (first | rw [if_pos (by omega)] | rw [if_neg (by omega)])); (first | done | rfl | omega)) (by rw [hE]; (repeat (first | rw [if_pos (by omega)] | rw [if_neg (by omega)])); (first | done | rfl | omega)) (by rw [hE]; (repeat (first | rw [if_pos (by omega)] | rw [if_neg (by omega)])); (first | done | rfl | omega))) (fun i hi => by rw [hE7, hE8]; have q := hM i hi; split <;> omega)
                    refine tt_loc [(0, vR 2), (1, vR 1), (2, vI 0), (5, vR 77), (6, vR 78), (7, vR 79), (8, vR 80), (9, vI (((n : Nat) : Int))), (10, vI (((kk : Nat) : Int))), (11, vI (((j : Nat) : Int))), (12, vI (x10)), (13, vI (((0 : Nat) : Int)))] rfl rfl ⟨rfl, rfl, rfl, rfl, rfl, rfl, rfl, rfl, rfl, rfl, rfl, lv_to rfl (by omega), trivial⟩ ?_
                    exact lp10_7 _ (n) (0) σb (Nat.lt_succ_self _) Fr.rf (by omega) (by omega) hT hM
            refine tt_loc [(0, vR 2), (1, vR 1), (2, vI 0), (5, vR 77), (6, vR 78), (7, vR 79), (8, vR 80), (9, vI (((n : Nat) : Int))), (10, vI (((kk : Nat) : Int))), (11, vI (((0 : Nat) : Int)))] rfl rfl ⟨rfl, rfl, rfl, rfl, rfl, rfl, rfl, rfl, rfl, lv_to rfl (by omega), trivial⟩ ?_
            exact lp9_2 _ (n) (0) σa (Nat.lt_succ_self _) Fr.rf (by omega) (by have : j = kk := (by omega); subst this; omega) (by have : j = kk := (by omega); subst this; exact hT) (fun i hi => by rw [hF_σa.2 77 (by decide), hF_σa.2 78 (by decide)]; exact hMn i hi)
          · refine tt_ar rfl ?_
            refine tt_ar rfl ?_
            refine tt_ar rfl ?_
            refine tt_bI (g := fun a b => w32 (a + b)) (z := 1) rfl rfl ?_
            refine tt_ar rfl ?_
            refine tt_iadd (by omega) (by omega) ?_
            refine tt_cs2 2 rfl (c173' σa L xs (hSn.fr ((Fr.tr Fr.rf hF_σa (by decide)) : Fr [76, 77, 78, 79, 80] σn σa) (by decide)) hL ((1 + j)) (by omega) _ (by omega)) (kxI (fun x15 hx15 => ?_))
            · refine tt_ar rfl ?_
              refine tt_ar rfl ?_
              refine tt_ar rfl ?_
              refine tt_ar rfl ?_
              refine tt_ar rfl ?_
              refine tt_cs2 2 rfl (c172 σa _ _ (by omega)) (kx (fun i16 hi16 => ?_))
              · refine tt_ifne (fun h1_16 => ?_) (fun h1_16 => ?_)
                · refine tt_ar rfl ?_
                  refine tt_ar rfl ?_
                  refine tt_bI (g := a_shr) (z := a_shr (x15) (1)) rfl rfl ?_
                  refine tt_ar rfl ?_
                  refine tt_cs2 2 rfl (c172 σa _ _ (by omega)) (kx (fun i17 hi17 => ?_))
                  · refine tt_nop ?_
                    refine tt_iast (j) ((congrArg (fun z => z.2.1[76]?) hF_σa.1).trans k76_σn) (by omega) rfl (by omega) ?_
                    refine tt_ar rfl ?_
                    refine tt_ar rfl ?_
                    refine tt_ar rfl ?_
                    refine tt_iast (n) ((congrArg (fun z => z.2.1[80]?) hF_σa.1).trans k80_σn) (by omega) rfl (by omega) ?_
                    refine tt_ar rfl ?_
                    refine tt_ar rfl ?_
                    refine tt_ar rfl ?_
                    refine tt_iadd (by omega) (by omega) ?_
                    refine tt_ar rfl ?_
                    refine tt_ar rfl ?_
                    refine tt_iald (j) (x := ((i17 : Nat) : Int)) ((congrArg (fun z => z.2.1[76]?) hF_σa.1).trans k76_σn) rfl (by omega) (@am_set_rd σa 76 (j) (((i17 : Nat) : Int))) ?_
                    refine tt_ifge (fun h3_12 => ?_) (fun h3_12 => ?_)
                    · refine tt_ar rfl ?_
                      refine tt_ar rfl ?_
                      refine tt_ar rfl ?_
                      refine tt_iald (j) (x := ((i17 : Nat) : Int)) ((congrArg (fun z => z.2.1[76]?) hF_σa.1).trans k76_σn) rfl (by omega) (@am_set_rd σa 76 (j) (((i17 : Nat) : Int))) ?_
                      refine tt_iadd (by omega) (by omega) ?_
                      refine tt_nop ?_
                      refine tt_iast ((n + 1)) ((congrArg (fun z => z.2.1[80]?) hF_σa.1).trans k80_σn) (by omega) (by omega) (by omega) ?_
                      refine tt_iinc (y := ((n + 2 : Nat) : Int)) rfl (iinc_fit (by omega) (by omega) (by omega)) ?_
                      refine tt_ar rfl ?_
                      refine tt_ar rfl ?_
                      refine tt_ar rfl ?_
                      refine tt_ar rfl ?_
                      refine tt_iald (j) (x := ((i17 : Nat) : Int)) ((congrArg (fun z => z.2.1[76]?) hF_σa.1).trans k76_σn) rfl (by omega) (@am_set_rd σa 76 (j) (((i17 : Nat) : Int))) ?_
                      refine tt_ar rfl ?_
                      refine tt_iclt (fun h5_8 => ?_) (fun h5_8 => ?_)
                      · refine tt_ar rfl ?_
                        refine tt_ar rfl ?_
                        refine tt_iald (j) (x := ((i17 : Nat) : Int)) ((congrArg (fun z => z.2.1[76]?) hF_σa.1).trans k76_σn) rfl (by omega) (@am_set_rd σa 76 (j) (((i17 : Nat) : Int))) ?_
                        refine tt_nop ?_
                        refine tt_iast (j) ((congrArg (fun z => z.2.1[76]?) hF_σa.1).trans k76_σn) (by omega) rfl (by omega) ?_
                        refine tt_iinc (y := ((j + 1 : Nat) : Int)) rfl (iinc_fit (by omega) (by omega) (by omega)) ?_
                        refine tt_goto ?_
                        have hE : ∀ z0, (am_set (am_set (am_set (am_set σa 76 (j) (((i17 : Nat) : Int))) 80 (n) (107)) 80 ((n + 1)) ((48 + ((i17 : Nat) : Int)))) 76 (j) (((i17 : Nat) : Int))).1 80 z0 = (if z0 = (n + 1) then (48 + ((i17 : Nat) : Int)) else (if z0 = n then 107 else σa.1 80 z0)) := fun z0 => by simp only [am_set_nb (show (80 : Nat) ≠ 76 by decide), am_set_nb (show (80 : Nat) ≠ 77 by decide), am_set_nb (show (80 : Nat) ≠ 78 by decide), am_set_nb (show (80 : Nat) ≠ 79 by decide), am_set_at]
                        refine tt_loc [(0, vR 2), (1, vR 1), (2, vI 0), (4, vR 76), (5, vR 77), (6, vR 78), (7, vR 79), (8, vR 80), (9, vI (((n + 2 : Nat) : Int))), (10, vI (((kk : Nat) : Int))), (11, vI (((j + 1 : Nat) : Int)))] rfl rfl ⟨rfl, rfl, rfl, rfl, rfl, rfl, rfl, rfl, rfl, rfl, rfl, trivial⟩ ?_
                        exact ih1 (n + 2) (j + 1) _ (by omega) (Fr.put (Fr.put (Fr.put (Fr.put (Fr.tr Fr.rf hF_σa (by decide)) (by decide)) (by decide)) (by decide)) (by decide)) (by omega) (by omega) (TQ.sort hT (fun i hi => by rw [hE]; (repeat (first | rw [if_pos (by omega)] | rw [if_neg (by omega)])); (first | done | rfl | omega)) (by omega) (by rw [hE]; (repeat (first | rw [if_pos (by omega)] | rw [if_neg (by omega)])); (first | done | rfl | omega)) (by rw [hE]; (repeat (first | rw [if_pos (by omega)] | rw [if_neg (by omega)])); omega))
                      · refine tt_ar rfl ?_
                        refine tt_goto ?_
                        refine tt_iast (j) ((congrArg (fun z => z.2.1[76]?) hF_σa.1).trans k76_σn) (by omega) rfl (by omega) ?_
                        refine tt_iinc (y := ((j + 1 : Nat) : Int)) rfl (iinc_fit (by omega) (by omega) (by omega)) ?_
                        refine tt_goto ?_
                        have hE : ∀ z0, (am_set (am_set (am_set (am_set σa 76 (j) (((i17 : Nat) : Int))) 80 (n) (107)) 80 ((n + 1)) ((48 + ((i17 : Nat) : Int)))) 76 (j) ((-9))).1 80 z0 = (if z0 = (n + 1) then (48 + ((i17 : Nat) : Int)) else (if z0 = n then 107 else σa.1 80 z0)) := fun z0 => by simp only [am_set_nb (show (80 : Nat) ≠ 76 by decide), am_set_nb (show (80 : Nat) ≠ 77 by decide), am_set_nb (show (80 : Nat) ≠ 78 by decide), am_set_nb (show (80 : Nat) ≠ 79 by decide), am_set_at]
                        refine tt_loc [(0, vR 2), (1, vR 1), (2, vI 0), (4, vR 76), (5, vR 77), (6, vR 78), (7, vR 79), (8, vR 80), (9, vI (((n + 2 : Nat) : Int))), (10, vI (((kk : Nat) : Int))), (11, vI (((j + 1 : Nat) : Int)))] rfl rfl ⟨rfl, rfl, rfl, rfl, rfl, rfl, rfl, rfl, rfl, rfl, rfl, trivial⟩ ?_
                        exact ih1 (n + 2) (j + 1) _ (by omega) (Fr.put (Fr.put (Fr.put (Fr.put (Fr.tr Fr.rf hF_σa (by decide)) (by decide)) (by decide)) (by decide)) (by decide)) (by omega) (by omega) (TQ.sort hT (fun i hi => by rw [hE]; (repeat (first | rw [if_pos (by omega)] | rw [if_neg (by omega)])); (first | done | rfl | omega)) (by omega) (by rw [hE]; (repeat (first | rw [if_pos (by omega)] | rw [if_neg (by omega)])); (first | done | rfl | omega)) (by rw [hE]; (repeat (first | rw [if_pos (by omega)] | rw [if_neg (by omega)])); omega))
                    · refine tt_ar rfl ?_
                      refine tt_goto ?_
                      refine tt_iast ((n + 1)) ((congrArg (fun z => z.2.1[80]?) hF_σa.1).trans k80_σn) (by omega) (by omega) (by omega) ?_
                      refine tt_iinc (y := ((n + 2 : Nat) : Int)) rfl (iinc_fit (by omega) (by omega) (by omega)) ?_
                      refine tt_ar rfl ?_
                      refine tt_ar rfl ?_
                      refine tt_ar rfl ?_
                      refine tt_ar rfl ?_
                      refine tt_iald (j) (x := ((i17 : Nat) : Int)) ((congrArg (fun z => z.2.1[76]?) hF_σa.1).trans k76_σn) rfl (by omega) (@am_set_rd σa 76 (j) (((i17 : Nat) : Int))) ?_
                      refine tt_ar rfl ?_
                      refine tt_iclt (fun h5_8 => ?_) (fun h5_8 => ?_)
                      · refine tt_ar rfl ?_
                        refine tt_ar rfl ?_
                        refine tt_iald (j) (x := ((i17 : Nat) : Int)) ((congrArg (fun z => z.2.1[76]?) hF_σa.1).trans k76_σn) rfl (by omega) (@am_set_rd σa 76 (j) (((i17 : Nat) : Int))) ?_
                        refine tt_nop ?_
                        refine tt_iast (j) ((congrArg (fun z => z.2.1[76]?) hF_σa.1).trans k76_σn) (by omega) rfl (by omega) ?_
                        refine tt_iinc (y := ((j + 1 : Nat) : Int)) rfl (iinc_fit (by omega) (by omega) (by omega)) ?_
                        refine tt_goto ?_
                        have hE : ∀ z0, (am_set (am_set (am_set (am_set σa 76 (j) (((i17 : Nat) : Int))) 80 (n) (107)) 80 ((n + 1)) (45)) 76 (j) (((i17 : Nat) : Int))).1 80 z0 = (if z0 = (n + 1) then 45 else (if z0 = n then 107 else σa.1 80 z0)) := fun z0 => by simp only [am_set_nb (show (80 : Nat) ≠ 76 by decide), am_set_nb (show (80 : Nat) ≠ 77 by decide), am_set_nb (show (80 : Nat) ≠ 78 by decide), am_set_nb (show (80 : Nat) ≠ 79 by decide), am_set_at]
                        refine tt_loc [(0, vR 2), (1, vR 1), (2, vI 0), (4, vR 76), (5, vR 77), (6, vR 78), (7, vR 79), (8, vR 80), (9, vI (((n + 2 : Nat) : Int))), (10, vI (((kk : Nat) : Int))), (11, vI (((j + 1 : Nat) : Int)))] rfl rfl ⟨rfl, rfl, rfl, rfl, rfl, rfl, rfl, rfl, rfl, rfl, rfl, trivial⟩ ?_
                        exact ih1 (n + 2) (j + 1) _ (by omega) (Fr.put (Fr.put (Fr.put (Fr.put (Fr.tr Fr.rf hF_σa (by decide)) (by decide)) (by decide)) (by decide)) (by decide)) (by omega) (by omega) (TQ.sort hT (fun i hi => by rw [hE]; (repeat (first | rw [if_pos (by omega)] | rw [if_neg (by omega)])); (first | done | rfl | omega)) (by omega) (by rw [hE]; (repeat (first | rw [if_pos (by omega)] | rw [if_neg (by omega)])); (first | done | rfl | omega)) (by rw [hE]; (repeat (first | rw [if_pos (by omega)] | rw [if_neg (by omega)])); omega))
                      · refine tt_ar rfl ?_
                        refine tt_goto ?_
                        refine tt_iast (j) ((congrArg (fun z => z.2.1[76]?) hF_σa.1).trans k76_σn) (by omega) rfl (by omega) ?_
                        refine tt_iinc (y := ((j + 1 : Nat) : Int)) rfl (iinc_fit (by omega) (by omega) (by omega)) ?_
                        refine tt_goto ?_
                        have hE : ∀ z0, (am_set (am_set (am_set (am_set σa 76 (j) (((i17 : Nat) : Int))) 80 (n) (107)) 80 ((n + 1)) (45)) 76 (j) ((-9))).1 80 z0 = (if z0 = (n + 1) then 45 else (if z0 = n then 107 else σa.1 80 z0)) := fun z0 => by simp only [am_set_nb (show (80 : Nat) ≠ 76 by decide), am_set_nb (show (80 : Nat) ≠ 77 by decide), am_set_nb (show (80 : Nat) ≠ 78 by decide), am_set_nb (show (80 : Nat) ≠ 79 by decide), am_set_at]
                        refine tt_loc [(0, vR 2), (1, vR 1), (2, vI 0), (4, vR 76), (5, vR 77), (6, vR 78), (7, vR 79), (8, vR 80), (9, vI (((n + 2 : Nat) : Int))), (10, vI (((kk : Nat) : Int))), (11, vI (((j + 1 : Nat) : Int)))] rfl rfl ⟨rfl, rfl, rfl, rfl, rfl, rfl, rfl, rfl, rfl, rfl, rfl, trivial⟩ ?_
                        exact ih1 (n + 2) (j + 1) _ (by omega) (Fr.put (Fr.put (Fr.put (Fr.put (Fr.tr Fr.rf hF_σa (by decide)) (by decide)) (by decide)) (by decide)) (by decide)) (by omega) (by omega) (TQ.sort hT (fun i hi => by rw [hE]; (repeat (first | rw [if_pos (by omega)] | rw [if_neg (by omega)])); (first | done | rfl | omega)) (by omega) (by rw [hE]; (repeat (first | rw [if_pos (by omega)] | rw [if_neg (by omega)])); (first | done | rfl | omega)) (by rw [hE]; (repeat (first | rw [if_pos (by omega)] | rw [if_neg (by omega)])); omega))
                · refine tt_ar rfl ?_
                  refine tt_goto ?_
                  refine tt_iast (j) ((congrArg (fun z => z.2.1[76]?) hF_σa.1).trans k76_σn) (by omega) rfl (by omega) ?_
                  refine tt_ar rfl ?_
                  refine tt_ar rfl ?_
                  refine tt_ar rfl ?_
                  refine tt_iast (n) ((congrArg (fun z => z.2.1[80]?) hF_σa.1).trans k80_σn) (by omega) rfl (by omega) ?_
                  refine tt_ar rfl ?_
                  refine tt_ar rfl ?_
                  refine tt_ar rfl ?_
                  refine tt_iadd (by omega) (by omega) ?_
                  refine tt_ar rfl ?_
                  refine tt_ar rfl ?_
                  refine tt_iald (j) (x := (-9)) ((congrArg (fun z => z.2.1[76]?) hF_σa.1).trans k76_σn) rfl (by omega) (@am_set_rd σa 76 (j) ((-9))) ?_
                  refine tt_ifge (fun h3_12 => ?_) (fun h3_12 => ?_)
                  · refine tt_ar rfl ?_
                    refine tt_ar rfl ?_
                    refine tt_ar rfl ?_
                    refine tt_iald (j) (x := (-9)) ((congrArg (fun z => z.2.1[76]?) hF_σa.1).trans k76_σn) rfl (by omega) (@am_set_rd σa 76 (j) ((-9))) ?_
                    refine tt_iadd (by omega) (by omega) ?_
                    refine tt_nop ?_
                    refine tt_iast ((n + 1)) ((congrArg (fun z => z.2.1[80]?) hF_σa.1).trans k80_σn) (by omega) (by omega) (by omega) ?_
                    refine tt_iinc (y := ((n + 2 : Nat) : Int)) rfl (iinc_fit (by omega) (by omega) (by omega)) ?_
                    refine tt_ar rfl ?_
                    refine tt_ar rfl ?_
                    refine tt_ar rfl ?_
                    refine tt_ar rfl ?_
                    refine tt_iald (j) (x := (-9)) ((congrArg (fun z => z.2.1[76]?) hF_σa.1).trans k76_σn) rfl (by omega) (@am_set_rd σa 76 (j) ((-9))) ?_
                    refine tt_ar rfl ?_
                    refine tt_iclt (fun h5_8 => ?_) (fun h5_8 => ?_)
                    · refine tt_ar rfl ?_
                      refine tt_ar rfl ?_
                      refine tt_iald (j) (x := (-9)) ((congrArg (fun z => z.2.1[76]?) hF_σa.1).trans k76_σn) rfl (by omega) (@am_set_rd σa 76 (j) ((-9))) ?_
                      refine tt_nop ?_
                      refine tt_iast (j) ((congrArg (fun z => z.2.1[76]?) hF_σa.1).trans k76_σn) (by omega) rfl (by omega) ?_
                      refine tt_iinc (y := ((j + 1 : Nat) : Int)) rfl (iinc_fit (by omega) (by omega) (by omega)) ?_
                      refine tt_goto ?_
                      have hE : ∀ z0, (am_set (am_set (am_set (am_set σa 76 (j) ((-9))) 80 (n) (107)) 80 ((n + 1)) ((48 + (-9)))) 76 (j) ((-9))).1 80 z0 = (if z0 = (n + 1) then (48 + (-9)) else (if z0 = n then 107 else σa.1 80 z0)) := fun z0 => by simp only [am_set_nb (show (80 : Nat) ≠ 76 by decide), am_set_nb (show (80 : Nat) ≠ 77 by decide), am_set_nb (show (80 : Nat) ≠ 78 by decide), am_set_nb (show (80 : Nat) ≠ 79 by decide), am_set_at]
                      refine tt_loc [(0, vR 2), (1, vR 1), (2, vI 0), (4, vR 76), (5, vR 77), (6, vR 78), (7, vR 79), (8, vR 80), (9, vI (((n + 2 : Nat) : Int))), (10, vI (((kk : Nat) : Int))), (11, vI (((j + 1 : Nat) : Int)))] rfl rfl ⟨rfl, rfl, rfl, rfl, rfl, rfl, rfl, rfl, rfl, rfl, rfl, trivial⟩ ?_
                      exact ih1 (n + 2) (j + 1) _ (by omega) (Fr.put (Fr.put (Fr.put (Fr.put (Fr.tr Fr.rf hF_σa (by decide)) (by decide)) (by decide)) (by decide)) (by decide)) (by omega) (by omega) (TQ.sort hT (fun i hi => by rw [hE]; (repeat (first | rw [if_pos (by omega)] | rw [if_neg (by omega)])); (first | done | rfl | omega)) (by omega) (by rw [hE]; (repeat (first | rw [if_pos (by omega)] | rw [if_neg (by omega)])); (first | done | rfl | omega)) (by rw [hE]; (repeat (first | rw [if_pos (by omega)] | rw [if_neg (by omega)])); omega))
                    · refine tt_ar rfl ?_
                      refine tt_goto ?_
                      refine tt_iast (j) ((congrArg (fun z => z.2.1[76]?) hF_σa.1).trans k76_σn) (by omega) rfl (by omega) ?_
                      refine tt_iinc (y := ((j + 1 : Nat) : Int)) rfl (iinc_fit (by omega) (by omega) (by omega)) ?_
                      refine tt_goto ?_
                      have hE : ∀ z0, (am_set (am_set (am_set (am_set σa 76 (j) ((-9))) 80 (n) (107)) 80 ((n + 1)) ((48 + (-9)))) 76 (j) ((-9))).1 80 z0 = (if z0 = (n + 1) then (48 + (-9)) else (if z0 = n then 107 else σa.1 80 z0)) := fun z0 => by simp only [am_set_nb (show (80 : Nat) ≠ 76 by decide), am_set_nb (show (80 : Nat) ≠ 77 by decide), am_set_nb (show (80 : Nat) ≠ 78 by decide), am_set_nb (show (80 : Nat) ≠ 79 by decide), am_set_at]
                      refine tt_loc [(0, vR 2), (1, vR 1), (2, vI 0), (4, vR 76), (5, vR 77), (6, vR 78), (7, vR 79), (8, vR 80), (9, vI (((n + 2 : Nat) : Int))), (10, vI (((kk : Nat) : Int))), (11, vI (((j + 1 : Nat) : Int)))] rfl rfl ⟨rfl, rfl, rfl, rfl, rfl, rfl, rfl, rfl, rfl, rfl, rfl, trivial⟩ ?_
                      exact ih1 (n + 2) (j + 1) _ (by omega) (Fr.put (Fr.put (Fr.put (Fr.put (Fr.tr Fr.rf hF_σa (by decide)) (by decide)) (by decide)) (by decide)) (by decide)) (by omega) (by omega) (TQ.sort hT (fun i hi => by rw [hE]; (repeat (first | rw [if_pos (by omega)] | rw [if_neg (by omega)])); (first | done | rfl | omega)) (by omega) (by rw [hE]; (repeat (first | rw [if_pos (by omega)] | rw [if_neg (by omega)])); (first | done | rfl | omega)) (by rw [hE]; (repeat (first | rw [if_pos (by omega)] | rw [if_neg (by omega)])); omega))
                  · refine tt_ar rfl ?_
                    refine tt_goto ?_
                    refine tt_iast ((n + 1)) ((congrArg (fun z => z.2.1[80]?) hF_σa.1).trans k80_σn) (by omega) (by omega) (by omega) ?_
                    refine tt_iinc (y := ((n + 2 : Nat) : Int)) rfl (iinc_fit (by omega) (by omega) (by omega)) ?_
                    refine tt_ar rfl ?_
                    refine tt_ar rfl ?_
                    refine tt_ar rfl ?_
                    refine tt_ar rfl ?_
                    refine tt_iald (j) (x := (-9)) ((congrArg (fun z => z.2.1[76]?) hF_σa.1).trans k76_σn) rfl (by omega) (@am_set_rd σa 76 (j) ((-9))) ?_
                    refine tt_ar rfl ?_
                    refine tt_iclt (fun h5_8 => ?_) (fun h5_8 => ?_)
                    · refine tt_ar rfl ?_
                      refine tt_ar rfl ?_
                      refine tt_iald (j) (x := (-9)) ((congrArg (fun z => z.2.1[76]?) hF_σa.1).trans k76_σn) rfl (by omega) (@am_set_rd σa 76 (j) ((-9))) ?_
                      refine tt_nop ?_
                      refine tt_iast (j) ((congrArg (fun z => z.2.1[76]?) hF_σa.1).trans k76_σn) (by omega) rfl (by omega) ?_
                      refine tt_iinc (y := ((j + 1 : Nat) : Int)) rfl (iinc_fit (by omega) (by omega) (by omega)) ?_
                      refine tt_goto ?_
                      have hE : ∀ z0, (am_set (am_set (am_set (am_set σa 76 (j) ((-9))) 80 (n) (107)) 80 ((n + 1)) (45)) 76 (j) ((-9))).1 80 z0 = (if z0 = (n + 1) then 45 else (if z0 = n then 107 else σa.1 80 z0)) := fun z0 => by simp only [am_set_nb (show (80 : Nat) ≠ 76 by decide), am_set_nb (show (80 : Nat) ≠ 77 by decide), am_set_nb (show (80 : Nat) ≠ 78 by decide), am_set_nb (show (80 : Nat) ≠ 79 by decide), am_set_at]
                      refine tt_loc [(0, vR 2), (1, vR 1), (2, vI 0), (4, vR 76), (5, vR 77), (6, vR 78), (7, vR 79), (8, vR 80), (9, vI (((n + 2 : Nat) : Int))), (10, vI (((kk : Nat) : Int))), (11, vI (((j + 1 : Nat) : Int)))] rfl rfl ⟨rfl, rfl, rfl, rfl, rfl, rfl, rfl, rfl, rfl, rfl, rfl, trivial⟩ ?_
                      exact ih1 (n + 2) (j + 1) _ (by omega) (Fr.put (Fr.put (Fr.put (Fr.put (Fr.tr Fr.rf hF_σa (by decide)) (by decide)) (by decide)) (by decide)) (by decide)) (by omega) (by omega) (TQ.sort hT (fun i hi => by rw [hE]; (repeat (first | rw [if_pos (by omega)] | rw [if_neg (by omega)])); (first | done | rfl | omega)) (by omega) (by rw [hE]; (repeat (first | rw [if_pos (by omega)] | rw [if_neg (by omega)])); (first | done | rfl | omega)) (by rw [hE]; (repeat (first | rw [if_pos (by omega)] | rw [if_neg (by omega)])); omega))
                    · refine tt_ar rfl ?_
                      refine tt_goto ?_
                      refine tt_iast (j) ((congrArg (fun z => z.2.1[76]?) hF_σa.1).trans k76_σn) (by omega) rfl (by omega) ?_
                      refine tt_iinc (y := ((j + 1 : Nat) : Int)) rfl (iinc_fit (by omega) (by omega) (by omega)) ?_
                      refine tt_goto ?_
                      have hE : ∀ z0, (am_set (am_set (am_set (am_set σa 76 (j) ((-9))) 80 (n) (107)) 80 ((n + 1)) (45)) 76 (j) ((-9))).1 80 z0 = (if z0 = (n + 1) then 45 else (if z0 = n then 107 else σa.1 80 z0)) := fun z0 => by simp only [am_set_nb (show (80 : Nat) ≠ 76 by decide), am_set_nb (show (80 : Nat) ≠ 77 by decide), am_set_nb (show (80 : Nat) ≠ 78 by decide), am_set_nb (show (80 : Nat) ≠ 79 by decide), am_set_at]
                      refine tt_loc [(0, vR 2), (1, vR 1), (2, vI 0), (4, vR 76), (5, vR 77), (6, vR 78), (7, vR 79), (8, vR 80), (9, vI (((n + 2 : Nat) : Int))), (10, vI (((kk : Nat) : Int))), (11, vI (((j + 1 : Nat) : Int)))] rfl rfl ⟨rfl, rfl, rfl, rfl, rfl, rfl, rfl, rfl, rfl, rfl, rfl, trivial⟩ ?_
                      exact ih1 (n + 2) (j + 1) _ (by omega) (Fr.put (Fr.put (Fr.put (Fr.put (Fr.tr Fr.rf hF_σa (by decide)) (by decide)) (by decide)) (by decide)) (by decide)) (by omega) (by omega) (TQ.sort hT (fun i hi => by rw [hE]; (repeat (first | rw [if_pos (by omega)] | rw [if_neg (by omega)])); (first | done | rfl | omega)) (by omega) (by rw [hE]; (repeat (first | rw [if_pos (by omega)] | rw [if_neg (by omega)])); (first | done | rfl | omega)) (by rw [hE]; (repeat (first | rw [if_pos (by omega)] | rw [if_neg (by omega)])); omega))
      refine tt_loc [(0, vR 2), (1, vR 1), (2, vI 0), (4, vR 76), (5, vR 77), (6, vR 78), (7, vR 79), (8, vR 80), (9, vI (((0 : Nat) : Int))), (10, vI (((kk : Nat) : Int))), (11, vI (((0 : Nat) : Int)))] rfl rfl ⟨rfl, rfl, rfl, rfl, rfl, rfl, rfl, rfl, lv_to rfl (by omega), rfl, lv_to rfl (by omega), trivial⟩ ?_
      exact lp1_1 _ (0) (0) σn (Nat.lt_succ_self _) Fr.rf (by omega) (by omega) TQ.nil

