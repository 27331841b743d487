/-! THE LAW'S MONDAYS -/
/-- all but some rows of the law's own is as it was of world, households, law -/
def LF (W : List Nat) (σ σ' : am_S) : Prop := (Wd σ → Wd σ') ∧ LK σ.2.2.1 σ'.2.2.1 ∧ ∀ a, (a < 2 ∨ (5 ≤ a ∧ a ≤ 9) ∨ (18 ≤ a ∧ a ≤ 26) ∨ (76 ≤ a ∧ a ∉ W ∧ ∃ n, σ.2.2.1[a]? = some (.inl .int, n))) → ∀ j, σ'.1 a j = σ.1 a j
theorem LF.rf {W : List Nat} {σ : am_S} : LF W σ σ := ⟨fun h => h, LK.rf, fun _ _ _ => rfl⟩
theorem LF.qc {W : List Nat} {σ σ' : am_S} (h : QC σ σ') : LF W σ σ' := ⟨h.1, h.2.1, fun a ha => h.2.2 a (ha.imp id (Or.imp id (Or.imp id (fun q => ⟨q.1, q.2.2⟩))))⟩
theorem LF.fr {W : List Nat} {σ σ' : am_S} (h : Fr W σ σ') (hw : ∀ a ∈ W, 76 ≤ a) : LF W σ σ' := ⟨h.wd, LK.eq (by rw [h.1]), fun a ha => h.2 a (fun e => by
  have := hw a e
  rcases ha with q | q | q | q
  · omega
  · omega
  · omega
  · exact q.2.1 e)⟩
theorem LF.tr {W : List Nat} {σ σ' σ'' : am_S} (h : LF W σ σ') (h2 : LF W σ' σ'') : LF W σ σ'' := ⟨fun q => h2.1 (h.1 q), h.2.1.tr h2.2.1, fun a ha j => (h2.2.2 a (ha.imp id (Or.imp id (Or.imp id (fun q => ⟨q.1, q.2.1, q.2.2.choose, h.2.1.1 _ _ q.2.2.choose_spec⟩)))) j).trans (h.2.2 a ha j)⟩
theorem kq {bs : List (List am_I)} {is : List am_I} {l : am_Lc} {st : List am_V} {σ : am_S} {Q : Option am_V → am_S → Prop} {u : am_V} (K : TT bs is l (u :: st) σ Q) : ∀ r σ1, (σ1 = σ ∧ r = some u) → TT bs is l (r.toList ++ st) σ1 Q := by
  rintro r σ1 ⟨h, rfl⟩
  rw [h]
  exact K
theorem c177 (σ : am_S) (L : Nat) (xs : Nat → Int32) (k ns pM pH : Nat) (D : Nat → Nat → Int) (hCI : CI k 0 ns D σ) (hk : 1 ≤ k ∧ k ≤ 3) (hS : Sc L xs σ) (hL : L ≤ 260) (hpM : 80 < pM) (hpH : pH = σ.2.2.1.length) (k77 : σ.2.2.1[77]? = some (.inl .int, 24)) (k78 : σ.2.2.1[78]? = some (.inl .int, 24)) (k79 : σ.2.2.1[79]? = some (.inl .int, 6)) (kpM : σ.2.2.1[pM]? = some (.inl .int, 40)) (hM : ∀ i, i < 24 → 0 ≤ σ.1 77 i ∧ σ.1 77 i ≤ σ.1 78 i ∧ σ.1 78 i ≤ 4) : CC 177 [vR 2, vR 1, vI 8, vI 4, vI (((k : Nat) : Int)), vR 77, vR 78, vR 79, vR pM] σ (fun r σ' => ∃ mm : Nat, (1 ≤ mm ∧ mm ≤ 4) ∧ r = some (vI (mm : Int)) ∧ CI k mm ns D σ' ∧ (∀ a, ((5 ≤ a ∧ a ≤ 9) ∨ (18 ≤ a ∧ a ≤ 26) ∨ (76 ≤ a ∧ a ≠ pM ∧ ∃ n, σ.2.2.1[a]? = some (.inl .int, n))) → ∀ j, σ'.1 a j = σ.1 a j) ∧ Sc L xs σ' ∧ LX 1 64 σ.2.2.1 σ'.2.2.1) := by
  show TT am_b177 (am_b177.getD 0 []) [(0, vR 2), (1, vR 1), (2, vI 8), (3, vI 4), (4, vI (((k : Nat) : Int))), (5, vR 77), (6, vR 78), (7, vR 79), (8, vR pM)] [] σ _
  have hW := hCI.w
  refine tt_ar rfl ?_
  refine tt_cs1 1 rfl (c176 σ k pH (by omega) hCI.w hpH) ?_
  intro r1 σ1 hq1
  obtain ⟨rfl, e2, eo, h63, hHo⟩ := hq1
  have hpl : pM < pH := by rw [hpH]; exact (List.getElem?_eq_some_iff.mp kpM).1
  have hLn : LX 1 64 σ.2.2.1 σ1.2.2.1 := by rw [show σ1.2.2.1 = (am_new σ (.inl .int, 64)).2.2.1 from by rw [e2]]; exact LX.new
  have kpH_σ1 : σ1.2.2.1[pH]? = some (.inl .int, 64) := by rw [show σ1.2.2.1 = σ.2.2.1 ++ [(.inl .int, 64)] from by rw [e2]; rfl, hpH, List.getElem?_append_right (Nat.le_refl _), Nat.sub_self]; rfl
  have k77_σ1 : σ1.2.2.1[77]? = some (.inl .int, 24) := hLn.1 _ _ k77
  have k78_σ1 : σ1.2.2.1[78]? = some (.inl .int, 24) := hLn.1 _ _ k78
  have k79_σ1 : σ1.2.2.1[79]? = some (.inl .int, 6) := hLn.1 _ _ k79
  have kpM_σ1 : σ1.2.2.1[pM]? = some (.inl .int, 40) := hLn.1 _ _ kpM
  have hF1 : Fr [pH] (am_new σ (.inl .int, 64)) σ1 := ⟨e2, fun a ha j => by have ha : a ≠ pH := (by simpa using ha); rw [eo a ha]; exact (if_neg (c := a = σ.2.2.1.length) (fun e => ha (e.trans hpH.symm))).symm⟩
  have hC1 : CI k 0 ns D σ1 := hCI.new.law hF1 (fun a ha => by have ha : a = pH := (by simpa using ha); subst ha; exact ⟨by omega, 64, by rw [show (am_new σ (.inl .int, 64)).2.2.1 = σ1.2.2.1 from by rw [e2]]; exact kpH_σ1⟩)
  have hS1 : Sc L xs σ1 := ⟨fun j => (eo 1 (by omega) j).trans (hS.1 j), hLn.1 _ _ hS.2⟩
  have hM1 : ∀ i, i < 24 → 0 ≤ σ1.1 77 i ∧ σ1.1 77 i ≤ σ1.1 78 i ∧ σ1.1 78 i ≤ 4 := fun i hi => by rw [eo 77 (by omega), eo 78 (by omega)]; exact hM i hi
  have hN := (by decide : ∀ k, k < 4 → 1 ≤ nkT k ∧ nkT k ≤ 56) k (by omega)
  · refine tt_ar rfl ?_
    refine tt_ar rfl ?_
    refine tt_ar rfl ?_
    refine tt_ar rfl ?_
    refine tt_cs2 2 rfl (c173' σ1 L xs hS1 hL (8) (by omega) _ (by omega)) (kxI (fun xc1 hxc1 => ?_))
    · refine tt_ar rfl ?_
      refine tt_cs2 2 rfl (c172 σ1 _ _ (by omega)) (kx (fun i1 hi1 => ?_))
      · refine tt_iadd (by omega) (by omega) ?_
        refine tt_ar rfl ?_
        refine tt_ar rfl ?_
        refine tt_ar rfl ?_
        refine tt_ar rfl ?_
        refine tt_cs2 2 rfl (c173' σ1 L xs hS1 hL (8) (by omega) _ (by omega)) (kxI (fun xc2 hxc2 => ?_))
        · refine tt_ar rfl ?_
          refine tt_bI (g := a_shr) (z := a_shr (xc2) (4)) rfl rfl ?_
          refine tt_ar rfl ?_
          refine tt_ar rfl ?_
          refine tt_iald (63) (x := ((nkT k : Nat) : Int)) kpH_σ1 (by omega) (by omega) h63 ?_
          refine tt_cs2 2 rfl (c172 σ1 _ _ (by omega)) (kx (fun i2 hi2 => ?_))
          · obtain ⟨hA, bA, eA⟩ := hHo (i2) (by omega)
            have tA : tb k hA < 1000 := by have := (en_at (show k ≤ 6 by omega) bA).1; rcases (show k = 1 ∨ k = 2 ∨ k = 3 by omega) with rfl | rfl | rfl <;> omega
            refine tt_iald (i2) (x := ((tb k hA : Nat) : Int)) kpH_σ1 (by omega) (by omega) eA ?_
            refine tt_ar rfl ?_
            refine tt_ar rfl ?_
            refine tt_ar rfl ?_
            obtain ⟨mm, hmm, hm14⟩ : ∃ mm : Nat, (1 + ((i1 : Nat) : Int)) = (mm : Int) ∧ (1 ≤ mm ∧ mm ≤ 4) := ⟨((1 + ((i1 : Nat) : Int))).toNat, by omega, by omega⟩
            refine tt_loc [(0, vR 2), (1, vR 1), (2, vI 8), (5, vR 77), (6, vR 78), (7, vR 79), (8, vR pM), (9, vR pH), (10, vI (((mm : Nat) : Int))), (11, vI (((tb k hA : Nat) : Int))), (12, vI 0)] rfl rfl ⟨rfl, rfl, rfl, rfl, rfl, rfl, rfl, rfl, lv_to rfl hmm, rfl, rfl, trivial⟩ ?_
            refine tt_nop ?_
            have lp1_1 : ∀ (μ : Nat) (m : Nat) (u : Nat) (σm : am_S), mm - m < μ → (m ≤ mm) → (u < 1000) → (CI k m ns D σm) → (LF [pM] σ1 σm) → TT am_b177 (am_b177.getD 1 []) [(0, vR 2), (1, vR 1), (2, vI 8), (5, vR 77), (6, vR 78), (7, vR 79), (8, vR pM), (9, vR pH), (10, vI (((mm : Nat) : Int))), (11, vI (((u : Nat) : Int))), (12, vI (((m : Nat) : Int)))] [] σm (fun r σ' => ∃ mm : Nat, (1 ≤ mm ∧ mm ≤ 4) ∧ r = some (vI (mm : Int)) ∧ CI k mm ns D σ' ∧ (∀ a, ((5 ≤ a ∧ a ≤ 9) ∨ (18 ≤ a ∧ a ≤ 26) ∨ (76 ≤ a ∧ a ≠ pM ∧ ∃ n, σ.2.2.1[a]? = some (.inl .int, n))) → ∀ j, σ'.1 a j = σ.1 a j) ∧ Sc L xs σ' ∧ LX 1 64 σ.2.2.1 σ'.2.2.1) := by
              intro μ
              induction μ with
              | zero => intro m u σm hμ; exact absurd hμ (Nat.not_lt_zero _)
              | succ μ ih1 =>
                intro m u σm hμ hm hu hCm hLm
                have hL_σm := hLm
                have k77_σm : σm.2.2.1[77]? = some (.inl .int, 24) := hL_σm.2.1.1 _ _ k77_σ1
                have k78_σm : σm.2.2.1[78]? = some (.inl .int, 24) := hL_σm.2.1.1 _ _ k78_σ1
                have k79_σm : σm.2.2.1[79]? = some (.inl .int, 6) := hL_σm.2.1.1 _ _ k79_σ1
                have kpM_σm : σm.2.2.1[pM]? = some (.inl .int, 40) := hL_σm.2.1.1 _ _ kpM_σ1
                have kpH_σm : σm.2.2.1[pH]? = some (.inl .int, 64) := hL_σm.2.1.1 _ _ kpH_σ1
                have a77_σm : ∀ j, σm.1 77 j = σ1.1 77 j := hL_σm.2.2 77 (Or.inr (Or.inr (Or.inr ⟨by omega, by simp only [List.mem_cons, List.not_mem_nil, or_false]; omega, _, k77_σ1⟩)))
                have a78_σm : ∀ j, σm.1 78 j = σ1.1 78 j := hL_σm.2.2 78 (Or.inr (Or.inr (Or.inr ⟨by omega, by simp only [List.mem_cons, List.not_mem_nil, or_false]; omega, _, k78_σ1⟩)))
                have a79_σm : ∀ j, σm.1 79 j = σ1.1 79 j := hL_σm.2.2 79 (Or.inr (Or.inr (Or.inr ⟨by omega, by simp only [List.mem_cons, List.not_mem_nil, or_false]; omega, _, k79_σ1⟩)))
                have apH_σm : ∀ j, σm.1 pH j = σ1.1 pH j := hL_σm.2.2 pH (Or.inr (Or.inr (Or.inr ⟨by omega, by simp only [List.mem_cons, List.not_mem_nil, or_false]; omega, _, kpH_σ1⟩)))
                have hS_σm : Sc L xs σm := ⟨fun j => (hL_σm.2.2 1 (Or.inl (by omega)) j).trans (hS1.1 j), hL_σm.2.1.1 _ _ hS1.2⟩
                have hM_σm : ∀ i, i < 24 → 0 ≤ σm.1 77 i ∧ σm.1 77 i ≤ σm.1 78 i ∧ σm.1 78 i ≤ 4 := fun i hi => by rw [a77_σm, a78_σm]; exact hM1 i hi
                refine tt_ar rfl ?_
                refine tt_ar rfl ?_
                refine tt_icge (fun h1_2 => ?_) (fun h1_2 => ?_)
                · refine tt_ar rfl ?_
                  refine tt_iret ?_
                  have em : m = mm := by omega
                  subst em
                  refine ⟨m, hm14, rfl, hCm, fun a ha j => ?_, hS_σm, hLn.tr (LX.lk hL_σm.2.1)⟩
                  have hap : a ≠ pH := fun e => by
                    rcases ha with q | q | ⟨q1, q2, z, hz⟩
                    · omega
                    · omega
                    · have := (List.getElem?_eq_some_iff.mp hz).1; omega
                  rw [← eo a hap j]
                  refine hL_σm.2.2 a ?_ j
                  rcases ha with q | q | ⟨q1, q2, z, hz⟩
                  · exact Or.inr (Or.inl q)
                  · exact Or.inr (Or.inr (Or.inl q))
                  · exact Or.inr (Or.inr (Or.inr ⟨q1, by simpa using q2, z, hLn.1 _ _ hz⟩))
                · refine tt_ar rfl ?_
                  refine tt_ar rfl ?_
                  refine tt_ar rfl ?_
                  refine tt_bI (g := fun a b => w32 (a + b)) (z := 9) rfl rfl ?_
                  refine tt_ar rfl ?_
                  refine tt_iadd (by omega) (by omega) ?_
                  refine tt_cs2 2 rfl (c173' σm L xs hS_σm hL ((9 + m)) (by omega) _ (by omega)) (kxI (fun xc3 hxc3 => ?_))
                  · refine tt_ar rfl ?_
                    have lp8_2 : ∀ (u : Nat) (σr : am_S), (u < 1000) → (CI k m ns D σr) → (LF [pM] σ1 σr) → (0 ≤ σr.1 pM (10 * m) ∧ σr.1 pM (10 * m) ≤ 1) → (0 ≤ σr.1 pM (10 * m + 1) ∧ σr.1 pM (10 * m + 1) ≤ 9) → (σr.1 64 1 = 8) → TT am_b177 (am_b177.getD 8 []) [(0, vR 2), (1, vR 1), (2, vI 8), (5, vR 77), (6, vR 78), (7, vR 79), (8, vR pM), (9, vR pH), (10, vI (((mm : Nat) : Int))), (11, vI (((u : Nat) : Int))), (12, vI (((m : Nat) : Int))), (13, vI (xc3))] [] σr (fun r σ' => ∃ mm : Nat, (1 ≤ mm ∧ mm ≤ 4) ∧ r = some (vI (mm : Int)) ∧ CI k mm ns D σ' ∧ (∀ a, ((5 ≤ a ∧ a ≤ 9) ∨ (18 ≤ a ∧ a ≤ 26) ∨ (76 ≤ a ∧ a ≠ pM ∧ ∃ n, σ.2.2.1[a]? = some (.inl .int, n))) → ∀ j, σ'.1 a j = σ.1 a j) ∧ Sc L xs σ' ∧ LX 1 64 σ.2.2.1 σ'.2.2.1) := by
                      intro u σr hu hCr hLr hw hd h64
                      have hL_σr := hLr
                      have k77_σr : σr.2.2.1[77]? = some (.inl .int, 24) := hL_σr.2.1.1 _ _ k77_σ1
                      have k78_σr : σr.2.2.1[78]? = some (.inl .int, 24) := hL_σr.2.1.1 _ _ k78_σ1
                      have k79_σr : σr.2.2.1[79]? = some (.inl .int, 6) := hL_σr.2.1.1 _ _ k79_σ1
                      have kpM_σr : σr.2.2.1[pM]? = some (.inl .int, 40) := hL_σr.2.1.1 _ _ kpM_σ1
                      have kpH_σr : σr.2.2.1[pH]? = some (.inl .int, 64) := hL_σr.2.1.1 _ _ kpH_σ1
                      have a77_σr : ∀ j, σr.1 77 j = σ1.1 77 j := hL_σr.2.2 77 (Or.inr (Or.inr (Or.inr ⟨by omega, by simp only [List.mem_cons, List.not_mem_nil, or_false]; omega, _, k77_σ1⟩)))
                      have a78_σr : ∀ j, σr.1 78 j = σ1.1 78 j := hL_σr.2.2 78 (Or.inr (Or.inr (Or.inr ⟨by omega, by simp only [List.mem_cons, List.not_mem_nil, or_false]; omega, _, k78_σ1⟩)))
                      have a79_σr : ∀ j, σr.1 79 j = σ1.1 79 j := hL_σr.2.2 79 (Or.inr (Or.inr (Or.inr ⟨by omega, by simp only [List.mem_cons, List.not_mem_nil, or_false]; omega, _, k79_σ1⟩)))
                      have apH_σr : ∀ j, σr.1 pH j = σ1.1 pH j := hL_σr.2.2 pH (Or.inr (Or.inr (Or.inr ⟨by omega, by simp only [List.mem_cons, List.not_mem_nil, or_false]; omega, _, kpH_σ1⟩)))
                      have hS_σr : Sc L xs σr := ⟨fun j => (hL_σr.2.2 1 (Or.inl (by omega)) j).trans (hS1.1 j), hL_σr.2.1.1 _ _ hS1.2⟩
                      have hM_σr : ∀ i, i < 24 → 0 ≤ σr.1 77 i ∧ σr.1 77 i ≤ σr.1 78 i ∧ σr.1 78 i ≤ 4 := fun i hi => by rw [a77_σr, a78_σr]; exact hM1 i hi
                      refine tt_ar rfl ?_
                      refine tt_ar rfl ?_
                      refine tt_nop ?_
                      have lp9_3 : ∀ (μ : Nat) (t : Nat) (σt : am_S), 8 - t < μ → (t ≤ 8) → (CI k m ns D σt) → (LF [pM] σ1 σt) → (0 ≤ σt.1 pM (10 * m) ∧ σt.1 pM (10 * m) ≤ 1) → (0 ≤ σt.1 pM (10 * m + 1) ∧ σt.1 pM (10 * m + 1) ≤ 9) → (σt.1 64 1 = 8) → (∀ i, i < t → 0 ≤ σt.1 65 i ∧ σt.1 65 i ≤ 40) → TT am_b177 (am_b177.getD 9 []) [(0, vR 2), (1, vR 1), (2, vI 8), (5, vR 77), (6, vR 78), (7, vR 79), (8, vR pM), (9, vR pH), (10, vI (((mm : Nat) : Int))), (11, vI (((u : Nat) : Int))), (12, vI (((m : Nat) : Int))), (13, vI (xc3)), (14, vI (((t : Nat) : Int)))] [] σt (fun r σ' => ∃ mm : Nat, (1 ≤ mm ∧ mm ≤ 4) ∧ r = some (vI (mm : Int)) ∧ CI k mm ns D σ' ∧ (∀ a, ((5 ≤ a ∧ a ≤ 9) ∨ (18 ≤ a ∧ a ≤ 26) ∨ (76 ≤ a ∧ a ≠ pM ∧ ∃ n, σ.2.2.1[a]? = some (.inl .int, n))) → ∀ j, σ'.1 a j = σ.1 a j) ∧ Sc L xs σ' ∧ LX 1 64 σ.2.2.1 σ'.2.2.1) := by
                        intro μ
                        induction μ with
                        | zero => intro t σt hμ; exact absurd hμ (Nat.not_lt_zero _)
                        | succ μ ih9 =>
                          intro t σt hμ ht hCt hLt hwt hdt h64t h65
                          have hL_σt := hLt
                          have k77_σt : σt.2.2.1[77]? = some (.inl .int, 24) := hL_σt.2.1.1 _ _ k77_σ1
                          have k78_σt : σt.2.2.1[78]? = some (.inl .int, 24) := hL_σt.2.1.1 _ _ k78_σ1
                          have k79_σt : σt.2.2.1[79]? = some (.inl .int, 6) := hL_σt.2.1.1 _ _ k79_σ1
                          have kpM_σt : σt.2.2.1[pM]? = some (.inl .int, 40) := hL_σt.2.1.1 _ _ kpM_σ1
                          have kpH_σt : σt.2.2.1[pH]? = some (.inl .int, 64) := hL_σt.2.1.1 _ _ kpH_σ1
                          have a77_σt : ∀ j, σt.1 77 j = σ1.1 77 j := hL_σt.2.2 77 (Or.inr (Or.inr (Or.inr ⟨by omega, by simp only [List.mem_cons, List.not_mem_nil, or_false]; omega, _, k77_σ1⟩)))
                          have a78_σt : ∀ j, σt.1 78 j = σ1.1 78 j := hL_σt.2.2 78 (Or.inr (Or.inr (Or.inr ⟨by omega, by simp only [List.mem_cons, List.not_mem_nil, or_false]; omega, _, k78_σ1⟩)))
                          have a79_σt : ∀ j, σt.1 79 j = σ1.1 79 j := hL_σt.2.2 79 (Or.inr (Or.inr (Or.inr ⟨by omega, by simp only [List.mem_cons, List.not_mem_nil, or_false]; omega, _, k79_σ1⟩)))
                          have apH_σt : ∀ j, σt.1 pH j = σ1.1 pH j := hL_σt.2.2 pH (Or.inr (Or.inr (Or.inr ⟨by omega, by simp only [List.mem_cons, List.not_mem_nil, or_false]; omega, _, kpH_σ1⟩)))
                          have hS_σt : Sc L xs σt := ⟨fun j => (hL_σt.2.2 1 (Or.inl (by omega)) j).trans (hS1.1 j), hL_σt.2.1.1 _ _ hS1.2⟩
                          have hM_σt : ∀ i, i < 24 → 0 ≤ σt.1 77 i ∧ σt.1 77 i ≤ σt.1 78 i ∧ σt.1 78 i ≤ 4 := fun i hi => by rw [a77_σt, a78_σt]; exact hM1 i hi
                          refine tt_ar rfl ?_
                          refine tt_ar rfl ?_
                          refine tt_icge (fun h9_2 => ?_) (fun h9_2 => ?_)
                          · refine tt_ar rfl ?_
                            refine tt_ar rfl ?_
                            refine tt_ar rfl ?_
                            refine tt_ar rfl ?_
                            refine tt_imul (by omega) (by omega) ?_
                            refine tt_iald ((10 * m)) (x := σt.1 pM ((10 * m))) kpM_σt (by omega) (by omega) rfl ?_
                            refine tt_ar rfl ?_
                            refine tt_ar rfl ?_
                            refine tt_ar rfl ?_
                            refine tt_ar rfl ?_
                            refine tt_imul (by omega) (by omega) ?_
                            refine tt_ar rfl ?_
                            refine tt_iadd (by omega) (by omega) ?_
                            refine tt_iald (((10 * m) + 1)) (x := σt.1 pM (((10 * m) + 1))) kpM_σt (by omega) (by omega) rfl ?_
                            have e8 : t = 8 := by omega
                            subst e8
                            have h27t := hCt.x.2.2.1.1
                            refine tt_cv4 4 rfl (wo_2 hCt.w) (c61 σt k m ns D hCt (σt.1 pM ((10 * m))) 4 (σt.1 pM (((10 * m) + 1)))) ?_
                            intro r7 σ7 hq7
                            rw [show x_monday σt (σt.1 pM ((10 * m))) 4 (σt.1 pM (((10 * m) + 1))) = (vI (m : Int), upM (σt.1 pM ((10 * m))) (σt.1 pM (((10 * m) + 1))) 65 σt) from by unfold x_monday; rw [if_pos (by omega), if_neg (show ¬ σt.1 (56 + 2 * Int.toNat 4) 1 < 0 from by show ¬ σt.1 64 1 < 0; omega), if_pos (show σt.1 (56 + 2 * Int.toNat 4) 1 = 8 from h64t), if_pos (show ∀ j, j < 8 → 0 ≤ σt.1 (57 + 2 * Int.toNat 4) j ∧ σt.1 (57 + 2 * Int.toNat 4) j ≤ 40 from h65), if_pos (by omega), h27t]; rfl] at hq7
                            obtain ⟨nm7, hC7, rfl, hE7, hQ7⟩ := hq7
                            have z27 : σ7.1 27 0 = (m : Int) + 1 := (hE7 27 0 (by unfold bcP; omega)).trans ((show (upM _ _ 65 σt).1 27 0 = σt.1 27 0 + 1 from rfl).trans (by rw [h27t]))
                            have hnm : nm7 = m + 1 := by have := hC7.x.2.2.1.1; omega
                            have hC8 : CI k (m + 1) ns D σ7 := hnm ▸ hC7
                            · refine tt_ar rfl ?_
                              refine tt_iceq (fun h18_16 => ?_) (fun h18_16 => ?_)
                              · refine tt_iinc (y := ((m + 1 : Nat) : Int)) rfl (iinc_fit (by omega) (by omega) (by omega)) ?_
                                refine tt_goto ?_
                                refine tt_loc [(0, vR 2), (1, vR 1), (2, vI 8), (5, vR 77), (6, vR 78), (7, vR 79), (8, vR pM), (9, vR pH), (10, vI (((mm : Nat) : Int))), (11, vI (((u : Nat) : Int))), (12, vI (((m + 1 : Nat) : Int)))] rfl rfl ⟨rfl, rfl, rfl, rfl, rfl, rfl, rfl, rfl, rfl, rfl, rfl, trivial⟩ ?_
                                exact ih1 (m + 1) (u) σ7 (by omega) (by omega) hu hC8 (hL_σt.tr (LF.qc hQ7))
                              · exfalso; omega
                          · have b77 := smV_bd (L := σt.1 77) (v := u) (x := t) (fun i hi => by have := hM_σt i hi; omega) hu (by omega)
                            have b78 := smV_bd (L := σt.1 78) (v := u) (x := t) (fun i hi => by have := hM_σt i hi; omega) hu (by omega)
                            have b7 := smV_le (L := σt.1 77) (M := σt.1 78) (v := u) (x := t) (fun i hi => (hM_σt i hi).2.1) (by omega)
                            have lp16_4 : ∀ (g : Int), (0 ≤ g ∧ g ≤ 40) → TT am_b177 (am_b177.getD 16 []) [(0, vR 2), (1, vR 1), (2, vI 8), (5, vR 77), (6, vR 78), (7, vR 79), (8, vR pM), (9, vR pH), (10, vI (((mm : Nat) : Int))), (11, vI (((u : Nat) : Int))), (12, vI (((m : Nat) : Int))), (13, vI (xc3)), (14, vI (((t : Nat) : Int)))] [vI (g)] σt (fun r σ' => ∃ mm : Nat, (1 ≤ mm ∧ mm ≤ 4) ∧ r = some (vI (mm : Int)) ∧ CI k mm ns D σ' ∧ (∀ a, ((5 ≤ a ∧ a ≤ 9) ∨ (18 ≤ a ∧ a ≤ 26) ∨ (76 ≤ a ∧ a ≠ pM ∧ ∃ n, σ.2.2.1[a]? = some (.inl .int, n))) → ∀ j, σ'.1 a j = σ.1 a j) ∧ Sc L xs σ' ∧ LX 1 64 σ.2.2.1 σ'.2.2.1) := by
                              intro g hg
                              refine tt_ar rfl ?_
                              refine tt_ar rfl ?_
                              refine tt_ar rfl ?_
                              refine tt_ar rfl ?_
                              refine tt_imul (by omega) (by omega) ?_
                              refine tt_ar rfl ?_
                              refine tt_iadd (by omega) (by omega) ?_
                              refine tt_ar rfl ?_
                              refine tt_iadd (by omega) (by omega) ?_
                              refine tt_ar rfl ?_
                              refine tt_iast ((((10 * m) + 2) + t)) kpM_σt (by omega) (by omega) (by omega) ?_
                              refine tt_ar rfl ?_
                              refine tt_ar rfl ?_
                              refine tt_ar rfl ?_
                              refine tt_ar rfl ?_
                              have hFx : Fr [pM] σt (am_set σt pM ((((10 * m) + 2) + t)) (g)) := (Fr.put Fr.rf (by simp))
                              have hCx : CI k m ns D (am_set σt pM ((((10 * m) + 2) + t)) (g)) := hCt.law hFx (fun a ha => by have ha : a = pM := (by simpa using ha); subst ha; exact ⟨by omega, _, kpM_σt⟩)
                              have hLx : LF [pM] σ1 (am_set σt pM ((((10 * m) + 2) + t)) (g)) := hL_σt.tr (LF.fr hFx (fun a ha => by have ha : a = pM := (by simpa using ha); omega))
                              refine tt_cv4 4 rfl (wo_2 hCt.w) (c26 (am_set σt pM ((((10 * m) + 2) + t)) (g)) k m ns D hCx 4 (t : Int) g) ?_
                              intro r6 σ6 hq6
                              have h64s : (am_set σt pM ((((10 * m) + 2) + t)) (g)).1 64 1 = 8 := (am_set_nb (by omega)).trans h64t
                              rw [show x_lay (am_set σt pM ((((10 * m) + 2) + t)) (g)) 4 (t : Int) g = (vI 1, upA ((am_set σt pM ((((10 * m) + 2) + t)) (g)).1 65 t) (am_set (am_set σt pM ((((10 * m) + 2) + t)) (g)) 65 t g)) from by unfold x_lay; rw [if_pos (by omega), if_neg (show ¬ (am_set σt pM ((((10 * m) + 2) + t)) (g)).1 (56 + 2 * Int.toNat 4) 1 < 0 from by show ¬ (am_set σt pM ((((10 * m) + 2) + t)) (g)).1 64 1 < 0; omega), if_pos (show 0 ≤ (t : Int) ∧ (t : Int) < (am_set σt pM ((((10 * m) + 2) + t)) (g)).1 (56 + 2 * Int.toNat 4) 1 from by show 0 ≤ (t : Int) ∧ (t : Int) < (am_set σt pM ((((10 * m) + 2) + t)) (g)).1 64 1; omega)]; rfl] at hq6
                              obtain ⟨hC6, rfl, hE6, hQ6⟩ := hq6
                              have z646 : σ6.1 64 1 = 8 := (hE6 64 1 (by unfold bcP; omega)).trans ((am_set_nb (by decide)).trans ((am_set_nb (by decide)).trans h64s))
                              have z656 : ∀ i, i < t + 1 → 0 ≤ σ6.1 65 i ∧ σ6.1 65 i ≤ 40 := fun i hi => by
                                rw [(hE6 65 i (by unfold bcP; omega)).trans ((am_set_nb (by decide)).trans am_set_at)]
                                by_cases e : i = t
                                · rw [if_pos e]; exact hg
                                · rw [if_neg e, am_set_nb (by omega)]; exact h65 i (by omega)
                              have kx : (am_set σt pM ((((10 * m) + 2) + t)) (g)).2.2.1[pM]? = some (.inl .int, 40) := kpM_σt
                              have w6 : 0 ≤ σ6.1 pM (10 * m) ∧ σ6.1 pM (10 * m) ≤ 1 := by rw [hQ6.2.2 pM (Or.inr (Or.inr (Or.inr ⟨by omega, _, kx⟩))), am_set_ne (by omega)]; exact hwt
                              have d6 : 0 ≤ σ6.1 pM (10 * m + 1) ∧ σ6.1 pM (10 * m + 1) ≤ 9 := by rw [hQ6.2.2 pM (Or.inr (Or.inr (Or.inr ⟨by omega, _, kx⟩))), am_set_ne (by omega)]; exact hdt
                              · refine tt_ar rfl ?_
                                refine tt_iceq (fun _ => ?_) (fun h => absurd h (by omega))
                                refine tt_iinc (y := ((t + 1 : Nat) : Int)) rfl (iinc_fit (by omega) (by omega) (by omega)) ?_
                                refine tt_goto ?_
                                refine tt_loc [(0, vR 2), (1, vR 1), (2, vI 8), (5, vR 77), (6, vR 78), (7, vR 79), (8, vR pM), (9, vR pH), (10, vI (((mm : Nat) : Int))), (11, vI (((u : Nat) : Int))), (12, vI (((m : Nat) : Int))), (13, vI (xc3)), (14, vI (((t + 1 : Nat) : Int)))] rfl rfl ⟨rfl, rfl, rfl, rfl, rfl, rfl, rfl, rfl, rfl, rfl, rfl, rfl, rfl, trivial⟩ ?_
                                exact ih9 (t + 1) σ6 (by omega) (by omega) hC6 (hLx.tr (LF.qc hQ6)) w6 d6 z646 z656
                            have lp11_5 : ∀ (f : Int), (f = 0 ∨ f = smV (σt.1 77) u t) → TT am_b177 (am_b177.getD 11 []) [(0, vR 2), (1, vR 1), (2, vI 8), (5, vR 77), (6, vR 78), (7, vR 79), (8, vR pM), (9, vR pH), (10, vI (((mm : Nat) : Int))), (11, vI (((u : Nat) : Int))), (12, vI (((m : Nat) : Int))), (13, vI (xc3)), (14, vI (((t : Nat) : Int)))] [vI (f)] σt (fun r σ' => ∃ mm : Nat, (1 ≤ mm ∧ mm ≤ 4) ∧ r = some (vI (mm : Int)) ∧ CI k mm ns D σ' ∧ (∀ a, ((5 ≤ a ∧ a ≤ 9) ∨ (18 ≤ a ∧ a ≤ 26) ∨ (76 ≤ a ∧ a ≠ pM ∧ ∃ n, σ.2.2.1[a]? = some (.inl .int, n))) → ∀ j, σ'.1 a j = σ.1 a j) ∧ Sc L xs σ' ∧ LX 1 64 σ.2.2.1 σ'.2.2.1) := by
                              intro f hf
                              refine tt_ar rfl ?_
                              refine tt_ar rfl ?_
                              refine tt_ar rfl ?_
                              refine tt_ar rfl ?_
                              refine tt_cs3 3 rfl (c178 σt 78 u t k78_σt (fun i hi => by have := hM_σt i hi; omega) hu (by omega)) (kq ?_)
                              · refine tt_ar rfl ?_
                                refine tt_isub (by omega) (by omega) ?_
                                refine tt_ar rfl ?_
                                refine tt_iadd (by omega) (by omega) ?_
                                refine tt_ar rfl ?_
                                refine tt_ar rfl ?_
                                refine tt_ar rfl ?_
                                refine tt_ar rfl ?_
                                refine tt_ar rfl ?_
                                refine tt_iadd (by omega) (by omega) ?_
                                refine tt_bI (g := a_shr) (z := a_shr (xc3) ((14 + ((t : Nat) : Int)))) rfl rfl ?_
                                refine tt_ar rfl ?_
                                refine tt_cs2 2 rfl (c172 σt _ _ (by omega)) (kx (fun i3 hi3 => ?_))
                                · refine tt_iadd (by omega) (by omega) ?_
                                  refine tt_ar rfl ?_
                                  refine tt_ar rfl ?_
                                  refine tt_ar rfl ?_
                                  refine tt_iadd (by omega) (by omega) ?_
                                  refine tt_bI (g := a_shr) (z := a_shr (xc3) ((17 + ((t : Nat) : Int)))) rfl rfl ?_
                                  refine tt_ar rfl ?_
                                  refine tt_cs2 2 rfl (c172 σt _ _ (by omega)) (kx (fun i4 hi4 => ?_))
                                  · refine tt_ifne (fun h11_26 => ?_) (fun h11_26 => ?_)
                                    · refine tt_ar rfl ?_
                                      refine tt_nop ?_
                                      refine tt_iadd (by omega) (by omega) ?_
                                      refine tt_ar rfl ?_
                                      refine tt_ar rfl ?_
                                      refine tt_ar rfl ?_
                                      refine tt_icle (fun h13_4 => ?_) (fun h13_4 => ?_)
                                      · refine tt_ar rfl ?_
                                        refine tt_ar rfl ?_
                                        refine tt_icle (fun h14_2 => ?_) (fun h14_2 => ?_)
                                        · refine tt_ar rfl ?_
                                          refine tt_nop ?_
                                          refine tt_loc [(0, vR 2), (1, vR 1), (2, vI 8), (5, vR 77), (6, vR 78), (7, vR 79), (8, vR pM), (9, vR pH), (10, vI (((mm : Nat) : Int))), (11, vI (((u : Nat) : Int))), (12, vI (((m : Nat) : Int))), (13, vI (xc3)), (14, vI (((t : Nat) : Int)))] rfl rfl ⟨rfl, rfl, rfl, rfl, rfl, rfl, rfl, rfl, rfl, rfl, rfl, rfl, rfl, trivial⟩ ?_
                                          exact lp16_4 (((f + ((i3 : Nat) : Int)) + 0)) (by omega)
                                        · refine tt_ar rfl ?_
                                          refine tt_goto ?_
                                          refine tt_loc [(0, vR 2), (1, vR 1), (2, vI 8), (5, vR 77), (6, vR 78), (7, vR 79), (8, vR pM), (9, vR pH), (10, vI (((mm : Nat) : Int))), (11, vI (((u : Nat) : Int))), (12, vI (((m : Nat) : Int))), (13, vI (xc3)), (14, vI (((t : Nat) : Int)))] rfl rfl ⟨rfl, rfl, rfl, rfl, rfl, rfl, rfl, rfl, rfl, rfl, rfl, rfl, rfl, trivial⟩ ?_
                                          exact lp16_4 (40) (by omega)
                                      · refine tt_ar rfl ?_
                                        refine tt_ar rfl ?_
                                        refine tt_bI (g := a_shr) (z := a_shr (xc3) (20)) rfl rfl ?_
                                        refine tt_ar rfl ?_
                                        refine tt_cs2 2 rfl (c172 σt _ _ (by omega)) (kx (fun i5 hi5 => ?_))
                                        · refine tt_ifle (fun h13_10 => ?_) (fun h13_10 => ?_)
                                          · refine tt_ar rfl ?_
                                            refine tt_ar rfl ?_
                                            refine tt_icle (fun h14_2 => ?_) (fun h14_2 => ?_)
                                            · refine tt_ar rfl ?_
                                              refine tt_nop ?_
                                              refine tt_loc [(0, vR 2), (1, vR 1), (2, vI 8), (5, vR 77), (6, vR 78), (7, vR 79), (8, vR pM), (9, vR pH), (10, vI (((mm : Nat) : Int))), (11, vI (((u : Nat) : Int))), (12, vI (((m : Nat) : Int))), (13, vI (xc3)), (14, vI (((t : Nat) : Int)))] rfl rfl ⟨rfl, rfl, rfl, rfl, rfl, rfl, rfl, rfl, rfl, rfl, rfl, rfl, rfl, trivial⟩ ?_
                                              exact lp16_4 (((f + ((i3 : Nat) : Int)) + 0)) (by omega)
                                            · refine tt_ar rfl ?_
                                              refine tt_goto ?_
                                              refine tt_loc [(0, vR 2), (1, vR 1), (2, vI 8), (5, vR 77), (6, vR 78), (7, vR 79), (8, vR pM), (9, vR pH), (10, vI (((mm : Nat) : Int))), (11, vI (((u : Nat) : Int))), (12, vI (((m : Nat) : Int))), (13, vI (xc3)), (14, vI (((t : Nat) : Int)))] rfl rfl ⟨rfl, rfl, rfl, rfl, rfl, rfl, rfl, rfl, rfl, rfl, rfl, rfl, rfl, trivial⟩ ?_
                                              exact lp16_4 (40) (by omega)
                                          · refine tt_ar rfl ?_
                                            refine tt_goto ?_
                                            refine tt_loc [(0, vR 2), (1, vR 1), (2, vI 8), (5, vR 77), (6, vR 78), (7, vR 79), (8, vR pM), (9, vR pH), (10, vI (((mm : Nat) : Int))), (11, vI (((u : Nat) : Int))), (12, vI (((m : Nat) : Int))), (13, vI (xc3)), (14, vI (((t : Nat) : Int)))] rfl rfl ⟨rfl, rfl, rfl, rfl, rfl, rfl, rfl, rfl, rfl, rfl, rfl, rfl, rfl, trivial⟩ ?_
                                            exact lp16_4 (0) (by omega)
                                    · refine tt_ar rfl ?_
                                      refine tt_goto ?_
                                      refine tt_iadd (by omega) (by omega) ?_
                                      refine tt_ar rfl ?_
                                      refine tt_ar rfl ?_
                                      refine tt_ar rfl ?_
                                      refine tt_icle (fun h13_4 => ?_) (fun h13_4 => ?_)
                                      · refine tt_ar rfl ?_
                                        refine tt_ar rfl ?_
                                        refine tt_icle (fun h14_2 => ?_) (fun h14_2 => ?_)
                                        · refine tt_ar rfl ?_
                                          refine tt_nop ?_
                                          refine tt_loc [(0, vR 2), (1, vR 1), (2, vI 8), (5, vR 77), (6, vR 78), (7, vR 79), (8, vR pM), (9, vR pH), (10, vI (((mm : Nat) : Int))), (11, vI (((u : Nat) : Int))), (12, vI (((m : Nat) : Int))), (13, vI (xc3)), (14, vI (((t : Nat) : Int)))] rfl rfl ⟨rfl, rfl, rfl, rfl, rfl, rfl, rfl, rfl, rfl, rfl, rfl, rfl, rfl, trivial⟩ ?_
                                          exact lp16_4 (((f + ((i3 : Nat) : Int)) + 1)) (by omega)
                                        · refine tt_ar rfl ?_
                                          refine tt_goto ?_
                                          refine tt_loc [(0, vR 2), (1, vR 1), (2, vI 8), (5, vR 77), (6, vR 78), (7, vR 79), (8, vR pM), (9, vR pH), (10, vI (((mm : Nat) : Int))), (11, vI (((u : Nat) : Int))), (12, vI (((m : Nat) : Int))), (13, vI (xc3)), (14, vI (((t : Nat) : Int)))] rfl rfl ⟨rfl, rfl, rfl, rfl, rfl, rfl, rfl, rfl, rfl, rfl, rfl, rfl, rfl, trivial⟩ ?_
                                          exact lp16_4 (40) (by omega)
                                      · refine tt_ar rfl ?_
                                        refine tt_ar rfl ?_
                                        refine tt_bI (g := a_shr) (z := a_shr (xc3) (20)) rfl rfl ?_
                                        refine tt_ar rfl ?_
                                        refine tt_cs2 2 rfl (c172 σt _ _ (by omega)) (kx (fun i6 hi6 => ?_))
                                        · refine tt_ifle (fun h13_10 => ?_) (fun h13_10 => ?_)
                                          · refine tt_ar rfl ?_
                                            refine tt_ar rfl ?_
                                            refine tt_icle (fun h14_2 => ?_) (fun h14_2 => ?_)
                                            · refine tt_ar rfl ?_
                                              refine tt_nop ?_
                                              refine tt_loc [(0, vR 2), (1, vR 1), (2, vI 8), (5, vR 77), (6, vR 78), (7, vR 79), (8, vR pM), (9, vR pH), (10, vI (((mm : Nat) : Int))), (11, vI (((u : Nat) : Int))), (12, vI (((m : Nat) : Int))), (13, vI (xc3)), (14, vI (((t : Nat) : Int)))] rfl rfl ⟨rfl, rfl, rfl, rfl, rfl, rfl, rfl, rfl, rfl, rfl, rfl, rfl, rfl, trivial⟩ ?_
                                              exact lp16_4 (((f + ((i3 : Nat) : Int)) + 1)) (by omega)
                                            · refine tt_ar rfl ?_
                                              refine tt_goto ?_
                                              refine tt_loc [(0, vR 2), (1, vR 1), (2, vI 8), (5, vR 77), (6, vR 78), (7, vR 79), (8, vR pM), (9, vR pH), (10, vI (((mm : Nat) : Int))), (11, vI (((u : Nat) : Int))), (12, vI (((m : Nat) : Int))), (13, vI (xc3)), (14, vI (((t : Nat) : Int)))] rfl rfl ⟨rfl, rfl, rfl, rfl, rfl, rfl, rfl, rfl, rfl, rfl, rfl, rfl, rfl, trivial⟩ ?_
                                              exact lp16_4 (40) (by omega)
                                          · refine tt_ar rfl ?_
                                            refine tt_goto ?_
                                            refine tt_loc [(0, vR 2), (1, vR 1), (2, vI 8), (5, vR 77), (6, vR 78), (7, vR 79), (8, vR pM), (9, vR pH), (10, vI (((mm : Nat) : Int))), (11, vI (((u : Nat) : Int))), (12, vI (((m : Nat) : Int))), (13, vI (xc3)), (14, vI (((t : Nat) : Int)))] rfl rfl ⟨rfl, rfl, rfl, rfl, rfl, rfl, rfl, rfl, rfl, rfl, rfl, rfl, rfl, trivial⟩ ?_
                                            exact lp16_4 (0) (by omega)
                            refine tt_ar rfl ?_
                            refine tt_ar rfl ?_
                            refine tt_ar rfl ?_
                            refine tt_imul (by omega) (by omega) ?_
                            refine tt_iald ((10 * m)) (x := σt.1 pM ((10 * m))) kpM_σt (by omega) (by omega) rfl ?_
                            refine tt_ar rfl ?_
                            refine tt_icne (fun h9_9 => ?_) (fun h9_9 => ?_)
                            · refine tt_ar rfl ?_
                              refine tt_ar rfl ?_
                              refine tt_ar rfl ?_
                              refine tt_cs3 3 rfl (c178 σt 77 u t k77_σt (fun i hi => by have := hM_σt i hi; omega) hu (by omega)) (kq ?_)
                              · refine tt_nop ?_
                                refine tt_loc [(0, vR 2), (1, vR 1), (2, vI 8), (5, vR 77), (6, vR 78), (7, vR 79), (8, vR pM), (9, vR pH), (10, vI (((mm : Nat) : Int))), (11, vI (((u : Nat) : Int))), (12, vI (((m : Nat) : Int))), (13, vI (xc3)), (14, vI (((t : Nat) : Int)))] rfl rfl ⟨rfl, rfl, rfl, rfl, rfl, rfl, rfl, rfl, rfl, rfl, rfl, rfl, rfl, trivial⟩ ?_
                                exact lp11_5 (smV (σt.1 77) u t) (by first | exact Or.inl rfl | exact Or.inr rfl)
                            · refine tt_ar rfl ?_
                              refine tt_ar rfl ?_
                              refine tt_iald (0) (x := σt.1 79 (0)) k79_σt rfl (by omega) rfl ?_
                              refine tt_ar rfl ?_
                              refine tt_bI (g := a_shr) (z := a_shr (σt.1 79 (0)) (((t : Nat) : Int))) rfl rfl ?_
                              refine tt_ar rfl ?_
                              refine tt_bI (g := a_and) (z := a_and (a_shr (σt.1 79 (0)) (((t : Nat) : Int))) (1)) rfl rfl ?_
                              refine tt_ar rfl ?_
                              refine tt_icne (fun h9_18 => ?_) (fun h9_18 => ?_)
                              · refine tt_ar rfl ?_
                                refine tt_ar rfl ?_
                                refine tt_ar rfl ?_
                                refine tt_cs3 3 rfl (c178 σt 77 u t k77_σt (fun i hi => by have := hM_σt i hi; omega) hu (by omega)) (kq ?_)
                                · refine tt_nop ?_
                                  refine tt_loc [(0, vR 2), (1, vR 1), (2, vI 8), (5, vR 77), (6, vR 78), (7, vR 79), (8, vR pM), (9, vR pH), (10, vI (((mm : Nat) : Int))), (11, vI (((u : Nat) : Int))), (12, vI (((m : Nat) : Int))), (13, vI (xc3)), (14, vI (((t : Nat) : Int)))] rfl rfl ⟨rfl, rfl, rfl, rfl, rfl, rfl, rfl, rfl, rfl, rfl, rfl, rfl, rfl, trivial⟩ ?_
                                  exact lp11_5 (smV (σt.1 77) u t) (by first | exact Or.inl rfl | exact Or.inr rfl)
                              · refine tt_ar rfl ?_
                                refine tt_goto ?_
                                refine tt_loc [(0, vR 2), (1, vR 1), (2, vI 8), (5, vR 77), (6, vR 78), (7, vR 79), (8, vR pM), (9, vR pH), (10, vI (((mm : Nat) : Int))), (11, vI (((u : Nat) : Int))), (12, vI (((m : Nat) : Int))), (13, vI (xc3)), (14, vI (((t : Nat) : Int)))] rfl rfl ⟨rfl, rfl, rfl, rfl, rfl, rfl, rfl, rfl, rfl, rfl, rfl, rfl, rfl, trivial⟩ ?_
                                exact lp11_5 (0) (by first | exact Or.inl rfl | exact Or.inr rfl)
                      refine tt_loc [(0, vR 2), (1, vR 1), (2, vI 8), (5, vR 77), (6, vR 78), (7, vR 79), (8, vR pM), (9, vR pH), (10, vI (((mm : Nat) : Int))), (11, vI (((u : Nat) : Int))), (12, vI (((m : Nat) : Int))), (13, vI (xc3)), (14, vI (((0 : Nat) : Int)))] rfl rfl ⟨rfl, rfl, rfl, rfl, rfl, rfl, rfl, rfl, rfl, rfl, rfl, rfl, lv_to rfl (by omega), trivial⟩ ?_
                      exact lp9_3 _ (0) σr (Nat.lt_succ_self _) (by omega) hCr hLr hw hd h64 (fun i hi => absurd hi (Nat.not_lt_zero i))
                    refine tt_ar rfl ?_
                    refine tt_ar rfl ?_
                    refine tt_cs2 2 rfl (c172 σm _ _ (by omega)) (kx (fun i7 hi7 => ?_))
                    · refine tt_ifne (fun h1_14 => ?_) (fun h1_14 => ?_)
                      · refine tt_ar rfl ?_
                        refine tt_nop ?_
                        refine tt_ar rfl ?_
                        refine tt_ar rfl ?_
                        refine tt_ar rfl ?_
                        refine tt_ar rfl ?_
                        refine tt_imul (by omega) (by omega) ?_
                        refine tt_ar rfl ?_
                        refine tt_ar rfl ?_
                        refine tt_bI (g := a_shr) (z := a_shr (xc3) (9)) rfl rfl ?_
                        refine tt_ar rfl ?_
                        refine tt_cs2 2 rfl (c172 σm _ _ (by omega)) (kx (fun i8 hi8 => ?_))
                        · refine tt_ifne (fun h3_10 => ?_) (fun h3_10 => ?_)
                          · refine tt_ar rfl ?_
                            refine tt_nop ?_
                            refine tt_iast ((10 * m)) kpM_σm (by omega) (by omega) (by omega) ?_
                            refine tt_ar rfl ?_
                            refine tt_ar rfl ?_
                            refine tt_ar rfl ?_
                            refine tt_imul (by omega) (by omega) ?_
                            refine tt_ar rfl ?_
                            refine tt_iadd (by omega) (by omega) ?_
                            refine tt_ar rfl ?_
                            refine tt_ar rfl ?_
                            refine tt_bI (g := a_shr) (z := a_shr (xc3) (11)) rfl rfl ?_
                            refine tt_ar rfl ?_
                            refine tt_cs2 2 rfl (c172 (am_set σm pM ((10 * m)) (0)) _ _ (by omega)) (kx (fun i9 hi9 => ?_))
                            · refine tt_ifne (fun h5_12 => ?_) (fun h5_12 => ?_)
                              · refine tt_ar rfl ?_
                                refine tt_nop ?_
                                refine tt_iast (((10 * m) + 1)) kpM_σm (by omega) (by omega) (by omega) ?_
                                refine tt_ar rfl ?_
                                refine tt_ar rfl ?_
                                refine tt_ar rfl ?_
                                have hFx : Fr [pM] σm (am_set (am_set σm pM ((10 * m)) (0)) pM (((10 * m) + 1)) (0)) := (Fr.put (Fr.put Fr.rf (by simp)) (by simp))
                                have hCx : CI k m ns D (am_set (am_set σm pM ((10 * m)) (0)) pM (((10 * m) + 1)) (0)) := hCm.law hFx (fun a ha => by have ha : a = pM := (by simpa using ha); subst ha; exact ⟨by omega, _, kpM_σm⟩)
                                have hLx : LF [pM] σ1 (am_set (am_set σm pM ((10 * m)) (0)) pM (((10 * m) + 1)) (0)) := hL_σm.tr (LF.fr hFx (fun a ha => by have ha : a = pM := (by simpa using ha); omega))
                                refine tt_cv3 3 rfl (wo_2 hCm.w) (c21 (am_set (am_set σm pM ((10 * m)) (0)) pM (((10 * m) + 1)) (0)) k m ns D hCx 4 8) ?_
                                intro r5 σ5 hq5
                                rw [show x_row (am_set (am_set σm pM ((10 * m)) (0)) pM (((10 * m) + 1)) (0)) 4 8 = (vI 8, upS 64 40 (fun _ => 0) 8 (am_set (am_set σm pM ((10 * m)) (0)) pM (((10 * m) + 1)) (0))) from rfl] at hq5
                                obtain ⟨hC5, rfl, hE5, hQ5⟩ := hq5
                                have z64 : σ5.1 64 1 = 8 := (hE5 64 1 (by unfold bcP; omega)).trans (upS_1 (s := 64))
                                have kx : (am_set (am_set σm pM ((10 * m)) (0)) pM (((10 * m) + 1)) (0)).2.2.1[pM]? = some (.inl .int, 40) := kpM_σm
                                have w5 : 0 ≤ σ5.1 pM (10 * m) ∧ σ5.1 pM (10 * m) ≤ 1 := by rw [hQ5.2.2 pM (Or.inr (Or.inr (Or.inr ⟨by omega, _, kx⟩))), am_set_ne (by omega), am_set_rd]; omega
                                have d5 : 0 ≤ σ5.1 pM (10 * m + 1) ∧ σ5.1 pM (10 * m + 1) ≤ 9 := by rw [hQ5.2.2 pM (Or.inr (Or.inr (Or.inr ⟨by omega, _, kx⟩))), am_set_rd]; omega
                                · refine tt_ar rfl ?_
                                  refine tt_iceq (fun _ => ?_) (fun h => absurd h (by omega))
                                  refine tt_loc [(0, vR 2), (1, vR 1), (2, vI 8), (5, vR 77), (6, vR 78), (7, vR 79), (8, vR pM), (9, vR pH), (10, vI (((mm : Nat) : Int))), (11, vI (((u : Nat) : Int))), (12, vI (((m : Nat) : Int))), (13, vI (xc3))] rfl rfl ⟨rfl, rfl, rfl, rfl, rfl, rfl, rfl, rfl, rfl, rfl, rfl, rfl, trivial⟩ ?_
                                  exact lp8_2 (u) σ5 (by first | exact tB | exact hu) hC5 (hLx.tr (LF.qc hQ5)) w5 d5 z64
                              · refine tt_ar rfl ?_
                                refine tt_ar rfl ?_
                                refine tt_ar rfl ?_
                                refine tt_bI (g := a_shr) (z := a_shr (xc3) (13)) rfl rfl ?_
                                refine tt_ar rfl ?_
                                refine tt_cs2 2 rfl (c172 (am_set σm pM ((10 * m)) (0)) _ _ (by omega)) (kx (fun i10 hi10 => ?_))
                                · refine tt_iadd (by omega) (by omega) ?_
                                  refine tt_goto ?_
                                  refine tt_iast (((10 * m) + 1)) kpM_σm (by omega) (by omega) (by omega) ?_
                                  refine tt_ar rfl ?_
                                  refine tt_ar rfl ?_
                                  refine tt_ar rfl ?_
                                  have hFx : Fr [pM] σm (am_set (am_set σm pM ((10 * m)) (0)) pM (((10 * m) + 1)) ((1 + ((i10 : Nat) : Int)))) := (Fr.put (Fr.put Fr.rf (by simp)) (by simp))
                                  have hCx : CI k m ns D (am_set (am_set σm pM ((10 * m)) (0)) pM (((10 * m) + 1)) ((1 + ((i10 : Nat) : Int)))) := hCm.law hFx (fun a ha => by have ha : a = pM := (by simpa using ha); subst ha; exact ⟨by omega, _, kpM_σm⟩)
                                  have hLx : LF [pM] σ1 (am_set (am_set σm pM ((10 * m)) (0)) pM (((10 * m) + 1)) ((1 + ((i10 : Nat) : Int)))) := hL_σm.tr (LF.fr hFx (fun a ha => by have ha : a = pM := (by simpa using ha); omega))
                                  refine tt_cv3 3 rfl (wo_2 hCm.w) (c21 (am_set (am_set σm pM ((10 * m)) (0)) pM (((10 * m) + 1)) ((1 + ((i10 : Nat) : Int)))) k m ns D hCx 4 8) ?_
                                  intro r5 σ5 hq5
                                  rw [show x_row (am_set (am_set σm pM ((10 * m)) (0)) pM (((10 * m) + 1)) ((1 + ((i10 : Nat) : Int)))) 4 8 = (vI 8, upS 64 40 (fun _ => 0) 8 (am_set (am_set σm pM ((10 * m)) (0)) pM (((10 * m) + 1)) ((1 + ((i10 : Nat) : Int))))) from rfl] at hq5
                                  obtain ⟨hC5, rfl, hE5, hQ5⟩ := hq5
                                  have z64 : σ5.1 64 1 = 8 := (hE5 64 1 (by unfold bcP; omega)).trans (upS_1 (s := 64))
                                  have kx : (am_set (am_set σm pM ((10 * m)) (0)) pM (((10 * m) + 1)) ((1 + ((i10 : Nat) : Int)))).2.2.1[pM]? = some (.inl .int, 40) := kpM_σm
                                  have w5 : 0 ≤ σ5.1 pM (10 * m) ∧ σ5.1 pM (10 * m) ≤ 1 := by rw [hQ5.2.2 pM (Or.inr (Or.inr (Or.inr ⟨by omega, _, kx⟩))), am_set_ne (by omega), am_set_rd]; omega
                                  have d5 : 0 ≤ σ5.1 pM (10 * m + 1) ∧ σ5.1 pM (10 * m + 1) ≤ 9 := by rw [hQ5.2.2 pM (Or.inr (Or.inr (Or.inr ⟨by omega, _, kx⟩))), am_set_rd]; omega
                                  · refine tt_ar rfl ?_
                                    refine tt_iceq (fun _ => ?_) (fun h => absurd h (by omega))
                                    refine tt_loc [(0, vR 2), (1, vR 1), (2, vI 8), (5, vR 77), (6, vR 78), (7, vR 79), (8, vR pM), (9, vR pH), (10, vI (((mm : Nat) : Int))), (11, vI (((u : Nat) : Int))), (12, vI (((m : Nat) : Int))), (13, vI (xc3))] rfl rfl ⟨rfl, rfl, rfl, rfl, rfl, rfl, rfl, rfl, rfl, rfl, rfl, rfl, trivial⟩ ?_
                                    exact lp8_2 (u) σ5 (by first | exact tB | exact hu) hC5 (hLx.tr (LF.qc hQ5)) w5 d5 z64
                          · refine tt_ar rfl ?_
                            refine tt_goto ?_
                            refine tt_iast ((10 * m)) kpM_σm (by omega) (by omega) (by omega) ?_
                            refine tt_ar rfl ?_
                            refine tt_ar rfl ?_
                            refine tt_ar rfl ?_
                            refine tt_imul (by omega) (by omega) ?_
                            refine tt_ar rfl ?_
                            refine tt_iadd (by omega) (by omega) ?_
                            refine tt_ar rfl ?_
                            refine tt_ar rfl ?_
                            refine tt_bI (g := a_shr) (z := a_shr (xc3) (11)) rfl rfl ?_
                            refine tt_ar rfl ?_
                            refine tt_cs2 2 rfl (c172 (am_set σm pM ((10 * m)) (1)) _ _ (by omega)) (kx (fun i11 hi11 => ?_))
                            · refine tt_ifne (fun h5_12 => ?_) (fun h5_12 => ?_)
                              · refine tt_ar rfl ?_
                                refine tt_nop ?_
                                refine tt_iast (((10 * m) + 1)) kpM_σm (by omega) (by omega) (by omega) ?_
                                refine tt_ar rfl ?_
                                refine tt_ar rfl ?_
                                refine tt_ar rfl ?_
                                have hFx : Fr [pM] σm (am_set (am_set σm pM ((10 * m)) (1)) pM (((10 * m) + 1)) (0)) := (Fr.put (Fr.put Fr.rf (by simp)) (by simp))
                                have hCx : CI k m ns D (am_set (am_set σm pM ((10 * m)) (1)) pM (((10 * m) + 1)) (0)) := hCm.law hFx (fun a ha => by have ha : a = pM := (by simpa using ha); subst ha; exact ⟨by omega, _, kpM_σm⟩)
                                have hLx : LF [pM] σ1 (am_set (am_set σm pM ((10 * m)) (1)) pM (((10 * m) + 1)) (0)) := hL_σm.tr (LF.fr hFx (fun a ha => by have ha : a = pM := (by simpa using ha); omega))
                                refine tt_cv3 3 rfl (wo_2 hCm.w) (c21 (am_set (am_set σm pM ((10 * m)) (1)) pM (((10 * m) + 1)) (0)) k m ns D hCx 4 8) ?_
                                intro r5 σ5 hq5
                                rw [show x_row (am_set (am_set σm pM ((10 * m)) (1)) pM (((10 * m) + 1)) (0)) 4 8 = (vI 8, upS 64 40 (fun _ => 0) 8 (am_set (am_set σm pM ((10 * m)) (1)) pM (((10 * m) + 1)) (0))) from rfl] at hq5
                                obtain ⟨hC5, rfl, hE5, hQ5⟩ := hq5
                                have z64 : σ5.1 64 1 = 8 := (hE5 64 1 (by unfold bcP; omega)).trans (upS_1 (s := 64))
                                have kx : (am_set (am_set σm pM ((10 * m)) (1)) pM (((10 * m) + 1)) (0)).2.2.1[pM]? = some (.inl .int, 40) := kpM_σm
                                have w5 : 0 ≤ σ5.1 pM (10 * m) ∧ σ5.1 pM (10 * m) ≤ 1 := by rw [hQ5.2.2 pM (Or.inr (Or.inr (Or.inr ⟨by omega, _, kx⟩))), am_set_ne (by omega), am_set_rd]; omega
                                have d5 : 0 ≤ σ5.1 pM (10 * m + 1) ∧ σ5.1 pM (10 * m + 1) ≤ 9 := by rw [hQ5.2.2 pM (Or.inr (Or.inr (Or.inr ⟨by omega, _, kx⟩))), am_set_rd]; omega
                                · refine tt_ar rfl ?_
                                  refine tt_iceq (fun _ => ?_) (fun h => absurd h (by omega))
                                  refine tt_loc [(0, vR 2), (1, vR 1), (2, vI 8), (5, vR 77), (6, vR 78), (7, vR 79), (8, vR pM), (9, vR pH), (10, vI (((mm : Nat) : Int))), (11, vI (((u : Nat) : Int))), (12, vI (((m : Nat) : Int))), (13, vI (xc3))] rfl rfl ⟨rfl, rfl, rfl, rfl, rfl, rfl, rfl, rfl, rfl, rfl, rfl, rfl, trivial⟩ ?_
                                  exact lp8_2 (u) σ5 (by first | exact tB | exact hu) hC5 (hLx.tr (LF.qc hQ5)) w5 d5 z64
                              · refine tt_ar rfl ?_
                                refine tt_ar rfl ?_
                                refine tt_ar rfl ?_
                                refine tt_bI (g := a_shr) (z := a_shr (xc3) (13)) rfl rfl ?_
                                refine tt_ar rfl ?_
                                refine tt_cs2 2 rfl (c172 (am_set σm pM ((10 * m)) (1)) _ _ (by omega)) (kx (fun i12 hi12 => ?_))
                                · refine tt_iadd (by omega) (by omega) ?_
                                  refine tt_goto ?_
                                  refine tt_iast (((10 * m) + 1)) kpM_σm (by omega) (by omega) (by omega) ?_
                                  refine tt_ar rfl ?_
                                  refine tt_ar rfl ?_
                                  refine tt_ar rfl ?_
                                  have hFx : Fr [pM] σm (am_set (am_set σm pM ((10 * m)) (1)) pM (((10 * m) + 1)) ((1 + ((i12 : Nat) : Int)))) := (Fr.put (Fr.put Fr.rf (by simp)) (by simp))
                                  have hCx : CI k m ns D (am_set (am_set σm pM ((10 * m)) (1)) pM (((10 * m) + 1)) ((1 + ((i12 : Nat) : Int)))) := hCm.law hFx (fun a ha => by have ha : a = pM := (by simpa using ha); subst ha; exact ⟨by omega, _, kpM_σm⟩)
                                  have hLx : LF [pM] σ1 (am_set (am_set σm pM ((10 * m)) (1)) pM (((10 * m) + 1)) ((1 + ((i12 : Nat) : Int)))) := hL_σm.tr (LF.fr hFx (fun a ha => by have ha : a = pM := (by simpa using ha); omega))
                                  refine tt_cv3 3 rfl (wo_2 hCm.w) (c21 (am_set (am_set σm pM ((10 * m)) (1)) pM (((10 * m) + 1)) ((1 + ((i12 : Nat) : Int)))) k m ns D hCx 4 8) ?_
                                  intro r5 σ5 hq5
                                  rw [show x_row (am_set (am_set σm pM ((10 * m)) (1)) pM (((10 * m) + 1)) ((1 + ((i12 : Nat) : Int)))) 4 8 = (vI 8, upS 64 40 (fun _ => 0) 8 (am_set (am_set σm pM ((10 * m)) (1)) pM (((10 * m) + 1)) ((1 + ((i12 : Nat) : Int))))) from rfl] at hq5
                                  obtain ⟨hC5, rfl, hE5, hQ5⟩ := hq5
                                  have z64 : σ5.1 64 1 = 8 := (hE5 64 1 (by unfold bcP; omega)).trans (upS_1 (s := 64))
                                  have kx : (am_set (am_set σm pM ((10 * m)) (1)) pM (((10 * m) + 1)) ((1 + ((i12 : Nat) : Int)))).2.2.1[pM]? = some (.inl .int, 40) := kpM_σm
                                  have w5 : 0 ≤ σ5.1 pM (10 * m) ∧ σ5.1 pM (10 * m) ≤ 1 := by rw [hQ5.2.2 pM (Or.inr (Or.inr (Or.inr ⟨by omega, _, kx⟩))), am_set_ne (by omega), am_set_rd]; omega
                                  have d5 : 0 ≤ σ5.1 pM (10 * m + 1) ∧ σ5.1 pM (10 * m + 1) ≤ 9 := by rw [hQ5.2.2 pM (Or.inr (Or.inr (Or.inr ⟨by omega, _, kx⟩))), am_set_rd]; omega
                                  · refine tt_ar rfl ?_
                                    refine tt_iceq (fun _ => ?_) (fun h => absurd h (by omega))
                                    refine tt_loc [(0, vR 2), (1, vR 1), (2, vI 8), (5, vR 77), (6, vR 78), (7, vR 79), (8, vR pM), (9, vR pH), (10, vI (((mm : Nat) : Int))), (11, vI (((u : Nat) : Int))), (12, vI (((m : Nat) : Int))), (13, vI (xc3))] rfl rfl ⟨rfl, rfl, rfl, rfl, rfl, rfl, rfl, rfl, rfl, rfl, rfl, rfl, trivial⟩ ?_
                                    exact lp8_2 (u) σ5 (by first | exact tB | exact hu) hC5 (hLx.tr (LF.qc hQ5)) w5 d5 z64
                      · refine tt_ar rfl ?_
                        refine tt_ar rfl ?_
                        refine tt_ar rfl ?_
                        refine tt_bI (g := a_shr) (z := a_shr (xc3) (2)) rfl rfl ?_
                        refine tt_ar rfl ?_
                        refine tt_ar rfl ?_
                        refine tt_iald (63) (x := ((nkT k : Nat) : Int)) kpH_σm (by omega) (by omega) ((apH_σm 63).trans h63) ?_
                        refine tt_cs2 2 rfl (c172 σm _ _ (by omega)) (kx (fun i13 hi13 => ?_))
                        · obtain ⟨hB, bB, eB⟩ := hHo (i13) (by omega)
                          have tB : tb k hB < 1000 := by have := (en_at (show k ≤ 6 by omega) bB).1; rcases (show k = 1 ∨ k = 2 ∨ k = 3 by omega) with rfl | rfl | rfl <;> omega
                          refine tt_iald (i13) (x := ((tb k hB : Nat) : Int)) kpH_σm (by omega) (by omega) ((apH_σm _).trans eB) ?_
                          refine tt_goto ?_
                          refine tt_ar rfl ?_
                          refine tt_ar rfl ?_
                          refine tt_ar rfl ?_
                          refine tt_ar rfl ?_
                          refine tt_imul (by omega) (by omega) ?_
                          refine tt_ar rfl ?_
                          refine tt_ar rfl ?_
                          refine tt_bI (g := a_shr) (z := a_shr (xc3) (9)) rfl rfl ?_
                          refine tt_ar rfl ?_
                          refine tt_cs2 2 rfl (c172 σm _ _ (by omega)) (kx (fun i14 hi14 => ?_))
                          · refine tt_ifne (fun h3_10 => ?_) (fun h3_10 => ?_)
                            · refine tt_ar rfl ?_
                              refine tt_nop ?_
                              refine tt_iast ((10 * m)) kpM_σm (by omega) (by omega) (by omega) ?_
                              refine tt_ar rfl ?_
                              refine tt_ar rfl ?_
                              refine tt_ar rfl ?_
                              refine tt_imul (by omega) (by omega) ?_
                              refine tt_ar rfl ?_
                              refine tt_iadd (by omega) (by omega) ?_
                              refine tt_ar rfl ?_
                              refine tt_ar rfl ?_
                              refine tt_bI (g := a_shr) (z := a_shr (xc3) (11)) rfl rfl ?_
                              refine tt_ar rfl ?_
                              refine tt_cs2 2 rfl (c172 (am_set σm pM ((10 * m)) (0)) _ _ (by omega)) (kx (fun i15 hi15 => ?_))
                              · refine tt_ifne (fun h5_12 => ?_) (fun h5_12 => ?_)
                                · refine tt_ar rfl ?_
                                  refine tt_nop ?_
                                  refine tt_iast (((10 * m) + 1)) kpM_σm (by omega) (by omega) (by omega) ?_
                                  refine tt_ar rfl ?_
                                  refine tt_ar rfl ?_
                                  refine tt_ar rfl ?_
                                  have hFx : Fr [pM] σm (am_set (am_set σm pM ((10 * m)) (0)) pM (((10 * m) + 1)) (0)) := (Fr.put (Fr.put Fr.rf (by simp)) (by simp))
                                  have hCx : CI k m ns D (am_set (am_set σm pM ((10 * m)) (0)) pM (((10 * m) + 1)) (0)) := hCm.law hFx (fun a ha => by have ha : a = pM := (by simpa using ha); subst ha; exact ⟨by omega, _, kpM_σm⟩)
                                  have hLx : LF [pM] σ1 (am_set (am_set σm pM ((10 * m)) (0)) pM (((10 * m) + 1)) (0)) := hL_σm.tr (LF.fr hFx (fun a ha => by have ha : a = pM := (by simpa using ha); omega))
                                  refine tt_cv3 3 rfl (wo_2 hCm.w) (c21 (am_set (am_set σm pM ((10 * m)) (0)) pM (((10 * m) + 1)) (0)) k m ns D hCx 4 8) ?_
                                  intro r5 σ5 hq5
                                  rw [show x_row (am_set (am_set σm pM ((10 * m)) (0)) pM (((10 * m) + 1)) (0)) 4 8 = (vI 8, upS 64 40 (fun _ => 0) 8 (am_set (am_set σm pM ((10 * m)) (0)) pM (((10 * m) + 1)) (0))) from rfl] at hq5
                                  obtain ⟨hC5, rfl, hE5, hQ5⟩ := hq5
                                  have z64 : σ5.1 64 1 = 8 := (hE5 64 1 (by unfold bcP; omega)).trans (upS_1 (s := 64))
                                  have kx : (am_set (am_set σm pM ((10 * m)) (0)) pM (((10 * m) + 1)) (0)).2.2.1[pM]? = some (.inl .int, 40) := kpM_σm
                                  have w5 : 0 ≤ σ5.1 pM (10 * m) ∧ σ5.1 pM (10 * m) ≤ 1 := by rw [hQ5.2.2 pM (Or.inr (Or.inr (Or.inr ⟨by omega, _, kx⟩))), am_set_ne (by omega), am_set_rd]; omega
                                  have d5 : 0 ≤ σ5.1 pM (10 * m + 1) ∧ σ5.1 pM (10 * m + 1) ≤ 9 := by rw [hQ5.2.2 pM (Or.inr (Or.inr (Or.inr ⟨by omega, _, kx⟩))), am_set_rd]; omega
                                  · refine tt_ar rfl ?_
                                    refine tt_iceq (fun _ => ?_) (fun h => absurd h (by omega))
                                    refine tt_loc [(0, vR 2), (1, vR 1), (2, vI 8), (5, vR 77), (6, vR 78), (7, vR 79), (8, vR pM), (9, vR pH), (10, vI (((mm : Nat) : Int))), (11, vI (((tb k hB : Nat) : Int))), (12, vI (((m : Nat) : Int))), (13, vI (xc3))] rfl rfl ⟨rfl, rfl, rfl, rfl, rfl, rfl, rfl, rfl, rfl, rfl, rfl, rfl, trivial⟩ ?_
                                    exact lp8_2 (tb k hB) σ5 (by first | exact tB | exact hu) hC5 (hLx.tr (LF.qc hQ5)) w5 d5 z64
                                · refine tt_ar rfl ?_
                                  refine tt_ar rfl ?_
                                  refine tt_ar rfl ?_
                                  refine tt_bI (g := a_shr) (z := a_shr (xc3) (13)) rfl rfl ?_
                                  refine tt_ar rfl ?_
                                  refine tt_cs2 2 rfl (c172 (am_set σm pM ((10 * m)) (0)) _ _ (by omega)) (kx (fun i16 hi16 => ?_))
                                  · refine tt_iadd (by omega) (by omega) ?_
                                    refine tt_goto ?_
                                    refine tt_iast (((10 * m) + 1)) kpM_σm (by omega) (by omega) (by omega) ?_
                                    refine tt_ar rfl ?_
                                    refine tt_ar rfl ?_
                                    refine tt_ar rfl ?_
                                    have hFx : Fr [pM] σm (am_set (am_set σm pM ((10 * m)) (0)) pM (((10 * m) + 1)) ((1 + ((i16 : Nat) : Int)))) := (Fr.put (Fr.put Fr.rf (by simp)) (by simp))
                                    have hCx : CI k m ns D (am_set (am_set σm pM ((10 * m)) (0)) pM (((10 * m) + 1)) ((1 + ((i16 : Nat) : Int)))) := hCm.law hFx (fun a ha => by have ha : a = pM := (by simpa using ha); subst ha; exact ⟨by omega, _, kpM_σm⟩)
                                    have hLx : LF [pM] σ1 (am_set (am_set σm pM ((10 * m)) (0)) pM (((10 * m) + 1)) ((1 + ((i16 : Nat) : Int)))) := hL_σm.tr (LF.fr hFx (fun a ha => by have ha : a = pM := (by simpa using ha); omega))
                                    refine tt_cv3 3 rfl (wo_2 hCm.w) (c21 (am_set (am_set σm pM ((10 * m)) (0)) pM (((10 * m) + 1)) ((1 + ((i16 : Nat) : Int)))) k m ns D hCx 4 8) ?_
                                    intro r5 σ5 hq5
                                    rw [show x_row (am_set (am_set σm pM ((10 * m)) (0)) pM (((10 * m) + 1)) ((1 + ((i16 : Nat) : Int)))) 4 8 = (vI 8, upS 64 40 (fun _ => 0) 8 (am_set (am_set σm pM ((10 * m)) (0)) pM (((10 * m) + 1)) ((1 + ((i16 : Nat) : Int))))) from rfl] at hq5
                                    obtain ⟨hC5, rfl, hE5, hQ5⟩ := hq5
                                    have z64 : σ5.1 64 1 = 8 := (hE5 64 1 (by unfold bcP; omega)).trans (upS_1 (s := 64))
                                    have kx : (am_set (am_set σm pM ((10 * m)) (0)) pM (((10 * m) + 1)) ((1 + ((i16 : Nat) : Int)))).2.2.1[pM]? = some (.inl .int, 40) := kpM_σm
                                    have w5 : 0 ≤ σ5.1 pM (10 * m) ∧ σ5.1 pM (10 * m) ≤ 1 := by rw [hQ5.2.2 pM (Or.inr (Or.inr (Or.inr ⟨by omega, _, kx⟩))), am_set_ne (by omega), am_set_rd]; omega
                                    have d5 : 0 ≤ σ5.1 pM (10 * m + 1) ∧ σ5.1 pM (10 * m + 1) ≤ 9 := by rw [hQ5.2.2 pM (Or.inr (Or.inr (Or.inr ⟨by omega, _, kx⟩))), am_set_rd]; omega
                                    · refine tt_ar rfl ?_
                                      refine tt_iceq (fun _ => ?_) (fun h => absurd h (by omega))
                                      refine tt_loc [(0, vR 2), (1, vR 1), (2, vI 8), (5, vR 77), (6, vR 78), (7, vR 79), (8, vR pM), (9, vR pH), (10, vI (((mm : Nat) : Int))), (11, vI (((tb k hB : Nat) : Int))), (12, vI (((m : Nat) : Int))), (13, vI (xc3))] rfl rfl ⟨rfl, rfl, rfl, rfl, rfl, rfl, rfl, rfl, rfl, rfl, rfl, rfl, trivial⟩ ?_
                                      exact lp8_2 (tb k hB) σ5 (by first | exact tB | exact hu) hC5 (hLx.tr (LF.qc hQ5)) w5 d5 z64
                            · refine tt_ar rfl ?_
                              refine tt_goto ?_
                              refine tt_iast ((10 * m)) kpM_σm (by omega) (by omega) (by omega) ?_
                              refine tt_ar rfl ?_
                              refine tt_ar rfl ?_
                              refine tt_ar rfl ?_
                              refine tt_imul (by omega) (by omega) ?_
                              refine tt_ar rfl ?_
                              refine tt_iadd (by omega) (by omega) ?_
                              refine tt_ar rfl ?_
                              refine tt_ar rfl ?_
                              refine tt_bI (g := a_shr) (z := a_shr (xc3) (11)) rfl rfl ?_
                              refine tt_ar rfl ?_
                              refine tt_cs2 2 rfl (c172 (am_set σm pM ((10 * m)) (1)) _ _ (by omega)) (kx (fun i17 hi17 => ?_))
                              · refine tt_ifne (fun h5_12 => ?_) (fun h5_12 => ?_)
                                · refine tt_ar rfl ?_
                                  refine tt_nop ?_
                                  refine tt_iast (((10 * m) + 1)) kpM_σm (by omega) (by omega) (by omega) ?_
                                  refine tt_ar rfl ?_
                                  refine tt_ar rfl ?_
                                  refine tt_ar rfl ?_
                                  have hFx : Fr [pM] σm (am_set (am_set σm pM ((10 * m)) (1)) pM (((10 * m) + 1)) (0)) := (Fr.put (Fr.put Fr.rf (by simp)) (by simp))
                                  have hCx : CI k m ns D (am_set (am_set σm pM ((10 * m)) (1)) pM (((10 * m) + 1)) (0)) := hCm.law hFx (fun a ha => by have ha : a = pM := (by simpa using ha); subst ha; exact ⟨by omega, _, kpM_σm⟩)
                                  have hLx : LF [pM] σ1 (am_set (am_set σm pM ((10 * m)) (1)) pM (((10 * m) + 1)) (0)) := hL_σm.tr (LF.fr hFx (fun a ha => by have ha : a = pM := (by simpa using ha); omega))
                                  refine tt_cv3 3 rfl (wo_2 hCm.w) (c21 (am_set (am_set σm pM ((10 * m)) (1)) pM (((10 * m) + 1)) (0)) k m ns D hCx 4 8) ?_
                                  intro r5 σ5 hq5
                                  rw [show x_row (am_set (am_set σm pM ((10 * m)) (1)) pM (((10 * m) + 1)) (0)) 4 8 = (vI 8, upS 64 40 (fun _ => 0) 8 (am_set (am_set σm pM ((10 * m)) (1)) pM (((10 * m) + 1)) (0))) from rfl] at hq5
                                  obtain ⟨hC5, rfl, hE5, hQ5⟩ := hq5
                                  have z64 : σ5.1 64 1 = 8 := (hE5 64 1 (by unfold bcP; omega)).trans (upS_1 (s := 64))
                                  have kx : (am_set (am_set σm pM ((10 * m)) (1)) pM (((10 * m) + 1)) (0)).2.2.1[pM]? = some (.inl .int, 40) := kpM_σm
                                  have w5 : 0 ≤ σ5.1 pM (10 * m) ∧ σ5.1 pM (10 * m) ≤ 1 := by rw [hQ5.2.2 pM (Or.inr (Or.inr (Or.inr ⟨by omega, _, kx⟩))), am_set_ne (by omega), am_set_rd]; omega
                                  have d5 : 0 ≤ σ5.1 pM (10 * m + 1) ∧ σ5.1 pM (10 * m + 1) ≤ 9 := by rw [hQ5.2.2 pM (Or.inr (Or.inr (Or.inr ⟨by omega, _, kx⟩))), am_set_rd]; omega
                                  · refine tt_ar rfl ?_
                                    refine tt_iceq (fun _ => ?_) (fun h => absurd h (by omega))
                                    refine tt_loc [(0, vR 2), (1, vR 1), (2, vI 8), (5, vR 77), (6, vR 78), (7, vR 79), (8, vR pM), (9, vR pH), (10, vI (((mm : Nat) : Int))), (11, vI (((tb k hB : Nat) : Int))), (12, vI (((m : Nat) : Int))), (13, vI (xc3))] rfl rfl ⟨rfl, rfl, rfl, rfl, rfl, rfl, rfl, rfl, rfl, rfl, rfl, rfl, trivial⟩ ?_
                                    exact lp8_2 (tb k hB) σ5 (by first | exact tB | exact hu) hC5 (hLx.tr (LF.qc hQ5)) w5 d5 z64
                                · refine tt_ar rfl ?_
                                  refine tt_ar rfl ?_
                                  refine tt_ar rfl ?_
                                  refine tt_bI (g := a_shr) (z := a_shr (xc3) (13)) rfl rfl ?_
                                  refine tt_ar rfl ?_
                                  refine tt_cs2 2 rfl (c172 (am_set σm pM ((10 * m)) (1)) _ _ (by omega)) (kx (fun i18 hi18 => ?_))
                                  · refine tt_iadd (by omega) (by omega) ?_
                                    refine tt_goto ?_
                                    refine tt_iast (((10 * m) + 1)) kpM_σm (by omega) (by omega) (by omega) ?_
                                    refine tt_ar rfl ?_
                                    refine tt_ar rfl ?_
                                    refine tt_ar rfl ?_
                                    have hFx : Fr [pM] σm (am_set (am_set σm pM ((10 * m)) (1)) pM (((10 * m) + 1)) ((1 + ((i18 : Nat) : Int)))) := (Fr.put (Fr.put Fr.rf (by simp)) (by simp))
                                    have hCx : CI k m ns D (am_set (am_set σm pM ((10 * m)) (1)) pM (((10 * m) + 1)) ((1 + ((i18 : Nat) : Int)))) := hCm.law hFx (fun a ha => by have ha : a = pM := (by simpa using ha); subst ha; exact ⟨by omega, _, kpM_σm⟩)
                                    have hLx : LF [pM] σ1 (am_set (am_set σm pM ((10 * m)) (1)) pM (((10 * m) + 1)) ((1 + ((i18 : Nat) : Int)))) := hL_σm.tr (LF.fr hFx (fun a ha => by have ha : a = pM := (by simpa using ha); omega))
                                    refine tt_cv3 3 rfl (wo_2 hCm.w) (c21 (am_set (am_set σm pM ((10 * m)) (1)) pM (((10 * m) + 1)) ((1 + ((i18 : Nat) : Int)))) k m ns D hCx 4 8) ?_
                                    intro r5 σ5 hq5
                                    rw [show x_row (am_set (am_set σm pM ((10 * m)) (1)) pM (((10 * m) + 1)) ((1 + ((i18 : Nat) : Int)))) 4 8 = (vI 8, upS 64 40 (fun _ => 0) 8 (am_set (am_set σm pM ((10 * m)) (1)) pM (((10 * m) + 1)) ((1 + ((i18 : Nat) : Int))))) from rfl] at hq5
                                    obtain ⟨hC5, rfl, hE5, hQ5⟩ := hq5
                                    have z64 : σ5.1 64 1 = 8 := (hE5 64 1 (by unfold bcP; omega)).trans (upS_1 (s := 64))
                                    have kx : (am_set (am_set σm pM ((10 * m)) (1)) pM (((10 * m) + 1)) ((1 + ((i18 : Nat) : Int)))).2.2.1[pM]? = some (.inl .int, 40) := kpM_σm
                                    have w5 : 0 ≤ σ5.1 pM (10 * m) ∧ σ5.1 pM (10 * m) ≤ 1 := by rw [hQ5.2.2 pM (Or.inr (Or.inr (Or.inr ⟨by omega, _, kx⟩))), am_set_ne (by omega), am_set_rd]; omega
                                    have d5 : 0 ≤ σ5.1 pM (10 * m + 1) ∧ σ5.1 pM (10 * m + 1) ≤ 9 := by rw [hQ5.2.2 pM (Or.inr (Or.inr (Or.inr ⟨by omega, _, kx⟩))), am_set_rd]; omega
                                    · refine tt_ar rfl ?_
                                      refine tt_iceq (fun _ => ?_) (fun h => absurd h (by omega))
                                      refine tt_loc [(0, vR 2), (1, vR 1), (2, vI 8), (5, vR 77), (6, vR 78), (7, vR 79), (8, vR pM), (9, vR pH), (10, vI (((mm : Nat) : Int))), (11, vI (((tb k hB : Nat) : Int))), (12, vI (((m : Nat) : Int))), (13, vI (xc3))] rfl rfl ⟨rfl, rfl, rfl, rfl, rfl, rfl, rfl, rfl, rfl, rfl, rfl, rfl, trivial⟩ ?_
                                      exact lp8_2 (tb k hB) σ5 (by first | exact tB | exact hu) hC5 (hLx.tr (LF.qc hQ5)) w5 d5 z64
            refine tt_loc [(0, vR 2), (1, vR 1), (2, vI 8), (5, vR 77), (6, vR 78), (7, vR 79), (8, vR pM), (9, vR pH), (10, vI (((mm : Nat) : Int))), (11, vI (((tb k hA : Nat) : Int))), (12, vI (((0 : Nat) : Int)))] rfl rfl ⟨rfl, rfl, rfl, rfl, rfl, rfl, rfl, rfl, rfl, rfl, lv_to rfl (by omega), trivial⟩ ?_
            exact lp1_1 _ (0) (tb k hA) σ1 (Nat.lt_succ_self _) (by omega) tA hC1 LF.rf

