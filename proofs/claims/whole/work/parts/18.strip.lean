theorem c23 (σ : am_S) (v most : Int) : CC 23 [vI (v), vI (most)] σ (fun r σ' => σ' = σ ∧ ((0 ≤ v ∧ v ≤ most) ∧ r = some (vI 1) ∨ ¬(0 ≤ v ∧ v ≤ most) ∧ r = some (vI 0))) := by
  show TT am_b23 (am_b23.getD 0 []) [(0, vI (v)), (1, vI (most))] [] σ _
  refine tt_ar rfl ?_
  refine tt_iflt (fun h0_1 => ?_) (fun h0_1 => ?_)
  · refine tt_ar rfl ?_
    refine tt_nop ?_
    refine tt_zret (by omega) ?_
    exact ⟨rfl, Or.inr ⟨by omega, rfl⟩⟩
  · refine tt_ar rfl ?_
    refine tt_ar rfl ?_
    refine tt_icgt (fun h0_4 => ?_) (fun h0_4 => ?_)
    · refine tt_ar rfl ?_
      refine tt_nop ?_
      refine tt_zret (by omega) ?_
      exact ⟨rfl, Or.inr ⟨by omega, rfl⟩⟩
    · refine tt_ar rfl ?_
      refine tt_goto ?_
      refine tt_zret (by omega) ?_
      exact ⟨rfl, Or.inl ⟨by omega, rfl⟩⟩

