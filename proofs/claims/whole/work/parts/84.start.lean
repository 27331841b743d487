/-! THE REFERENCE IS MADE; THE START OF THE LOOP -/
def chn2 (f : Nat → Nat → Int) : Nat → Nat → Int := setf (setf (setf (setf (setf (setf (setf (setf (setf (setf (setf (f) 76 5 (1)) 78 0 (-9)) 78 1 (-9)) 78 2 (-9)) 78 3 (-9)) 78 4 (-9)) 78 5 (-9)) 81 0 (-9)) 81 1 (-9)) 81 2 (-9)) 81 3 (-9)
theorem chn2_n {g : Nat → Nat → Int} {a j : Nat} (h : a ≠ 76 ∧ a ≠ 78 ∧ a ≠ 81) : chn2 g a j = g a j := by
  unfold chn2
  repeat rw [setf_ne (by omega)]
theorem chn_n {g : Nat → Nat → Int} {a j : Nat} (h : a ≠ 2 ∧ a ≠ 27 ∧ a ≠ 36 ∧ a ≠ 47 ∧ (a < 56 ∨ 75 ≤ a ∨ a % 2 = 1)) : chn g a j = g a j := by
  unfold chn
  repeat rw [setf_ne (by omega)]
theorem wd_k {L : Nat} {f : Nat → Nat → Int} : Wd ((f, Cs L 105 115) : am_S) := by
  refine ⟨fun a q ha hq => ?_, ?_⟩
  · match a, ha with
    | 0, _ => exact hq
    | 1, h => exact absurd rfl h
    | a + 2, _ =>
      show (cs_ly.take 105)[a]? = some q
      rw [show cs_ly.take 105 = cs_ly from rfl]
      exact hq
  · show ∀ p ∈ wd_rf, rfL (cs_rf.take 115) p.1 p.2.1 = some p.2.2
    decide +kernel
theorem k172_76 {L : Nat} {f : Nat → Nat → Int} (hZ : Zf 75 f) : CC 172 [vR 76] (f, Cs L 75 85) (fun r σ' => r = none ∧ σ'.2 = Cs L 105 115 ∧ (∀ a, a ∉ ([76, 83, 84, 85, 86, 87, 88, 89, 90, 92, 93] : List Nat) → ∀ j, σ'.1 a j = chn2 f a j) ∧ (∀ j, j < 6 → σ'.1 76 j = chn2 f 76 j) ∧ σ'.1 76 11 = ((0 : Nat) : Int) ∧ σ'.1 76 15 = p_W0 6 1 ∧ (∀ i, i < 6 → i < 0 → σ'.1 83 i = p_grow p_W0 7 i) ∧ (∀ i, i < 48 → σ'.1 84 i = p_W0 8 i ∧ σ'.1 85 i = p_W0 9 i) ∧ (∀ i, i < 5 → σ'.1 86 i = p_W0 10 i) ∧ σ'.1 76 25 = 0 ∧ σ'.1 76 43 = 0 ∧ σ'.1 76 27 = (nkT 0 : Int) ∧ (∀ j, j < nkT 0 → σ'.1 92 j = (tb 0 j : Int) ∧ ∀ s, s < 6 → σ'.1 93 (6 * j + s) = (dg (tb 0 j) s : Int)) ∧ σ'.1 76 31 = 0) := by
  show TT am_b172 (am_b172.getD 0 []) [(0, vR 76)] [] (f, Cs L 75 85) _
  refine tt_ar rfl ?_
  refine tt_objinit rfl ?_
  refine tt_ar rfl ?_
  refine tt_ar rfl ?_
  refine tc_newarray (n := 75) (a := 77) (n' := 76) (by decide) (by decide) rfl (by decide +kernel) hZ rfl rfl ?_
  have hZ140 := zf_up hZ
  refine tc_putR (m := 85) (m' := 86) rfl rfl rfl rfl rfl ?_
  refine tt_ar rfl ?_
  refine tt_ar rfl ?_
  refine tc_putL rfl rfl ?_
  intro g141 (hg141 : g141 = setf f 76 5 (1))
  have hZg141 := zf_sg hg141 hZ140 (by decide)
  refine tt_ar rfl ?_
  refine tt_ar rfl ?_
  refine tc_newarray (n := 76) (a := 78) (n' := 77) (by decide) (by decide) rfl (by decide +kernel) hZg141 rfl rfl ?_
  have hZ142 := zf_up hZg141
  refine tc_putR (m := 86) (m' := 87) rfl rfl rfl rfl rfl ?_
  refine tt_ar rfl ?_
  refine tt_ar rfl ?_
  refine tc_newarray (n := 77) (a := 79) (n' := 78) (by decide) (by decide) rfl (by decide +kernel) hZ142 rfl rfl ?_
  have hZ143 := zf_up hZ142
  refine tc_putR (m := 87) (m' := 88) rfl rfl rfl rfl rfl ?_
  refine tt_ar rfl ?_
  refine tt_ar rfl ?_
  refine tc_newarray (n := 78) (a := 80) (n' := 79) (by decide) (by decide) rfl (by decide +kernel) hZ143 rfl rfl ?_
  have hZ144 := zf_up hZ143
  refine tc_putR (m := 88) (m' := 89) rfl rfl rfl rfl rfl ?_
  refine tt_ar rfl ?_
  refine tt_ar rfl ?_
  refine tc_newarray (n := 79) (a := 81) (n' := 80) (by decide) (by decide) rfl (by decide +kernel) hZ144 rfl rfl ?_
  have hZ145 := zf_up hZ144
  refine tc_putR (m := 89) (m' := 90) rfl rfl rfl rfl rfl ?_
  refine tt_ar rfl ?_
  refine tt_ar rfl ?_
  refine tc_newarray (n := 80) (a := 82) (n' := 81) (by decide) (by decide) rfl (by decide +kernel) hZ145 rfl rfl ?_
  have hZ146 := zf_up hZ145
  refine tc_putR (m := 90) (m' := 91) rfl rfl rfl rfl rfl ?_
  refine tt_ar rfl ?_
  refine tt_ar rfl ?_
  refine tc_newarray (n := 81) (a := 83) (n' := 82) (by decide) (by decide) rfl (by decide +kernel) hZ146 rfl rfl ?_
  have hZ147 := zf_up hZ146
  refine tc_putR (m := 91) (m' := 92) rfl rfl rfl rfl rfl ?_
  refine tt_ar rfl ?_
  refine tt_ar rfl ?_
  refine tc_newarray (n := 82) (a := 84) (n' := 83) (by decide) (by decide) rfl (by decide +kernel) hZ147 rfl rfl ?_
  have hZ148 := zf_up hZ147
  refine tc_putR (m := 92) (m' := 93) rfl rfl rfl rfl rfl ?_
  refine tt_ar rfl ?_
  refine tt_ar rfl ?_
  refine tc_newarray (n := 83) (a := 85) (n' := 84) (by decide) (by decide) rfl (by decide +kernel) hZ148 rfl rfl ?_
  have hZ149 := zf_up hZ148
  refine tc_putR (m := 93) (m' := 94) rfl rfl rfl rfl rfl ?_
  refine tt_ar rfl ?_
  refine tt_ar rfl ?_
  refine tc_newarray (n := 84) (a := 86) (n' := 85) (by decide) (by decide) rfl (by decide +kernel) hZ149 rfl rfl ?_
  have hZ150 := zf_up hZ149
  refine tc_putR (m := 94) (m' := 95) rfl rfl rfl rfl rfl ?_
  refine tt_ar rfl ?_
  refine tt_ar rfl ?_
  refine tc_newarray (n := 85) (a := 87) (n' := 86) (by decide) (by decide) rfl (by decide +kernel) hZ150 rfl rfl ?_
  have hZ151 := zf_up hZ150
  refine tc_putR (m := 95) (m' := 96) rfl rfl rfl rfl rfl ?_
  refine tt_ar rfl ?_
  refine tt_ar rfl ?_
  refine tc_newarray (n := 86) (a := 88) (n' := 87) (by decide) (by decide) rfl (by decide +kernel) hZ151 rfl rfl ?_
  have hZ152 := zf_up hZ151
  refine tc_putR (m := 96) (m' := 97) rfl rfl rfl rfl rfl ?_
  refine tt_ar rfl ?_
  refine tt_ar rfl ?_
  refine tc_newarray (n := 87) (a := 89) (n' := 88) (by decide) (by decide) rfl (by decide +kernel) hZ152 rfl rfl ?_
  have hZ153 := zf_up hZ152
  refine tc_putR (m := 97) (m' := 98) rfl rfl rfl rfl rfl ?_
  refine tt_ar rfl ?_
  refine tt_ar rfl ?_
  refine tc_newarray (n := 88) (a := 90) (n' := 89) (by decide) (by decide) rfl (by decide +kernel) hZ153 rfl rfl ?_
  have hZ154 := zf_up hZ153
  refine tc_putR (m := 98) (m' := 99) rfl rfl rfl rfl rfl ?_
  refine tt_ar rfl ?_
  refine tt_ar rfl ?_
  refine tc_newarray (n := 89) (a := 91) (n' := 90) (by decide) (by decide) rfl (by decide +kernel) hZ154 rfl rfl ?_
  have hZ155 := zf_up hZ154
  refine tc_putR (m := 99) (m' := 100) rfl rfl rfl rfl rfl ?_
  refine tt_ar rfl ?_
  refine tt_ar rfl ?_
  refine tc_newarray (n := 90) (a := 92) (n' := 91) (by decide) (by decide) rfl (by decide +kernel) hZ155 rfl rfl ?_
  have hZ156 := zf_up hZ155
  refine tc_putR (m := 100) (m' := 101) rfl rfl rfl rfl rfl ?_
  refine tt_ar rfl ?_
  refine tt_ar rfl ?_
  refine tc_newarray (n := 91) (a := 93) (n' := 92) (by decide) (by decide) rfl (by decide +kernel) hZ156 rfl rfl ?_
  have hZ157 := zf_up hZ156
  refine tc_putR (m := 101) (m' := 102) rfl rfl rfl rfl rfl ?_
  refine tt_ar rfl ?_
  refine tt_ar rfl ?_
  refine tc_newarray (n := 92) (a := 94) (n' := 93) (by decide) (by decide) rfl (by decide +kernel) hZ157 rfl rfl ?_
  have hZ158 := zf_up hZ157
  refine tc_putR (m := 102) (m' := 103) rfl rfl rfl rfl rfl ?_
  refine tt_ar rfl ?_
  refine tt_ar rfl ?_
  refine tc_newarray (n := 93) (a := 95) (n' := 94) (by decide) (by decide) rfl (by decide +kernel) hZ158 rfl rfl ?_
  have hZ159 := zf_up hZ158
  refine tc_putR (m := 103) (m' := 104) rfl rfl rfl rfl rfl ?_
  refine tt_ar rfl ?_
  refine tt_ar rfl ?_
  refine tc_newarray (n := 94) (a := 96) (n' := 95) (by decide) (by decide) rfl (by decide +kernel) hZ159 rfl rfl ?_
  have hZ160 := zf_up hZ159
  refine tc_putR (m := 104) (m' := 105) rfl rfl rfl rfl rfl ?_
  refine tt_ar rfl ?_
  refine tt_ar rfl ?_
  refine tc_newarray (n := 95) (a := 97) (n' := 96) (by decide) (by decide) rfl (by decide +kernel) hZ160 rfl rfl ?_
  have hZ161 := zf_up hZ160
  refine tc_putR (m := 105) (m' := 106) rfl rfl rfl rfl rfl ?_
  refine tt_ar rfl ?_
  refine tt_ar rfl ?_
  refine tc_newarray (n := 96) (a := 98) (n' := 97) (by decide) (by decide) rfl (by decide +kernel) hZ161 rfl rfl ?_
  have hZ162 := zf_up hZ161
  refine tc_putR (m := 106) (m' := 107) rfl rfl rfl rfl rfl ?_
  refine tt_ar rfl ?_
  refine tt_ar rfl ?_
  refine tc_newarray (n := 97) (a := 99) (n' := 98) (by decide) (by decide) rfl (by decide +kernel) hZ162 rfl rfl ?_
  have hZ163 := zf_up hZ162
  refine tc_putR (m := 107) (m' := 108) rfl rfl rfl rfl rfl ?_
  refine tt_ar rfl ?_
  refine tt_ar rfl ?_
  refine tc_newarray (n := 98) (a := 100) (n' := 99) (by decide) (by decide) rfl (by decide +kernel) hZ163 rfl rfl ?_
  have hZ164 := zf_up hZ163
  refine tc_putR (m := 108) (m' := 109) rfl rfl rfl rfl rfl ?_
  refine tt_ar rfl ?_
  refine tt_ar rfl ?_
  refine tc_newarray (n := 99) (a := 101) (n' := 100) (by decide) (by decide) rfl (by decide +kernel) hZ164 rfl rfl ?_
  have hZ165 := zf_up hZ164
  refine tc_putR (m := 109) (m' := 110) rfl rfl rfl rfl rfl ?_
  refine tt_ar rfl ?_
  refine tt_ar rfl ?_
  refine tc_newarray (n := 100) (a := 102) (n' := 101) (by decide) (by decide) rfl (by decide +kernel) hZ165 rfl rfl ?_
  have hZ166 := zf_up hZ165
  refine tc_putR (m := 110) (m' := 111) rfl rfl rfl rfl rfl ?_
  refine tt_ar rfl ?_
  refine tt_ar rfl ?_
  refine tc_newarray (n := 101) (a := 103) (n' := 102) (by decide) (by decide) rfl (by decide +kernel) hZ166 rfl rfl ?_
  have hZ167 := zf_up hZ166
  refine tc_putR (m := 111) (m' := 112) rfl rfl rfl rfl rfl ?_
  refine tt_ar rfl ?_
  refine tt_ar rfl ?_
  refine tc_newarray (n := 102) (a := 104) (n' := 103) (by decide) (by decide) rfl (by decide +kernel) hZ167 rfl rfl ?_
  have hZ168 := zf_up hZ167
  refine tc_putR (m := 112) (m' := 113) rfl rfl rfl rfl rfl ?_
  refine tt_ar rfl ?_
  refine tt_ar rfl ?_
  refine tc_newarray (n := 103) (a := 105) (n' := 104) (by decide) (by decide) rfl (by decide +kernel) hZ168 rfl rfl ?_
  have hZ169 := zf_up hZ168
  refine tc_putR (m := 113) (m' := 114) rfl rfl rfl rfl rfl ?_
  refine tt_ar rfl ?_
  refine tt_ar rfl ?_
  refine tc_newarray (n := 104) (a := 106) (n' := 105) (by decide) (by decide) rfl (by decide +kernel) hZ169 rfl rfl ?_
  have hZ170 := zf_up hZ169
  refine tc_putR (m := 114) (m' := 115) rfl rfl rfl rfl rfl ?_
  refine tt_ar rfl ?_
  refine tt_ar rfl ?_
  refine tt_nop ?_
  refine tt_ar rfl ?_
  refine tt_ar rfl ?_
  refine tt_icge (fun h => absurd h (by decide)) (fun _ => ?_)
  refine tt_ar rfl ?_
  refine tt_getR rfl rfl (b := 78) rfl ?_
  refine tt_ar rfl ?_
  refine tt_ar rfl ?_
  refine tc_iast 0 rfl (by decide) rfl (by decide) ?_
  intro g171 (hg171 : g171 = setf g141 78 0 (-9))
  have hZg171 := zf_sg hg171 hZ170 (by decide)
  refine tt_iinc (y := 1) rfl (iinc_fit (by omega) (by omega) (by omega)) ?_
  refine tt_loc [(0, vR 76), (1, vI 1)] rfl rfl ⟨rfl, rfl, trivial⟩ ?_
  refine tt_goto ?_
  refine tt_ar rfl ?_
  refine tt_ar rfl ?_
  refine tt_icge (fun h => absurd h (by decide)) (fun _ => ?_)
  refine tt_ar rfl ?_
  refine tt_getR rfl rfl (b := 78) rfl ?_
  refine tt_ar rfl ?_
  refine tt_ar rfl ?_
  refine tc_iast 1 rfl (by decide) rfl (by decide) ?_
  intro g172 (hg172 : g172 = setf g171 78 1 (-9))
  have hZg172 := zf_sg hg172 hZg171 (by decide)
  refine tt_iinc (y := 2) rfl (iinc_fit (by omega) (by omega) (by omega)) ?_
  refine tt_loc [(0, vR 76), (1, vI 2)] rfl rfl ⟨rfl, rfl, trivial⟩ ?_
  refine tt_goto ?_
  refine tt_ar rfl ?_
  refine tt_ar rfl ?_
  refine tt_icge (fun h => absurd h (by decide)) (fun _ => ?_)
  refine tt_ar rfl ?_
  refine tt_getR rfl rfl (b := 78) rfl ?_
  refine tt_ar rfl ?_
  refine tt_ar rfl ?_
  refine tc_iast 2 rfl (by decide) rfl (by decide) ?_
  intro g173 (hg173 : g173 = setf g172 78 2 (-9))
  have hZg173 := zf_sg hg173 hZg172 (by decide)
  refine tt_iinc (y := 3) rfl (iinc_fit (by omega) (by omega) (by omega)) ?_
  refine tt_loc [(0, vR 76), (1, vI 3)] rfl rfl ⟨rfl, rfl, trivial⟩ ?_
  refine tt_goto ?_
  refine tt_ar rfl ?_
  refine tt_ar rfl ?_
  refine tt_icge (fun h => absurd h (by decide)) (fun _ => ?_)
  refine tt_ar rfl ?_
  refine tt_getR rfl rfl (b := 78) rfl ?_
  refine tt_ar rfl ?_
  refine tt_ar rfl ?_
  refine tc_iast 3 rfl (by decide) rfl (by decide) ?_
  intro g174 (hg174 : g174 = setf g173 78 3 (-9))
  have hZg174 := zf_sg hg174 hZg173 (by decide)
  refine tt_iinc (y := 4) rfl (iinc_fit (by omega) (by omega) (by omega)) ?_
  refine tt_loc [(0, vR 76), (1, vI 4)] rfl rfl ⟨rfl, rfl, trivial⟩ ?_
  refine tt_goto ?_
  refine tt_ar rfl ?_
  refine tt_ar rfl ?_
  refine tt_icge (fun h => absurd h (by decide)) (fun _ => ?_)
  refine tt_ar rfl ?_
  refine tt_getR rfl rfl (b := 78) rfl ?_
  refine tt_ar rfl ?_
  refine tt_ar rfl ?_
  refine tc_iast 4 rfl (by decide) rfl (by decide) ?_
  intro g175 (hg175 : g175 = setf g174 78 4 (-9))
  have hZg175 := zf_sg hg175 hZg174 (by decide)
  refine tt_iinc (y := 5) rfl (iinc_fit (by omega) (by omega) (by omega)) ?_
  refine tt_loc [(0, vR 76), (1, vI 5)] rfl rfl ⟨rfl, rfl, trivial⟩ ?_
  refine tt_goto ?_
  refine tt_ar rfl ?_
  refine tt_ar rfl ?_
  refine tt_icge (fun h => absurd h (by decide)) (fun _ => ?_)
  refine tt_ar rfl ?_
  refine tt_getR rfl rfl (b := 78) rfl ?_
  refine tt_ar rfl ?_
  refine tt_ar rfl ?_
  refine tc_iast 5 rfl (by decide) rfl (by decide) ?_
  intro g176 (hg176 : g176 = setf g175 78 5 (-9))
  have hZg176 := zf_sg hg176 hZg175 (by decide)
  refine tt_iinc (y := 6) rfl (iinc_fit (by omega) (by omega) (by omega)) ?_
  refine tt_loc [(0, vR 76), (1, vI 6)] rfl rfl ⟨rfl, rfl, trivial⟩ ?_
  refine tt_goto ?_
  refine tt_ar rfl ?_
  refine tt_ar rfl ?_
  refine tt_icge (fun _ => ?_) (fun h => absurd h (by decide))
  refine tt_ar rfl ?_
  refine tt_ar rfl ?_
  refine tt_nop ?_
  refine tt_ar rfl ?_
  refine tt_ar rfl ?_
  refine tt_icge (fun h => absurd h (by decide)) (fun _ => ?_)
  refine tt_ar rfl ?_
  refine tt_getR rfl rfl (b := 81) rfl ?_
  refine tt_ar rfl ?_
  refine tt_ar rfl ?_
  refine tc_iast 0 rfl (by decide) rfl (by decide) ?_
  intro g177 (hg177 : g177 = setf g176 81 0 (-9))
  have hZg177 := zf_sg hg177 hZg176 (by decide)
  refine tt_iinc (y := 1) rfl (iinc_fit (by omega) (by omega) (by omega)) ?_
  refine tt_loc [(0, vR 76), (1, vI 1)] rfl rfl ⟨rfl, rfl, trivial⟩ ?_
  refine tt_goto ?_
  refine tt_ar rfl ?_
  refine tt_ar rfl ?_
  refine tt_icge (fun h => absurd h (by decide)) (fun _ => ?_)
  refine tt_ar rfl ?_
  refine tt_getR rfl rfl (b := 81) rfl ?_
  refine tt_ar rfl ?_
  refine tt_ar rfl ?_
  refine tc_iast 1 rfl (by decide) rfl (by decide) ?_
  intro g178 (hg178 : g178 = setf g177 81 1 (-9))
  have hZg178 := zf_sg hg178 hZg177 (by decide)
  refine tt_iinc (y := 2) rfl (iinc_fit (by omega) (by omega) (by omega)) ?_
  refine tt_loc [(0, vR 76), (1, vI 2)] rfl rfl ⟨rfl, rfl, trivial⟩ ?_
  refine tt_goto ?_
  refine tt_ar rfl ?_
  refine tt_ar rfl ?_
  refine tt_icge (fun h => absurd h (by decide)) (fun _ => ?_)
  refine tt_ar rfl ?_
  refine tt_getR rfl rfl (b := 81) rfl ?_
  refine tt_ar rfl ?_
  refine tt_ar rfl ?_
  refine tc_iast 2 rfl (by decide) rfl (by decide) ?_
  intro g179 (hg179 : g179 = setf g178 81 2 (-9))
  have hZg179 := zf_sg hg179 hZg178 (by decide)
  refine tt_iinc (y := 3) rfl (iinc_fit (by omega) (by omega) (by omega)) ?_
  refine tt_loc [(0, vR 76), (1, vI 3)] rfl rfl ⟨rfl, rfl, trivial⟩ ?_
  refine tt_goto ?_
  refine tt_ar rfl ?_
  refine tt_ar rfl ?_
  refine tt_icge (fun h => absurd h (by decide)) (fun _ => ?_)
  refine tt_ar rfl ?_
  refine tt_getR rfl rfl (b := 81) rfl ?_
  refine tt_ar rfl ?_
  refine tt_ar rfl ?_
  refine tc_iast 3 rfl (by decide) rfl (by decide) ?_
  intro g180 (hg180 : g180 = setf g179 81 3 (-9))
  have hZg180 := zf_sg hg180 hZg179 (by decide)
  refine tt_iinc (y := 4) rfl (iinc_fit (by omega) (by omega) (by omega)) ?_
  refine tt_loc [(0, vR 76), (1, vI 4)] rfl rfl ⟨rfl, rfl, trivial⟩ ?_
  refine tt_goto ?_
  refine tt_ar rfl ?_
  refine tt_ar rfl ?_
  refine tt_icge (fun _ => ?_) (fun h => absurd h (by decide))
  refine tt_ar rfl ?_
  have hG : g180 = chn2 f := by
    rw [hg180, hg179, hg178, hg177, hg176, hg175, hg174, hg173, hg172, hg171, hg141]
    rfl
  have hWd : Wd ((g180, Cs L 105 115) : am_S) := wd_k
  refine tt_cv1 1 rfl (wo_76 hWd) (c173 _ hWd) ?_
  intro r1 σ1 hq1
  obtain ⟨rfl, hF1, hK1, hQ⟩ := hq1
  have hW1 := hF1.wd hWd
  refine tt_ar rfl ?_
  refine tt_cv1 1 rfl (wo_76 hW1) (c174 p_W0 0 σ1 hW1 hQ WOK0 rfl) ?_
  intro r2 σ2 hq2
  obtain ⟨rfl, hF2, hK2, z1, z2, z3, z4, z5, z6, z7, z8, z9, z10⟩ := hq2
  refine tt_vret ?_
  refine ⟨rfl, hF2.1.trans hF1.1, fun a ha j => ?_, fun j hj => ?_, z1, z2, z3, z4, z5, z6, z7, z8, z9, z10⟩
  · have h1 : a ∉ ([76, 83, 84, 85, 86, 92, 93] : List Nat) := fun e => ha (by simp only [List.mem_cons, List.not_mem_nil, or_false] at e ⊢; omega)
    have h2 : a ∉ ([76, 87, 88, 89, 90] : List Nat) := fun e => ha (by simp only [List.mem_cons, List.not_mem_nil, or_false] at e ⊢; omega)
    rw [hF2.2 a h1 j, hF1.2 a h2 j, ← hG]
  · rw [hK2 j (by omega) (by omega) (by omega) (by omega) (by omega) (by omega), hK1 j (by omega) (by omega) (by omega) (by omega), ← hG]
def lw_f (xs : Nat → Int32) : Nat → Nat → Int := fun a j => if a = 0 then (am_wv j).toInt else if a = 1 then (xs j).toInt else 0
theorem lw_made {L : Nat} {xs : Nat → Int32} {g3 : Nat → Nat → Int} {σ' : am_S} (hHT : HT 0 (g3, Cs L 0 0)) (hW5 : W5 g3) (e3 : ∀ a, (a < 5 ∨ 26 < a ∨ a = 10 ∨ a = 12) → ∀ j, g3 a j = lw_f xs a j) (e2 : σ'.2 = Cs L 105 115)
    (hP : (∀ a, a ∉ ([76, 83, 84, 85, 86, 87, 88, 89, 90, 92, 93] : List Nat) → ∀ j, σ'.1 a j = chn2 (chn g3) a j) ∧ (∀ j, j < 6 → σ'.1 76 j = chn2 (chn g3) 76 j) ∧ σ'.1 76 11 = ((0 : Nat) : Int) ∧ σ'.1 76 15 = p_W0 6 1 ∧ (∀ i, i < 6 → i < 0 → σ'.1 83 i = p_grow p_W0 7 i) ∧ (∀ i, i < 48 → σ'.1 84 i = p_W0 8 i ∧ σ'.1 85 i = p_W0 9 i) ∧ (∀ i, i < 5 → σ'.1 86 i = p_W0 10 i) ∧ σ'.1 76 25 = 0 ∧ σ'.1 76 43 = 0 ∧ σ'.1 76 27 = (nkT 0 : Int) ∧ (∀ j, j < nkT 0 → σ'.1 92 j = (tb 0 j : Int) ∧ ∀ s, s < 6 → σ'.1 93 (6 * j + s) = (dg (tb 0 j) s : Int)) ∧ σ'.1 76 31 = 0) : LwI L xs σ' := by
  obtain ⟨eA, e76, z1, z2, z3, z4, z5, z6, z7, z8, z9, z10⟩ := hP
  have hWd : Wd σ' := by
    have := wd_k (L := L) (f := σ'.1)
    rw [← e2] at this
    exact this
  have p0 : ∀ a, (a < 76 ∨ a = 77 ∨ a = 79 ∨ a = 82) → ∀ j, σ'.1 a j = chn g3 a j := fun a ha j => (eA a (by simp only [List.mem_cons, List.not_mem_nil, or_false]; omega) j).trans (chn2_n (by omega))
  have q : ∀ a, (a < 76 ∨ a = 77 ∨ a = 79 ∨ a = 82) → (a ≠ 2 ∧ a ≠ 27 ∧ a ≠ 36 ∧ a ≠ 47 ∧ (a < 56 ∨ 75 ≤ a ∨ a % 2 = 1)) → ∀ j, σ'.1 a j = g3 a j := fun a h1 h2 j => (p0 a h1 j).trans (chn_n h2)
  have qz : ∀ a, (a < 76 ∨ a = 77 ∨ a = 79 ∨ a = 82) → 27 < a → (a ≠ 36 ∧ a ≠ 47 ∧ (a < 56 ∨ 75 ≤ a ∨ a % 2 = 1)) → ∀ j, σ'.1 a j = 0 := fun a h1 h2 h3 j => by
    rw [q a h1 (by omega) j, e3 a (by omega) j]
    unfold lw_f
    rw [if_neg (by omega), if_neg (by omega)]
  have hs : ∀ r, r < 10 → σ'.1 (56 + 2 * r) 1 = -1 := fun r hr => (p0 (56 + 2 * r) (by omega) 1).trans (match r, hr with
    | 0, _ => rfl | 1, _ => rfl | 2, _ => rfl | 3, _ => rfl | 4, _ => rfl | 5, _ => rfl | 6, _ => rfl | 7, _ => rfl | 8, _ => rfl | 9, _ => rfl
    | r + 10, h => absurd h (by omega))
  have w5 : W5 σ'.1 := w5_fr hW5 (fun a h1 h2 j => q a (by omega) (by omega) j)
  have hLD : LD 0 σ' := ld_0 (f := σ'.1) (c := σ'.2) w5
  have hHT' : HT 0 σ' := ht_fr (f := g3) (g := σ'.1) (c' := σ'.2) hHT (fun a h1 h2 => funext (q a (by omega) (by omega)))
  have h27 : σ'.1 27 0 = 0 := p0 27 (by omega) 0
  have h47 : σ'.1 47 2 = 0 := p0 47 (by omega) 2
  have hLN : LN 0 σ' := ⟨h27, by omega, fun m hm => by rw [qz 28 (by omega) (by omega) (by omega) m, qz 29 (by omega) (by omega) (by omega) m]; decide, fun i hi => by rw [qz 30 (by omega) (by omega) (by omega) i]; decide⟩
  obtain ⟨D, hDI⟩ := DI_ex hWd hLD hHT'
  have hWR : WR σ' := fun j hj => by
    rw [q 0 (by omega) (by omega) j, e3 0 (by omega) j]
    exact (by decide : ∀ j, j < 6 → (am_wv j).toInt = ((10 ^ j : Nat) : Int)) j hj
  have h35 : ∀ j, σ'.1 35 j = 0 := qz 35 (by omega) (by omega) (by omega)
  have hKB : KB σ' 34 0 := by
    unfold KB
    rw [e2]
    exact ⟨rfl, rfl, Or.inl rfl, by omega, (by decide : (105 : Nat) ≤ 105 + 0), (by decide +kernel : szL (cs_ly.take 105) ≤ 310290 + 0 * 213444)⟩
  have hKN : KNs 0 D σ' := ⟨34, 0, hKB, fun h _ => Or.inl (h35 h), fun h _ e => absurd ((h35 h).symm.trans e) (by decide)⟩
  have hCI : CI 0 0 0 D σ' := ⟨hWd, hWR, ⟨hLD, hHT', hLN, hDI⟩, ⟨h47, by omega⟩, ⟨by omega, fun e he => absurd he (Nat.not_lt_zero e)⟩, hKN, fun r hr => by rw [hs r (by omega)]; decide,
    fun t ht => ⟨by rw [show 68 + 2 * t = 56 + 2 * (t + 6) by omega, hs (t + 6) (by omega)]; decide, fun j hj => by rw [qz (69 + 2 * t) (by omega) (by omega) (by omega) j]; decide⟩, Or.inl (p0 36 (by omega) 4), Or.inl (p0 36 (by omega) 5)⟩
  have e78 : ∀ r, r < 6 → σ'.1 78 r = -9 := fun r hr => (eA 78 (by decide) r).trans (match r, hr with
    | 0, _ => rfl | 1, _ => rfl | 2, _ => rfl | 3, _ => rfl | 4, _ => rfl | 5, _ => rfl
    | r + 6, h => absurd h (by omega))
  have e81 : ∀ r, r < 4 → σ'.1 81 r = -9 := fun r hr => (eA 81 (by decide) r).trans (match r, hr with
    | 0, _ => rfl | 1, _ => rfl | 2, _ => rfl | 3, _ => rfl
    | r + 4, h => absurd h (by omega))
  have s76 : ∀ j, (j = 0 ∨ (2 ≤ j ∧ j ≤ 4)) → σ'.1 76 j = g3 76 j := fun j hj => by
    rw [e76 j (by omega)]
    rcases (show j = 0 ∨ j = 2 ∨ j = 3 ∨ j = 4 by omega) with rfl | rfl | rfl | rfl <;> rfl
  have g76 : ∀ j, g3 76 j = 0 := fun j => e3 76 (by omega) j
  refine ⟨⟨0, 0, 0, D, hCI, ?_⟩, fun j => (q 1 (by omega) (by omega) j).trans (e3 1 (by omega) j), by rw [e2]; rfl⟩
  refine ⟨⟨w5.1, h27, h47⟩, ⟨?_, ?_, ?_, ?_, ?_⟩, fun f hf => ?_, fun r hr => ⟨?_, fun j hj => ?_⟩, fun t ht => ⟨?_, fun j hj => ?_⟩, ⟨z1, z2.trans w5.2.1.symm, fun i _ hi => absurd hi (Nat.not_lt_zero i), fun i hi => ⟨(z4 i hi).1.trans (w5.2.2.2.1 i hi).symm, (z4 i hi).2.trans (w5.2.2.2.2.1 i hi).symm⟩, fun i hi => (z5 i hi).trans (w5.2.2.2.2.2 i hi).symm⟩, ⟨z6, fun m hm => absurd hm (Nat.not_lt_zero m)⟩, ⟨z7, fun m hm => absurd hm (Nat.not_lt_zero m)⟩, ⟨z8, fun j hj => z9 j hj⟩, Or.inl z10⟩
  · exact (s76 0 (by omega)).trans ((g76 0).trans (p0 2 (by omega) 11).symm)
  · exact (s76 2 (by omega)).trans ((g76 2).trans (p0 2 (by omega) 12).symm)
  · exact (s76 3 (by omega)).trans ((g76 3).trans (p0 2 (by omega) 13).symm)
  · exact (s76 4 (by omega)).trans ((g76 4).trans (p0 2 (by omega) 14).symm)
  · exact (e76 5 (by omega)).trans (p0 2 (by omega) 15).symm
  · rw [qz 77 (by omega) (by omega) (by omega) f, qz 55 (by omega) (by omega) (by omega) f]
  · rw [e78 r hr, hs r (by omega)]
    rfl
  · rw [qz 79 (by omega) (by omega) (by omega), qz (57 + 2 * r) (by omega) (by omega) (by omega)]
  · rw [e81 t ht, show 68 + 2 * t = 56 + 2 * (t + 6) by omega, hs (t + 6) (by omega)]
    rfl
  · rw [qz 82 (by omega) (by omega) (by omega), qz (69 + 2 * t) (by omega) (by omega) (by omega)]
theorem lw_start {L : Nat} {xs : Nat → Int32} (hL : L ≤ 3072) : TT am_b0 (am_b0.getD 0 []) [(0, vR 1)] [] (lw_f xs, Cs L 0 0) (fun r σ' => r = some (vI 1) ∧ σ'.2.2.2.1 ≤ 600000 ∧ σ'.2.2.2.2 ≤ 7302250) := by
  have h0 : ∀ a, 2 ≤ a → ∀ j, lw_f xs a j = 0 := fun a ha j => by
    unfold lw_f
    rw [if_neg (by omega), if_neg (by omega)]
  have hZ0 : Zf 0 (lw_f xs) := fun a ha => h0 a (by omega)
  refine tc_new (n := 0) (a := 2) (n' := 1) (by decide) rfl (by decide +kernel) hZ0 rfl rfl ?_
  refine tt_ar rfl ?_
  refine tt_cx1 1 rfl (k1_2 (L := L) (zf_up hZ0) h0 (by decide : ∀ j, j < 6 → (am_wv j).toInt = ((10 ^ j : Nat) : Int))) ?_
  intro r1 σ1 hq1
  obtain ⟨rfl, g, rfl, hZg, g3, rfl, hHT, hW5, e3⟩ := hq1
  refine tt_ar rfl ?_
  refine tc_new (n := 74) (a := 76) (n' := 75) (by decide) rfl (by decide +kernel) hZg rfl rfl ?_
  refine tt_ar rfl ?_
  refine tt_cx1 1 rfl (k172_76 (L := L) (zf_up hZg)) ?_
  intro r2 σ2 hq2
  obtain ⟨rfl, e2, hP⟩ := hq2
  refine tt_ar rfl ?_
  refine tt_ar rfl ?_
  refine tt_ar rfl ?_
  refine tt_nop ?_
  refine tt_loc [(0, vR 1), (1, vR 2), (2, vR 76), (3, vI ((0 : Nat) : Int))] rfl rfl ⟨rfl, rfl, rfl, rfl, trivial⟩ ?_
  exact lw_loop hL _ 0 σ2 (Nat.lt_succ_self _) (lw_made hHT hW5 e3 e2 hP) (by omega)
