/-! THE CELLS: what each is, what refers to which; printed by a program (wip/gen/wd.py) -/
def wd_ly : List am_Ly := [(.inl .int, 6), (.inl .int, 0), (.inr 9, 16), (.inl am_strip, 6), (.inl am_strip, 4), (.inr 8, 6), (.inl .int, 6), (.inl .int, 48), (.inl .int, 48), (.inl .int, 5), (.inr 3, 3), (.inr 6, 2), (.inl .int, 0), (.inr 8, 6), (.inl .int, 6), (.inl .int, 48), (.inl .int, 48), (.inl .int, 5), (.inr 0, 10), (.inl .int, 462), (.inl .int, 462), (.inl .int, 2772), (.inl .int, 2772), (.inl .int, 2772), (.inl .int, 2772), (.inl .int, 3696), (.inl .int, 3696), (.inr 1, 4), (.inl .int, 12), (.inl .int, 12), (.inl .int, 96), (.inr 2, 3), (.inr 4, 5), (.inl .int, 462), (.inl .byte, 0), (.inl .boolean, 462), (.inr 7, 18), (.inl .int, 12), (.inl .int, 462), (.inl .int, 5544), (.inl .int, 5544), (.inl .int, 5544), (.inl .int, 5544), (.inl .int, 12), (.inl .long, 5544), (.inl .long, 5544), (.inl .int, 64), (.inr 5, 11), (.inl .int, 16), (.inl .int, 16), (.inl .int, 16), (.inl .int, 16), (.inl .int, 6), (.inl .int, 8), (.inl .int, 8), (.inl .int, 6), (.inr 6, 2), (.inl .int, 40), (.inr 6, 2), (.inl .int, 40), (.inr 6, 2), (.inl .int, 40), (.inr 6, 2), (.inl .int, 40), (.inr 6, 2), (.inl .int, 40), (.inr 6, 2), (.inl .int, 40), (.inr 6, 2), (.inl .int, 120), (.inr 6, 2), (.inl .int, 120), (.inr 6, 2), (.inl .int, 120), (.inr 6, 2), (.inl .int, 120)]
def wd_rf : List (Nat × Nat × Nat) := [(2, 0, 3), (2, 1, 4), (2, 2, 5), (2, 3, 10), (2, 4, 18), (2, 5, 27), (2, 6, 31), (2, 7, 32), (2, 8, 36), (2, 9, 47), (2, 10, 55), (3, 0, 56), (3, 1, 58), (3, 2, 60), (3, 3, 62), (3, 4, 64), (3, 5, 66), (4, 0, 68), (4, 1, 70), (4, 2, 72), (4, 3, 74), (5, 1, 6), (5, 2, 7), (5, 3, 8), (5, 5, 9), (10, 2, 13), (11, 0, 12), (13, 1, 14), (13, 2, 15), (13, 3, 16), (13, 5, 17), (18, 0, 5), (18, 2, 19), (18, 3, 20), (18, 4, 21), (18, 5, 22), (18, 6, 23), (18, 7, 24), (18, 8, 25), (18, 9, 26), (27, 1, 28), (27, 2, 29), (27, 3, 30), (31, 0, 5), (31, 1, 18), (31, 2, 27), (32, 0, 5), (32, 1, 18), (32, 2, 33), (32, 4, 35), (36, 0, 18), (36, 1, 27), (36, 2, 31), (36, 3, 32), (36, 8, 37), (36, 9, 38), (36, 10, 39), (36, 11, 40), (36, 12, 41), (36, 13, 42), (36, 14, 43), (36, 15, 44), (36, 16, 45), (36, 17, 46), (47, 0, 5), (47, 1, 27), (47, 3, 48), (47, 4, 49), (47, 5, 50), (47, 6, 51), (47, 7, 52), (47, 8, 53), (47, 9, 54), (56, 0, 57), (58, 0, 59), (60, 0, 61), (62, 0, 63), (64, 0, 65), (66, 0, 67), (68, 0, 69), (70, 0, 71), (72, 0, 73), (74, 0, 75)]
/-- the cells of the class and of the reference as they were made (but the script, and what changes: the reader's source, the steps known) -/
def Wd (σ : am_S) : Prop := (∀ a q, a ≠ 1 → wd_ly[a]? = some q → σ.2.2.1[a]? = some q) ∧ ∀ p ∈ wd_rf, σ.2.1 p.1 p.2.1 = some p.2.2
/-- all but the numbers of some cells is as it was -/
def Fr (W : List Nat) (σ σ' : am_S) : Prop := σ'.2 = σ.2 ∧ ∀ a, a ∉ W → ∀ j, σ'.1 a j = σ.1 a j
theorem Fr.rf {W : List Nat} {σ : am_S} : Fr W σ σ := ⟨rfl, fun _ _ _ => rfl⟩
theorem Fr.put {W : List Nat} {σ σ' : am_S} {a k : Nat} {x : Int} (h : Fr W σ σ') (ha : a ∈ W) : Fr W σ (am_set σ' a k x) :=
  ⟨h.1, fun b hb j => (if_neg (c := b = a ∧ j = k) (fun e => hb (e.1 ▸ ha))).trans (h.2 b hb j)⟩
theorem Fr.tr {W W' : List Nat} {σ σ' σ'' : am_S} (h : Fr W σ σ') (h2 : Fr W' σ' σ'') (hs : ∀ a ∈ W', a ∈ W) : Fr W σ σ'' :=
  ⟨h2.1.trans h.1, fun b hb j => (h2.2 b (fun e => hb (hs b e)) j).trans (h.2 b hb j)⟩
theorem Fr.mono {W W' : List Nat} {σ σ' : am_S} (h : Fr W σ σ') (hs : ∀ a ∈ W, a ∈ W') : Fr W' σ σ' := ⟨h.1, fun b hb j => h.2 b (fun e => hb (hs b e)) j⟩
theorem Fr.wd {W : List Nat} {σ σ' : am_S} (h : Fr W σ σ') (hW : Wd σ) : Wd σ' := by
  unfold Wd
  rw [h.1]
  exact hW
theorem am_isO_of {σ : am_S} {a c n : Nat} (h : σ.2.2.1[a]? = some (.inr c, n)) (ha : 2 ≤ a) : am_isO σ a c = true := by
  unfold am_isO
  rw [h]
  simp [ha]
theorem rv {e e' : Int} (h : e = e') : some (vI e) = some (vI e') := h ▸ rfl
theorem rvL {e e' : Int} (h : e = e') : some (vL e) = some (vL e') := h ▸ rfl
section WDS
variable {σ : am_S}
theorem wa_0 (h : Wd σ) : σ.2.2.1[0]? = some (.inl .int, 6) := h.1 0 _ (by decide) rfl
theorem wo_2 (h : Wd σ) : am_isO σ 2 9 = true := am_isO_of (h.1 2 _ (by decide) rfl) (by decide)
theorem wa_3 (h : Wd σ) : σ.2.2.1[3]? = some (.inl am_strip, 6) := h.1 3 _ (by decide) rfl
theorem wa_4 (h : Wd σ) : σ.2.2.1[4]? = some (.inl am_strip, 4) := h.1 4 _ (by decide) rfl
theorem wo_5 (h : Wd σ) : am_isO σ 5 8 = true := am_isO_of (h.1 5 _ (by decide) rfl) (by decide)
theorem wa_6 (h : Wd σ) : σ.2.2.1[6]? = some (.inl .int, 6) := h.1 6 _ (by decide) rfl
theorem wa_7 (h : Wd σ) : σ.2.2.1[7]? = some (.inl .int, 48) := h.1 7 _ (by decide) rfl
theorem wa_8 (h : Wd σ) : σ.2.2.1[8]? = some (.inl .int, 48) := h.1 8 _ (by decide) rfl
theorem wa_9 (h : Wd σ) : σ.2.2.1[9]? = some (.inl .int, 5) := h.1 9 _ (by decide) rfl
theorem wo_10 (h : Wd σ) : am_isO σ 10 3 = true := am_isO_of (h.1 10 _ (by decide) rfl) (by decide)
theorem wo_11 (h : Wd σ) : am_isO σ 11 6 = true := am_isO_of (h.1 11 _ (by decide) rfl) (by decide)
theorem wa_12 (h : Wd σ) : σ.2.2.1[12]? = some (.inl .int, 0) := h.1 12 _ (by decide) rfl
theorem wo_13 (h : Wd σ) : am_isO σ 13 8 = true := am_isO_of (h.1 13 _ (by decide) rfl) (by decide)
theorem wa_14 (h : Wd σ) : σ.2.2.1[14]? = some (.inl .int, 6) := h.1 14 _ (by decide) rfl
theorem wa_15 (h : Wd σ) : σ.2.2.1[15]? = some (.inl .int, 48) := h.1 15 _ (by decide) rfl
theorem wa_16 (h : Wd σ) : σ.2.2.1[16]? = some (.inl .int, 48) := h.1 16 _ (by decide) rfl
theorem wa_17 (h : Wd σ) : σ.2.2.1[17]? = some (.inl .int, 5) := h.1 17 _ (by decide) rfl
theorem wo_18 (h : Wd σ) : am_isO σ 18 0 = true := am_isO_of (h.1 18 _ (by decide) rfl) (by decide)
theorem wa_19 (h : Wd σ) : σ.2.2.1[19]? = some (.inl .int, 462) := h.1 19 _ (by decide) rfl
theorem wa_20 (h : Wd σ) : σ.2.2.1[20]? = some (.inl .int, 462) := h.1 20 _ (by decide) rfl
theorem wa_21 (h : Wd σ) : σ.2.2.1[21]? = some (.inl .int, 2772) := h.1 21 _ (by decide) rfl
theorem wa_22 (h : Wd σ) : σ.2.2.1[22]? = some (.inl .int, 2772) := h.1 22 _ (by decide) rfl
theorem wa_23 (h : Wd σ) : σ.2.2.1[23]? = some (.inl .int, 2772) := h.1 23 _ (by decide) rfl
theorem wa_24 (h : Wd σ) : σ.2.2.1[24]? = some (.inl .int, 2772) := h.1 24 _ (by decide) rfl
theorem wa_25 (h : Wd σ) : σ.2.2.1[25]? = some (.inl .int, 3696) := h.1 25 _ (by decide) rfl
theorem wa_26 (h : Wd σ) : σ.2.2.1[26]? = some (.inl .int, 3696) := h.1 26 _ (by decide) rfl
theorem wo_27 (h : Wd σ) : am_isO σ 27 1 = true := am_isO_of (h.1 27 _ (by decide) rfl) (by decide)
theorem wa_28 (h : Wd σ) : σ.2.2.1[28]? = some (.inl .int, 12) := h.1 28 _ (by decide) rfl
theorem wa_29 (h : Wd σ) : σ.2.2.1[29]? = some (.inl .int, 12) := h.1 29 _ (by decide) rfl
theorem wa_30 (h : Wd σ) : σ.2.2.1[30]? = some (.inl .int, 96) := h.1 30 _ (by decide) rfl
theorem wo_31 (h : Wd σ) : am_isO σ 31 2 = true := am_isO_of (h.1 31 _ (by decide) rfl) (by decide)
theorem wo_32 (h : Wd σ) : am_isO σ 32 4 = true := am_isO_of (h.1 32 _ (by decide) rfl) (by decide)
theorem wa_33 (h : Wd σ) : σ.2.2.1[33]? = some (.inl .int, 462) := h.1 33 _ (by decide) rfl
theorem wa_34 (h : Wd σ) : σ.2.2.1[34]? = some (.inl .byte, 0) := h.1 34 _ (by decide) rfl
theorem wa_35 (h : Wd σ) : σ.2.2.1[35]? = some (.inl .boolean, 462) := h.1 35 _ (by decide) rfl
theorem wo_36 (h : Wd σ) : am_isO σ 36 7 = true := am_isO_of (h.1 36 _ (by decide) rfl) (by decide)
theorem wa_37 (h : Wd σ) : σ.2.2.1[37]? = some (.inl .int, 12) := h.1 37 _ (by decide) rfl
theorem wa_38 (h : Wd σ) : σ.2.2.1[38]? = some (.inl .int, 462) := h.1 38 _ (by decide) rfl
theorem wa_39 (h : Wd σ) : σ.2.2.1[39]? = some (.inl .int, 5544) := h.1 39 _ (by decide) rfl
theorem wa_40 (h : Wd σ) : σ.2.2.1[40]? = some (.inl .int, 5544) := h.1 40 _ (by decide) rfl
theorem wa_41 (h : Wd σ) : σ.2.2.1[41]? = some (.inl .int, 5544) := h.1 41 _ (by decide) rfl
theorem wa_42 (h : Wd σ) : σ.2.2.1[42]? = some (.inl .int, 5544) := h.1 42 _ (by decide) rfl
theorem wa_43 (h : Wd σ) : σ.2.2.1[43]? = some (.inl .int, 12) := h.1 43 _ (by decide) rfl
theorem wa_44 (h : Wd σ) : σ.2.2.1[44]? = some (.inl .long, 5544) := h.1 44 _ (by decide) rfl
theorem wa_45 (h : Wd σ) : σ.2.2.1[45]? = some (.inl .long, 5544) := h.1 45 _ (by decide) rfl
theorem wa_46 (h : Wd σ) : σ.2.2.1[46]? = some (.inl .int, 64) := h.1 46 _ (by decide) rfl
theorem wo_47 (h : Wd σ) : am_isO σ 47 5 = true := am_isO_of (h.1 47 _ (by decide) rfl) (by decide)
theorem wa_48 (h : Wd σ) : σ.2.2.1[48]? = some (.inl .int, 16) := h.1 48 _ (by decide) rfl
theorem wa_49 (h : Wd σ) : σ.2.2.1[49]? = some (.inl .int, 16) := h.1 49 _ (by decide) rfl
theorem wa_50 (h : Wd σ) : σ.2.2.1[50]? = some (.inl .int, 16) := h.1 50 _ (by decide) rfl
theorem wa_51 (h : Wd σ) : σ.2.2.1[51]? = some (.inl .int, 16) := h.1 51 _ (by decide) rfl
theorem wa_52 (h : Wd σ) : σ.2.2.1[52]? = some (.inl .int, 6) := h.1 52 _ (by decide) rfl
theorem wa_53 (h : Wd σ) : σ.2.2.1[53]? = some (.inl .int, 8) := h.1 53 _ (by decide) rfl
theorem wa_54 (h : Wd σ) : σ.2.2.1[54]? = some (.inl .int, 8) := h.1 54 _ (by decide) rfl
theorem wa_55 (h : Wd σ) : σ.2.2.1[55]? = some (.inl .int, 6) := h.1 55 _ (by decide) rfl
theorem wo_56 (h : Wd σ) : am_isO σ 56 6 = true := am_isO_of (h.1 56 _ (by decide) rfl) (by decide)
theorem wa_57 (h : Wd σ) : σ.2.2.1[57]? = some (.inl .int, 40) := h.1 57 _ (by decide) rfl
theorem wo_58 (h : Wd σ) : am_isO σ 58 6 = true := am_isO_of (h.1 58 _ (by decide) rfl) (by decide)
theorem wa_59 (h : Wd σ) : σ.2.2.1[59]? = some (.inl .int, 40) := h.1 59 _ (by decide) rfl
theorem wo_60 (h : Wd σ) : am_isO σ 60 6 = true := am_isO_of (h.1 60 _ (by decide) rfl) (by decide)
theorem wa_61 (h : Wd σ) : σ.2.2.1[61]? = some (.inl .int, 40) := h.1 61 _ (by decide) rfl
theorem wo_62 (h : Wd σ) : am_isO σ 62 6 = true := am_isO_of (h.1 62 _ (by decide) rfl) (by decide)
theorem wa_63 (h : Wd σ) : σ.2.2.1[63]? = some (.inl .int, 40) := h.1 63 _ (by decide) rfl
theorem wo_64 (h : Wd σ) : am_isO σ 64 6 = true := am_isO_of (h.1 64 _ (by decide) rfl) (by decide)
theorem wa_65 (h : Wd σ) : σ.2.2.1[65]? = some (.inl .int, 40) := h.1 65 _ (by decide) rfl
theorem wo_66 (h : Wd σ) : am_isO σ 66 6 = true := am_isO_of (h.1 66 _ (by decide) rfl) (by decide)
theorem wa_67 (h : Wd σ) : σ.2.2.1[67]? = some (.inl .int, 40) := h.1 67 _ (by decide) rfl
theorem wo_68 (h : Wd σ) : am_isO σ 68 6 = true := am_isO_of (h.1 68 _ (by decide) rfl) (by decide)
theorem wa_69 (h : Wd σ) : σ.2.2.1[69]? = some (.inl .int, 120) := h.1 69 _ (by decide) rfl
theorem wo_70 (h : Wd σ) : am_isO σ 70 6 = true := am_isO_of (h.1 70 _ (by decide) rfl) (by decide)
theorem wa_71 (h : Wd σ) : σ.2.2.1[71]? = some (.inl .int, 120) := h.1 71 _ (by decide) rfl
theorem wo_72 (h : Wd σ) : am_isO σ 72 6 = true := am_isO_of (h.1 72 _ (by decide) rfl) (by decide)
theorem wa_73 (h : Wd σ) : σ.2.2.1[73]? = some (.inl .int, 120) := h.1 73 _ (by decide) rfl
theorem wo_74 (h : Wd σ) : am_isO σ 74 6 = true := am_isO_of (h.1 74 _ (by decide) rfl) (by decide)
theorem wa_75 (h : Wd σ) : σ.2.2.1[75]? = some (.inl .int, 120) := h.1 75 _ (by decide) rfl
theorem wr_2_0 (h : Wd σ) : σ.2.1 2 0 = some 3 := h.2 (2, 0, 3) (by decide)
theorem wr_2_1 (h : Wd σ) : σ.2.1 2 1 = some 4 := h.2 (2, 1, 4) (by decide)
theorem wr_2_2 (h : Wd σ) : σ.2.1 2 2 = some 5 := h.2 (2, 2, 5) (by decide)
theorem wr_2_3 (h : Wd σ) : σ.2.1 2 3 = some 10 := h.2 (2, 3, 10) (by decide)
theorem wr_2_4 (h : Wd σ) : σ.2.1 2 4 = some 18 := h.2 (2, 4, 18) (by decide)
theorem wr_2_5 (h : Wd σ) : σ.2.1 2 5 = some 27 := h.2 (2, 5, 27) (by decide)
theorem wr_2_6 (h : Wd σ) : σ.2.1 2 6 = some 31 := h.2 (2, 6, 31) (by decide)
theorem wr_2_7 (h : Wd σ) : σ.2.1 2 7 = some 32 := h.2 (2, 7, 32) (by decide)
theorem wr_2_8 (h : Wd σ) : σ.2.1 2 8 = some 36 := h.2 (2, 8, 36) (by decide)
theorem wr_2_9 (h : Wd σ) : σ.2.1 2 9 = some 47 := h.2 (2, 9, 47) (by decide)
theorem wr_2_10 (h : Wd σ) : σ.2.1 2 10 = some 55 := h.2 (2, 10, 55) (by decide)
theorem wr_3_0 (h : Wd σ) : σ.2.1 3 0 = some 56 := h.2 (3, 0, 56) (by decide)
theorem wr_3_1 (h : Wd σ) : σ.2.1 3 1 = some 58 := h.2 (3, 1, 58) (by decide)
theorem wr_3_2 (h : Wd σ) : σ.2.1 3 2 = some 60 := h.2 (3, 2, 60) (by decide)
theorem wr_3_3 (h : Wd σ) : σ.2.1 3 3 = some 62 := h.2 (3, 3, 62) (by decide)
theorem wr_3_4 (h : Wd σ) : σ.2.1 3 4 = some 64 := h.2 (3, 4, 64) (by decide)
theorem wr_3_5 (h : Wd σ) : σ.2.1 3 5 = some 66 := h.2 (3, 5, 66) (by decide)
theorem wr_4_0 (h : Wd σ) : σ.2.1 4 0 = some 68 := h.2 (4, 0, 68) (by decide)
theorem wr_4_1 (h : Wd σ) : σ.2.1 4 1 = some 70 := h.2 (4, 1, 70) (by decide)
theorem wr_4_2 (h : Wd σ) : σ.2.1 4 2 = some 72 := h.2 (4, 2, 72) (by decide)
theorem wr_4_3 (h : Wd σ) : σ.2.1 4 3 = some 74 := h.2 (4, 3, 74) (by decide)
theorem wr_5_1 (h : Wd σ) : σ.2.1 5 1 = some 6 := h.2 (5, 1, 6) (by decide)
theorem wr_5_2 (h : Wd σ) : σ.2.1 5 2 = some 7 := h.2 (5, 2, 7) (by decide)
theorem wr_5_3 (h : Wd σ) : σ.2.1 5 3 = some 8 := h.2 (5, 3, 8) (by decide)
theorem wr_5_5 (h : Wd σ) : σ.2.1 5 5 = some 9 := h.2 (5, 5, 9) (by decide)
theorem wr_10_2 (h : Wd σ) : σ.2.1 10 2 = some 13 := h.2 (10, 2, 13) (by decide)
theorem wr_11_0 (h : Wd σ) : σ.2.1 11 0 = some 12 := h.2 (11, 0, 12) (by decide)
theorem wr_13_1 (h : Wd σ) : σ.2.1 13 1 = some 14 := h.2 (13, 1, 14) (by decide)
theorem wr_13_2 (h : Wd σ) : σ.2.1 13 2 = some 15 := h.2 (13, 2, 15) (by decide)
theorem wr_13_3 (h : Wd σ) : σ.2.1 13 3 = some 16 := h.2 (13, 3, 16) (by decide)
theorem wr_13_5 (h : Wd σ) : σ.2.1 13 5 = some 17 := h.2 (13, 5, 17) (by decide)
theorem wr_18_0 (h : Wd σ) : σ.2.1 18 0 = some 5 := h.2 (18, 0, 5) (by decide)
theorem wr_18_2 (h : Wd σ) : σ.2.1 18 2 = some 19 := h.2 (18, 2, 19) (by decide)
theorem wr_18_3 (h : Wd σ) : σ.2.1 18 3 = some 20 := h.2 (18, 3, 20) (by decide)
theorem wr_18_4 (h : Wd σ) : σ.2.1 18 4 = some 21 := h.2 (18, 4, 21) (by decide)
theorem wr_18_5 (h : Wd σ) : σ.2.1 18 5 = some 22 := h.2 (18, 5, 22) (by decide)
theorem wr_18_6 (h : Wd σ) : σ.2.1 18 6 = some 23 := h.2 (18, 6, 23) (by decide)
theorem wr_18_7 (h : Wd σ) : σ.2.1 18 7 = some 24 := h.2 (18, 7, 24) (by decide)
theorem wr_18_8 (h : Wd σ) : σ.2.1 18 8 = some 25 := h.2 (18, 8, 25) (by decide)
theorem wr_18_9 (h : Wd σ) : σ.2.1 18 9 = some 26 := h.2 (18, 9, 26) (by decide)
theorem wr_27_1 (h : Wd σ) : σ.2.1 27 1 = some 28 := h.2 (27, 1, 28) (by decide)
theorem wr_27_2 (h : Wd σ) : σ.2.1 27 2 = some 29 := h.2 (27, 2, 29) (by decide)
theorem wr_27_3 (h : Wd σ) : σ.2.1 27 3 = some 30 := h.2 (27, 3, 30) (by decide)
theorem wr_31_0 (h : Wd σ) : σ.2.1 31 0 = some 5 := h.2 (31, 0, 5) (by decide)
theorem wr_31_1 (h : Wd σ) : σ.2.1 31 1 = some 18 := h.2 (31, 1, 18) (by decide)
theorem wr_31_2 (h : Wd σ) : σ.2.1 31 2 = some 27 := h.2 (31, 2, 27) (by decide)
theorem wr_32_0 (h : Wd σ) : σ.2.1 32 0 = some 5 := h.2 (32, 0, 5) (by decide)
theorem wr_32_1 (h : Wd σ) : σ.2.1 32 1 = some 18 := h.2 (32, 1, 18) (by decide)
theorem wr_32_2 (h : Wd σ) : σ.2.1 32 2 = some 33 := h.2 (32, 2, 33) (by decide)
theorem wr_32_4 (h : Wd σ) : σ.2.1 32 4 = some 35 := h.2 (32, 4, 35) (by decide)
theorem wr_36_0 (h : Wd σ) : σ.2.1 36 0 = some 18 := h.2 (36, 0, 18) (by decide)
theorem wr_36_1 (h : Wd σ) : σ.2.1 36 1 = some 27 := h.2 (36, 1, 27) (by decide)
theorem wr_36_2 (h : Wd σ) : σ.2.1 36 2 = some 31 := h.2 (36, 2, 31) (by decide)
theorem wr_36_3 (h : Wd σ) : σ.2.1 36 3 = some 32 := h.2 (36, 3, 32) (by decide)
theorem wr_36_8 (h : Wd σ) : σ.2.1 36 8 = some 37 := h.2 (36, 8, 37) (by decide)
theorem wr_36_9 (h : Wd σ) : σ.2.1 36 9 = some 38 := h.2 (36, 9, 38) (by decide)
theorem wr_36_10 (h : Wd σ) : σ.2.1 36 10 = some 39 := h.2 (36, 10, 39) (by decide)
theorem wr_36_11 (h : Wd σ) : σ.2.1 36 11 = some 40 := h.2 (36, 11, 40) (by decide)
theorem wr_36_12 (h : Wd σ) : σ.2.1 36 12 = some 41 := h.2 (36, 12, 41) (by decide)
theorem wr_36_13 (h : Wd σ) : σ.2.1 36 13 = some 42 := h.2 (36, 13, 42) (by decide)
theorem wr_36_14 (h : Wd σ) : σ.2.1 36 14 = some 43 := h.2 (36, 14, 43) (by decide)
theorem wr_36_15 (h : Wd σ) : σ.2.1 36 15 = some 44 := h.2 (36, 15, 44) (by decide)
theorem wr_36_16 (h : Wd σ) : σ.2.1 36 16 = some 45 := h.2 (36, 16, 45) (by decide)
theorem wr_36_17 (h : Wd σ) : σ.2.1 36 17 = some 46 := h.2 (36, 17, 46) (by decide)
theorem wr_47_0 (h : Wd σ) : σ.2.1 47 0 = some 5 := h.2 (47, 0, 5) (by decide)
theorem wr_47_1 (h : Wd σ) : σ.2.1 47 1 = some 27 := h.2 (47, 1, 27) (by decide)
theorem wr_47_3 (h : Wd σ) : σ.2.1 47 3 = some 48 := h.2 (47, 3, 48) (by decide)
theorem wr_47_4 (h : Wd σ) : σ.2.1 47 4 = some 49 := h.2 (47, 4, 49) (by decide)
theorem wr_47_5 (h : Wd σ) : σ.2.1 47 5 = some 50 := h.2 (47, 5, 50) (by decide)
theorem wr_47_6 (h : Wd σ) : σ.2.1 47 6 = some 51 := h.2 (47, 6, 51) (by decide)
theorem wr_47_7 (h : Wd σ) : σ.2.1 47 7 = some 52 := h.2 (47, 7, 52) (by decide)
theorem wr_47_8 (h : Wd σ) : σ.2.1 47 8 = some 53 := h.2 (47, 8, 53) (by decide)
theorem wr_47_9 (h : Wd σ) : σ.2.1 47 9 = some 54 := h.2 (47, 9, 54) (by decide)
theorem wr_56_0 (h : Wd σ) : σ.2.1 56 0 = some 57 := h.2 (56, 0, 57) (by decide)
theorem wr_58_0 (h : Wd σ) : σ.2.1 58 0 = some 59 := h.2 (58, 0, 59) (by decide)
theorem wr_60_0 (h : Wd σ) : σ.2.1 60 0 = some 61 := h.2 (60, 0, 61) (by decide)
theorem wr_62_0 (h : Wd σ) : σ.2.1 62 0 = some 63 := h.2 (62, 0, 63) (by decide)
theorem wr_64_0 (h : Wd σ) : σ.2.1 64 0 = some 65 := h.2 (64, 0, 65) (by decide)
theorem wr_66_0 (h : Wd σ) : σ.2.1 66 0 = some 67 := h.2 (66, 0, 67) (by decide)
theorem wr_68_0 (h : Wd σ) : σ.2.1 68 0 = some 69 := h.2 (68, 0, 69) (by decide)
theorem wr_70_0 (h : Wd σ) : σ.2.1 70 0 = some 71 := h.2 (70, 0, 71) (by decide)
theorem wr_72_0 (h : Wd σ) : σ.2.1 72 0 = some 73 := h.2 (72, 0, 73) (by decide)
theorem wr_74_0 (h : Wd σ) : σ.2.1 74 0 = some 75 := h.2 (74, 0, 75) (by decide)
theorem wo_row (h : Wd σ) : ∀ r : Nat, r < 6 → am_isO σ (56 + 2 * r) 6 = true
  | 0, _ => wo_56 h
  | 1, _ => wo_58 h
  | 2, _ => wo_60 h
  | 3, _ => wo_62 h
  | 4, _ => wo_64 h
  | 5, _ => wo_66 h
  | r + 6, h => absurd h (by omega)
theorem wo_txt (h : Wd σ) : ∀ r : Nat, r < 4 → am_isO σ (68 + 2 * r) 6 = true
  | 0, _ => wo_68 h
  | 1, _ => wo_70 h
  | 2, _ => wo_72 h
  | 3, _ => wo_74 h
  | r + 4, h => absurd h (by omega)
theorem wr_rows (h : Wd σ) : ∀ r : Nat, r < 6 → σ.2.1 3 r = some (56 + 2 * r)
  | 0, _ => wr_3_0 h
  | 1, _ => wr_3_1 h
  | 2, _ => wr_3_2 h
  | 3, _ => wr_3_3 h
  | 4, _ => wr_3_4 h
  | 5, _ => wr_3_5 h
  | r + 6, h => absurd h (by omega)
theorem wr_txts (h : Wd σ) : ∀ r : Nat, r < 4 → σ.2.1 4 r = some (68 + 2 * r)
  | 0, _ => wr_4_0 h
  | 1, _ => wr_4_1 h
  | 2, _ => wr_4_2 h
  | 3, _ => wr_4_3 h
  | r + 4, h => absurd h (by omega)
theorem wr_row (h : Wd σ) : ∀ r : Nat, r < 6 → σ.2.1 (56 + 2 * r) 0 = some (57 + 2 * r)
  | 0, _ => wr_56_0 h
  | 1, _ => wr_58_0 h
  | 2, _ => wr_60_0 h
  | 3, _ => wr_62_0 h
  | 4, _ => wr_64_0 h
  | 5, _ => wr_66_0 h
  | r + 6, h => absurd h (by omega)
theorem wr_txt (h : Wd σ) : ∀ r : Nat, r < 4 → σ.2.1 (68 + 2 * r) 0 = some (69 + 2 * r)
  | 0, _ => wr_68_0 h
  | 1, _ => wr_70_0 h
  | 2, _ => wr_72_0 h
  | 3, _ => wr_74_0 h
  | r + 4, h => absurd h (by omega)
theorem wa_row (h : Wd σ) : ∀ r : Nat, r < 6 → σ.2.2.1[57 + 2 * r]? = some (.inl .int, 40)
  | 0, _ => wa_57 h
  | 1, _ => wa_59 h
  | 2, _ => wa_61 h
  | 3, _ => wa_63 h
  | 4, _ => wa_65 h
  | 5, _ => wa_67 h
  | r + 6, h => absurd h (by omega)
theorem wa_txt (h : Wd σ) : ∀ r : Nat, r < 4 → σ.2.2.1[69 + 2 * r]? = some (.inl .int, 120)
  | 0, _ => wa_69 h
  | 1, _ => wa_71 h
  | 2, _ => wa_73 h
  | 3, _ => wa_75 h
  | r + 4, h => absurd h (by omega)
end WDS
theorem cpy_ex (σ : am_S) (a sp b dp n : Nat) : ∃ σ', Fr [b] σ σ' ∧ (∀ j, σ'.1 b j = if dp ≤ j ∧ j < dp + n then σ.1 a (sp + (j - dp)) else σ.1 b j) ∧ am_cpy σ a sp b dp n = σ' :=
  ⟨am_cpy σ a sp b dp n, ⟨rfl, fun c hc j => if_neg (c := c = b ∧ dp ≤ j ∧ j < dp + n) (fun e => hc (by rw [e.1]; exact List.mem_singleton.mpr rfl))⟩, fun j => by simp [am_cpy], rfl⟩
theorem am_setR_rd {σ : am_S} {a k : Nat} {r : Option Nat} : (am_setR σ a k r).2.1 a k = r := if_pos ⟨rfl, rfl⟩
theorem am_setR_ne {σ : am_S} {a k b j : Nat} {r : Option Nat} (h : ¬ (b = a ∧ j = k)) : (am_setR σ a k r).2.1 b j = σ.2.1 b j := if_neg h
theorem Wd.src {σ : am_S} {b : Nat} (hW : Wd σ) : Wd (am_setR σ 10 0 (some b)) :=
  ⟨hW.1, fun p hp => (if_neg (c := p.1 = 10 ∧ p.2.1 = 0) ((by decide : ∀ p ∈ wd_rf, ¬ (p.1 = 10 ∧ p.2.1 = 0)) p hp)).trans (hW.2 p hp)⟩
theorem Wd.knw {σ : am_S} {b : Nat} (hW : Wd σ) : Wd (am_setR σ 32 3 (some b)) :=
  ⟨hW.1, fun p hp => (if_neg (c := p.1 = 32 ∧ p.2.1 = 3) ((by decide : ∀ p ∈ wd_rf, ¬ (p.1 = 32 ∧ p.2.1 = 3)) p hp)).trans (hW.2 p hp)⟩
/-! sums, the greatest, how many -/
def sumN : Nat → (Nat → Int) → Int
  | 0, _ => 0
  | n + 1, f => sumN n f + f n
def maxN : Nat → (Nat → Int) → Int
  | 0, _ => 0
  | n + 1, f => if maxN n f < f n then f n else maxN n f
theorem sumN_congr {f g : Nat → Int} : ∀ {n : Nat}, (∀ i, i < n → f i = g i) → sumN n f = sumN n g
  | 0, _ => rfl
  | n + 1, h => by
    unfold sumN
    rw [sumN_congr (fun i hi => h i (Nat.lt_succ_of_lt hi)), h n (Nat.lt_succ_self n)]
theorem maxN_congr {f g : Nat → Int} : ∀ {n : Nat}, (∀ i, i < n → f i = g i) → maxN n f = maxN n g
  | 0, _ => rfl
  | n + 1, h => by
    unfold maxN
    rw [maxN_congr (fun i hi => h i (Nat.lt_succ_of_lt hi)), h n (Nat.lt_succ_self n)]
theorem sumN_bd {f : Nat → Int} {a b : Int} : ∀ {n : Nat}, (∀ i, i < n → a ≤ f i ∧ f i ≤ b) → (n : Int) * a ≤ sumN n f ∧ sumN n f ≤ (n : Int) * b
  | 0, _ => by simp [sumN]
  | n + 1, h => by
    have h1 := sumN_bd (fun i hi => h i (Nat.lt_succ_of_lt hi))
    have h2 := h n (Nat.lt_succ_self n)
    unfold sumN
    have e1 : ((n + 1 : Nat) : Int) * a = (n : Int) * a + a := by rw [Int.natCast_add, Int.add_mul]; simp
    have e2 : ((n + 1 : Nat) : Int) * b = (n : Int) * b + b := by rw [Int.natCast_add, Int.add_mul]; simp
    omega
theorem mul_bd {a b A B : Int} (ha : 0 ≤ a) (hA : a ≤ A) (hb : 0 ≤ b) (hB : b ≤ B) : 0 ≤ a * b ∧ a * b ≤ A * B :=
  ⟨Int.mul_nonneg ha hb, Int.le_trans (Int.mul_le_mul_of_nonneg_right hA hb) (Int.mul_le_mul_of_nonneg_left hB (Int.le_trans ha hA))⟩
