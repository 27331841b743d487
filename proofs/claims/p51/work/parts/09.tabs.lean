def am_mname (k : Nat) : MethodName := match k with
  | 0 => Jvm.Lib.Math.max.name
  | 1 => Jvm.Lib.Math.min.name
  | _ => Jvm.Lib.MathLoose.min_long.x
set_option maxRecDepth 100000 in
theorem am_FLk_b : (am_FL.all (fun e => decide (lw_tbl[e.2.2.2.2]? = some (Jvm.Cond.fieldLink (am_cn e.1) e.2.1 (am_Tt e.2.2.1 e.2.2.2.1).1 (am_Tt e.2.2.1 e.2.2.2.1).2.1 (am_Tt e.2.2.1 e.2.2.2.1).2.2.1)))) = true := by decide +kernel
theorem am_FLk : ∀ e ∈ am_FL, (Jvm.Cond.fieldLink (am_cn e.1) e.2.1 (am_Tt e.2.2.1 e.2.2.2.1).1 (am_Tt e.2.2.1 e.2.2.2.1).2.1 (am_Tt e.2.2.1 e.2.2.2.1).2.2.1) ∈ lw_gt := by
  intro e he
  exact am_gm (List.mem_of_getElem? (of_decide_eq_true (List.all_eq_true.mp am_FLk_b e he))) rfl
set_option maxRecDepth 100000 in
theorem am_MLk_b : (am_ML.all (fun e => decide (lw_tbl[e.2.2.2]? = some (Jvm.Cond.methodLink (am_cn e.1) e.2.1 (am_meths.getD e.2.2.1 am_m0).1)))) = true := by decide +kernel
theorem am_MLk : ∀ e ∈ am_ML, (Jvm.Cond.methodLink (am_cn e.1) e.2.1 (am_meths.getD e.2.2.1 am_m0).1) ∈ lw_gt := by
  intro e he
  exact am_gm (List.mem_of_getElem? (of_decide_eq_true (List.all_eq_true.mp am_MLk_b e he))) rfl
set_option maxRecDepth 100000 in
theorem am_OIk_b : (am_OI.all (fun e => decide (lw_tbl[e.2.2]? = some (Jvm.Cond.methodLink (am_cn e.1) e.2.1 Jvm.Lib.objectInit)))) = true := by decide +kernel
theorem am_OIk : ∀ e ∈ am_OI, (Jvm.Cond.methodLink (am_cn e.1) e.2.1 Jvm.Lib.objectInit) ∈ lw_gt := by
  intro e he
  exact am_gm (List.mem_of_getElem? (of_decide_eq_true (List.all_eq_true.mp am_OIk_b e he))) rfl
set_option maxRecDepth 100000 in
theorem am_ACk_b : (am_AC.all (fun e => decide (lw_tbl[e.2.2]? = some (Jvm.Cond.methodLink (am_cn e.1) e.2.1 arraycopyName)))) = true := by decide +kernel
theorem am_ACk : ∀ e ∈ am_AC, (Jvm.Cond.methodLink (am_cn e.1) e.2.1 arraycopyName) ∈ lw_gt := by
  intro e he
  exact am_gm (List.mem_of_getElem? (of_decide_eq_true (List.all_eq_true.mp am_ACk_b e he))) rfl
set_option maxRecDepth 100000 in
theorem am_MAk_b : (am_MA.all (fun e => decide (lw_tbl[e.2.2.2]? = some (Jvm.Cond.methodLink (am_cn e.1) e.2.1 (am_mname e.2.2.1))))) = true := by decide +kernel
theorem am_MAk : ∀ e ∈ am_MA, (Jvm.Cond.methodLink (am_cn e.1) e.2.1 (am_mname e.2.2.1)) ∈ lw_gt := by
  intro e he
  exact am_gm (List.mem_of_getElem? (of_decide_eq_true (List.all_eq_true.mp am_MAk_b e he))) rfl
set_option maxRecDepth 100000 in
theorem am_CTk_b : (am_CT.all (fun e => decide (lw_tbl[e.2.2.2]? = some (Jvm.Cond.constant (am_cn e.1) e.2.1 (Int32.ofInt e.2.2.1))))) = true := by decide +kernel
theorem am_CTk : ∀ e ∈ am_CT, (Jvm.Cond.constant (am_cn e.1) e.2.1 (Int32.ofInt e.2.2.1)) ∈ lw_gt := by
  intro e he
  exact am_gm (List.mem_of_getElem? (of_decide_eq_true (List.all_eq_true.mp am_CTk_b e he))) rfl
set_option maxRecDepth 100000 in
theorem am_CJk_b : (am_CJ.all (fun e => decide (lw_tbl[e.2.2.2]? = some (Jvm.Cond.constantLong (am_cn e.1) e.2.1 (Int64.ofInt e.2.2.1))))) = true := by decide +kernel
theorem am_CJk : ∀ e ∈ am_CJ, (Jvm.Cond.constantLong (am_cn e.1) e.2.1 (Int64.ofInt e.2.2.1)) ∈ lw_gt := by
  intro e he
  exact am_gm (List.mem_of_getElem? (of_decide_eq_true (List.all_eq_true.mp am_CJk_b e he))) rfl
set_option maxRecDepth 100000 in
theorem am_CKk_b : (am_CK.all (fun e => decide (lw_tbl[e.2.2.2]? = some (Jvm.Cond.classLink (am_cn e.1) e.2.1 (am_cn e.2.2.1))))) = true := by decide +kernel
theorem am_CKk : ∀ e ∈ am_CK, (Jvm.Cond.classLink (am_cn e.1) e.2.1 (am_cn e.2.2.1)) ∈ lw_gt := by
  intro e he
  exact am_gm (List.mem_of_getElem? (of_decide_eq_true (List.all_eq_true.mp am_CKk_b e he))) rfl
set_option maxRecDepth 100000 in
theorem am_in0 : ∀ w ∈ u_ws (am_cn 0) (am_Tt 0) (am_cN 0), w ∈ lw_gt := by
  intro w hw
  obtain ⟨k, hk, rfl⟩ := List.mem_map.mp hw
  have hk := List.mem_range.mp hk
  match k, hk with
  | 0, _ => exact am_gm (List.mem_of_getElem? (i := 218) rfl) rfl
  | 1, _ => exact am_gm (List.mem_of_getElem? (i := 220) rfl) rfl
  | 2, _ => exact am_gm (List.mem_of_getElem? (i := 222) rfl) rfl
  | 3, _ => exact am_gm (List.mem_of_getElem? (i := 224) rfl) rfl
  | 4, _ => exact am_gm (List.mem_of_getElem? (i := 226) rfl) rfl
  | 5, _ => exact am_gm (List.mem_of_getElem? (i := 228) rfl) rfl
  | 6, _ => exact am_gm (List.mem_of_getElem? (i := 230) rfl) rfl
  | 7, _ => exact am_gm (List.mem_of_getElem? (i := 232) rfl) rfl
  | 8, _ => exact am_gm (List.mem_of_getElem? (i := 234) rfl) rfl
  | 9, _ => exact am_gm (List.mem_of_getElem? (i := 236) rfl) rfl
  | k + 10, hk => exact absurd hk (by simp [am_cN])
theorem am_nm0 : ∀ a, a < am_cN 0 → ∀ b, b < am_cN 0 → a ≠ b → (am_Tt 0 a).2.1 ≠ (am_Tt 0 b).2.1 := by decide +kernel
theorem am_tk0 : ∀ k, k < am_cN 0 → parseFieldDescriptor (am_Tt 0 k).2.2.1 = some (am_fty 0 k) := by decide +kernel
theorem am_dc0 : ∀ k, k < am_cN 0 → (am_Tt 0 k).1 = am_cn 0 := by decide +kernel
set_option maxRecDepth 100000 in
theorem am_is0 : Jvm.Cond.instantiable (am_cn 0) (am_cN 0) ∈ lw_gt ∧ Jvm.Cond.initialized (am_cn 0) ∈ lw_gt := ⟨am_gm (List.mem_of_getElem? (i := 154) rfl) rfl, am_gm (List.mem_of_getElem? (i := 47) rfl) rfl⟩
set_option maxRecDepth 100000 in
theorem am_in1 : ∀ w ∈ u_ws (am_cn 1) (am_Tt 1) (am_cN 1), w ∈ lw_gt := by
  intro w hw
  obtain ⟨k, hk, rfl⟩ := List.mem_map.mp hw
  have hk := List.mem_range.mp hk
  match k, hk with
  | 0, _ => exact am_gm (List.mem_of_getElem? (i := 255) rfl) rfl
  | 1, _ => exact am_gm (List.mem_of_getElem? (i := 257) rfl) rfl
  | 2, _ => exact am_gm (List.mem_of_getElem? (i := 259) rfl) rfl
  | 3, _ => exact am_gm (List.mem_of_getElem? (i := 261) rfl) rfl
  | k + 4, hk => exact absurd hk (by simp [am_cN])
theorem am_nm1 : ∀ a, a < am_cN 1 → ∀ b, b < am_cN 1 → a ≠ b → (am_Tt 1 a).2.1 ≠ (am_Tt 1 b).2.1 := by decide +kernel
theorem am_tk1 : ∀ k, k < am_cN 1 → parseFieldDescriptor (am_Tt 1 k).2.2.1 = some (am_fty 1 k) := by decide +kernel
theorem am_dc1 : ∀ k, k < am_cN 1 → (am_Tt 1 k).1 = am_cn 1 := by decide +kernel
set_option maxRecDepth 100000 in
theorem am_is1 : Jvm.Cond.instantiable (am_cn 1) (am_cN 1) ∈ lw_gt ∧ Jvm.Cond.initialized (am_cn 1) ∈ lw_gt := ⟨am_gm (List.mem_of_getElem? (i := 240) rfl) rfl, am_gm (List.mem_of_getElem? (i := 49) rfl) rfl⟩
set_option maxRecDepth 100000 in
theorem am_in2 : ∀ w ∈ u_ws (am_cn 2) (am_Tt 2) (am_cN 2), w ∈ lw_gt := by
  intro w hw
  obtain ⟨k, hk, rfl⟩ := List.mem_map.mp hw
  have hk := List.mem_range.mp hk
  match k, hk with
  | 0, _ => exact am_gm (List.mem_of_getElem? (i := 273) rfl) rfl
  | 1, _ => exact am_gm (List.mem_of_getElem? (i := 275) rfl) rfl
  | 2, _ => exact am_gm (List.mem_of_getElem? (i := 277) rfl) rfl
  | k + 3, hk => exact absurd hk (by simp [am_cN])
theorem am_nm2 : ∀ a, a < am_cN 2 → ∀ b, b < am_cN 2 → a ≠ b → (am_Tt 2 a).2.1 ≠ (am_Tt 2 b).2.1 := by decide +kernel
theorem am_tk2 : ∀ k, k < am_cN 2 → parseFieldDescriptor (am_Tt 2 k).2.2.1 = some (am_fty 2 k) := by decide +kernel
theorem am_dc2 : ∀ k, k < am_cN 2 → (am_Tt 2 k).1 = am_cn 2 := by decide +kernel
set_option maxRecDepth 100000 in
theorem am_is2 : Jvm.Cond.instantiable (am_cn 2) (am_cN 2) ∈ lw_gt ∧ Jvm.Cond.initialized (am_cn 2) ∈ lw_gt := ⟨am_gm (List.mem_of_getElem? (i := 265) rfl) rfl, am_gm (List.mem_of_getElem? (i := 50) rfl) rfl⟩
set_option maxRecDepth 100000 in
theorem am_in3 : ∀ w ∈ u_ws (am_cn 3) (am_Tt 3) (am_cN 3), w ∈ lw_gt := by
  intro w hw
  obtain ⟨k, hk, rfl⟩ := List.mem_map.mp hw
  have hk := List.mem_range.mp hk
  match k, hk with
  | 0, _ => exact am_gm (List.mem_of_getElem? (i := 146) rfl) rfl
  | 1, _ => exact am_gm (List.mem_of_getElem? (i := 148) rfl) rfl
  | 2, _ => exact am_gm (List.mem_of_getElem? (i := 150) rfl) rfl
  | k + 3, hk => exact absurd hk (by simp [am_cN])
theorem am_nm3 : ∀ a, a < am_cN 3 → ∀ b, b < am_cN 3 → a ≠ b → (am_Tt 3 a).2.1 ≠ (am_Tt 3 b).2.1 := by decide +kernel
theorem am_tk3 : ∀ k, k < am_cN 3 → parseFieldDescriptor (am_Tt 3 k).2.2.1 = some (am_fty 3 k) := by decide +kernel
theorem am_dc3 : ∀ k, k < am_cN 3 → (am_Tt 3 k).1 = am_cn 3 := by decide +kernel
set_option maxRecDepth 100000 in
theorem am_is3 : Jvm.Cond.instantiable (am_cn 3) (am_cN 3) ∈ lw_gt ∧ Jvm.Cond.initialized (am_cn 3) ∈ lw_gt := ⟨am_gm (List.mem_of_getElem? (i := 118) rfl) rfl, am_gm (List.mem_of_getElem? (i := 45) rfl) rfl⟩
set_option maxRecDepth 100000 in
theorem am_in4 : ∀ w ∈ u_ws (am_cn 4) (am_Tt 4) (am_cN 4), w ∈ lw_gt := by
  intro w hw
  obtain ⟨k, hk, rfl⟩ := List.mem_map.mp hw
  have hk := List.mem_range.mp hk
  match k, hk with
  | 0, _ => exact am_gm (List.mem_of_getElem? (i := 291) rfl) rfl
  | 1, _ => exact am_gm (List.mem_of_getElem? (i := 293) rfl) rfl
  | 2, _ => exact am_gm (List.mem_of_getElem? (i := 295) rfl) rfl
  | 3, _ => exact am_gm (List.mem_of_getElem? (i := 297) rfl) rfl
  | 4, _ => exact am_gm (List.mem_of_getElem? (i := 299) rfl) rfl
  | k + 5, hk => exact absurd hk (by simp [am_cN])
theorem am_nm4 : ∀ a, a < am_cN 4 → ∀ b, b < am_cN 4 → a ≠ b → (am_Tt 4 a).2.1 ≠ (am_Tt 4 b).2.1 := by decide +kernel
theorem am_tk4 : ∀ k, k < am_cN 4 → parseFieldDescriptor (am_Tt 4 k).2.2.1 = some (am_fty 4 k) := by decide +kernel
theorem am_dc4 : ∀ k, k < am_cN 4 → (am_Tt 4 k).1 = am_cn 4 := by decide +kernel
set_option maxRecDepth 100000 in
theorem am_is4 : Jvm.Cond.instantiable (am_cn 4) (am_cN 4) ∈ lw_gt ∧ Jvm.Cond.initialized (am_cn 4) ∈ lw_gt := ⟨am_gm (List.mem_of_getElem? (i := 281) rfl) rfl, am_gm (List.mem_of_getElem? (i := 51) rfl) rfl⟩
set_option maxRecDepth 100000 in
theorem am_in5 : ∀ w ∈ u_ws (am_cn 5) (am_Tt 5) (am_cN 5), w ∈ lw_gt := by
  intro w hw
  obtain ⟨k, hk, rfl⟩ := List.mem_map.mp hw
  have hk := List.mem_range.mp hk
  match k, hk with
  | 0, _ => exact am_gm (List.mem_of_getElem? (i := 387) rfl) rfl
  | 1, _ => exact am_gm (List.mem_of_getElem? (i := 389) rfl) rfl
  | 2, _ => exact am_gm (List.mem_of_getElem? (i := 391) rfl) rfl
  | 3, _ => exact am_gm (List.mem_of_getElem? (i := 393) rfl) rfl
  | 4, _ => exact am_gm (List.mem_of_getElem? (i := 395) rfl) rfl
  | 5, _ => exact am_gm (List.mem_of_getElem? (i := 397) rfl) rfl
  | 6, _ => exact am_gm (List.mem_of_getElem? (i := 399) rfl) rfl
  | 7, _ => exact am_gm (List.mem_of_getElem? (i := 401) rfl) rfl
  | 8, _ => exact am_gm (List.mem_of_getElem? (i := 403) rfl) rfl
  | 9, _ => exact am_gm (List.mem_of_getElem? (i := 405) rfl) rfl
  | 10, _ => exact am_gm (List.mem_of_getElem? (i := 407) rfl) rfl
  | k + 11, hk => exact absurd hk (by simp [am_cN])
theorem am_nm5 : ∀ a, a < am_cN 5 → ∀ b, b < am_cN 5 → a ≠ b → (am_Tt 5 a).2.1 ≠ (am_Tt 5 b).2.1 := by decide +kernel
theorem am_tk5 : ∀ k, k < am_cN 5 → parseFieldDescriptor (am_Tt 5 k).2.2.1 = some (am_fty 5 k) := by decide +kernel
theorem am_dc5 : ∀ k, k < am_cN 5 → (am_Tt 5 k).1 = am_cn 5 := by decide +kernel
set_option maxRecDepth 100000 in
theorem am_is5 : Jvm.Cond.instantiable (am_cn 5) (am_cN 5) ∈ lw_gt ∧ Jvm.Cond.initialized (am_cn 5) ∈ lw_gt := ⟨am_gm (List.mem_of_getElem? (i := 370) rfl) rfl, am_gm (List.mem_of_getElem? (i := 53) rfl) rfl⟩
set_option maxRecDepth 100000 in
theorem am_in6 : ∀ w ∈ u_ws (am_cn 6) (am_Tt 6) (am_cN 6), w ∈ lw_gt := by
  intro w hw
  obtain ⟨k, hk, rfl⟩ := List.mem_map.mp hw
  have hk := List.mem_range.mp hk
  match k, hk with
  | 0, _ => exact am_gm (List.mem_of_getElem? (i := 135) rfl) rfl
  | 1, _ => exact am_gm (List.mem_of_getElem? (i := 137) rfl) rfl
  | k + 2, hk => exact absurd hk (by simp [am_cN])
theorem am_nm6 : ∀ a, a < am_cN 6 → ∀ b, b < am_cN 6 → a ≠ b → (am_Tt 6 a).2.1 ≠ (am_Tt 6 b).2.1 := by decide +kernel
theorem am_tk6 : ∀ k, k < am_cN 6 → parseFieldDescriptor (am_Tt 6 k).2.2.1 = some (am_fty 6 k) := by decide +kernel
theorem am_dc6 : ∀ k, k < am_cN 6 → (am_Tt 6 k).1 = am_cn 6 := by decide +kernel
set_option maxRecDepth 100000 in
theorem am_is6 : Jvm.Cond.instantiable (am_cn 6) (am_cN 6) ∈ lw_gt ∧ Jvm.Cond.initialized (am_cn 6) ∈ lw_gt := ⟨am_gm (List.mem_of_getElem? (i := 124) rfl) rfl, am_gm (List.mem_of_getElem? (i := 46) rfl) rfl⟩
set_option maxRecDepth 100000 in
theorem am_in7 : ∀ w ∈ u_ws (am_cn 7) (am_Tt 7) (am_cN 7), w ∈ lw_gt := by
  intro w hw
  obtain ⟨k, hk, rfl⟩ := List.mem_map.mp hw
  have hk := List.mem_range.mp hk
  match k, hk with
  | 0, _ => exact am_gm (List.mem_of_getElem? (i := 331) rfl) rfl
  | 1, _ => exact am_gm (List.mem_of_getElem? (i := 333) rfl) rfl
  | 2, _ => exact am_gm (List.mem_of_getElem? (i := 335) rfl) rfl
  | 3, _ => exact am_gm (List.mem_of_getElem? (i := 337) rfl) rfl
  | 4, _ => exact am_gm (List.mem_of_getElem? (i := 339) rfl) rfl
  | 5, _ => exact am_gm (List.mem_of_getElem? (i := 341) rfl) rfl
  | 6, _ => exact am_gm (List.mem_of_getElem? (i := 343) rfl) rfl
  | 7, _ => exact am_gm (List.mem_of_getElem? (i := 345) rfl) rfl
  | 8, _ => exact am_gm (List.mem_of_getElem? (i := 347) rfl) rfl
  | 9, _ => exact am_gm (List.mem_of_getElem? (i := 349) rfl) rfl
  | 10, _ => exact am_gm (List.mem_of_getElem? (i := 351) rfl) rfl
  | 11, _ => exact am_gm (List.mem_of_getElem? (i := 353) rfl) rfl
  | 12, _ => exact am_gm (List.mem_of_getElem? (i := 355) rfl) rfl
  | 13, _ => exact am_gm (List.mem_of_getElem? (i := 357) rfl) rfl
  | 14, _ => exact am_gm (List.mem_of_getElem? (i := 359) rfl) rfl
  | 15, _ => exact am_gm (List.mem_of_getElem? (i := 361) rfl) rfl
  | 16, _ => exact am_gm (List.mem_of_getElem? (i := 363) rfl) rfl
  | 17, _ => exact am_gm (List.mem_of_getElem? (i := 365) rfl) rfl
  | k + 18, hk => exact absurd hk (by simp [am_cN])
theorem am_nm7 : ∀ a, a < am_cN 7 → ∀ b, b < am_cN 7 → a ≠ b → (am_Tt 7 a).2.1 ≠ (am_Tt 7 b).2.1 := by decide +kernel
theorem am_tk7 : ∀ k, k < am_cN 7 → parseFieldDescriptor (am_Tt 7 k).2.2.1 = some (am_fty 7 k) := by decide +kernel
theorem am_dc7 : ∀ k, k < am_cN 7 → (am_Tt 7 k).1 = am_cn 7 := by decide +kernel
set_option maxRecDepth 100000 in
theorem am_is7 : Jvm.Cond.instantiable (am_cn 7) (am_cN 7) ∈ lw_gt ∧ Jvm.Cond.initialized (am_cn 7) ∈ lw_gt := ⟨am_gm (List.mem_of_getElem? (i := 305) rfl) rfl, am_gm (List.mem_of_getElem? (i := 52) rfl) rfl⟩
set_option maxRecDepth 100000 in
theorem am_in8 : ∀ w ∈ u_ws (am_cn 8) (am_Tt 8) (am_cN 8), w ∈ lw_gt := by
  intro w hw
  obtain ⟨k, hk, rfl⟩ := List.mem_map.mp hw
  have hk := List.mem_range.mp hk
  match k, hk with
  | 0, _ => exact am_gm (List.mem_of_getElem? (i := 103) rfl) rfl
  | 1, _ => exact am_gm (List.mem_of_getElem? (i := 105) rfl) rfl
  | 2, _ => exact am_gm (List.mem_of_getElem? (i := 107) rfl) rfl
  | 3, _ => exact am_gm (List.mem_of_getElem? (i := 109) rfl) rfl
  | 4, _ => exact am_gm (List.mem_of_getElem? (i := 111) rfl) rfl
  | 5, _ => exact am_gm (List.mem_of_getElem? (i := 113) rfl) rfl
  | k + 6, hk => exact absurd hk (by simp [am_cN])
theorem am_nm8 : ∀ a, a < am_cN 8 → ∀ b, b < am_cN 8 → a ≠ b → (am_Tt 8 a).2.1 ≠ (am_Tt 8 b).2.1 := by decide +kernel
theorem am_tk8 : ∀ k, k < am_cN 8 → parseFieldDescriptor (am_Tt 8 k).2.2.1 = some (am_fty 8 k) := by decide +kernel
theorem am_dc8 : ∀ k, k < am_cN 8 → (am_Tt 8 k).1 = am_cn 8 := by decide +kernel
set_option maxRecDepth 100000 in
theorem am_is8 : Jvm.Cond.instantiable (am_cn 8) (am_cN 8) ∈ lw_gt ∧ Jvm.Cond.initialized (am_cn 8) ∈ lw_gt := ⟨am_gm (List.mem_of_getElem? (i := 66) rfl) rfl, am_gm (List.mem_of_getElem? (i := 43) rfl) rfl⟩
set_option maxRecDepth 100000 in
theorem am_in9 : ∀ w ∈ u_ws (am_cn 9) (am_Tt 9) (am_cN 9), w ∈ lw_gt := by
  intro w hw
  obtain ⟨k, hk, rfl⟩ := List.mem_map.mp hw
  have hk := List.mem_range.mp hk
  match k, hk with
  | 0, _ => exact am_gm (List.mem_of_getElem? (i := 427) rfl) rfl
  | 1, _ => exact am_gm (List.mem_of_getElem? (i := 429) rfl) rfl
  | 2, _ => exact am_gm (List.mem_of_getElem? (i := 431) rfl) rfl
  | 3, _ => exact am_gm (List.mem_of_getElem? (i := 433) rfl) rfl
  | 4, _ => exact am_gm (List.mem_of_getElem? (i := 435) rfl) rfl
  | 5, _ => exact am_gm (List.mem_of_getElem? (i := 437) rfl) rfl
  | 6, _ => exact am_gm (List.mem_of_getElem? (i := 439) rfl) rfl
  | 7, _ => exact am_gm (List.mem_of_getElem? (i := 441) rfl) rfl
  | 8, _ => exact am_gm (List.mem_of_getElem? (i := 443) rfl) rfl
  | 9, _ => exact am_gm (List.mem_of_getElem? (i := 445) rfl) rfl
  | 10, _ => exact am_gm (List.mem_of_getElem? (i := 447) rfl) rfl
  | 11, _ => exact am_gm (List.mem_of_getElem? (i := 449) rfl) rfl
  | 12, _ => exact am_gm (List.mem_of_getElem? (i := 451) rfl) rfl
  | 13, _ => exact am_gm (List.mem_of_getElem? (i := 453) rfl) rfl
  | 14, _ => exact am_gm (List.mem_of_getElem? (i := 455) rfl) rfl
  | 15, _ => exact am_gm (List.mem_of_getElem? (i := 457) rfl) rfl
  | k + 16, hk => exact absurd hk (by simp [am_cN])
theorem am_nm9 : ∀ a, a < am_cN 9 → ∀ b, b < am_cN 9 → a ≠ b → (am_Tt 9 a).2.1 ≠ (am_Tt 9 b).2.1 := by decide +kernel
theorem am_tk9 : ∀ k, k < am_cN 9 → parseFieldDescriptor (am_Tt 9 k).2.2.1 = some (am_fty 9 k) := by decide +kernel
theorem am_dc9 : ∀ k, k < am_cN 9 → (am_Tt 9 k).1 = am_cn 9 := by decide +kernel
set_option maxRecDepth 100000 in
theorem am_is9 : Jvm.Cond.instantiable (am_cn 9) (am_cN 9) ∈ lw_gt ∧ Jvm.Cond.initialized (am_cn 9) ∈ lw_gt := ⟨am_gm (List.mem_of_getElem? (i := 56) rfl) rfl, am_gm (List.mem_of_getElem? (i := 42) rfl) rfl⟩
set_option maxRecDepth 100000 in
theorem am_in10 : ∀ w ∈ u_ws (am_cn 10) (am_Tt 10) (am_cN 10), w ∈ lw_gt := by
  intro w hw
  obtain ⟨k, hk, rfl⟩ := List.mem_map.mp hw
  have hk := List.mem_range.mp hk
  match k, hk with
  | 0, _ => exact am_gm (List.mem_of_getElem? (i := 427) rfl) rfl
  | 1, _ => exact am_gm (List.mem_of_getElem? (i := 429) rfl) rfl
  | 2, _ => exact am_gm (List.mem_of_getElem? (i := 431) rfl) rfl
  | 3, _ => exact am_gm (List.mem_of_getElem? (i := 433) rfl) rfl
  | 4, _ => exact am_gm (List.mem_of_getElem? (i := 435) rfl) rfl
  | 5, _ => exact am_gm (List.mem_of_getElem? (i := 437) rfl) rfl
  | 6, _ => exact am_gm (List.mem_of_getElem? (i := 439) rfl) rfl
  | 7, _ => exact am_gm (List.mem_of_getElem? (i := 441) rfl) rfl
  | 8, _ => exact am_gm (List.mem_of_getElem? (i := 443) rfl) rfl
  | 9, _ => exact am_gm (List.mem_of_getElem? (i := 445) rfl) rfl
  | 10, _ => exact am_gm (List.mem_of_getElem? (i := 447) rfl) rfl
  | 11, _ => exact am_gm (List.mem_of_getElem? (i := 449) rfl) rfl
  | 12, _ => exact am_gm (List.mem_of_getElem? (i := 451) rfl) rfl
  | 13, _ => exact am_gm (List.mem_of_getElem? (i := 453) rfl) rfl
  | 14, _ => exact am_gm (List.mem_of_getElem? (i := 455) rfl) rfl
  | 15, _ => exact am_gm (List.mem_of_getElem? (i := 457) rfl) rfl
  | k + 16, hk => exact absurd hk (by simp [am_cN])
theorem am_nm10 : ∀ a, a < am_cN 10 → ∀ b, b < am_cN 10 → a ≠ b → (am_Tt 10 a).2.1 ≠ (am_Tt 10 b).2.1 := by decide +kernel
theorem am_tk10 : ∀ k, k < am_cN 10 → parseFieldDescriptor (am_Tt 10 k).2.2.1 = some (am_fty 10 k) := by decide +kernel
theorem am_dc10 : ∀ k, k < am_cN 10 → (am_Tt 10 k).1 = am_cn 10 := by decide +kernel
set_option maxRecDepth 100000 in
theorem am_is10 : Jvm.Cond.instantiable (am_cn 10) (am_cN 10) ∈ lw_gt ∧ Jvm.Cond.initialized (am_cn 10) ∈ lw_gt := ⟨am_gm (List.mem_of_getElem? (i := 56) rfl) rfl, am_gm (List.mem_of_getElem? (i := 42) rfl) rfl⟩
theorem am_inA : ∀ c, c < 11 → ∀ w ∈ u_ws (am_cn c) (am_Tt c) (am_cN c), w ∈ lw_gt := by
  intro c hc
  match c, hc with
  | 0, _ => exact am_in0
  | 1, _ => exact am_in1
  | 2, _ => exact am_in2
  | 3, _ => exact am_in3
  | 4, _ => exact am_in4
  | 5, _ => exact am_in5
  | 6, _ => exact am_in6
  | 7, _ => exact am_in7
  | 8, _ => exact am_in8
  | 9, _ => exact am_in9
  | 10, _ => exact am_in10
  | c + 11, hc => exact absurd hc (by omega)
theorem am_nmA : ∀ c, c < 11 → ∀ a, a < am_cN c → ∀ b, b < am_cN c → a ≠ b → (am_Tt c a).2.1 ≠ (am_Tt c b).2.1 := by
  intro c hc
  match c, hc with
  | 0, _ => exact am_nm0
  | 1, _ => exact am_nm1
  | 2, _ => exact am_nm2
  | 3, _ => exact am_nm3
  | 4, _ => exact am_nm4
  | 5, _ => exact am_nm5
  | 6, _ => exact am_nm6
  | 7, _ => exact am_nm7
  | 8, _ => exact am_nm8
  | 9, _ => exact am_nm9
  | 10, _ => exact am_nm10
  | c + 11, hc => exact absurd hc (by omega)
theorem am_tkA : ∀ c, c < 11 → ∀ k, k < am_cN c → parseFieldDescriptor (am_Tt c k).2.2.1 = some (am_fty c k) := by
  intro c hc
  match c, hc with
  | 0, _ => exact am_tk0
  | 1, _ => exact am_tk1
  | 2, _ => exact am_tk2
  | 3, _ => exact am_tk3
  | 4, _ => exact am_tk4
  | 5, _ => exact am_tk5
  | 6, _ => exact am_tk6
  | 7, _ => exact am_tk7
  | 8, _ => exact am_tk8
  | 9, _ => exact am_tk9
  | 10, _ => exact am_tk10
  | c + 11, hc => exact absurd hc (by omega)
theorem am_dcA : ∀ c, c < 11 → ∀ k, k < am_cN c → (am_Tt c k).1 = am_cn c := by
  intro c hc
  match c, hc with
  | 0, _ => exact am_dc0
  | 1, _ => exact am_dc1
  | 2, _ => exact am_dc2
  | 3, _ => exact am_dc3
  | 4, _ => exact am_dc4
  | 5, _ => exact am_dc5
  | 6, _ => exact am_dc6
  | 7, _ => exact am_dc7
  | 8, _ => exact am_dc8
  | 9, _ => exact am_dc9
  | 10, _ => exact am_dc10
  | c + 11, hc => exact absurd hc (by omega)
theorem am_isA : ∀ c, c < 11 → Jvm.Cond.instantiable (am_cn c) (am_cN c) ∈ lw_gt ∧ Jvm.Cond.initialized (am_cn c) ∈ lw_gt := by
  intro c hc
  match c, hc with
  | 0, _ => exact am_is0
  | 1, _ => exact am_is1
  | 2, _ => exact am_is2
  | 3, _ => exact am_is3
  | 4, _ => exact am_is4
  | 5, _ => exact am_is5
  | 6, _ => exact am_is6
  | 7, _ => exact am_is7
  | 8, _ => exact am_is8
  | 9, _ => exact am_is9
  | 10, _ => exact am_is10
  | c + 11, hc => exact absurd hc (by omega)
theorem am_clA : ∀ c, c < 11 → am_cl[c]? = some (am_cn c, am_Tt c, am_cN c) := by
  intro c hc
  match c, hc with
  | 0, _ => rfl
  | 1, _ => rfl
  | 2, _ => rfl
  | 3, _ => rfl
  | 4, _ => rfl
  | 5, _ => rfl
  | 6, _ => rfl
  | 7, _ => rfl
  | 8, _ => rfl
  | 9, _ => rfl
  | 10, _ => rfl
  | c + 11, hc => exact absurd hc (by omega)
set_option maxRecDepth 100000 in
theorem am_aci : Jvm.Cond.arrayClass .int ∈ lw_gt ∧ Jvm.Cond.arrayClass .long ∈ lw_gt ∧ Jvm.Cond.arrayClass .byte ∈ lw_gt ∧ Jvm.Cond.arrayClass .boolean ∈ lw_gt := ⟨am_gm (List.mem_of_getElem? (i := 116) rfl) rfl, am_gm (List.mem_of_getElem? (i := 368) rfl) rfl, am_gm (List.mem_of_getElem? (i := 302) rfl) rfl, am_gm (List.mem_of_getElem? (i := 303) rfl) rfl⟩
set_option maxRecDepth 100000 in
theorem am_aco : Jvm.Cond.arrayOver (.object "WashLine$Strip") ∈ lw_tbl := List.mem_of_getElem? (i := 64) rfl
set_option maxRecDepth 100000 in
theorem am_maw : Jvm.Cond.initialized "java/lang/Math" ∈ lw_gt ∧ (Jvm.Cond.static Jvm.Lib.Math.max.name ∈ lw_gt ∧ Jvm.Cond.code Jvm.Lib.Math.max.name Jvm.Lib.Math.max.code 2 (some .int) ∈ lw_gt) ∧ (Jvm.Cond.static Jvm.Lib.Math.min.name ∈ lw_gt ∧ Jvm.Cond.code Jvm.Lib.Math.min.name Jvm.Lib.Math.min.code 2 (some .int) ∈ lw_gt) ∧ (Jvm.Cond.static Jvm.Lib.MathLoose.min_long.x ∈ lw_gt ∧ Jvm.Cond.code Jvm.Lib.MathLoose.min_long.x Jvm.Lib.MathLoose.min_long.code 4 (some .long) ∈ lw_gt) := ⟨am_gm (List.mem_of_getElem? (i := 54) rfl) rfl, ⟨am_gm (List.mem_of_getElem? (i := 622) rfl) rfl, am_gm (List.mem_of_getElem? (i := 623) rfl) rfl⟩, ⟨am_gm (List.mem_of_getElem? (i := 698) rfl) rfl, am_gm (List.mem_of_getElem? (i := 699) rfl) rfl⟩, ⟨am_gm (List.mem_of_getElem? (i := 757) rfl) rfl, am_gm (List.mem_of_getElem? (i := 758) rfl) rfl⟩⟩
set_option maxRecDepth 100000 in
theorem am_acw : Jvm.Cond.native arraycopyName ∈ lw_gt ∧ Jvm.Cond.static arraycopyName ∈ lw_gt ∧ Jvm.Cond.initialized "java/lang/System" ∈ lw_gt ∧ Jvm.Cond.instanceMethod Jvm.Lib.objectInit ∈ lw_gt ∧ Jvm.Cond.code Jvm.Lib.objectInit ⟨#[0xb1]⟩ 1 none ∈ lw_gt := ⟨am_gm (List.mem_of_getElem? (i := 179) rfl) rfl, am_gm (List.mem_of_getElem? (i := 178) rfl) rfl, am_gm (List.mem_of_getElem? (i := 48) rfl) rfl, am_gm (List.mem_of_getElem? (i := 61) rfl) rfl, am_gm (List.mem_of_getElem? (i := 62) rfl) rfl⟩
