/-! THE CLASS IS MADE -/
def cs_ly : List am_Ly := wd_ly.drop 2
def cs_rf : List (Nat × Nat × Nat) := [(2, 0, 3), (2, 1, 4), (5, 1, 6), (5, 2, 7), (5, 3, 8), (5, 5, 9), (2, 2, 5), (11, 0, 12), (10, 0, 11), (13, 1, 14), (13, 2, 15), (13, 3, 16), (13, 5, 17), (10, 2, 13), (2, 3, 10), (18, 2, 19), (18, 3, 20), (18, 4, 21), (18, 5, 22), (18, 6, 23), (18, 7, 24), (18, 8, 25), (18, 9, 26), (18, 0, 5), (2, 4, 18), (27, 1, 28), (27, 2, 29), (27, 3, 30), (2, 5, 27), (31, 0, 5), (31, 1, 18), (31, 2, 27), (2, 6, 31), (32, 2, 33), (32, 3, 34), (32, 4, 35), (32, 0, 5), (32, 1, 18), (2, 7, 32), (36, 8, 37), (36, 9, 38), (36, 10, 39), (36, 11, 40), (36, 12, 41), (36, 13, 42), (36, 14, 43), (36, 15, 44), (36, 16, 45), (36, 17, 46), (36, 0, 18), (36, 1, 27), (36, 2, 31), (36, 3, 32), (2, 8, 36), (47, 3, 48), (47, 4, 49), (47, 5, 50), (47, 6, 51), (47, 7, 52), (47, 8, 53), (47, 9, 54), (47, 0, 5), (47, 1, 27), (2, 9, 47), (2, 10, 55), (56, 0, 57), (3, 0, 56), (58, 0, 59), (3, 1, 58), (60, 0, 61), (3, 2, 60), (62, 0, 63), (3, 3, 62), (64, 0, 65), (3, 4, 64), (66, 0, 67), (3, 5, 66), (68, 0, 69), (4, 0, 68), (70, 0, 71), (4, 1, 70), (72, 0, 73), (4, 2, 72), (74, 0, 75), (4, 3, 74)]
def rfL : List (Nat × Nat × Nat) → Nat → Nat → Option Nat
  | [], _, _ => none
  | x :: r, a, k => if a = x.1 ∧ k = x.2.1 then some x.2.2 else rfL r a k
def szL : List am_Ly → Nat
  | [] => 0
  | x :: r => x.2 + szL r
def Cs (L n m : Nat) : (Nat → Nat → Option Nat) × List am_Ly × Nat × Nat := (rfL (cs_rf.take m), (.inl .int, 6) :: (.inl .int, L) :: cs_ly.take n, n, szL (cs_ly.take n))
def Zf (n : Nat) (f : Nat → Nat → Int) : Prop := ∀ a, n + 2 ≤ a → ∀ j, f a j = 0
def setf (f : Nat → Nat → Int) (a k : Nat) (v : Int) : Nat → Nat → Int := fun b j => if b = a ∧ j = k then v else f b j
def W5 (f : Nat → Nat → Int) : Prop := f 5 0 = 0 ∧ f 5 4 = 0 ∧ (∀ j, j < 6 → f 6 j = -9) ∧ (∀ j, j < 48 → f 7 j = 0) ∧ (∀ j, j < 48 → f 8 j = 0) ∧ ∀ j, j < 5 → f 9 j = p_W0 10 j
def Z1 (g : Nat → Nat → Int) : Prop := ∀ a j, (a = 2 ∨ 26 < a) → g a j = if a = 2 ∧ j = 15 then 1 else if a = 47 ∧ j = 10 then -9 else if 56 ≤ a ∧ a ≤ 74 ∧ a % 2 = 0 ∧ j = 1 then -1 else 0
theorem setf_ne {f : Nat → Nat → Int} {a k b j : Nat} {v : Int} (h : b ≠ a) : setf f a k v b j = f b j := if_neg (fun e => h e.1)
theorem zf_up {n : Nat} {f : Nat → Nat → Int} (h : Zf n f) : Zf (n + 1) f := fun a ha => h a (by omega)
theorem zf_set {n a k : Nat} {v : Int} {f : Nat → Nat → Int} (h : Zf n f) (ha : a < n + 2) : Zf n (setf f a k v) := fun b hb j => (setf_ne (by omega)).trans (h b hb j)
theorem zf_sg {n a k : Nat} {v : Int} {f g : Nat → Nat → Int} (e : g = setf f a k v) (h : Zf n f) (ha : a < n + 2) : Zf n g := by
  rw [e]
  exact zf_set h ha
theorem zf_fr {n : Nat} {f g : Nat → Nat → Int} (h : Zf n f) (e : ∀ a, n + 2 ≤ a → ∀ j, g a j = f a j) : Zf n g := fun a ha j => (e a ha j).trans (h a ha j)
theorem w5_fr {f g : Nat → Nat → Int} (h : W5 f) (e : ∀ a, 5 ≤ a → a ≤ 9 → ∀ j, g a j = f a j) : W5 g := by
  obtain ⟨h1, h2, h3, h4, h5, h6⟩ := h
  exact ⟨(e 5 (by omega) (by omega) 0).trans h1, (e 5 (by omega) (by omega) 4).trans h2, fun j hj => (e 6 (by omega) (by omega) j).trans (h3 j hj), fun j hj => (e 7 (by omega) (by omega) j).trans (h4 j hj), fun j hj => (e 8 (by omega) (by omega) j).trans (h5 j hj), fun j hj => (e 9 (by omega) (by omega) j).trans (h6 j hj)⟩
theorem ld_0 {f : Nat → Nat → Int} {c : (Nat → Nat → Option Nat) × List am_Ly × Nat × Nat} (h : W5 f) : LD 0 (f, c) := by
  obtain ⟨h1, h2, h3, h4, h5, h6⟩ := h
  refine ⟨h1, by omega, fun i hi => ?_, fun i hi => ?_, fun s hs => Or.inl (h3 s hs)⟩
  · show 0 ≤ f 7 i ∧ f 7 i ≤ f 8 i ∧ f 8 i ≤ 9
    rw [h4 i hi, h5 i hi]
    decide
  · show 0 ≤ f 9 i ∧ f 9 i ≤ 9
    rw [h6 i hi]
    exact (by decide : ∀ i, i < 5 → 0 ≤ p_W0 10 i ∧ p_W0 10 i ≤ 9) i hi
theorem ht_fr {k : Nat} {f g : Nat → Nat → Int} {c c' : (Nat → Nat → Option Nat) × List am_Ly × Nat × Nat} (h : HT k (f, c)) (e : ∀ a, 5 ≤ a → a ≤ 26 → g a = f a) : HT k (g, c') := HT.eq (σ := (f, c)) (σ' := (g, c')) h (fun a ha j => congrFun (e a (by omega) (by omega)) j)
theorem szL_app {Y : am_Ly} : ∀ (l : List am_Ly), szL (l ++ [Y]) = szL l + Y.2
  | [] => Nat.add_comm _ _
  | x :: r => by
    show x.2 + szL (r ++ [Y]) = x.2 + szL r + Y.2
    rw [szL_app r, Nat.add_assoc]
theorem rfL_app {x : Nat × Nat × Nat} {a k : Nat} : ∀ (l : List (Nat × Nat × Nat)), rfL l x.1 x.2.1 = none → rfL (l ++ [x]) a k = if a = x.1 ∧ k = x.2.1 then some x.2.2 else rfL l a k
  | [], _ => rfl
  | y :: r, h => by
    have h' : (if x.1 = y.1 ∧ x.2.1 = y.2.1 then some y.2.2 else rfL r x.1 x.2.1) = none := h
    show (if a = y.1 ∧ k = y.2.1 then some y.2.2 else rfL (r ++ [x]) a k) = if a = x.1 ∧ k = x.2.1 then some x.2.2 else if a = y.1 ∧ k = y.2.1 then some y.2.2 else rfL r a k
    by_cases e : x.1 = y.1 ∧ x.2.1 = y.2.1
    · rw [if_pos e] at h'
      cases h'
    · rw [if_neg e] at h'
      rw [rfL_app r h']
      by_cases e1 : a = y.1 ∧ k = y.2.1
      · rw [if_pos e1, if_neg (fun e2 => e ⟨e2.1.symm.trans e1.1, e2.2.symm.trans e1.2⟩), if_pos e1]
      · rw [if_neg e1, if_neg e1]
theorem rfL_no {n : Nat} {j : Nat} : ∀ (l : List (Nat × Nat × Nat)), l.all (fun p => Nat.blt p.1 n) = true → rfL l n j = none
  | [], _ => rfl
  | y :: r, h => by
    have h2 := Bool.and_eq_true_iff.mp h
    have h3 : y.1 < n := Nat.blt_eq.mp h2.1
    show (if n = y.1 ∧ j = y.2.1 then some y.2.2 else rfL r n j) = none
    rw [if_neg (fun e => by omega)]
    exact rfL_no r h2.2
theorem take_s {α : Type} {Y : α} : ∀ (l : List α) (n : Nat), l[n]? = some Y → l.take (n + 1) = l.take n ++ [Y] ∧ (l.take n).length = n
  | [], n, h => by cases n <;> cases h
  | x :: r, 0, h => by
    have : x = Y := Option.some.inj h
    subst this
    exact ⟨rfl, rfl⟩
  | x :: r, n + 1, h => by
    have ih := take_s r n h
    exact ⟨congrArg (x :: ·) ih.1, congrArg (· + 1) ih.2⟩
theorem cs_len {L n m : Nat} {f : Nat → Nat → Int} {Y : am_Ly} (hY : cs_ly[n]? = some Y) : ((f, Cs L n m) : am_S).2.2.1.length = n + 2 := by
  show (cs_ly.take n).length + 1 + 1 = n + 2
  rw [(take_s _ _ hY).2]
theorem cs_new {L n m : Nat} {f : Nat → Nat → Int} {Y : am_Ly} (hY : cs_ly[n]? = some Y) (hr : (cs_rf.take m).all (fun p => Nat.blt p.1 (n + 2)) = true) (hZ : Zf n f) : am_new ((f, Cs L n m) : am_S) Y = (f, Cs L (n + 1) m) := by
  unfold am_new
  rw [cs_len hY]
  refine Prod.ext ?_ (Prod.ext ?_ (Prod.ext ?_ (Prod.ext rfl ?_)))
  · funext b j
    show (if b = n + 2 then 0 else f b j) = f b j
    split
    · rename_i e
      exact (hZ b (by omega) j).symm
    · rfl
  · funext b j
    show (if b = n + 2 then none else rfL (cs_rf.take m) b j) = rfL (cs_rf.take m) b j
    split
    · rename_i e
      rw [e]
      exact (rfL_no _ hr).symm
    · rfl
  · show (((.inl .int, 6) :: (.inl .int, L) :: cs_ly.take n) ++ [Y] : List am_Ly) = (.inl .int, 6) :: (.inl .int, L) :: cs_ly.take (n + 1)
    rw [(take_s _ _ hY).1]
    rfl
  · show szL (cs_ly.take n) + Y.2 = szL (cs_ly.take (n + 1))
    rw [(take_s _ _ hY).1, szL_app]
theorem cs_setR {L m a k p : Nat} {n : Nat} {f : Nat → Nat → Int} (h : cs_rf[m]? = some (a, k, p)) (h0 : rfL (cs_rf.take m) a k = none) : am_setR ((f, Cs L n m) : am_S) a k (some p) = (f, Cs L n (m + 1)) := by
  refine Prod.ext rfl (Prod.ext ?_ rfl)
  funext b j
  show (if b = a ∧ j = k then some p else rfL (cs_rf.take m) b j) = rfL (cs_rf.take (m + 1)) b j
  rw [(take_s _ _ h).1, rfL_app (x := (a, k, p)) _ h0]
section TC
variable {bs : List (List am_I)} {is : List am_I} {l : am_Lc} {st : List am_V} {Q : Option am_V → am_S → Prop} {ops : List Nat} {v : Int} {L n m n' m' a : Nat} {f : Nat → Nat → Int}
theorem tc_new {g c : Nat} (hc : c < 11) (hY : cs_ly[n]? = some (.inr c, am_cN c)) (hr : (cs_rf.take m).all (fun p => Nat.blt p.1 (n + 2)) = true) (hZ : Zf n f) (ha : n + 2 = a) (hn : n + 1 = n') (K : TT bs is l (vR a :: st) (f, Cs L n' m) Q) : TT bs ((.new g, [c], v) :: is) l st (f, Cs L n m) Q := by
  subst ha hn
  refine tt_new hc ?_
  rw [cs_len hY, cs_new hY hr hZ]
  exact K
theorem tc_newarray {t : ArrayType} {x : Int} (h0 : 0 ≤ x) (h1 : x ≤ 1000000) (hY : cs_ly[n]? = some (.inl (am_newT t), x.toNat)) (hr : (cs_rf.take m).all (fun p => Nat.blt p.1 (n + 2)) = true) (hZ : Zf n f) (ha : n + 2 = a) (hn : n + 1 = n') (K : TT bs is l (vR a :: st) (f, Cs L n' m) Q) : TT bs ((.newarray t, ops, v) :: is) l (vI x :: st) (f, Cs L n m) Q := by
  subst ha hn
  refine tt_newa h0 h1 ?_
  rw [cs_len hY, cs_new hY hr hZ]
  exact K
theorem tc_anewarray {g : Nat} {x : Int} (h0 : 0 ≤ x) (h1 : x ≤ 1000000) (hY : cs_ly[n]? = some (.inl am_strip, x.toNat)) (hr : (cs_rf.take m).all (fun p => Nat.blt p.1 (n + 2)) = true) (hZ : Zf n f) (ha : n + 2 = a) (hn : n + 1 = n') (K : TT bs is l (vR a :: st) (f, Cs L n' m) Q) : TT bs ((.anewarray g, ops, v) :: is) l (vI x :: st) (f, Cs L n m) Q := by
  subst ha hn
  refine tt_newq h0 h1 ?_
  rw [cs_len hY, cs_new hY hr hZ]
  exact K
theorem tc_putR {g c k b : Nat} (hO : am_isO ((f, Cs L n m) : am_S) a c = true) (hT : am_pv (am_fty c k) a k (vR b) ((f, Cs L n m) : am_S) = some (am_setR ((f, Cs L n m) : am_S) a k (some b))) (h : cs_rf[m]? = some (a, k, b)) (h0 : rfL (cs_rf.take m) a k = none) (hm : m + 1 = m') (K : TT bs is l st (f, Cs L n m') Q) : TT bs ((.putfield g, [c, k], v) :: is) l (vR b :: vR a :: st) (f, Cs L n m) Q := by
  subst hm
  refine tt_putR hO hT ?_
  rw [cs_setR h h0]
  exact K
theorem tc_aast {b N nb : Nat} (j : Nat) {i : Int} (hA : ((f, Cs L n m) : am_S).2.2.1[a]? = some (.inl am_strip, N)) (hB : ((f, Cs L n m) : am_S).2.2.1[b]? = some (.inr 6, nb)) (ha : 2 ≤ a) (hb : 2 ≤ b) (hi : i = (j : Int)) (hj : j < N) (h : cs_rf[m]? = some (a, j, b)) (h0 : rfL (cs_rf.take m) a j = none) (hm : m + 1 = m') (K : TT bs is l st (f, Cs L n m') Q) : TT bs ((.aastore, ops, v) :: is) l (vR b :: vI i :: vR a :: st) (f, Cs L n m) Q := by
  subst hm
  refine tt_aast j hA hB ha hb hi hj ?_
  rw [cs_setR h h0]
  exact K
theorem tc_putI {g c k : Nat} {x : Int} (hO : am_isO ((f, Cs L n m) : am_S) a c = true) (hT : am_fty c k = .int) (K : ∀ h, h = setf f a k x → TT bs is l st (h, Cs L n m) Q) : TT bs ((.putfield g, [c, k], v) :: is) l (vI x :: vR a :: st) (f, Cs L n m) Q := tt_putI hO hT (K _ rfl)
theorem tc_putZ {g c k : Nat} {x : Int} (hO : am_isO ((f, Cs L n m) : am_S) a c = true) (hT : am_fty c k = .boolean) (hx : x = 0 ∨ x = 1) (K : ∀ h, h = setf f a k x → TT bs is l st (h, Cs L n m) Q) : TT bs ((.putfield g, [c, k], v) :: is) l (vI x :: vR a :: st) (f, Cs L n m) Q := tt_putZ hO hT hx (K _ rfl)
theorem tc_putL {g c k : Nat} {x : Int} (hO : am_isO ((f, Cs L n m) : am_S) a c = true) (hT : am_fty c k = .long) (K : ∀ h, h = setf f a k x → TT bs is l st (h, Cs L n m) Q) : TT bs ((.putfield g, [c, k], v) :: is) l (vL x :: vR a :: st) (f, Cs L n m) Q := tt_putL hO hT (K _ rfl)
theorem tc_iast {N : Nat} (j : Nat) {i x : Int} (hA : ((f, Cs L n m) : am_S).2.2.1[a]? = some (.inl .int, N)) (ha : 2 ≤ a) (hi : i = (j : Int)) (hj : j < N) (K : ∀ h, h = setf f a j x → TT bs is l st (h, Cs L n m) Q) : TT bs ((.iastore, ops, v) :: is) l (vI x :: vI i :: vR a :: st) (f, Cs L n m) Q := tt_iast j hA ha hi hj (K _ rfl)
end TC
theorem wpA_k {L m : Nat} {f : Nat → Nat → Int} (hm : m = 6 := by rfl) : WpA ((f, Cs L 8 m) : am_S) := by
  subst hm
  refine ⟨fun a q ha hq => ?_, ?_⟩
  · simp only [List.mem_cons, List.not_mem_nil, or_false] at ha
    rcases ha with rfl | rfl | rfl | rfl | rfl
    all_goals exact hq
  · show ∀ p ∈ wd_rf, p.1 ∈ ([5, 6, 7, 8, 9] : List Nat) → rfL (cs_rf.take 6) p.1 p.2.1 = some p.2.2
    decide +kernel
theorem wpB_k {L m : Nat} {f : Nat → Nat → Int} (hm : m = 13 := by rfl) : WpB ((f, Cs L 16 m) : am_S) := by
  subst hm
  refine ⟨fun a q ha hq => ?_, ?_⟩
  · simp only [List.mem_cons, List.not_mem_nil, or_false] at ha
    rcases ha with rfl | rfl | rfl | rfl | rfl
    all_goals exact hq
  · show ∀ p ∈ wd_rf, p.1 ∈ ([13, 14, 15, 16, 17] : List Nat) → rfL (cs_rf.take 13) p.1 p.2.1 = some p.2.2
    decide +kernel
theorem wpC_k {L m : Nat} {f : Nat → Nat → Int} (hm : m = 24 := by rfl) : WpC ((f, Cs L 25 m) : am_S) := by
  subst hm
  refine ⟨fun a q ha hq => ?_, ?_⟩
  · simp only [List.mem_cons, List.not_mem_nil, or_false] at ha
    rcases ha with rfl | rfl | rfl | rfl | rfl | rfl | rfl | rfl | rfl | rfl | rfl | rfl | rfl | rfl | rfl
    all_goals exact hq
  · show ∀ p ∈ wd_rf, p.1 ∈ ([0, 5, 6, 7, 8, 9, 18, 19, 20, 21, 22, 23, 24, 25, 26] : List Nat) → rfL (cs_rf.take 24) p.1 p.2.1 = some p.2.2
    decide +kernel
def chn (f : Nat → Nat → Int) : Nat → Nat → Int := setf (setf (setf (setf (setf (setf (setf (setf (setf (setf (setf (setf (setf (setf (setf (setf (setf (setf (setf (setf (setf (setf (f) 27 0 (0)) 36 4 (0)) 36 5 (0)) 36 6 (0)) 36 7 (0)) 47 2 (0)) 47 10 (-9)) 2 11 (0)) 2 12 (0)) 2 13 (0)) 2 14 (0)) 2 15 (1)) 56 1 (-1)) 58 1 (-1)) 60 1 (-1)) 62 1 (-1)) 64 1 (-1)) 66 1 (-1)) 68 1 (-1)) 70 1 (-1)) 72 1 (-1)) 74 1 (-1)
theorem k2_5 {L : Nat} {f : Nat → Nat → Int} (hZ : Zf 4 f) : CC 2 [vR 5] (f, Cs L 4 2) (fun r σ' => r = none ∧ ∃ g, σ' = (g, Cs L 8 6) ∧ Zf 8 g ∧ (∀ a, a ∉ ([5, 6, 7, 8, 9] : List Nat) → ∀ j, g a j = f a j) ∧ W5 g) := by
  show TT am_b2 (am_b2.getD 0 []) [(0, vR 5)] [] (f, Cs L 4 2) _
  refine tt_ar rfl ?_
  refine tt_objinit rfl ?_
  refine tt_ar rfl ?_
  refine tt_ar rfl ?_
  refine tc_newarray (n := 4) (a := 6) (n' := 5) (by decide) (by decide) rfl (by decide +kernel) hZ rfl rfl ?_
  have hZ4 := zf_up hZ
  refine tc_putR (m := 2) (m' := 3) rfl rfl rfl rfl rfl ?_
  refine tt_ar rfl ?_
  refine tt_ar rfl ?_
  refine tc_newarray (n := 5) (a := 7) (n' := 6) (by decide) (by decide) rfl (by decide +kernel) hZ4 rfl rfl ?_
  have hZ5 := zf_up hZ4
  refine tc_putR (m := 3) (m' := 4) rfl rfl rfl rfl rfl ?_
  refine tt_ar rfl ?_
  refine tt_ar rfl ?_
  refine tc_newarray (n := 6) (a := 8) (n' := 7) (by decide) (by decide) rfl (by decide +kernel) hZ5 rfl rfl ?_
  have hZ6 := zf_up hZ5
  refine tc_putR (m := 4) (m' := 5) rfl rfl rfl rfl rfl ?_
  refine tt_ar rfl ?_
  refine tt_ar rfl ?_
  refine tc_newarray (n := 7) (a := 9) (n' := 8) (by decide) (by decide) rfl (by decide +kernel) hZ6 rfl rfl ?_
  have hZ7 := zf_up hZ6
  refine tc_putR (m := 5) (m' := 6) rfl rfl rfl rfl rfl ?_
  refine tt_ar rfl ?_
  refine tt_cv1 1 rfl rfl (z3_5 (f, Cs L 8 6) (wpA_k (m := 6))) ?_
  intro r1 σ1 hq1
  obtain ⟨rfl, hF1, y1, y2, y3, y4, y5, y6⟩ := hq1
  obtain ⟨g8, c⟩ := σ1
  obtain rfl : c = Cs L 8 6 := hF1.1
  have hZg8 := zf_fr hZ7 (fun a ha => hF1.2 a (by simp only [List.mem_cons, List.not_mem_nil, or_false]; omega))
  refine tt_vret ?_
  exact ⟨rfl, _, rfl, hZg8, ⟨fun a ha j => hF1.2 a ha j, y1, y2, y3, y4, y5, y6⟩⟩
theorem k6_11 {L : Nat} {f : Nat → Nat → Int} (hZ : Zf 10 f) : CC 6 [vR 11, vI 0] (f, Cs L 10 7) (fun r σ' => r = none ∧ ∃ g, σ' = (g, Cs L 11 8) ∧ Zf 11 g ∧ g = setf f 11 1 (-1)) := by
  show TT am_b6 (am_b6.getD 0 []) [(0, vR 11), (1, vI 0)] [] (f, Cs L 10 7) _
  refine tt_ar rfl ?_
  refine tt_objinit rfl ?_
  refine tt_ar rfl ?_
  refine tt_ar rfl ?_
  refine tc_putI rfl rfl ?_
  intro g13 (hg13 : g13 = setf f 11 1 (-1))
  have hZg13 := zf_sg hg13 hZ (by decide)
  refine tt_ar rfl ?_
  refine tt_ar rfl ?_
  refine tc_newarray (n := 10) (a := 12) (n' := 11) (by decide) (by decide) rfl (by decide +kernel) hZg13 rfl rfl ?_
  have hZ14 := zf_up hZg13
  refine tc_putR (m := 7) (m' := 8) rfl rfl rfl rfl rfl ?_
  refine tt_vret ?_
  exact ⟨rfl, _, rfl, hZ14, by rw [hg13]⟩
theorem k2_13 {L : Nat} {f : Nat → Nat → Int} (hZ : Zf 12 f) : CC 2 [vR 13] (f, Cs L 12 9) (fun r σ' => r = none ∧ ∃ g, σ' = (g, Cs L 16 13) ∧ Zf 16 g ∧ (∀ a, a ∉ ([13, 14, 15, 16, 17] : List Nat) → ∀ j, g a j = f a j)) := by
  show TT am_b2 (am_b2.getD 0 []) [(0, vR 13)] [] (f, Cs L 12 9) _
  refine tt_ar rfl ?_
  refine tt_objinit rfl ?_
  refine tt_ar rfl ?_
  refine tt_ar rfl ?_
  refine tc_newarray (n := 12) (a := 14) (n' := 13) (by decide) (by decide) rfl (by decide +kernel) hZ rfl rfl ?_
  have hZ18 := zf_up hZ
  refine tc_putR (m := 9) (m' := 10) rfl rfl rfl rfl rfl ?_
  refine tt_ar rfl ?_
  refine tt_ar rfl ?_
  refine tc_newarray (n := 13) (a := 15) (n' := 14) (by decide) (by decide) rfl (by decide +kernel) hZ18 rfl rfl ?_
  have hZ19 := zf_up hZ18
  refine tc_putR (m := 10) (m' := 11) rfl rfl rfl rfl rfl ?_
  refine tt_ar rfl ?_
  refine tt_ar rfl ?_
  refine tc_newarray (n := 14) (a := 16) (n' := 15) (by decide) (by decide) rfl (by decide +kernel) hZ19 rfl rfl ?_
  have hZ20 := zf_up hZ19
  refine tc_putR (m := 11) (m' := 12) rfl rfl rfl rfl rfl ?_
  refine tt_ar rfl ?_
  refine tt_ar rfl ?_
  refine tc_newarray (n := 15) (a := 17) (n' := 16) (by decide) (by decide) rfl (by decide +kernel) hZ20 rfl rfl ?_
  have hZ21 := zf_up hZ20
  refine tc_putR (m := 12) (m' := 13) rfl rfl rfl rfl rfl ?_
  refine tt_ar rfl ?_
  refine tt_cv1 1 rfl rfl (z3_13 (f, Cs L 16 13) (wpB_k (m := 13))) ?_
  intro r1 σ1 hq1
  obtain ⟨rfl, hF1, y1, y2, y3, y4, y5, y6⟩ := hq1
  obtain ⟨g22, c⟩ := σ1
  obtain rfl : c = Cs L 16 13 := hF1.1
  have hZg22 := zf_fr hZ21 (fun a ha => hF1.2 a (by simp only [List.mem_cons, List.not_mem_nil, or_false]; omega))
  refine tt_vret ?_
  exact ⟨rfl, _, rfl, hZg22, fun a ha j => hF1.2 a ha j⟩
theorem k5_10 {L : Nat} {f : Nat → Nat → Int} (hZ : Zf 9 f) : CC 5 [vR 10] (f, Cs L 9 7) (fun r σ' => r = none ∧ ∃ g, σ' = (g, Cs L 16 14) ∧ Zf 16 g ∧ (∀ a, a ∉ ([11, 13, 14, 15, 16, 17] : List Nat) → ∀ j, g a j = f a j)) := by
  show TT am_b5 (am_b5.getD 0 []) [(0, vR 10)] [] (f, Cs L 9 7) _
  refine tt_ar rfl ?_
  refine tt_objinit rfl ?_
  refine tt_ar rfl ?_
  refine tc_new (n := 9) (a := 11) (n' := 10) (by decide) rfl (by decide +kernel) hZ rfl rfl ?_
  have hZ12 := zf_up hZ
  refine tt_ar rfl ?_
  refine tt_ar rfl ?_
  refine tt_cx2 2 rfl (k6_11 (L := L) hZ12) ?_
  intro r1 σ1 hq1
  obtain ⟨rfl, g16, rfl, hZg16, hg16⟩ := hq1
  refine tc_putR (m := 8) (m' := 9) rfl rfl rfl rfl rfl ?_
  refine tt_ar rfl ?_
  refine tc_new (n := 11) (a := 13) (n' := 12) (by decide) rfl (by decide +kernel) hZg16 rfl rfl ?_
  have hZ17 := zf_up hZg16
  refine tt_ar rfl ?_
  refine tt_cx1 1 rfl (k2_13 (L := L) hZ17) ?_
  intro r1 σ1 hq1
  obtain ⟨rfl, g24, rfl, hZg24, hg24⟩ := hq1
  refine tc_putR (m := 13) (m' := 14) rfl rfl rfl rfl rfl ?_
  refine tt_vret ?_
  exact ⟨rfl, _, rfl, hZg24, fun a ha j => by rw [hg24 a (fun e => ha (List.mem_cons_of_mem _ e)) j, hg16, setf_ne (fun e => ha (by rw [e]; decide))]⟩
theorem k7_18 {L : Nat} {f : Nat → Nat → Int} (hZ : Zf 17 f) (h5 : W5 f) (hw : ∀ j, j < 6 → f 0 j = ((10 ^ j : Nat) : Int)) : CC 7 [vR 18, vR 5] (f, Cs L 17 15) (fun r σ' => r = none ∧ ∃ g, σ' = (g, Cs L 25 24) ∧ Zf 25 g ∧ (∀ a, a ∉ ([18, 19, 20, 21, 22, 23, 24, 25, 26] : List Nat) → ∀ j, g a j = f a j) ∧ HT 0 (g, Cs L 25 24)) := by
  show TT am_b7 (am_b7.getD 0 []) [(0, vR 18), (1, vR 5)] [] (f, Cs L 17 15) _
  refine tt_ar rfl ?_
  refine tt_objinit rfl ?_
  refine tt_ar rfl ?_
  refine tt_ar rfl ?_
  refine tc_newarray (n := 17) (a := 19) (n' := 18) (by decide) (by decide) rfl (by decide +kernel) hZ rfl rfl ?_
  have hZ28 := zf_up hZ
  refine tc_putR (m := 15) (m' := 16) rfl rfl rfl rfl rfl ?_
  refine tt_ar rfl ?_
  refine tt_ar rfl ?_
  refine tc_newarray (n := 18) (a := 20) (n' := 19) (by decide) (by decide) rfl (by decide +kernel) hZ28 rfl rfl ?_
  have hZ29 := zf_up hZ28
  refine tc_putR (m := 16) (m' := 17) rfl rfl rfl rfl rfl ?_
  refine tt_ar rfl ?_
  refine tt_ar rfl ?_
  refine tc_newarray (n := 19) (a := 21) (n' := 20) (by decide) (by decide) rfl (by decide +kernel) hZ29 rfl rfl ?_
  have hZ30 := zf_up hZ29
  refine tc_putR (m := 17) (m' := 18) rfl rfl rfl rfl rfl ?_
  refine tt_ar rfl ?_
  refine tt_ar rfl ?_
  refine tc_newarray (n := 20) (a := 22) (n' := 21) (by decide) (by decide) rfl (by decide +kernel) hZ30 rfl rfl ?_
  have hZ31 := zf_up hZ30
  refine tc_putR (m := 18) (m' := 19) rfl rfl rfl rfl rfl ?_
  refine tt_ar rfl ?_
  refine tt_ar rfl ?_
  refine tc_newarray (n := 21) (a := 23) (n' := 22) (by decide) (by decide) rfl (by decide +kernel) hZ31 rfl rfl ?_
  have hZ32 := zf_up hZ31
  refine tc_putR (m := 19) (m' := 20) rfl rfl rfl rfl rfl ?_
  refine tt_ar rfl ?_
  refine tt_ar rfl ?_
  refine tc_newarray (n := 22) (a := 24) (n' := 23) (by decide) (by decide) rfl (by decide +kernel) hZ32 rfl rfl ?_
  have hZ33 := zf_up hZ32
  refine tc_putR (m := 20) (m' := 21) rfl rfl rfl rfl rfl ?_
  refine tt_ar rfl ?_
  refine tt_ar rfl ?_
  refine tc_newarray (n := 23) (a := 25) (n' := 24) (by decide) (by decide) rfl (by decide +kernel) hZ33 rfl rfl ?_
  have hZ34 := zf_up hZ33
  refine tc_putR (m := 21) (m' := 22) rfl rfl rfl rfl rfl ?_
  refine tt_ar rfl ?_
  refine tt_ar rfl ?_
  refine tc_newarray (n := 24) (a := 26) (n' := 25) (by decide) (by decide) rfl (by decide +kernel) hZ34 rfl rfl ?_
  have hZ35 := zf_up hZ34
  refine tc_putR (m := 22) (m' := 23) rfl rfl rfl rfl rfl ?_
  refine tt_ar rfl ?_
  refine tt_ar rfl ?_
  refine tc_putR (m := 23) (m' := 24) rfl rfl rfl rfl rfl ?_
  refine tt_ar rfl ?_
  refine tt_cv1 1 rfl rfl (z8 (f, Cs L 25 24) 0 (wpC_k (m := 24)) (ld_0 h5) (fun j hj => hw j hj)) ?_
  intro r1 σ1 hq1
  obtain ⟨rfl, hF1, hHT⟩ := hq1
  obtain ⟨g36, c⟩ := σ1
  obtain rfl : c = Cs L 25 24 := hF1.1
  have hZg36 := zf_fr hZ35 (fun a ha => hF1.2 a (by simp only [List.mem_cons, List.not_mem_nil, or_false]; omega))
  refine tt_vret ?_
  exact ⟨rfl, _, rfl, hZg36, fun a ha j => hF1.2 a ha j, hHT⟩
theorem k16_27 {L : Nat} {f : Nat → Nat → Int} (hZ : Zf 26 f) : CC 16 [vR 27] (f, Cs L 26 25) (fun r σ' => r = none ∧ ∃ g, σ' = (g, Cs L 29 28) ∧ Zf 29 g ∧ g = setf f 27 0 (0)) := by
  show TT am_b16 (am_b16.getD 0 []) [(0, vR 27)] [] (f, Cs L 26 25) _
  refine tt_ar rfl ?_
  refine tt_objinit rfl ?_
  refine tt_ar rfl ?_
  refine tt_ar rfl ?_
  refine tc_putI rfl rfl ?_
  intro g40 (hg40 : g40 = setf f 27 0 (0))
  have hZg40 := zf_sg hg40 hZ (by decide)
  refine tt_ar rfl ?_
  refine tt_ar rfl ?_
  refine tc_newarray (n := 26) (a := 28) (n' := 27) (by decide) (by decide) rfl (by decide +kernel) hZg40 rfl rfl ?_
  have hZ41 := zf_up hZg40
  refine tc_putR (m := 25) (m' := 26) rfl rfl rfl rfl rfl ?_
  refine tt_ar rfl ?_
  refine tt_ar rfl ?_
  refine tc_newarray (n := 27) (a := 29) (n' := 28) (by decide) (by decide) rfl (by decide +kernel) hZ41 rfl rfl ?_
  have hZ42 := zf_up hZ41
  refine tc_putR (m := 26) (m' := 27) rfl rfl rfl rfl rfl ?_
  refine tt_ar rfl ?_
  refine tt_ar rfl ?_
  refine tc_newarray (n := 28) (a := 30) (n' := 29) (by decide) (by decide) rfl (by decide +kernel) hZ42 rfl rfl ?_
  have hZ43 := zf_up hZ42
  refine tc_putR (m := 27) (m' := 28) rfl rfl rfl rfl rfl ?_
  refine tt_vret ?_
  exact ⟨rfl, _, rfl, hZ43, by rw [hg40]⟩
theorem k17_31 {L : Nat} {f : Nat → Nat → Int} (hZ : Zf 30 f) : CC 17 [vR 31, vR 5, vR 18, vR 27] (f, Cs L 30 29) (fun r σ' => r = none ∧ ∃ g, σ' = (g, Cs L 30 32) ∧ Zf 30 g ∧ g = f) := by
  show TT am_b17 (am_b17.getD 0 []) [(0, vR 31), (1, vR 5), (2, vR 18), (3, vR 27)] [] (f, Cs L 30 29) _
  refine tt_ar rfl ?_
  refine tt_objinit rfl ?_
  refine tt_ar rfl ?_
  refine tt_ar rfl ?_
  refine tc_putR (m := 29) (m' := 30) rfl rfl rfl rfl rfl ?_
  refine tt_ar rfl ?_
  refine tt_ar rfl ?_
  refine tc_putR (m := 30) (m' := 31) rfl rfl rfl rfl rfl ?_
  refine tt_ar rfl ?_
  refine tt_ar rfl ?_
  refine tc_putR (m := 31) (m' := 32) rfl rfl rfl rfl rfl ?_
  refine tt_vret ?_
  exact ⟨rfl, _, rfl, hZ, rfl⟩
theorem k18_32 {L : Nat} {f : Nat → Nat → Int} (hZ : Zf 31 f) : CC 18 [vR 32, vR 5, vR 18] (f, Cs L 31 33) (fun r σ' => r = none ∧ ∃ g, σ' = (g, Cs L 34 38) ∧ Zf 34 g ∧ g = f) := by
  show TT am_b18 (am_b18.getD 0 []) [(0, vR 32), (1, vR 5), (2, vR 18)] [] (f, Cs L 31 33) _
  refine tt_ar rfl ?_
  refine tt_objinit rfl ?_
  refine tt_ar rfl ?_
  refine tt_ar rfl ?_
  refine tc_newarray (n := 31) (a := 33) (n' := 32) (by decide) (by decide) rfl (by decide +kernel) hZ rfl rfl ?_
  have hZ50 := zf_up hZ
  refine tc_putR (m := 33) (m' := 34) rfl rfl rfl rfl rfl ?_
  refine tt_ar rfl ?_
  refine tt_ar rfl ?_
  refine tc_newarray (n := 32) (a := 34) (n' := 33) (by decide) (by decide) rfl (by decide +kernel) hZ50 rfl rfl ?_
  have hZ51 := zf_up hZ50
  refine tc_putR (m := 34) (m' := 35) rfl rfl rfl rfl rfl ?_
  refine tt_ar rfl ?_
  refine tt_ar rfl ?_
  refine tc_newarray (n := 33) (a := 35) (n' := 34) (by decide) (by decide) rfl (by decide +kernel) hZ51 rfl rfl ?_
  have hZ52 := zf_up hZ51
  refine tc_putR (m := 35) (m' := 36) rfl rfl rfl rfl rfl ?_
  refine tt_ar rfl ?_
  refine tt_ar rfl ?_
  refine tc_putR (m := 36) (m' := 37) rfl rfl rfl rfl rfl ?_
  refine tt_ar rfl ?_
  refine tt_ar rfl ?_
  refine tc_putR (m := 37) (m' := 38) rfl rfl rfl rfl rfl ?_
  refine tt_vret ?_
  exact ⟨rfl, _, rfl, hZ52, rfl⟩
theorem k19_36 {L : Nat} {f : Nat → Nat → Int} (hZ : Zf 35 f) : CC 19 [vR 36, vR 18, vR 27, vR 31, vR 32] (f, Cs L 35 39) (fun r σ' => r = none ∧ ∃ g, σ' = (g, Cs L 45 53) ∧ Zf 45 g ∧ g = setf (setf (setf (setf f 36 4 (0)) 36 5 (0)) 36 6 (0)) 36 7 (0)) := by
  show TT am_b19 (am_b19.getD 0 []) [(0, vR 36), (1, vR 18), (2, vR 27), (3, vR 31), (4, vR 32)] [] (f, Cs L 35 39) _
  refine tt_ar rfl ?_
  refine tt_objinit rfl ?_
  refine tt_ar rfl ?_
  refine tt_ar rfl ?_
  refine tc_putZ rfl rfl (by decide) ?_
  intro g56 (hg56 : g56 = setf f 36 4 (0))
  have hZg56 := zf_sg hg56 hZ (by decide)
  refine tt_ar rfl ?_
  refine tt_ar rfl ?_
  refine tc_putZ rfl rfl (by decide) ?_
  intro g57 (hg57 : g57 = setf g56 36 5 (0))
  have hZg57 := zf_sg hg57 hZg56 (by decide)
  refine tt_ar rfl ?_
  refine tt_ar rfl ?_
  refine tc_putI rfl rfl ?_
  intro g58 (hg58 : g58 = setf g57 36 6 (0))
  have hZg58 := zf_sg hg58 hZg57 (by decide)
  refine tt_ar rfl ?_
  refine tt_ar rfl ?_
  refine tc_putL rfl rfl ?_
  intro g59 (hg59 : g59 = setf g58 36 7 (0))
  have hZg59 := zf_sg hg59 hZg58 (by decide)
  refine tt_ar rfl ?_
  refine tt_ar rfl ?_
  refine tc_newarray (n := 35) (a := 37) (n' := 36) (by decide) (by decide) rfl (by decide +kernel) hZg59 rfl rfl ?_
  have hZ60 := zf_up hZg59
  refine tc_putR (m := 39) (m' := 40) rfl rfl rfl rfl rfl ?_
  refine tt_ar rfl ?_
  refine tt_ar rfl ?_
  refine tc_newarray (n := 36) (a := 38) (n' := 37) (by decide) (by decide) rfl (by decide +kernel) hZ60 rfl rfl ?_
  have hZ61 := zf_up hZ60
  refine tc_putR (m := 40) (m' := 41) rfl rfl rfl rfl rfl ?_
  refine tt_ar rfl ?_
  refine tt_ar rfl ?_
  refine tc_newarray (n := 37) (a := 39) (n' := 38) (by decide) (by decide) rfl (by decide +kernel) hZ61 rfl rfl ?_
  have hZ62 := zf_up hZ61
  refine tc_putR (m := 41) (m' := 42) rfl rfl rfl rfl rfl ?_
  refine tt_ar rfl ?_
  refine tt_ar rfl ?_
  refine tc_newarray (n := 38) (a := 40) (n' := 39) (by decide) (by decide) rfl (by decide +kernel) hZ62 rfl rfl ?_
  have hZ63 := zf_up hZ62
  refine tc_putR (m := 42) (m' := 43) rfl rfl rfl rfl rfl ?_
  refine tt_ar rfl ?_
  refine tt_ar rfl ?_
  refine tc_newarray (n := 39) (a := 41) (n' := 40) (by decide) (by decide) rfl (by decide +kernel) hZ63 rfl rfl ?_
  have hZ64 := zf_up hZ63
  refine tc_putR (m := 43) (m' := 44) rfl rfl rfl rfl rfl ?_
  refine tt_ar rfl ?_
  refine tt_ar rfl ?_
  refine tc_newarray (n := 40) (a := 42) (n' := 41) (by decide) (by decide) rfl (by decide +kernel) hZ64 rfl rfl ?_
  have hZ65 := zf_up hZ64
  refine tc_putR (m := 44) (m' := 45) rfl rfl rfl rfl rfl ?_
  refine tt_ar rfl ?_
  refine tt_ar rfl ?_
  refine tc_newarray (n := 41) (a := 43) (n' := 42) (by decide) (by decide) rfl (by decide +kernel) hZ65 rfl rfl ?_
  have hZ66 := zf_up hZ65
  refine tc_putR (m := 45) (m' := 46) rfl rfl rfl rfl rfl ?_
  refine tt_ar rfl ?_
  refine tt_ar rfl ?_
  refine tc_newarray (n := 42) (a := 44) (n' := 43) (by decide) (by decide) rfl (by decide +kernel) hZ66 rfl rfl ?_
  have hZ67 := zf_up hZ66
  refine tc_putR (m := 46) (m' := 47) rfl rfl rfl rfl rfl ?_
  refine tt_ar rfl ?_
  refine tt_ar rfl ?_
  refine tc_newarray (n := 43) (a := 45) (n' := 44) (by decide) (by decide) rfl (by decide +kernel) hZ67 rfl rfl ?_
  have hZ68 := zf_up hZ67
  refine tc_putR (m := 47) (m' := 48) rfl rfl rfl rfl rfl ?_
  refine tt_ar rfl ?_
  refine tt_ar rfl ?_
  refine tc_newarray (n := 44) (a := 46) (n' := 45) (by decide) (by decide) rfl (by decide +kernel) hZ68 rfl rfl ?_
  have hZ69 := zf_up hZ68
  refine tc_putR (m := 48) (m' := 49) rfl rfl rfl rfl rfl ?_
  refine tt_ar rfl ?_
  refine tt_ar rfl ?_
  refine tc_putR (m := 49) (m' := 50) rfl rfl rfl rfl rfl ?_
  refine tt_ar rfl ?_
  refine tt_ar rfl ?_
  refine tc_putR (m := 50) (m' := 51) rfl rfl rfl rfl rfl ?_
  refine tt_ar rfl ?_
  refine tt_ar rfl ?_
  refine tc_putR (m := 51) (m' := 52) rfl rfl rfl rfl rfl ?_
  refine tt_ar rfl ?_
  refine tt_ar rfl ?_
  refine tc_putR (m := 52) (m' := 53) rfl rfl rfl rfl rfl ?_
  refine tt_vret ?_
  exact ⟨rfl, _, rfl, hZ69, by rw [hg59, hg58, hg57, hg56]⟩
theorem k20_47 {L : Nat} {f : Nat → Nat → Int} (hZ : Zf 46 f) : CC 20 [vR 47, vR 5, vR 27] (f, Cs L 46 54) (fun r σ' => r = none ∧ ∃ g, σ' = (g, Cs L 53 63) ∧ Zf 53 g ∧ g = setf (setf f 47 2 (0)) 47 10 (-9)) := by
  show TT am_b20 (am_b20.getD 0 []) [(0, vR 47), (1, vR 5), (2, vR 27)] [] (f, Cs L 46 54) _
  refine tt_ar rfl ?_
  refine tt_objinit rfl ?_
  refine tt_ar rfl ?_
  refine tt_ar rfl ?_
  refine tc_putI rfl rfl ?_
  intro g73 (hg73 : g73 = setf f 47 2 (0))
  have hZg73 := zf_sg hg73 hZ (by decide)
  refine tt_ar rfl ?_
  refine tt_ar rfl ?_
  refine tc_newarray (n := 46) (a := 48) (n' := 47) (by decide) (by decide) rfl (by decide +kernel) hZg73 rfl rfl ?_
  have hZ74 := zf_up hZg73
  refine tc_putR (m := 54) (m' := 55) rfl rfl rfl rfl rfl ?_
  refine tt_ar rfl ?_
  refine tt_ar rfl ?_
  refine tc_newarray (n := 47) (a := 49) (n' := 48) (by decide) (by decide) rfl (by decide +kernel) hZ74 rfl rfl ?_
  have hZ75 := zf_up hZ74
  refine tc_putR (m := 55) (m' := 56) rfl rfl rfl rfl rfl ?_
  refine tt_ar rfl ?_
  refine tt_ar rfl ?_
  refine tc_newarray (n := 48) (a := 50) (n' := 49) (by decide) (by decide) rfl (by decide +kernel) hZ75 rfl rfl ?_
  have hZ76 := zf_up hZ75
  refine tc_putR (m := 56) (m' := 57) rfl rfl rfl rfl rfl ?_
  refine tt_ar rfl ?_
  refine tt_ar rfl ?_
  refine tc_newarray (n := 49) (a := 51) (n' := 50) (by decide) (by decide) rfl (by decide +kernel) hZ76 rfl rfl ?_
  have hZ77 := zf_up hZ76
  refine tc_putR (m := 57) (m' := 58) rfl rfl rfl rfl rfl ?_
  refine tt_ar rfl ?_
  refine tt_ar rfl ?_
  refine tc_newarray (n := 50) (a := 52) (n' := 51) (by decide) (by decide) rfl (by decide +kernel) hZ77 rfl rfl ?_
  have hZ78 := zf_up hZ77
  refine tc_putR (m := 58) (m' := 59) rfl rfl rfl rfl rfl ?_
  refine tt_ar rfl ?_
  refine tt_ar rfl ?_
  refine tc_newarray (n := 51) (a := 53) (n' := 52) (by decide) (by decide) rfl (by decide +kernel) hZ78 rfl rfl ?_
  have hZ79 := zf_up hZ78
  refine tc_putR (m := 59) (m' := 60) rfl rfl rfl rfl rfl ?_
  refine tt_ar rfl ?_
  refine tt_ar rfl ?_
  refine tc_newarray (n := 52) (a := 54) (n' := 53) (by decide) (by decide) rfl (by decide +kernel) hZ79 rfl rfl ?_
  have hZ80 := zf_up hZ79
  refine tc_putR (m := 60) (m' := 61) rfl rfl rfl rfl rfl ?_
  refine tt_ar rfl ?_
  refine tt_ar rfl ?_
  refine tc_putI rfl rfl ?_
  intro g81 (hg81 : g81 = setf g73 47 10 (-9))
  have hZg81 := zf_sg hg81 hZ80 (by decide)
  refine tt_ar rfl ?_
  refine tt_ar rfl ?_
  refine tc_putR (m := 61) (m' := 62) rfl rfl rfl rfl rfl ?_
  refine tt_ar rfl ?_
  refine tt_ar rfl ?_
  refine tc_putR (m := 62) (m' := 63) rfl rfl rfl rfl rfl ?_
  refine tt_vret ?_
  exact ⟨rfl, _, rfl, hZg81, by rw [hg81, hg73]⟩
theorem k6_56 {L : Nat} {f : Nat → Nat → Int} (hZ : Zf 55 f) : CC 6 [vR 56, vI 40] (f, Cs L 55 65) (fun r σ' => r = none ∧ ∃ g, σ' = (g, Cs L 56 66) ∧ Zf 56 g ∧ g = setf f 56 1 (-1)) := by
  show TT am_b6 (am_b6.getD 0 []) [(0, vR 56), (1, vI 40)] [] (f, Cs L 55 65) _
  refine tt_ar rfl ?_
  refine tt_objinit rfl ?_
  refine tt_ar rfl ?_
  refine tt_ar rfl ?_
  refine tc_putI rfl rfl ?_
  intro g91 (hg91 : g91 = setf f 56 1 (-1))
  have hZg91 := zf_sg hg91 hZ (by decide)
  refine tt_ar rfl ?_
  refine tt_ar rfl ?_
  refine tc_newarray (n := 55) (a := 57) (n' := 56) (by decide) (by decide) rfl (by decide +kernel) hZg91 rfl rfl ?_
  have hZ92 := zf_up hZg91
  refine tc_putR (m := 65) (m' := 66) rfl rfl rfl rfl rfl ?_
  refine tt_vret ?_
  exact ⟨rfl, _, rfl, hZ92, by rw [hg91]⟩
theorem k6_58 {L : Nat} {f : Nat → Nat → Int} (hZ : Zf 57 f) : CC 6 [vR 58, vI 40] (f, Cs L 57 67) (fun r σ' => r = none ∧ ∃ g, σ' = (g, Cs L 58 68) ∧ Zf 58 g ∧ g = setf f 58 1 (-1)) := by
  show TT am_b6 (am_b6.getD 0 []) [(0, vR 58), (1, vI 40)] [] (f, Cs L 57 67) _
  refine tt_ar rfl ?_
  refine tt_objinit rfl ?_
  refine tt_ar rfl ?_
  refine tt_ar rfl ?_
  refine tc_putI rfl rfl ?_
  intro g96 (hg96 : g96 = setf f 58 1 (-1))
  have hZg96 := zf_sg hg96 hZ (by decide)
  refine tt_ar rfl ?_
  refine tt_ar rfl ?_
  refine tc_newarray (n := 57) (a := 59) (n' := 58) (by decide) (by decide) rfl (by decide +kernel) hZg96 rfl rfl ?_
  have hZ97 := zf_up hZg96
  refine tc_putR (m := 67) (m' := 68) rfl rfl rfl rfl rfl ?_
  refine tt_vret ?_
  exact ⟨rfl, _, rfl, hZ97, by rw [hg96]⟩
theorem k6_60 {L : Nat} {f : Nat → Nat → Int} (hZ : Zf 59 f) : CC 6 [vR 60, vI 40] (f, Cs L 59 69) (fun r σ' => r = none ∧ ∃ g, σ' = (g, Cs L 60 70) ∧ Zf 60 g ∧ g = setf f 60 1 (-1)) := by
  show TT am_b6 (am_b6.getD 0 []) [(0, vR 60), (1, vI 40)] [] (f, Cs L 59 69) _
  refine tt_ar rfl ?_
  refine tt_objinit rfl ?_
  refine tt_ar rfl ?_
  refine tt_ar rfl ?_
  refine tc_putI rfl rfl ?_
  intro g101 (hg101 : g101 = setf f 60 1 (-1))
  have hZg101 := zf_sg hg101 hZ (by decide)
  refine tt_ar rfl ?_
  refine tt_ar rfl ?_
  refine tc_newarray (n := 59) (a := 61) (n' := 60) (by decide) (by decide) rfl (by decide +kernel) hZg101 rfl rfl ?_
  have hZ102 := zf_up hZg101
  refine tc_putR (m := 69) (m' := 70) rfl rfl rfl rfl rfl ?_
  refine tt_vret ?_
  exact ⟨rfl, _, rfl, hZ102, by rw [hg101]⟩
theorem k6_62 {L : Nat} {f : Nat → Nat → Int} (hZ : Zf 61 f) : CC 6 [vR 62, vI 40] (f, Cs L 61 71) (fun r σ' => r = none ∧ ∃ g, σ' = (g, Cs L 62 72) ∧ Zf 62 g ∧ g = setf f 62 1 (-1)) := by
  show TT am_b6 (am_b6.getD 0 []) [(0, vR 62), (1, vI 40)] [] (f, Cs L 61 71) _
  refine tt_ar rfl ?_
  refine tt_objinit rfl ?_
  refine tt_ar rfl ?_
  refine tt_ar rfl ?_
  refine tc_putI rfl rfl ?_
  intro g106 (hg106 : g106 = setf f 62 1 (-1))
  have hZg106 := zf_sg hg106 hZ (by decide)
  refine tt_ar rfl ?_
  refine tt_ar rfl ?_
  refine tc_newarray (n := 61) (a := 63) (n' := 62) (by decide) (by decide) rfl (by decide +kernel) hZg106 rfl rfl ?_
  have hZ107 := zf_up hZg106
  refine tc_putR (m := 71) (m' := 72) rfl rfl rfl rfl rfl ?_
  refine tt_vret ?_
  exact ⟨rfl, _, rfl, hZ107, by rw [hg106]⟩
theorem k6_64 {L : Nat} {f : Nat → Nat → Int} (hZ : Zf 63 f) : CC 6 [vR 64, vI 40] (f, Cs L 63 73) (fun r σ' => r = none ∧ ∃ g, σ' = (g, Cs L 64 74) ∧ Zf 64 g ∧ g = setf f 64 1 (-1)) := by
  show TT am_b6 (am_b6.getD 0 []) [(0, vR 64), (1, vI 40)] [] (f, Cs L 63 73) _
  refine tt_ar rfl ?_
  refine tt_objinit rfl ?_
  refine tt_ar rfl ?_
  refine tt_ar rfl ?_
  refine tc_putI rfl rfl ?_
  intro g111 (hg111 : g111 = setf f 64 1 (-1))
  have hZg111 := zf_sg hg111 hZ (by decide)
  refine tt_ar rfl ?_
  refine tt_ar rfl ?_
  refine tc_newarray (n := 63) (a := 65) (n' := 64) (by decide) (by decide) rfl (by decide +kernel) hZg111 rfl rfl ?_
  have hZ112 := zf_up hZg111
  refine tc_putR (m := 73) (m' := 74) rfl rfl rfl rfl rfl ?_
  refine tt_vret ?_
  exact ⟨rfl, _, rfl, hZ112, by rw [hg111]⟩
theorem k6_66 {L : Nat} {f : Nat → Nat → Int} (hZ : Zf 65 f) : CC 6 [vR 66, vI 40] (f, Cs L 65 75) (fun r σ' => r = none ∧ ∃ g, σ' = (g, Cs L 66 76) ∧ Zf 66 g ∧ g = setf f 66 1 (-1)) := by
  show TT am_b6 (am_b6.getD 0 []) [(0, vR 66), (1, vI 40)] [] (f, Cs L 65 75) _
  refine tt_ar rfl ?_
  refine tt_objinit rfl ?_
  refine tt_ar rfl ?_
  refine tt_ar rfl ?_
  refine tc_putI rfl rfl ?_
  intro g116 (hg116 : g116 = setf f 66 1 (-1))
  have hZg116 := zf_sg hg116 hZ (by decide)
  refine tt_ar rfl ?_
  refine tt_ar rfl ?_
  refine tc_newarray (n := 65) (a := 67) (n' := 66) (by decide) (by decide) rfl (by decide +kernel) hZg116 rfl rfl ?_
  have hZ117 := zf_up hZg116
  refine tc_putR (m := 75) (m' := 76) rfl rfl rfl rfl rfl ?_
  refine tt_vret ?_
  exact ⟨rfl, _, rfl, hZ117, by rw [hg116]⟩
theorem k6_68 {L : Nat} {f : Nat → Nat → Int} (hZ : Zf 67 f) : CC 6 [vR 68, vI 120] (f, Cs L 67 77) (fun r σ' => r = none ∧ ∃ g, σ' = (g, Cs L 68 78) ∧ Zf 68 g ∧ g = setf f 68 1 (-1)) := by
  show TT am_b6 (am_b6.getD 0 []) [(0, vR 68), (1, vI 120)] [] (f, Cs L 67 77) _
  refine tt_ar rfl ?_
  refine tt_objinit rfl ?_
  refine tt_ar rfl ?_
  refine tt_ar rfl ?_
  refine tc_putI rfl rfl ?_
  intro g121 (hg121 : g121 = setf f 68 1 (-1))
  have hZg121 := zf_sg hg121 hZ (by decide)
  refine tt_ar rfl ?_
  refine tt_ar rfl ?_
  refine tc_newarray (n := 67) (a := 69) (n' := 68) (by decide) (by decide) rfl (by decide +kernel) hZg121 rfl rfl ?_
  have hZ122 := zf_up hZg121
  refine tc_putR (m := 77) (m' := 78) rfl rfl rfl rfl rfl ?_
  refine tt_vret ?_
  exact ⟨rfl, _, rfl, hZ122, by rw [hg121]⟩
theorem k6_70 {L : Nat} {f : Nat → Nat → Int} (hZ : Zf 69 f) : CC 6 [vR 70, vI 120] (f, Cs L 69 79) (fun r σ' => r = none ∧ ∃ g, σ' = (g, Cs L 70 80) ∧ Zf 70 g ∧ g = setf f 70 1 (-1)) := by
  show TT am_b6 (am_b6.getD 0 []) [(0, vR 70), (1, vI 120)] [] (f, Cs L 69 79) _
  refine tt_ar rfl ?_
  refine tt_objinit rfl ?_
  refine tt_ar rfl ?_
  refine tt_ar rfl ?_
  refine tc_putI rfl rfl ?_
  intro g126 (hg126 : g126 = setf f 70 1 (-1))
  have hZg126 := zf_sg hg126 hZ (by decide)
  refine tt_ar rfl ?_
  refine tt_ar rfl ?_
  refine tc_newarray (n := 69) (a := 71) (n' := 70) (by decide) (by decide) rfl (by decide +kernel) hZg126 rfl rfl ?_
  have hZ127 := zf_up hZg126
  refine tc_putR (m := 79) (m' := 80) rfl rfl rfl rfl rfl ?_
  refine tt_vret ?_
  exact ⟨rfl, _, rfl, hZ127, by rw [hg126]⟩
theorem k6_72 {L : Nat} {f : Nat → Nat → Int} (hZ : Zf 71 f) : CC 6 [vR 72, vI 120] (f, Cs L 71 81) (fun r σ' => r = none ∧ ∃ g, σ' = (g, Cs L 72 82) ∧ Zf 72 g ∧ g = setf f 72 1 (-1)) := by
  show TT am_b6 (am_b6.getD 0 []) [(0, vR 72), (1, vI 120)] [] (f, Cs L 71 81) _
  refine tt_ar rfl ?_
  refine tt_objinit rfl ?_
  refine tt_ar rfl ?_
  refine tt_ar rfl ?_
  refine tc_putI rfl rfl ?_
  intro g131 (hg131 : g131 = setf f 72 1 (-1))
  have hZg131 := zf_sg hg131 hZ (by decide)
  refine tt_ar rfl ?_
  refine tt_ar rfl ?_
  refine tc_newarray (n := 71) (a := 73) (n' := 72) (by decide) (by decide) rfl (by decide +kernel) hZg131 rfl rfl ?_
  have hZ132 := zf_up hZg131
  refine tc_putR (m := 81) (m' := 82) rfl rfl rfl rfl rfl ?_
  refine tt_vret ?_
  exact ⟨rfl, _, rfl, hZ132, by rw [hg131]⟩
theorem k6_74 {L : Nat} {f : Nat → Nat → Int} (hZ : Zf 73 f) : CC 6 [vR 74, vI 120] (f, Cs L 73 83) (fun r σ' => r = none ∧ ∃ g, σ' = (g, Cs L 74 84) ∧ Zf 74 g ∧ g = setf f 74 1 (-1)) := by
  show TT am_b6 (am_b6.getD 0 []) [(0, vR 74), (1, vI 120)] [] (f, Cs L 73 83) _
  refine tt_ar rfl ?_
  refine tt_objinit rfl ?_
  refine tt_ar rfl ?_
  refine tt_ar rfl ?_
  refine tc_putI rfl rfl ?_
  intro g136 (hg136 : g136 = setf f 74 1 (-1))
  have hZg136 := zf_sg hg136 hZ (by decide)
  refine tt_ar rfl ?_
  refine tt_ar rfl ?_
  refine tc_newarray (n := 73) (a := 75) (n' := 74) (by decide) (by decide) rfl (by decide +kernel) hZg136 rfl rfl ?_
  have hZ137 := zf_up hZg136
  refine tc_putR (m := 83) (m' := 84) rfl rfl rfl rfl rfl ?_
  refine tt_vret ?_
  exact ⟨rfl, _, rfl, hZ137, by rw [hg136]⟩
theorem k1_2 {L : Nat} {f : Nat → Nat → Int} (hZ : Zf 1 f) (h0 : ∀ a, 2 ≤ a → ∀ j, f a j = 0) (hw : ∀ j, j < 6 → f 0 j = ((10 ^ j : Nat) : Int)) : CC 1 [vR 2] (f, Cs L 1 0) (fun r σ' => r = none ∧ ∃ g, σ' = (g, Cs L 74 85) ∧ Zf 74 g ∧ ∃ g3, g = chn g3 ∧ HT 0 (g3, Cs L 0 0) ∧ W5 g3 ∧ (∀ a, (a < 5 ∨ 26 < a ∨ a = 10 ∨ a = 12) → ∀ j, g3 a j = f a j)) := by
  show TT am_b1 (am_b1.getD 0 []) [(0, vR 2)] [] (f, Cs L 1 0) _
  refine tt_ar rfl ?_
  refine tt_objinit rfl ?_
  refine tt_ar rfl ?_
  refine tt_ar rfl ?_
  refine tc_anewarray (n := 1) (a := 3) (n' := 2) (by decide) (by decide) rfl (by decide +kernel) hZ rfl rfl ?_
  have hZ1 := zf_up hZ
  refine tc_putR (m := 0) (m' := 1) rfl rfl rfl rfl rfl ?_
  refine tt_ar rfl ?_
  refine tt_ar rfl ?_
  refine tc_anewarray (n := 2) (a := 4) (n' := 3) (by decide) (by decide) rfl (by decide +kernel) hZ1 rfl rfl ?_
  have hZ2 := zf_up hZ1
  refine tc_putR (m := 1) (m' := 2) rfl rfl rfl rfl rfl ?_
  refine tt_ar rfl ?_
  refine tc_new (n := 3) (a := 5) (n' := 4) (by decide) rfl (by decide +kernel) hZ2 rfl rfl ?_
  have hZ3 := zf_up hZ2
  refine tt_ar rfl ?_
  refine tt_cx1 1 rfl (k2_5 (L := L) hZ3) ?_
  intro r1 σ1 hq1
  obtain ⟨rfl, g10, rfl, hZg10, hg10⟩ := hq1
  have hW5 := hg10.2
  have hw0 : ∀ j, j < 6 → g10 0 j = ((10 ^ j : Nat) : Int) := fun j hj => (hg10.1 0 (by decide) j).trans (hw j hj)
  refine tc_putR (m := 6) (m' := 7) rfl rfl rfl rfl rfl ?_
  refine tt_ar rfl ?_
  refine tc_new (n := 8) (a := 10) (n' := 9) (by decide) rfl (by decide +kernel) hZg10 rfl rfl ?_
  have hZ11 := zf_up hZg10
  refine tt_ar rfl ?_
  refine tt_cx1 1 rfl (k5_10 (L := L) hZ11) ?_
  intro r1 σ1 hq1
  obtain ⟨rfl, g26, rfl, hZg26, hg26⟩ := hq1
  have hW5 := w5_fr hW5 (fun a h1 h2 j => hg26 a (by simp only [List.mem_cons, List.not_mem_nil, or_false]; omega) j)
  have hw0 : ∀ j, j < 6 → g26 0 j = ((10 ^ j : Nat) : Int) := fun j hj => (hg26 0 (by decide) j).trans (hw0 j hj)
  refine tc_putR (m := 14) (m' := 15) rfl rfl rfl rfl rfl ?_
  refine tt_ar rfl ?_
  refine tc_new (n := 16) (a := 18) (n' := 17) (by decide) rfl (by decide +kernel) hZg26 rfl rfl ?_
  have hZ27 := zf_up hZg26
  refine tt_ar rfl ?_
  refine tt_ar rfl ?_
  refine tt_getR rfl rfl (b := 5) rfl ?_
  refine tt_cx2 2 rfl (k7_18 (L := L) hZ27 hW5 (fun j hj => hw0 j hj)) ?_
  intro r1 σ1 hq1
  obtain ⟨rfl, g38, rfl, hZg38, hg38⟩ := hq1
  refine tc_putR (m := 24) (m' := 25) rfl rfl rfl rfl rfl ?_
  refine tt_ar rfl ?_
  refine tc_new (n := 25) (a := 27) (n' := 26) (by decide) rfl (by decide +kernel) hZg38 rfl rfl ?_
  have hZ39 := zf_up hZg38
  refine tt_ar rfl ?_
  refine tt_cx1 1 rfl (k16_27 (L := L) hZ39) ?_
  intro r1 σ1 hq1
  obtain ⟨rfl, g45, rfl, hZg45, hg45⟩ := hq1
  refine tc_putR (m := 28) (m' := 29) rfl rfl rfl rfl rfl ?_
  refine tt_ar rfl ?_
  refine tc_new (n := 29) (a := 31) (n' := 30) (by decide) rfl (by decide +kernel) hZg45 rfl rfl ?_
  have hZ46 := zf_up hZg45
  refine tt_ar rfl ?_
  refine tt_ar rfl ?_
  refine tt_getR rfl rfl (b := 5) rfl ?_
  refine tt_ar rfl ?_
  refine tt_getR rfl rfl (b := 18) rfl ?_
  refine tt_ar rfl ?_
  refine tt_getR rfl rfl (b := 27) rfl ?_
  refine tt_cx4 4 rfl (k17_31 (L := L) hZ46) ?_
  intro r1 σ1 hq1
  obtain ⟨rfl, g48, rfl, hZg48, hg48⟩ := hq1
  refine tc_putR (m := 32) (m' := 33) rfl rfl rfl rfl rfl ?_
  refine tt_ar rfl ?_
  refine tc_new (n := 30) (a := 32) (n' := 31) (by decide) rfl (by decide +kernel) hZg48 rfl rfl ?_
  have hZ49 := zf_up hZg48
  refine tt_ar rfl ?_
  refine tt_ar rfl ?_
  refine tt_getR rfl rfl (b := 5) rfl ?_
  refine tt_ar rfl ?_
  refine tt_getR rfl rfl (b := 18) rfl ?_
  refine tt_cx3 3 rfl (k18_32 (L := L) hZ49) ?_
  intro r1 σ1 hq1
  obtain ⟨rfl, g54, rfl, hZg54, hg54⟩ := hq1
  refine tc_putR (m := 38) (m' := 39) rfl rfl rfl rfl rfl ?_
  refine tt_ar rfl ?_
  refine tc_new (n := 34) (a := 36) (n' := 35) (by decide) rfl (by decide +kernel) hZg54 rfl rfl ?_
  have hZ55 := zf_up hZg54
  refine tt_ar rfl ?_
  refine tt_ar rfl ?_
  refine tt_getR rfl rfl (b := 18) rfl ?_
  refine tt_ar rfl ?_
  refine tt_getR rfl rfl (b := 27) rfl ?_
  refine tt_ar rfl ?_
  refine tt_getR rfl rfl (b := 31) rfl ?_
  refine tt_ar rfl ?_
  refine tt_getR rfl rfl (b := 32) rfl ?_
  refine tt_cx5 5 rfl (k19_36 (L := L) hZ55) ?_
  intro r1 σ1 hq1
  obtain ⟨rfl, g71, rfl, hZg71, hg71⟩ := hq1
  refine tc_putR (m := 53) (m' := 54) rfl rfl rfl rfl rfl ?_
  refine tt_ar rfl ?_
  refine tc_new (n := 45) (a := 47) (n' := 46) (by decide) rfl (by decide +kernel) hZg71 rfl rfl ?_
  have hZ72 := zf_up hZg71
  refine tt_ar rfl ?_
  refine tt_ar rfl ?_
  refine tt_getR rfl rfl (b := 5) rfl ?_
  refine tt_ar rfl ?_
  refine tt_getR rfl rfl (b := 27) rfl ?_
  refine tt_cx3 3 rfl (k20_47 (L := L) hZ72) ?_
  intro r1 σ1 hq1
  obtain ⟨rfl, g83, rfl, hZg83, hg83⟩ := hq1
  refine tc_putR (m := 63) (m' := 64) rfl rfl rfl rfl rfl ?_
  refine tt_ar rfl ?_
  refine tt_ar rfl ?_
  refine tc_newarray (n := 53) (a := 55) (n' := 54) (by decide) (by decide) rfl (by decide +kernel) hZg83 rfl rfl ?_
  have hZ84 := zf_up hZg83
  refine tc_putR (m := 64) (m' := 65) rfl rfl rfl rfl rfl ?_
  refine tt_ar rfl ?_
  refine tt_ar rfl ?_
  refine tc_putI rfl rfl ?_
  intro g85 (hg85 : g85 = setf g83 2 11 (0))
  have hZg85 := zf_sg hg85 hZ84 (by decide)
  refine tt_ar rfl ?_
  refine tt_ar rfl ?_
  refine tc_putI rfl rfl ?_
  intro g86 (hg86 : g86 = setf g85 2 12 (0))
  have hZg86 := zf_sg hg86 hZg85 (by decide)
  refine tt_ar rfl ?_
  refine tt_ar rfl ?_
  refine tc_putL rfl rfl ?_
  intro g87 (hg87 : g87 = setf g86 2 13 (0))
  have hZg87 := zf_sg hg87 hZg86 (by decide)
  refine tt_ar rfl ?_
  refine tt_ar rfl ?_
  refine tc_putL rfl rfl ?_
  intro g88 (hg88 : g88 = setf g87 2 14 (0))
  have hZg88 := zf_sg hg88 hZg87 (by decide)
  refine tt_ar rfl ?_
  refine tt_ar rfl ?_
  refine tc_putL rfl rfl ?_
  intro g89 (hg89 : g89 = setf g88 2 15 (1))
  have hZg89 := zf_sg hg89 hZg88 (by decide)
  refine tt_ar rfl ?_
  refine tt_ar rfl ?_
  refine tt_nop ?_
  refine tt_ar rfl ?_
  refine tt_ar rfl ?_
  refine tt_icge (fun h => absurd h (by decide)) (fun _ => ?_)
  refine tt_ar rfl ?_
  refine tt_getR rfl rfl (b := 3) rfl ?_
  refine tt_ar rfl ?_
  refine tc_new (n := 54) (a := 56) (n' := 55) (by decide) rfl (by decide +kernel) hZg89 rfl rfl ?_
  have hZ90 := zf_up hZg89
  refine tt_ar rfl ?_
  refine tt_ar rfl ?_
  refine tt_cx2 2 rfl (k6_56 (L := L) hZ90) ?_
  intro r1 σ1 hq1
  obtain ⟨rfl, g94, rfl, hZg94, hg94⟩ := hq1
  refine tc_aast (m := 66) (m' := 67) 0 rfl rfl (by decide) (by decide) rfl (by decide) rfl rfl rfl ?_
  refine tt_iinc (y := 1) rfl (iinc_fit (by omega) (by omega) (by omega)) ?_
  refine tt_loc [(0, vR 2), (1, vI 1)] rfl rfl ⟨rfl, rfl, trivial⟩ ?_
  refine tt_goto ?_
  refine tt_ar rfl ?_
  refine tt_ar rfl ?_
  refine tt_icge (fun h => absurd h (by decide)) (fun _ => ?_)
  refine tt_ar rfl ?_
  refine tt_getR rfl rfl (b := 3) rfl ?_
  refine tt_ar rfl ?_
  refine tc_new (n := 56) (a := 58) (n' := 57) (by decide) rfl (by decide +kernel) hZg94 rfl rfl ?_
  have hZ95 := zf_up hZg94
  refine tt_ar rfl ?_
  refine tt_ar rfl ?_
  refine tt_cx2 2 rfl (k6_58 (L := L) hZ95) ?_
  intro r1 σ1 hq1
  obtain ⟨rfl, g99, rfl, hZg99, hg99⟩ := hq1
  refine tc_aast (m := 68) (m' := 69) 1 rfl rfl (by decide) (by decide) rfl (by decide) rfl rfl rfl ?_
  refine tt_iinc (y := 2) rfl (iinc_fit (by omega) (by omega) (by omega)) ?_
  refine tt_loc [(0, vR 2), (1, vI 2)] rfl rfl ⟨rfl, rfl, trivial⟩ ?_
  refine tt_goto ?_
  refine tt_ar rfl ?_
  refine tt_ar rfl ?_
  refine tt_icge (fun h => absurd h (by decide)) (fun _ => ?_)
  refine tt_ar rfl ?_
  refine tt_getR rfl rfl (b := 3) rfl ?_
  refine tt_ar rfl ?_
  refine tc_new (n := 58) (a := 60) (n' := 59) (by decide) rfl (by decide +kernel) hZg99 rfl rfl ?_
  have hZ100 := zf_up hZg99
  refine tt_ar rfl ?_
  refine tt_ar rfl ?_
  refine tt_cx2 2 rfl (k6_60 (L := L) hZ100) ?_
  intro r1 σ1 hq1
  obtain ⟨rfl, g104, rfl, hZg104, hg104⟩ := hq1
  refine tc_aast (m := 70) (m' := 71) 2 rfl rfl (by decide) (by decide) rfl (by decide) rfl rfl rfl ?_
  refine tt_iinc (y := 3) rfl (iinc_fit (by omega) (by omega) (by omega)) ?_
  refine tt_loc [(0, vR 2), (1, vI 3)] rfl rfl ⟨rfl, rfl, trivial⟩ ?_
  refine tt_goto ?_
  refine tt_ar rfl ?_
  refine tt_ar rfl ?_
  refine tt_icge (fun h => absurd h (by decide)) (fun _ => ?_)
  refine tt_ar rfl ?_
  refine tt_getR rfl rfl (b := 3) rfl ?_
  refine tt_ar rfl ?_
  refine tc_new (n := 60) (a := 62) (n' := 61) (by decide) rfl (by decide +kernel) hZg104 rfl rfl ?_
  have hZ105 := zf_up hZg104
  refine tt_ar rfl ?_
  refine tt_ar rfl ?_
  refine tt_cx2 2 rfl (k6_62 (L := L) hZ105) ?_
  intro r1 σ1 hq1
  obtain ⟨rfl, g109, rfl, hZg109, hg109⟩ := hq1
  refine tc_aast (m := 72) (m' := 73) 3 rfl rfl (by decide) (by decide) rfl (by decide) rfl rfl rfl ?_
  refine tt_iinc (y := 4) rfl (iinc_fit (by omega) (by omega) (by omega)) ?_
  refine tt_loc [(0, vR 2), (1, vI 4)] rfl rfl ⟨rfl, rfl, trivial⟩ ?_
  refine tt_goto ?_
  refine tt_ar rfl ?_
  refine tt_ar rfl ?_
  refine tt_icge (fun h => absurd h (by decide)) (fun _ => ?_)
  refine tt_ar rfl ?_
  refine tt_getR rfl rfl (b := 3) rfl ?_
  refine tt_ar rfl ?_
  refine tc_new (n := 62) (a := 64) (n' := 63) (by decide) rfl (by decide +kernel) hZg109 rfl rfl ?_
  have hZ110 := zf_up hZg109
  refine tt_ar rfl ?_
  refine tt_ar rfl ?_
  refine tt_cx2 2 rfl (k6_64 (L := L) hZ110) ?_
  intro r1 σ1 hq1
  obtain ⟨rfl, g114, rfl, hZg114, hg114⟩ := hq1
  refine tc_aast (m := 74) (m' := 75) 4 rfl rfl (by decide) (by decide) rfl (by decide) rfl rfl rfl ?_
  refine tt_iinc (y := 5) rfl (iinc_fit (by omega) (by omega) (by omega)) ?_
  refine tt_loc [(0, vR 2), (1, vI 5)] rfl rfl ⟨rfl, rfl, trivial⟩ ?_
  refine tt_goto ?_
  refine tt_ar rfl ?_
  refine tt_ar rfl ?_
  refine tt_icge (fun h => absurd h (by decide)) (fun _ => ?_)
  refine tt_ar rfl ?_
  refine tt_getR rfl rfl (b := 3) rfl ?_
  refine tt_ar rfl ?_
  refine tc_new (n := 64) (a := 66) (n' := 65) (by decide) rfl (by decide +kernel) hZg114 rfl rfl ?_
  have hZ115 := zf_up hZg114
  refine tt_ar rfl ?_
  refine tt_ar rfl ?_
  refine tt_cx2 2 rfl (k6_66 (L := L) hZ115) ?_
  intro r1 σ1 hq1
  obtain ⟨rfl, g119, rfl, hZg119, hg119⟩ := hq1
  refine tc_aast (m := 76) (m' := 77) 5 rfl rfl (by decide) (by decide) rfl (by decide) rfl rfl rfl ?_
  refine tt_iinc (y := 6) rfl (iinc_fit (by omega) (by omega) (by omega)) ?_
  refine tt_loc [(0, vR 2), (1, vI 6)] rfl rfl ⟨rfl, rfl, trivial⟩ ?_
  refine tt_goto ?_
  refine tt_ar rfl ?_
  refine tt_ar rfl ?_
  refine tt_icge (fun _ => ?_) (fun h => absurd h (by decide))
  refine tt_ar rfl ?_
  refine tt_ar rfl ?_
  refine tt_nop ?_
  refine tt_ar rfl ?_
  refine tt_ar rfl ?_
  refine tt_icge (fun h => absurd h (by decide)) (fun _ => ?_)
  refine tt_ar rfl ?_
  refine tt_getR rfl rfl (b := 4) rfl ?_
  refine tt_ar rfl ?_
  refine tc_new (n := 66) (a := 68) (n' := 67) (by decide) rfl (by decide +kernel) hZg119 rfl rfl ?_
  have hZ120 := zf_up hZg119
  refine tt_ar rfl ?_
  refine tt_ar rfl ?_
  refine tt_cx2 2 rfl (k6_68 (L := L) hZ120) ?_
  intro r1 σ1 hq1
  obtain ⟨rfl, g124, rfl, hZg124, hg124⟩ := hq1
  refine tc_aast (m := 78) (m' := 79) 0 rfl rfl (by decide) (by decide) rfl (by decide) rfl rfl rfl ?_
  refine tt_iinc (y := 1) rfl (iinc_fit (by omega) (by omega) (by omega)) ?_
  refine tt_loc [(0, vR 2), (1, vI 1)] rfl rfl ⟨rfl, rfl, trivial⟩ ?_
  refine tt_goto ?_
  refine tt_ar rfl ?_
  refine tt_ar rfl ?_
  refine tt_icge (fun h => absurd h (by decide)) (fun _ => ?_)
  refine tt_ar rfl ?_
  refine tt_getR rfl rfl (b := 4) rfl ?_
  refine tt_ar rfl ?_
  refine tc_new (n := 68) (a := 70) (n' := 69) (by decide) rfl (by decide +kernel) hZg124 rfl rfl ?_
  have hZ125 := zf_up hZg124
  refine tt_ar rfl ?_
  refine tt_ar rfl ?_
  refine tt_cx2 2 rfl (k6_70 (L := L) hZ125) ?_
  intro r1 σ1 hq1
  obtain ⟨rfl, g129, rfl, hZg129, hg129⟩ := hq1
  refine tc_aast (m := 80) (m' := 81) 1 rfl rfl (by decide) (by decide) rfl (by decide) rfl rfl rfl ?_
  refine tt_iinc (y := 2) rfl (iinc_fit (by omega) (by omega) (by omega)) ?_
  refine tt_loc [(0, vR 2), (1, vI 2)] rfl rfl ⟨rfl, rfl, trivial⟩ ?_
  refine tt_goto ?_
  refine tt_ar rfl ?_
  refine tt_ar rfl ?_
  refine tt_icge (fun h => absurd h (by decide)) (fun _ => ?_)
  refine tt_ar rfl ?_
  refine tt_getR rfl rfl (b := 4) rfl ?_
  refine tt_ar rfl ?_
  refine tc_new (n := 70) (a := 72) (n' := 71) (by decide) rfl (by decide +kernel) hZg129 rfl rfl ?_
  have hZ130 := zf_up hZg129
  refine tt_ar rfl ?_
  refine tt_ar rfl ?_
  refine tt_cx2 2 rfl (k6_72 (L := L) hZ130) ?_
  intro r1 σ1 hq1
  obtain ⟨rfl, g134, rfl, hZg134, hg134⟩ := hq1
  refine tc_aast (m := 82) (m' := 83) 2 rfl rfl (by decide) (by decide) rfl (by decide) rfl rfl rfl ?_
  refine tt_iinc (y := 3) rfl (iinc_fit (by omega) (by omega) (by omega)) ?_
  refine tt_loc [(0, vR 2), (1, vI 3)] rfl rfl ⟨rfl, rfl, trivial⟩ ?_
  refine tt_goto ?_
  refine tt_ar rfl ?_
  refine tt_ar rfl ?_
  refine tt_icge (fun h => absurd h (by decide)) (fun _ => ?_)
  refine tt_ar rfl ?_
  refine tt_getR rfl rfl (b := 4) rfl ?_
  refine tt_ar rfl ?_
  refine tc_new (n := 72) (a := 74) (n' := 73) (by decide) rfl (by decide +kernel) hZg134 rfl rfl ?_
  have hZ135 := zf_up hZg134
  refine tt_ar rfl ?_
  refine tt_ar rfl ?_
  refine tt_cx2 2 rfl (k6_74 (L := L) hZ135) ?_
  intro r1 σ1 hq1
  obtain ⟨rfl, g139, rfl, hZg139, hg139⟩ := hq1
  refine tc_aast (m := 84) (m' := 85) 3 rfl rfl (by decide) (by decide) rfl (by decide) rfl rfl rfl ?_
  refine tt_iinc (y := 4) rfl (iinc_fit (by omega) (by omega) (by omega)) ?_
  refine tt_loc [(0, vR 2), (1, vI 4)] rfl rfl ⟨rfl, rfl, trivial⟩ ?_
  refine tt_goto ?_
  refine tt_ar rfl ?_
  refine tt_ar rfl ?_
  refine tt_icge (fun _ => ?_) (fun h => absurd h (by decide))
  refine tt_vret ?_
  refine ⟨rfl, _, rfl, hZg139, g38, by rw [hg139, hg134, hg129, hg124, hg119, hg114, hg109, hg104, hg99, hg94, hg89, hg88, hg87, hg86, hg85, hg83, hg71, hg54, hg48, hg45]; rfl, ht_fr hg38.2 (fun _ _ _ => rfl), w5_fr hW5 (fun a h1 h2 j => hg38.1 a (by simp only [List.mem_cons, List.not_mem_nil, or_false]; omega) j), fun a ha j => (hg38.1 a (by simp only [List.mem_cons, List.not_mem_nil, or_false]; omega) j).trans ((hg26 a (by simp only [List.mem_cons, List.not_mem_nil, or_false]; omega) j).trans (hg10.1 a (by simp only [List.mem_cons, List.not_mem_nil, or_false]; omega) j))⟩
