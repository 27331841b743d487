/-! WHAT THE LAW STANDS ON BEHIND ITS START -/
def QL (r : Option am_V) (σ' : am_S) : Prop := r = some (vI 1) ∧ σ'.2.2.2.1 ≤ 600000 ∧ σ'.2.2.2.2 ≤ 7302250
def LA (k mm pH L : Nat) (xs : Nat → Int32) (D : Nat → Nat → Int) (A : am_S) : Prop := (CI k mm 0 D A ∧ (1 ≤ k ∧ k ≤ 3) ∧ (1 ≤ mm ∧ mm ≤ 4)) ∧ (Sc L xs A ∧ L ≤ 260) ∧ (A.2.2.1[79]? = some (.inl .int, 6) ∧ ∀ i, i < 5 → A.1 79 (1 + i) = A.1 9 i) ∧ (80 < pH ∧ A.2.2.1[pH]? = some (.inl .int, 64) ∧ ∀ i, i < nkT k → ∃ h, h < nkT k ∧ A.1 pH i = (tb k h : Int)) ∧ (nIN A.2.2.1 ≤ 1000 ∧ sIN A.2.2.1 ≤ 1000000)
section LAS
variable {k mm pH L : Nat} {xs : Nat → Int32} {D : Nat → Nat → Int} {A σ : am_S}
theorem lz_rf (hA : LA k mm pH L xs D A) : LZ k mm D A A := ⟨hA.1.1, LF.rf, rfl, fun _ _ _ _ => rfl⟩
theorem lz_sc (hA : LA k mm pH L xs D A) (hS : LZ k mm D A σ) : Sc L xs σ := ⟨fun j => (hS.2.1.2.2 1 (Or.inl (by omega)) j).trans (hA.2.1.1.1 j), hS.2.1.2.1.1 _ _ hA.2.1.1.2⟩
theorem lz_k79 (hA : LA k mm pH L xs D A) (hS : LZ k mm D A σ) : σ.2.2.1[79]? = some (.inl .int, 6) := hS.2.1.2.1.1 _ _ hA.2.2.1.1
theorem lz_kpH (hA : LA k mm pH L xs D A) (hS : LZ k mm D A σ) : σ.2.2.1[pH]? = some (.inl .int, 64) := hS.2.1.2.1.1 _ _ hA.2.2.2.1.2.1
theorem lz_mo (hA : LA k mm pH L xs D A) (hS : LZ k mm D A σ) {i : Nat} (hi : i < 5) : σ.1 79 (1 + i) = A.1 9 i := (hS.2.1.2.2 79 (Or.inr (Or.inr (Or.inr ⟨by omega, by simp, _, hA.2.2.1.1⟩))) _).trans (hA.2.2.1.2 i hi)
theorem lz_ho (hA : LA k mm pH L xs D A) (hS : LZ k mm D A σ) {i : Nat} (hi : i < nkT k) : ∃ h, h < nkT k ∧ σ.1 pH i = (tb k h : Int) := by
  obtain ⟨h, h1, h2⟩ := hA.2.2.2.1.2.2 i hi
  exact ⟨h, h1, (hS.2.1.2.2 pH (Or.inr (Or.inr (Or.inr ⟨by have := hA.2.2.2.1.1; omega, by simp, _, hA.2.2.2.1.2.1⟩))) _).trans h2⟩
theorem ql_of {nm ns : Nat} (h : CI k nm ns D σ) (hN : nIN σ.2.2.1 ≤ 1000 ∧ sIN σ.2.2.1 ≤ 1000000) : QL (some (vI 1)) σ := by
  obtain ⟨kn, i, ⟨-, -, -, h4, h5, h6⟩, -, -⟩ := h.kn
  exact ⟨rfl, by omega, by omega⟩
theorem la_pr (hA : LA k mm pH L xs D A) : ∀ i, i < 5 → 0 ≤ A.1 9 i ∧ A.1 9 i ≤ 9 := hA.1.1.x.1.2.2.2.1
theorem la_N (hA : LA k mm pH L xs D A) : 1 ≤ nkT k ∧ nkT k ≤ 56 := (by decide : ∀ k, k < 4 → 1 ≤ nkT k ∧ nkT k ≤ 56) k (by have := hA.1.2.1; omega)
theorem la_tb (hA : LA k mm pH L xs D A) {h : Nat} (hh : h < nkT k) : tb k h < 1000 := by
  have h1 := (en_at (show k ≤ 6 by have := hA.1.2.1; omega) hh).1
  rcases (show k = 1 ∨ k = 2 ∨ k = 3 by have := hA.1.2.1; omega) with rfl | rfl | rfl <;> omega
theorem la_D (hA : LA k mm pH L xs D A) {a b : Nat} (ha : a < nkT k) (hb : b < nkT k) : 0 ≤ D a b ∧ D a b ≤ 90 := DI.bd (show k ≤ 6 by have := hA.1.2.1; omega) (la_pr hA) hA.1.1.x.2.2.2 ha hb
theorem la_self (hA : LA k mm pH L xs D A) {a : Nat} (ha : a < nkT k) : D a a = 0 := DI.self (show k ≤ 6 by have := hA.1.2.1; omega) (la_pr hA) hA.1.1.x.2.2.2 ha
theorem la_tri (hA : LA k mm pH L xs D A) {a b c : Nat} (ha : a < nkT k) (hb : b < nkT k) (hc : c < nkT k) : D a b ≤ D a c + D c b := DI.tri (show k ≤ 6 by have := hA.1.2.1; omega) (la_pr hA) hA.1.1.x.2.2.2 ha hb hc
theorem la_ds (hA : LA k mm pH L xs D A) {h : Nat} (hh : h < nkT k) : tb k h % 10 + tb k h / 10 % 10 + tb k h / 100 = dsN 6 (tb k h) ∧ dsN 6 (tb k h) ≤ 5 := ⟨(ds_3 (la_tb hA hh)).symm, (en_at (show k ≤ 6 by have := hA.1.2.1; omega) hh).2.1⟩
theorem la_up (hA : LA k mm pH L xs D A) {h n : Nat} (hh : h < nkT k) (hn : n = dsN 6 (tb k h)) : D 0 h ≤ (n : Int) * A.1 9 0 := by
  subst hn
  exact DI.up (show k ≤ 6 by have := hA.1.2.1; omega) (la_pr hA) hA.1.1.x.2.2.2 _ hh rfl
theorem la_dn (hA : LA k mm pH L xs D A) {h n : Nat} (hh : h < nkT k) (hn : n = dsN 6 (tb k h)) : D h 0 ≤ (n : Int) * A.1 9 1 := by
  subst hn
  have h1 := DI.dn (show k ≤ 6 by have := hA.1.2.1; omega) (la_pr hA) hA.1.1.x.2.2.2 hh _ hh rfl
  have h2 := la_self hA hh
  omega
theorem la_pm (hA : LA k mm pH L xs D A) {n i : Nat} (hn : n ≤ 5) (hi : i < 5) : 0 ≤ (n : Int) * A.1 9 i ∧ (n : Int) * A.1 9 i ≤ 45 ∧ w32 ((n : Int) * A.1 9 i) = (n : Int) * A.1 9 i := by
  have h1 := la_pr hA i hi
  have h2 := mul_bd (a := (n : Int)) (b := A.1 9 i) (A := 5) (B := 9) (by omega) (by omega) h1.1 h1.2
  exact ⟨h2.1, by omega, w32_i (by omega) (by omega)⟩
theorem la_0 (hA : LA k mm pH L xs D A) : (0 : Int) = (tb k 0 : Int) := by
  rw [tb_0 k (by have := hA.1.2.1; omega)]
  rfl
theorem la_ex (hA : LA k mm pH L xs D A) (m h : Nat) : 0 ≤ exA k A m h ∧ exA k A m h ≤ 1000000 := cPr_bd hA.1.1.x.1
theorem la_hb (hA : LA k mm pH L xs D A) : HB (nkT k) A := HB_of hA.1.1.x.1 hA.1.1.x.2.1
theorem la_25 (hA : LA k mm pH L xs D A) {h x : Nat} (hh : h < nkT k) (hx : x < 8) : 0 ≤ A.1 25 (h * 8 + x) ∧ A.1 25 (h * 8 + x) ≤ A.1 26 (h * 8 + x) ∧ A.1 26 (h * 8 + x) ≤ 45 := (la_hb hA).2.2.2.1 (h * 8 + x) (by omega)
/-- what agrees is explained for nothing -/
theorem la_ag (hA : LA k mm pH L xs D A) {m h : Nat} (hm : m < mm) (hh : h < nkT k) : (((cTl A m h = 0 ∧ cTm A m h = 0) ∧ cEx A k m h = 0) ∨ (¬ (cTl A m h = 0 ∧ cTm A m h = 0) ∧ (cEx A k m h = -9 ∨ 10 ≤ cEx A k m h))) ∧ a_and (cTl A m h) (cTm A m h) = 0 := by
  obtain ⟨h1, h2⟩ := tl_tm hA.1.1.x.2.2.1 (show m < 12 by have := hA.1.2.2; omega) (la_hb hA) hh
  refine ⟨?_, h2⟩
  by_cases e : cAg A m h 0 0 0
  · exact Or.inl ⟨h1.mpr e, ex_ag e⟩
  · refine Or.inr ⟨fun q => e (h1.mp q), ?_⟩
    have := ex_no (show k ≤ 6 by have := hA.1.2.1; omega) e
    omega
theorem la_po (hA : LA k mm pH L xs D A) {how : Int} : 0 ≤ prOf (A.1 9) how ∧ (how < 10 → prOf (A.1 9) how = 0) ∧ (0 < prOf (A.1 9) how → prOf (A.1 9) how = if how < 20 then A.1 9 3 else A.1 9 4) := by
  refine ⟨(prOf_bd (la_pr hA)).1, fun q => ?_, fun q => (pr_of q).2⟩
  unfold prOf
  rw [if_pos q]
theorem la_sm (hA : LA k mm pH L xs D A) {m s : Nat} (hm : m < mm) (hs : s < nkT k) (e : cAg A m s 0 0 0) : cEx A k m s = 0 ∧ prOf (A.1 9) (cEx A k m s) = 0 ∧ 0 ≤ (cPb A k m 8).getD (-9) ∧ (cPb A k m 8).getD (-9) ≤ ((dsN 6 (tb k s) : Nat) : Int) ∧ 1 ≤ cCnt A k m 0 (nkT k) := by
  obtain ⟨b, b1, b2, b3⟩ := bd_ok hA.1.1.x.1 hA.1.1.x.2.2.1 hA.1.1.x.2.1 (show m < 12 by have := hA.1.2.2; omega) hs e
  have h0 := ex_ag (k := k) e
  refine ⟨h0, ?_, by rw [b1]; exact b2, by rw [b1]; exact b3, cn_pos hs h0 (Int.le_refl _)⟩
  rw [h0]
  exact (la_po hA).2.1 (by omega)
/-- tales -/
theorem la_Bnn (hA : LA k mm pH L xs D A) : 0 ≤ BS k mm D A := bs_nn (by omega) (by have := la_N hA; omega) (fun a b ha hb => (la_D hA ha hb).1) (fun m h _ => (la_ex hA m h).1)
theorem la_fr (hA : LA k mm pH L xs D A) (ht : BS k mm D A < 1000000) {m : Nat} (hm : m < mm) : FR k mm D A m < nkT k ∧ CT k mm D A m (FR k mm D A m) = BS k mm D A ∧ exA k A m (FR k mm D A m) < 1000000 := by
  have h1 : 0 < nkT k := by have := la_N hA; omega
  have h2 : ∀ a b, a < nkT k → b < nkT k → 0 ≤ D a b := fun a b ha hb => (la_D hA ha hb).1
  have h3 : ∀ m h, h < nkT k → 0 ≤ exA k A m h := fun m h _ => (la_ex hA m h).1
  exact ⟨(frM_ok (by omega) h1 h2 h3 ht hm).1, fr_ct (by omega) h1 h2 h3 ht hm, (fr_ex (by omega) h1 h2 h3 ht hm).1⟩
theorem la_exn (hA : LA k mm pH L xs D A) (ht : BS k mm D A < 1000000) {m : Nat} (hm : m < mm) : ¬ cEx A k m (FR k mm D A m) = -9 ∧ prOf (A.1 9) (cEx A k m (FR k mm D A m)) = exA k A m (FR k mm D A m) := by
  have h := (la_fr hA ht hm).2.2
  unfold exA cPr at h ⊢
  by_cases e : cEx A k m (FR k mm D A m) = -9
  · rw [if_pos e] at h
    omega
  · rw [if_neg e]
    exact ⟨e, rfl⟩
def CO (k mm : Nat) (D : Nat → Nat → Int) (A : am_S) (m : Nat) : Int := coN 1000000 (nkT k) mm D (exA k A) m
/-- where the tale is ahead of a Monday -/
def NWi (k mm : Nat) (D : Nat → Nat → Int) (A : am_S) (m : Nat) : Nat := if m = 0 then 0 else FR k mm D A (m - 1)
theorem la_nw (hA : LA k mm pH L xs D A) (ht : BS k mm D A < 1000000) {m : Nat} (hm : m ≤ mm) : NWi k mm D A m < nkT k := by
  unfold NWi
  split
  · have := la_N hA
    omega
  · exact (la_fr hA ht (by omega)).1
theorem la_co (hA : LA k mm pH L xs D A) (ht : BS k mm D A < 1000000) {m : Nat} (hm : m < mm) : CO k mm D A (m + 1) = CO k mm D A m + (D (NWi k mm D A m) (FR k mm D A m) + exA k A m (FR k mm D A m)) ∧ 0 ≤ CO k mm D A (m + 1) ∧ CO k mm D A (m + 1) ≤ 1000000 := by
  have h1 : 0 < nkT k := by have := la_N hA; omega
  have h2 : ∀ a b, a < nkT k → b < nkT k → 0 ≤ D a b := fun a b ha hb => (la_D hA ha hb).1
  have h3 : ∀ m h, h < nkT k → 0 ≤ exA k A m h := fun m h _ => (la_ex hA m h).1
  have h4 := (fr_ex (by omega) h1 h2 h3 ht hm).2
  have h5 := ahN_bd (F := 1000000) (N := nkT k) (D := D) (ex := exA k A) (by omega) h1 h2 h3 m (frM_ok (by omega) h1 h2 h3 ht hm).1
  have h4 : CO k mm D A (m + 1) = ahN 1000000 (nkT k) D (exA k A) m (frM 1000000 (nkT k) mm D (exA k A) m) := h4
  exact ⟨rfl, by omega, by omega⟩
theorem la_cn (hA : LA k mm pH L xs D A) (ht : BS k mm D A < 1000000) {m : Nat} (hm : m ≤ mm) : 0 ≤ CO k mm D A m ∧ CO k mm D A m ≤ 1000000 := by
  cases m with
  | zero => exact ⟨Int.le_refl _, by show (0 : Int) ≤ _; omega⟩
  | succ m => exact (la_co hA ht (by omega)).2
theorem la_ce (hA : LA k mm pH L xs D A) (ht : BS k mm D A < 1000000) : CO k mm D A mm = BS k mm D A := co_end (by omega) (by have := la_N hA; omega) (fun a b ha hb => (la_D hA ha hb).1) (fun m h _ => (la_ex hA m h).1) ht (by have := hA.1.2.2; omega)
theorem la_lb (hA : LA k mm pH L xs D A) {m h : Nat} (hm : m < mm) (hh : h < nkT k) : BS k mm D A ≤ CT k mm D A m h := tale_lb (by omega) (by have := la_N hA; omega) (fun a b ha hb => (la_D hA ha hb).1) (fun m h _ => (la_ex hA m h).1) (by omega) _ rfl hm hh
/-- parts of tales -/
theorem la_TH (hA : LA k mm pH L xs D A) (ht : BS k mm D A < 1000000) : TH 1000000 (nkT k) mm D (exA k A) := ⟨by omega, by have := la_N hA; omega, fun a b ha hb => (la_D hA ha hb).1, fun m h _ => (la_ex hA m h).1, ht⟩
theorem la_T1 (hA : LA k mm pH L xs D A) (ht : BS k mm D A < 1000000) : 1 ≤ TA k mm D A := wy_pos (la_TH hA ht)
theorem la_hv (hA : LA k mm pH L xs D A) (ht : BS k mm D A < 1000000) {m s v : Nat} (hm : m < mm) (hs : s < k) (hv : v ≤ 5) : 0 ≤ HV k mm D A m s v ∧
    (0 < HV k mm D A m s v → foQ mnS 5 (plM 1000000 (nkT k) mm D (exA k A) m) (nkT k) (fun h => ((dg (tb k h) s : Nat) : Int)) ≤ (v : Int) ∧ (v : Int) ≤ foQ mxS 0 (plM 1000000 (nkT k) mm D (exA k A) m) (nkT k) (fun h => ((dg (tb k h) s : Nat) : Int))) ∧
    (HV k mm D A m s v = 0 → ¬ (v : Int) = foQ mnS 5 (plM 1000000 (nkT k) mm D (exA k A) m) (nkT k) (fun h => ((dg (tb k h) s : Nat) : Int)) ∧ ¬ (v : Int) = foQ mxS 0 (plM 1000000 (nkT k) mm D (exA k A) m) (nkT k) (fun h => ((dg (tb k h) s : Nat) : Int))) := by
  have T := la_TH hA ht
  obtain ⟨f1, f2⟩ := frM_ok T.1 T.2.1 T.2.2.1 T.2.2.2.1 T.2.2.2.2 hm
  obtain ⟨n1, n2, n3⟩ := foMn (b := 5) (p := plM 1000000 (nkT k) mm D (exA k A) m) (f := fun h => ((dg (tb k h) s : Nat) : Int)) (n := nkT k)
  obtain ⟨x1, x2, x3⟩ := foMx (b := 0) (p := plM 1000000 (nkT k) mm D (exA k A) m) (f := fun h => ((dg (tb k h) s : Nat) : Int)) (n := nkT k)
  have d5 : ∀ h, h < nkT k → dg (tb k h) s ≤ 5 := fun h hh => by
    have h1 := dsN_le (num := tb k h) (s := s + 1) (by have := hA.1.2.1; omega)
    have h2 : dsN (s + 1) (tb k h) = dsN s (tb k h) + dg (tb k h) s := rfl
    have h3 := (en_at (show k ≤ 6 by have := hA.1.2.1; omega) hh).2.1
    omega
  refine ⟨hv_nn, fun q => ?_, fun q => ⟨fun e => ?_, fun e => ?_⟩⟩
  · obtain ⟨h, h1, h2, h3⟩ := hv_some q
    have e1 := n1 h h1 h2
    have e2 := x1 h h1 h2
    rw [← h3]
    exact ⟨e1, e2⟩
  · rcases n2 with z | ⟨h, h1, h2, h3⟩
    · have e1 : foQ mnS 5 (plM 1000000 (nkT k) mm D (exA k A) m) (nkT k) (fun h => ((dg (tb k h) s : Nat) : Int)) ≤ ((dg (tb k (frM 1000000 (nkT k) mm D (exA k A) m)) s : Nat) : Int) := n1 _ f1 f2
      have e2 := d5 _ f1
      have := hv_pos T hm f1 f2 (s := s) (w := (v : Int)) (by omega)
      unfold HV at q
      omega
    · have := hv_pos T hm h1 h2 (s := s) (w := (v : Int)) (by rw [e]; exact h3.symm)
      unfold HV at q
      omega
  · rcases x2 with z | ⟨h, h1, h2, h3⟩
    · have e1 : ((dg (tb k (frM 1000000 (nkT k) mm D (exA k A) m)) s : Nat) : Int) ≤ foQ mxS 0 (plM 1000000 (nkT k) mm D (exA k A) m) (nkT k) (fun h => ((dg (tb k h) s : Nat) : Int)) := x1 _ f1 f2
      have := hv_pos T hm f1 f2 (s := s) (w := (v : Int)) (by omega)
      unfold HV at q
      omega
    · have := hv_pos T hm h1 h2 (s := s) (w := (v : Int)) (by rw [e]; exact h3.symm)
      unfold HV at q
      omega
theorem la_all (hA : LA k mm pH L xs D A) {m s : Nat} (hm : m < mm) (hs : s < k) : sumN 6 (fun v => HV k mm D A m s v) = TA k mm D A := hv_all (show k ≤ 6 by have := hA.1.2.1; omega) (by have := hA.1.2.1; omega) hm
theorem la_hs (hA : LA k mm pH L xs D A) {m s : Nat} (hm : m < mm) (hs : s < k) {v : Nat} (hv : v ≤ 6) : 0 ≤ sumN v (fun v => HV k mm D A m s v) ∧ sumN v (fun v => HV k mm D A m s v) ≤ TA k mm D A := by
  refine ⟨sumN_nn (fun _ _ => hv_nn), ?_⟩
  rw [← la_all hA hm hs]
  exact sumN_le_n (fun _ _ => hv_nn) hv
/-- the numbers of a fraction in lowest terms -/
theorem frac {h T : Nat} (hT : 0 < T) : ∃ g u lo : Nat, h / Nat.gcd h T = u ∧ T / Nat.gcd h T = lo ∧ 0 < g ∧ 0 < lo ∧ T = g * lo ∧ h = g * u := by
  have hg : 0 < Nat.gcd h T := Nat.gcd_pos_of_pos_right h hT
  have h1 : Nat.gcd h T * (T / Nat.gcd h T) = T := Nat.mul_div_cancel' (Nat.gcd_dvd_right h T)
  have h2 : Nat.gcd h T * (h / Nat.gcd h T) = h := Nat.mul_div_cancel' (Nat.gcd_dvd_left h T)
  refine ⟨Nat.gcd h T, _, _, rfl, rfl, hg, ?_, h1.symm, h2.symm⟩
  rcases Nat.eq_zero_or_pos (T / Nat.gcd h T) with e | e
  · rw [e, Nat.mul_zero] at h1
    omega
  · exact e
theorem fr_md {T : Int} {g lo : Nat} (h : T = ((g * lo : Nat) : Int)) : Int.tmod T (lo : Int) = 0 := by
  rw [h]
  show ((g * lo % lo : Nat) : Int) = 0
  rw [Nat.mul_mod_left]
  rfl
theorem fr_dv {T : Int} {g lo : Nat} (h : T = ((g * lo : Nat) : Int)) (hlo : 0 < lo) (hT : T ≤ 1000000000000000) : w64 (Int.tdiv T (lo : Int)) = (g : Int) := by
  have hg : g ≤ g * lo := Nat.le_mul_of_pos_right g hlo
  rw [h]
  show w64 ((g * lo / lo : Nat) : Int) = (g : Int)
  rw [Nat.mul_div_cancel g hlo]
  exact w64_i (by omega) (by omega)
theorem fr_ml {h : Int} {g u : Nat} (e : h = ((g * u : Nat) : Int)) (hT : h ≤ 1000000000000000) : w64 ((u : Int) * (g : Int)) = h := by
  have e2 : (u : Int) * (g : Int) = h := by
    rw [e, Nat.mul_comm]
    exact (Int.natCast_mul u g).symm
  rw [e2]
  exact w64_i (by omega) (by omega)
end LAS
