/-! HOUSEHOLDS BESIDE EACH OTHER -/
def adOK (k h : Nat) : Bool :=
  let a := tb k h
  (List.range k).all (fun s => (decide (dsN 6 a = 5) || (decide (a + 10 ^ s < 10 ^ k) && decide (dsN 6 (a + 10 ^ s) = dsN 6 a + 1))) && (List.range 6).all (fun i => decide (dg (a + 10 ^ s) i = dg a i + if i = s then 1 else 0)) &&
    (decide (dg a s = 0) || (decide (10 ^ s ≤ a) && decide (dsN 6 (a - 10 ^ s) + 1 = dsN 6 a) && (List.range 6).all (fun i => decide (dg (a - 10 ^ s) i + (if i = s then 1 else 0) = dg a i)))))
set_option maxRecDepth 100000 in
theorem ad_all : ∀ k, k < 7 → ∀ h, h < nkT k → adOK k h = true := by decide +kernel
theorem ad_at {k h s : Nat} (hk : k ≤ 6) (hh : h < nkT k) (hs : s < k) : (dsN 6 (tb k h) < 5 → tb k h + 10 ^ s < 10 ^ k ∧ dsN 6 (tb k h + 10 ^ s) = dsN 6 (tb k h) + 1) ∧ (∀ i, i < 6 → dg (tb k h + 10 ^ s) i = dg (tb k h) i + if i = s then 1 else 0) ∧ (0 < dg (tb k h) s → 10 ^ s ≤ tb k h ∧ dsN 6 (tb k h - 10 ^ s) + 1 = dsN 6 (tb k h) ∧ ∀ i, i < 6 → dg (tb k h - 10 ^ s) i + (if i = s then 1 else 0) = dg (tb k h) i) := by
  have := ad_all k (by omega) h hh
  unfold adOK at this
  simp only [List.all_eq_true, List.mem_range, Bool.and_eq_true, Bool.or_eq_true, decide_eq_true_eq] at this
  obtain ⟨⟨h1, h2⟩, h3⟩ := this s hs
  exact ⟨fun h5 => h1.resolve_left (by omega), h2, fun h0 => by
    obtain ⟨⟨q1, q2⟩, q3⟩ := h3.resolve_left (by omega)
    exact ⟨q1, q2, q3⟩⟩
/-- h is g and one more of a sort -/
def MM2 (k g s h : Nat) : Prop := s < k ∧ g < nkT k ∧ h < nkT k ∧ tb k h = tb k g + 10 ^ s
theorem MM2.inj {k b b' s h : Nat} (hk : k ≤ 6) (h1 : MM2 k b s h) (h2 : MM2 k b' s h) : b = b' := tb_inj hk h1.2.1 h2.2.1 (by have := h1.2.2.2; have := h2.2.2.2; omega)
theorem MM2.fun {k b s h h' : Nat} (hk : k ≤ 6) (h1 : MM2 k b s h) (h2 : MM2 k b s h') : h = h' := tb_inj hk h1.2.2.1 h2.2.2.1 (by have := h1.2.2.2; have := h2.2.2.2; omega)
theorem MM2.dgs {k g s h : Nat} (hk : k ≤ 6) (h1 : MM2 k g s h) : ∀ i, i < 6 → dg (tb k h) i = dg (tb k g) i + if i = s then 1 else 0 := by
  rw [h1.2.2.2]
  exact (ad_at hk h1.2.1 h1.1).2.1
theorem dsN_of {a b : Nat} {s : Nat} (hs : s < 6) (h : ∀ i, i < 6 → dg b i = dg a i + if i = s then 1 else 0) : dsN 6 b = dsN 6 a + 1 := by
  have h0 := h 0 (by omega)
  have h1 := h 1 (by omega)
  have h2 := h 2 (by omega)
  have h3 := h 3 (by omega)
  have h4 := h 4 (by omega)
  have h5 := h 5 (by omega)
  unfold dsN dsN dsN dsN dsN dsN dsN
  match s, hs with
  | 0, _ => simp at h0 h1 h2 h3 h4 h5; omega
  | 1, _ => simp at h0 h1 h2 h3 h4 h5; omega
  | 2, _ => simp at h0 h1 h2 h3 h4 h5; omega
  | 3, _ => simp at h0 h1 h2 h3 h4 h5; omega
  | 4, _ => simp at h0 h1 h2 h3 h4 h5; omega
  | 5, _ => simp at h0 h1 h2 h3 h4 h5; omega
theorem MM2.ds {k g s h : Nat} (hk : k ≤ 6) (h1 : MM2 k g s h) : dsN 6 (tb k h) = dsN 6 (tb k g) + 1 := dsN_of (by have := h1.1; omega) (h1.dgs hk)
/-- of one that has one of a sort there is the one with one less -/
theorem MM2.less {k h s : Nat} (hk : k ≤ 6) (hh : h < nkT k) (hs : s < k) (hd : 0 < dg (tb k h) s) : ∃ g, MM2 k g s h := by
  obtain ⟨q1, q2, q3⟩ := (ad_at hk hh hs).2.2 hd
  have he := en_at hk hh
  obtain ⟨g, hg, e⟩ := tb_has hk (num := tb k h - 10 ^ s) (Nat.lt_of_le_of_lt (Nat.sub_le _ _) he.1) (by omega)
  exact ⟨g, hs, hg, hh, by omega⟩
theorem MM2.more {k g s : Nat} (hk : k ≤ 6) (hg : g < nkT k) (hs : s < k) (hd : dsN 6 (tb k g) < 5) : ∃ h, MM2 k g s h := by
  obtain ⟨q1, q2⟩ := (ad_at hk hg hs).1 hd
  obtain ⟨h, hh, e⟩ := tb_has hk (num := tb k g + 10 ^ s) q1 (by omega)
  exact ⟨h, hs, hg, hh, e⟩
theorem MM2.other {k a s m t : Nat} (hk : k ≤ 6) (h : MM2 k a s m) (ht : t < k) : ∃ v, MM2 k a t v :=
  MM2.more hk h.2.1 ht (by have := h.ds hk; have := (en_at hk h.2.2.1).2.1; omega)
theorem MM2.cross {k b s h b' t : Nat} (hk : k ≤ 6) (h1 : MM2 k b s h) (h2 : MM2 k b' t h) (hst : s ≠ t) : ∃ c, MM2 k c s b' ∧ MM2 k c t b := by
  have d1 := h1.dgs hk s (by have := h1.1; omega)
  have d2 := h2.dgs hk s (by have := h1.1; omega)
  rw [if_pos rfl] at d1
  rw [if_neg hst] at d2
  obtain ⟨c, hc⟩ := MM2.less hk h2.2.1 h1.1 (show 0 < dg (tb k b') s by omega)
  refine ⟨c, hc, h2.1, hc.2.1, h1.2.1, ?_⟩
  have e1 := h1.2.2.2
  have e2 := h2.2.2.2
  have e3 := hc.2.2.2
  omega
theorem MM2.gt {k g s h : Nat} (hk : k ≤ 6) (h1 : MM2 k g s h) : g < h := by
  rcases Nat.lt_or_ge g h with e | e
  · exact e
  · have e1 := h1.2.2.2
    have : 0 < 10 ^ s := Nat.pow_pos (by decide)
    rcases Nat.lt_or_ge h g with e2 | e2
    · have := tb_lt hk h1.2.1 e2
      omega
    · have : g = h := by omega
      subst this
      omega
theorem moV_M {k g s : Nat} (hk : k ≤ 6) (hg : g < nkT k) (h : 0 ≤ moV k (tb k g) s) : MM2 k g s (moV k (tb k g) s).toNat := by
  unfold moV at h ⊢
  split at h
  · rename_i hs
    rw [if_pos hs]
    rcases ix_cases k hk ((tb k g : Int) + ((10 ^ s : Nat) : Int)) with ⟨i, h1, h2, h3⟩ | ⟨h1, h2⟩
    · rw [h3]
      exact ⟨hs, hg, h1, by show tb k (Int.toNat (i : Int)) = _; rw [Int.toNat_natCast]; omega⟩
    · omega
  · omega
theorem M_moV {k g s h : Nat} (hk : k ≤ 6) (hm : MM2 k g s h) : moV k (tb k g) s = (h : Int) := by
  unfold moV
  rw [if_pos hm.1]
  exact ix_of hk hm.2.2.1 (by have := hm.2.2.2; omega)
theorem leV_M {k h s : Nat} (hk : k ≤ 6) (hh : h < nkT k) (hs : s < k) (h0 : 0 ≤ leV k (tb k h) s) : MM2 k (leV k (tb k h) s).toNat s h := by
  unfold leV at h0 ⊢
  split at h0
  · rename_i hd
    rw [if_pos hd]
    rcases ix_cases k hk ((tb k h : Int) - ((10 ^ s : Nat) : Int)) with ⟨i, h1, h2, h3⟩ | ⟨h1, h2⟩
    · rw [h3]
      exact ⟨hs, h1, hh, by show _ = tb k (Int.toNat (i : Int)) + _; rw [Int.toNat_natCast]; omega⟩
    · omega
  · omega
theorem M_leV {k g s h : Nat} (hk : k ≤ 6) (hm : MM2 k g s h) : leV k (tb k h) s = (g : Int) := by
  have d1 := hm.dgs hk s (by have := hm.1; omega)
  rw [if_pos rfl] at d1
  unfold leV
  rw [if_pos (by omega)]
  exact ix_of hk hm.2.1 (by have := hm.2.2.2; omega)
/-! WALKS -/
def wkR (R : Nat → Nat → Prop) : Nat → Nat → Nat → Prop
  | 0, g, h => g = h
  | n + 1, g, h => ∃ m, wkR R n g m ∧ R m h
theorem wkR.app {R : Nat → Nat → Prop} {a : Nat} : ∀ {b g m h : Nat}, wkR R a g m → wkR R b m h → wkR R (a + b) g h
  | 0, g, m, h, h1, h2 => by
    cases h2
    exact h1
  | b + 1, g, m, h, h1, h2 => by
    obtain ⟨q, h3, h4⟩ := h2
    exact ⟨q, wkR.app h1 h3, h4⟩
/-- one more, by any sort; one grown, by pairs of sorts -/
def upR (k : Nat) (g h : Nat) : Prop := ∃ s, MM2 k g s h
def dnR (k : Nat) (g h : Nat) : Prop := ∃ s, MM2 k h s g
def grR (k : Nat) (P : Nat → Nat → Prop) (u v : Nat) : Prop := ∃ a s t, P s t ∧ MM2 k a s u ∧ MM2 k a t v
/-- c is closed under R at a price; every cost in it comes from one of c0 by steps of R -/
def clR (N : Nat) (R : Nat → Nat → Prop) (p : Int) (c : Nat → Int) : Prop := ∀ g h, g < N → h < N → R g h → c h ≤ c g + p
def frR (N : Nat) (R : Nat → Nat → Prop) (p : Int) (c0 c : Nat → Int) : Prop := ∀ h, h < N → ∃ g n, g < N ∧ wkR R n g h ∧ c h = c0 g + (n : Int) * p
def leR (N : Nat) (c0 c : Nat → Int) : Prop := ∀ h, h < N → c h ≤ c0 h
theorem wkR.lt {k : Nat} {R : Nat → Nat → Prop} (hR : ∀ g h, R g h → h < nkT k) : ∀ {n g h : Nat}, wkR R n g h → g < nkT k → h < nkT k
  | 0, g, h, e, hg => by
    cases e
    exact hg
  | n + 1, g, h, e, hg => by
    obtain ⟨m, h1, h2⟩ := e
    exact hR _ _ h2
theorem clR.wk {k : Nat} {R : Nat → Nat → Prop} {p : Int} {c : Nat → Int} (hR : ∀ g h, R g h → h < nkT k) (hc : clR (nkT k) R p c) : ∀ {n g h : Nat}, wkR R n g h → g < nkT k → c h ≤ c g + (n : Int) * p
  | 0, g, h, e, hg => by
    cases e
    show c g ≤ c g + (0 : Int) * p
    rw [Int.zero_mul]
    omega
  | n + 1, g, h, e, hg => by
    obtain ⟨m, h1, h2⟩ := e
    have i1 := hc.wk hR h1 hg
    have hm := wkR.lt hR h1 hg
    have i2 := hc m h hm (hR _ _ h2) h2
    have e3 : ((n + 1 : Nat) : Int) * p = (n : Int) * p + p := by rw [Int.natCast_add, Int.add_mul]; simp
    omega
theorem nsucc (n : Nat) (p : Int) : ((n + 1 : Nat) : Int) * p = (n : Int) * p + p := by rw [Int.natCast_add, Int.add_mul]; simp
theorem up_lt {k g h : Nat} (e : upR k g h) : h < nkT k := e.choose_spec.2.2.1
theorem dn_lt {k g h : Nat} (e : dnR k g h) : h < nkT k := e.choose_spec.2.1
theorem gr_lt {k u v : Nat} {P : Nat → Nat → Prop} (e : grR k P u v) : v < nkT k := by
  obtain ⟨a, s, t, -, -, h⟩ := e
  exact h.2.2.1
/-! THE THREE PHASES: gone, grown, come; what is closed stays closed -/
section PHASES
variable {k : Nat} {P : Nat → Nat → Prop} {pg pw pc : Int} {c1 c2 c3 : Nat → Int}
theorem ph_gone_grow (hk : k ≤ 6) (hPw : 0 ≤ pw) (h1 : clR (nkT k) (dnR k) pg c1) (hle : leR (nkT k) c1 c2) (h2 : clR (nkT k) (grR k P) pw c2) : ∀ n g h, g < nkT k → wkR (grR k P) n g h → ∀ b s, MM2 k b s h → c2 b ≤ c1 g + (n : Int) * pw + pg
  | 0, g, h, hg, hw, b, s, hb => by
    cases hw
    have i1 := h1 g b hg hb.2.1 ⟨s, hb⟩
    have i2 := hle b hb.2.1
    show c2 b ≤ c1 g + (0 : Int) * pw + pg
    rw [Int.zero_mul]
    omega
  | n + 1, g, h, hg, hw, b, s, hb => by
    obtain ⟨m, hw1, a, s1, t1, hP, hm, hh⟩ := hw
    have ih := ph_gone_grow hk hPw h1 hle h2 n g m hg hw1
    rw [nsucc]
    by_cases e : s = t1
    · subst e
      have := hb.inj hk hh
      subst this
      have := ih b s1 hm
      omega
    · obtain ⟨c, hc1, hc2⟩ := hb.cross hk hh e
      obtain ⟨a', ha'⟩ := hc1.other hk hm.1
      have hx : MM2 k a' s m := ⟨hb.1, ha'.2.2.1, hm.2.2.1, by
        have e1 := ha'.2.2.2
        have e2 := hm.2.2.2
        have e3 := hc1.2.2.2
        omega⟩
      have i1 := ih a' s hx
      have i2 := h2 a' b ha'.2.2.1 hb.2.1 ⟨c, s1, t1, hP, ha', hc2⟩
      omega
theorem ph_gone_come (hk : k ≤ 6) (hpc : 0 ≤ pc) (hpg : 0 ≤ pg) (h2 : clR (nkT k) (dnR k) pg c2) (hle : leR (nkT k) c2 c3) (h3 : clR (nkT k) (upR k) pc c3) : ∀ n g h, g < nkT k → wkR (upR k) n g h → ∀ b s, MM2 k b s h → c3 b ≤ c2 g + (n : Int) * pc + pg
  | 0, g, h, hg, hw, b, s, hb => by
    cases hw
    have i1 := h2 g b hg hb.2.1 ⟨s, hb⟩
    have i2 := hle b hb.2.1
    show c3 b ≤ c2 g + (0 : Int) * pc + pg
    rw [Int.zero_mul]
    omega
  | n + 1, g, h, hg, hw, b, s, hb => by
    obtain ⟨m, hw1, t, hm⟩ := hw
    have ih := ph_gone_come hk hpc hpg h2 hle h3 n g m hg hw1
    rw [nsucc]
    by_cases e : s = t
    · subst e
      have := hb.inj hk hm
      subst this
      have i1 := h3.wk (fun _ _ => up_lt) hw1 hg
      have i2 := hle g hg
      omega
    · obtain ⟨c, hc1, hc2⟩ := hb.cross hk hm e
      have i1 := ih c s hc1
      have i2 := h3 c b hc1.2.1 hb.2.1 ⟨t, hc2⟩
      omega
theorem ph_grow_come (hk : k ≤ 6) (hpc : 0 ≤ pc) (hpw : 0 ≤ pw) (h2 : clR (nkT k) (grR k P) pw c2) (hle : leR (nkT k) c2 c3) (h3 : clR (nkT k) (upR k) pc c3) : ∀ n g u, g < nkT k → wkR (upR k) n g u → ∀ a s t v, P s t → MM2 k a s u → MM2 k a t v → c3 v ≤ c2 g + (n : Int) * pc + pw
  | 0, g, u, hg, hw, a, s, t, v, hP, hu, hv => by
    cases hw
    have i1 := h2 g v hg hv.2.2.1 ⟨a, s, t, hP, hu, hv⟩
    have i2 := hle v hv.2.2.1
    show c3 v ≤ c2 g + (0 : Int) * pc + pw
    rw [Int.zero_mul]
    omega
  | n + 1, g, u, hg, hw, a, s, t, v, hP, hu, hv => by
    obtain ⟨m, hw1, r, hm⟩ := hw
    have ih := ph_grow_come hk hpc hpw h2 hle h3 n g m hg hw1
    rw [nsucc]
    by_cases e : s = r
    · subst e
      have := hu.inj hk hm
      subst this
      have i1 := h3.wk (fun _ _ => up_lt) hw1 hg
      have i2 := hle g hg
      have i3 := h3 a v hu.2.1 hv.2.2.1 ⟨t, hv⟩
      omega
    · obtain ⟨c, hc1, hc2⟩ := hu.cross hk hm e
      obtain ⟨v', hv'⟩ := hc1.other hk hv.1
      have i1 := ih c s t v' hP hc1 hv'
      have hx : MM2 k v' r v := ⟨hm.1, hv'.2.2.1, hv.2.2.1, by
        have e1 := hv'.2.2.2
        have e2 := hv.2.2.2
        have e3 := hc2.2.2.2
        omega⟩
      have i2 := h3 v' v hv'.2.2.1 hv.2.2.1 ⟨r, hx⟩
      omega
end PHASES
