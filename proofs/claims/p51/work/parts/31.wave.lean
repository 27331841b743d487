/-! WAVES -/
def lsF (c b : Nat → Int) (p : Int) : Nat → Int → Int
  | 0, x => x
  | s + 1, x => if 0 ≤ b s ∧ c (b s).toNat + p < lsF c b p s x then c (b s).toNat + p else lsF c b p s x
theorem lsF_le {c b : Nat → Int} {p x : Int} : ∀ s, lsF c b p s x ≤ x
  | 0 => Int.le_refl _
  | s + 1 => by
    have := lsF_le (c := c) (b := b) (p := p) (x := x) s
    unfold lsF
    split <;> omega
theorem lsF_cl {c b : Nat → Int} {p x : Int} : ∀ {n s : Nat}, s < n → 0 ≤ b s → lsF c b p n x ≤ c (b s).toNat + p
  | 0, s, h, _ => absurd h (Nat.not_lt_zero _)
  | n + 1, s, h, hb => by
    unfold lsF
    by_cases e : s = n
    · subst e
      split <;> omega
    · have := lsF_cl (c := c) (p := p) (x := x) (show s < n by omega) hb
      split <;> omega
theorem lsF_or {c b : Nat → Int} {p x : Int} : ∀ n, lsF c b p n x = x ∨ ∃ s, s < n ∧ 0 ≤ b s ∧ lsF c b p n x = c (b s).toNat + p
  | 0 => Or.inl rfl
  | n + 1 => by
    unfold lsF
    split
    · rename_i h
      exact Or.inr ⟨n, Nat.lt_succ_self n, h.1, rfl⟩
    · rcases lsF_or (c := c) (b := b) (p := p) (x := x) n with h | ⟨s, h1, h2, h3⟩
      · exact Or.inl h
      · exact Or.inr ⟨s, by omega, h2, h3⟩
theorem lsF_bd {c b : Nat → Int} {p x : Int} {N : Nat} {n : Nat} (hp : 0 ≤ p) (hx : 0 ≤ x) (hb : ∀ s, s < n → b s < (N : Int)) (hc : ∀ h, h < N → 0 ≤ c h) : 0 ≤ lsF c b p n x ∧ lsF c b p n x ≤ x := by
  refine ⟨?_, lsF_le n⟩
  rcases lsF_or (c := c) (b := b) (p := p) (x := x) n with h | ⟨s, h1, h2, h3⟩
  · omega
  · have := hb s h1
    have := hc (b s).toNat (by omega)
    omega
theorem lsF_congr {c d b : Nat → Int} {p x : Int} {N : Nat} (hc : ∀ h, h < N → c h = d h) : ∀ {n : Nat}, (∀ s, s < n → b s < (N : Int)) → lsF c b p n x = lsF d b p n x
  | 0, _ => rfl
  | n + 1, hb => by
    unfold lsF
    rw [lsF_congr hc (fun s hs => hb s (by omega))]
    by_cases e : 0 ≤ b n
    · rw [hc (b n).toNat (by have := hb n (by omega); omega)]
    · rw [if_neg (fun h => e h.1), if_neg (fun h => e h.1)]
def okR (N : Nat) (R : Nat → Nat → Prop) (p : Int) (c0 c : Nat → Int) (i : Nat) : Prop := c i ≤ c0 i ∧ (∀ g, g < N → R g i → c i ≤ c g + p) ∧ ∃ g n, g < N ∧ wkR R n g i ∧ c i = c0 g + (n : Int) * p
theorem upI_at {f : Nat → Int} {i : Nat} {v : Int} : upI f i v i = v := if_pos rfl
theorem upI_ne {f : Nat → Int} {i j : Nat} {v : Int} (h : j ≠ i) : upI f i v j = f j := if_neg h
theorem more_step {k h : Nat} {p v : Int} {c0 c1 : Nat → Int} (hk : k ≤ 6) (hh : h < nkT k) (hv : v = lsF c1 (fun s => moV k (tb k h) s) p k (c1 h)) (hlow : ∀ i, i ≤ h → c1 i = c0 i) (hC : ∀ i, h < i → i < nkT k → okR (nkT k) (dnR k) p c0 c1 i) : ∀ i, h ≤ i → i < nkT k → okR (nkT k) (dnR k) p c0 (upI c1 h v) i := by
  intro i hi hN
  by_cases e : i = h
  · subst e
    refine ⟨?_, ?_, ?_⟩
    · rw [upI_at, hv, ← hlow i (Nat.le_refl _)]
      exact lsF_le k
    · intro g hg hR
      obtain ⟨s, hs⟩ := hR
      have hgt := hs.gt hk
      rw [upI_at, upI_ne (by omega), hv]
      have := lsF_cl (c := c1) (b := fun s => moV k (tb k i) s) (p := p) (x := c1 i) hs.1 (by show 0 ≤ moV k (tb k i) s; rw [M_moV hk hs]; omega)
      have this : lsF c1 (fun s => moV k (tb k i) s) p k (c1 i) ≤ c1 (moV k (tb k i) s).toNat + p := this
      rw [M_moV hk hs] at this
      exact this
    · rw [upI_at, hv]
      rcases lsF_or (c := c1) (b := fun s => moV k (tb k i) s) (p := p) (x := c1 i) k with q | ⟨s, q1, q2, q3⟩
      · exact ⟨i, 0, hh, rfl, by rw [q, hlow i (Nat.le_refl _)]; show _ = c0 i + (0 : Int) * p; rw [Int.zero_mul]; omega⟩
      · have q2 : 0 ≤ moV k (tb k i) s := q2
        have hM := moV_M hk hh q2
        have hgt := hM.gt hk
        obtain ⟨-, -, g, n, r1, r2, r3⟩ := hC _ hgt hM.2.2.1
        refine ⟨g, n + 1, r1, ⟨_, r2, s, hM⟩, ?_⟩
        rw [q3, nsucc]
        show c1 (moV k (tb k i) s).toNat + p = _
        rw [r3]
        omega
  · obtain ⟨r1, r2, r3⟩ := hC i (by omega) hN
    refine ⟨by rw [upI_ne e]; exact r1, fun g hg hR => ?_, by rw [upI_ne e]; exact r3⟩
    have hgt := hR.choose_spec.gt hk
    rw [upI_ne e, upI_ne (by omega)]
    exact r2 g hg hR
theorem less_step {k h : Nat} {p v : Int} {c0 c1 : Nat → Int} (hk : k ≤ 6) (hh : h < nkT k) (hv : v = lsF c1 (fun s => leV k (tb k h) s) p k (c1 h)) (hhi : ∀ i, h ≤ i → c1 i = c0 i) (hC : ∀ i, i < h → okR (nkT k) (upR k) p c0 c1 i) : ∀ i, i ≤ h → okR (nkT k) (upR k) p c0 (upI c1 h v) i := by
  intro i hi
  by_cases e : i = h
  · subst e
    refine ⟨?_, ?_, ?_⟩
    · rw [upI_at, hv, ← hhi i (Nat.le_refl _)]
      exact lsF_le k
    · intro g hg hR
      obtain ⟨s, hs⟩ := hR
      have hgt := hs.gt hk
      rw [upI_at, upI_ne (by omega), hv]
      have := lsF_cl (c := c1) (b := fun s => leV k (tb k i) s) (p := p) (x := c1 i) hs.1 (by show 0 ≤ leV k (tb k i) s; rw [M_leV hk hs]; omega)
      have this : lsF c1 (fun s => leV k (tb k i) s) p k (c1 i) ≤ c1 (leV k (tb k i) s).toNat + p := this
      rw [M_leV hk hs] at this
      exact this
    · rw [upI_at, hv]
      rcases lsF_or (c := c1) (b := fun s => leV k (tb k i) s) (p := p) (x := c1 i) k with q | ⟨s, q1, q2, q3⟩
      · exact ⟨i, 0, hh, rfl, by rw [q, hhi i (Nat.le_refl _)]; show _ = c0 i + (0 : Int) * p; rw [Int.zero_mul]; omega⟩
      · have q2 : 0 ≤ leV k (tb k i) s := q2
        have hM := leV_M hk hh q1 q2
        have hgt := hM.gt hk
        obtain ⟨-, -, g, n, r1, r2, r3⟩ := hC _ hgt
        refine ⟨g, n + 1, r1, ⟨_, r2, s, hM⟩, ?_⟩
        rw [q3, nsucc]
        show c1 (leV k (tb k i) s).toNat + p = _
        rw [r3]
        omega
  · obtain ⟨r1, r2, r3⟩ := hC i (by omega)
    refine ⟨by rw [upI_ne e]; exact r1, fun g hg hR => ?_, by rw [upI_ne e]; exact r3⟩
    have hgt := hR.choose_spec.gt hk
    rw [upI_ne e, upI_ne (by omega)]
    exact r2 g hg hR
/-! rounds of growing: bdR n: at most what n steps cost -/
def bdR (N : Nat) (R : Nat → Nat → Prop) (p : Int) (c0 c : Nat → Int) (r : Nat) : Prop := ∀ n g h, n ≤ r → g < N → wkR R n g h → c h ≤ c0 g + (n : Int) * p
theorem bdR_round {k : Nat} {R : Nat → Nat → Prop} {p : Int} {c0 cs c : Nat → Int} {r : Nat} (hR : ∀ g h, R g h → h < nkT k) (hb : bdR (nkT k) R p c0 cs r) (hle : leR (nkT k) cs c) (he : ∀ u v, u < nkT k → R u v → c v ≤ cs u + p) : bdR (nkT k) R p c0 c (r + 1) := by
  intro n g h hn hg hw
  cases n with
  | zero =>
    have h1 := hb 0 g h (by omega) hg hw
    have hh : h < nkT k := by cases hw; exact hg
    have := hle h hh
    omega
  | succ n =>
    obtain ⟨m, h1, h2⟩ := hw
    have hm := wkR.lt hR h1 hg
    have i1 := hb n g m (by omega) hg h1
    have i2 := he m h hm h2
    rw [nsucc]
    omega
theorem bdR_close {k : Nat} {R : Nat → Nat → Prop} {p : Int} {c0 c : Nat → Int} {r : Nat} (hp : 0 ≤ p) (hr : 26 ≤ r) (hR : ∀ g h, R g h → h < nkT k) (hs : ∀ n u v, u < nkT k → wkR R n u v → ∃ n', n' ≤ 25 ∧ wkR R n' u v) (hb : bdR (nkT k) R p c0 c r) (hf : frR (nkT k) R p c0 c) : clR (nkT k) R p c := by
  intro u v hu hv hE
  obtain ⟨g, n, h1, h2, h3⟩ := hf u hu
  by_cases e : n ≤ 25
  · have := hb (n + 1) g v (by omega) h1 ⟨u, h2, hE⟩
    rw [nsucc] at this
    omega
  · obtain ⟨n', q1, q2⟩ := hs n g u h1 h2
    have := hb (n' + 1) g v (by omega) h1 ⟨u, q2, hE⟩
    rw [nsucc] at this
    have hnn : (n' : Int) * p ≤ (n : Int) * p := Int.mul_le_mul_of_nonneg_right (by omega) hp
    omega
theorem bdR_0 {N : Nat} {R : Nat → Nat → Prop} {p : Int} {c0 : Nat → Int} : bdR N R p c0 c0 0 := by
  intro n g h hn hg hw
  have : n = 0 := by omega
  subst this
  cases hw
  show c0 g ≤ c0 g + (0 : Int) * p
  rw [Int.zero_mul]
  omega
theorem frR_0 {N : Nat} {R : Nat → Nat → Prop} {p : Int} {c0 : Nat → Int} : frR N R p c0 c0 := fun h hh => ⟨h, 0, hh, rfl, by show _ = c0 h + (0 : Int) * p; rw [Int.zero_mul]; omega⟩
/-- into whom one grows -/
def foP (into : Nat → Int) (s : Nat) : Option Nat := if s < 6 ∧ 0 ≤ into s then some (into s).toNat else none
theorem foP_lt {k : Nat} {into : Nat → Int} (hi : ∀ s, s < 6 → into s = -9 ∨ (0 ≤ into s ∧ into s < (k : Int))) : ∀ s t, foP into s = some t → t < k := by
  intro s t h
  unfold foP at h
  split at h
  · rename_i hc
    cases h
    have := hi s hc.1
    omega
  · cases h
def GP (into : Nat → Int) : Nat → Nat → Prop := fP (foP into)
theorem olV_gr {k h s : Nat} {into : Nat → Int} (hk : k ≤ 6) (hi : ∀ s, s < 6 → into s = -9 ∨ (0 ≤ into s ∧ into s < (k : Int))) (hh : h < nkT k) (hs : s < k) (h0 : 0 ≤ olV k into (tb k h) s) : (olV k into (tb k h) s).toNat < nkT k ∧ grR k (GP into) h (olV k into (tb k h) s).toNat := by
  unfold olV at h0 ⊢
  split at h0
  · omega
  · rename_i hc
    rw [if_neg hc]
    have h1 := leV_M hk hh hs (by omega)
    have h2 := moV_M hk h1.2.1 h0
    refine ⟨h2.2.2.1, _, s, (into s).toNat, ?_, h1, h2⟩
    show foP into s = some _
    unfold foP
    rw [if_pos ⟨by omega, by omega⟩]
theorem gr_olV {k h v : Nat} {into : Nat → Int} (hk : k ≤ 6) (hg : grR k (GP into) h v) : ∃ s, s < k ∧ olV k into (tb k h) s = (v : Int) := by
  obtain ⟨a, s, t, h1, h2, h3⟩ := hg
  have h1 : foP into s = some t := h1
  unfold foP at h1
  split at h1
  · rename_i hc
    cases h1
    refine ⟨s, h2.1, ?_⟩
    unfold olV
    rw [M_leV hk h2, if_neg (by omega)]
    show moV k (tb k (Int.toNat (a : Int))) _ = _
    rw [Int.toNat_natCast]
    exact M_moV hk h3
  · cases h1
theorem olV_bd {k num s : Nat} {into : Nat → Int} (hk : k ≤ 6) : -1 ≤ olV k into num s ∧ olV k into num s < (nkT k : Int) := by
  unfold olV
  have := nkT_bd k
  split
  · omega
  · exact moV_bd hk
/-- what a wave becomes: gone, grown, come -/
def SP (k : Nat) (P : Nat → Nat → Prop) (pg pw pc : Int) (c0 c : Nat → Int) : Prop := leR (nkT k) c0 c ∧ clR (nkT k) (dnR k) pg c ∧ clR (nkT k) (grR k P) pw c ∧ clR (nkT k) (upR k) pc c ∧ ∀ h, h < nkT k → ∃ g a b n1 n2 n3, g < nkT k ∧ wkR (dnR k) n1 g a ∧ wkR (grR k P) n2 a b ∧ wkR (upR k) n3 b h ∧ c h = c0 g + (n1 : Int) * pg + (n2 : Int) * pw + (n3 : Int) * pc
theorem SP_of {k : Nat} {P : Nat → Nat → Prop} {pg pw pc : Int} {c0 c1 c2 c3 : Nat → Int} (hk : k ≤ 6) (hg : 0 ≤ pg) (hw : 0 ≤ pw) (hc : 0 ≤ pc) (a1 : leR (nkT k) c0 c1) (b1 : clR (nkT k) (dnR k) pg c1) (f1 : frR (nkT k) (dnR k) pg c0 c1)
    (a2 : leR (nkT k) c1 c2) (b2 : clR (nkT k) (grR k P) pw c2) (f2 : frR (nkT k) (grR k P) pw c1 c2) (a3 : leR (nkT k) c2 c3) (b3 : clR (nkT k) (upR k) pc c3) (f3 : frR (nkT k) (upR k) pc c2 c3) : SP k P pg pw pc c0 c3 := by
  have d2 : clR (nkT k) (dnR k) pg c2 := by
    intro h b hh hb ⟨s, hs⟩
    obtain ⟨g, n, q1, q2, q3⟩ := f2 h hh
    have := ph_gone_grow hk hw b1 a2 b2 n g h q1 q2 b s hs
    omega
  refine ⟨fun h hh => Int.le_trans (a3 h hh) (Int.le_trans (a2 h hh) (a1 h hh)), ?_, ?_, b3, ?_⟩
  · intro h b hh hb ⟨s, hs⟩
    obtain ⟨g, n, q1, q2, q3⟩ := f3 h hh
    have := ph_gone_come hk hc hg d2 a3 b3 n g h q1 q2 b s hs
    omega
  · intro u v hu hv ⟨a, s, t, hP, h1, h2⟩
    obtain ⟨g, n, q1, q2, q3⟩ := f3 u hu
    have := ph_grow_come hk hc hw b2 a3 b3 n g u q1 q2 a s t v hP h1 h2
    omega
  · intro h hh
    obtain ⟨b, n3, q1, q2, q3⟩ := f3 h hh
    obtain ⟨a, n2, r1, r2, r3⟩ := f2 b q1
    obtain ⟨g, n1, s1, s2, s3⟩ := f1 a r1
    exact ⟨g, a, b, n1, n2, n3, s1, s2, r2, q2, by omega⟩
theorem SP_le {k : Nat} {P : Nat → Nat → Prop} {pg pw pc : Int} {c0 c c' : Nat → Int} (h1 : SP k P pg pw pc c0 c) (h2 : SP k P pg pw pc c0 c') {h : Nat} (hh : h < nkT k) : c h ≤ c' h := by
  obtain ⟨-, -, -, -, f⟩ := h2
  obtain ⟨g, a, b, n1, n2, n3, q0, q1, q2, q3, q4⟩ := f h hh
  obtain ⟨e0, e1, e2, e3, -⟩ := h1
  have ha := wkR.lt (fun _ _ => dn_lt) q1 q0
  have hb := wkR.lt (fun _ _ => gr_lt) q2 ha
  have i0 := e0 g q0
  have i1 := e1.wk (fun _ _ => dn_lt) q1 q0
  have i2 := e2.wk (fun _ _ => gr_lt) q2 ha
  have i3 := e3.wk (fun _ _ => up_lt) q3 hb
  omega
theorem SP_eq {k : Nat} {P : Nat → Nat → Prop} {pg pw pc : Int} {c0 c c' : Nat → Int} (h1 : SP k P pg pw pc c0 c) (h2 : SP k P pg pw pc c0 c') {h : Nat} (hh : h < nkT k) : c h = c' h := Int.le_antisymm (SP_le h1 h2 hh) (SP_le h2 h1 hh)
