/-! WHO GROWS DOES SO IN A FEW STEPS -/
theorem pig : ∀ (n : Nat) (x : Nat → Nat), (∀ i, i ≤ n → x i < n) → ∃ i j, i < j ∧ j ≤ n ∧ x i = x j
  | 0, x, h => absurd (h 0 (Nat.le_refl _)) (Nat.not_lt_zero _)
  | n + 1, x, h => by
    by_cases e : ∃ i, i ≤ n ∧ x i = x (n + 1)
    · obtain ⟨i, h1, h2⟩ := e
      exact ⟨i, n + 1, by omega, Nat.le_refl _, h2⟩
    · have hne : ∀ i, i ≤ n → x i ≠ x (n + 1) := fun i hi e2 => e ⟨i, hi, e2⟩
      have hl := h (n + 1) (Nat.le_refl _)
      obtain ⟨i, j, h1, h2, h3⟩ := pig n (fun i => if x i = n then x (n + 1) else x i) (fun i hi => by
        have q1 := h i (by omega)
        have q2 := hne i hi
        show (if x i = n then x (n + 1) else x i) < n
        split <;> omega)
      refine ⟨i, j, h1, by omega, ?_⟩
      have q1 := hne i (by omega)
      have q2 := hne j h2
      have h3 : (if x i = n then x (n + 1) else x i) = (if x j = n then x (n + 1) else x j) := h3
      split at h3 <;> split at h3 <;> omega
def itf (f : Nat → Option Nat) : Nat → Nat → Option Nat
  | 0, a => some a
  | e + 1, a => (itf f e a).bind f
theorem itf_add (f : Nat → Option Nat) (i a : Nat) : ∀ t, itf f (i + t) a = (itf f i a).bind (itf f t)
  | 0 => by cases itf f i a <;> rfl
  | t + 1 => by
    show (itf f (i + t) a).bind f = _
    rw [itf_add f i a t]
    cases itf f i a with
    | none => rfl
    | some b => rfl
theorem itf_some {f : Nat → Option Nat} {a b : Nat} {i t : Nat} (h : itf f (i + t) a = some b) : ∃ c, itf f i a = some c := by
  rw [itf_add] at h
  cases hc : itf f i a with
  | none => rw [hc] at h; cases h
  | some c => exact ⟨c, rfl⟩
theorem itf_lt {f : Nat → Option Nat} {k : Nat} (hf : ∀ s t, f s = some t → t < k) : ∀ {e a b : Nat}, a < k → itf f e a = some b → b < k
  | 0, a, b, ha, h => by
    cases h
    exact ha
  | e + 1, a, b, ha, h => by
    have h : (itf f e a).bind f = some b := h
    cases hc : itf f e a with
    | none => rw [hc] at h; cases h
    | some c =>
      rw [hc] at h
      exact hf c b h
theorem itf_short {f : Nat → Option Nat} {k : Nat} (hk : k ≤ 6) (hf : ∀ s t, f s = some t → t < k) {a b : Nat} (ha : a < k) : ∀ (e : Nat), itf f e a = some b → ∃ e', e' ≤ 5 ∧ itf f e' a = some b := by
  intro e
  induction e using Nat.strongRecOn with
  | ind e ih =>
    intro h
    by_cases he : e ≤ 5
    · exact ⟨e, he, h⟩
    · have hv : ∀ i, i ≤ 6 → ∃ c, itf f i a = some c := fun i hi => itf_some (t := e - i) (by rw [show i + (e - i) = e by omega]; exact h)
      obtain ⟨i, j, h1, h2, h3⟩ := pig 6 (fun i => (itf f i a).getD 0) (fun i hi => by
        obtain ⟨c, hc⟩ := hv i hi
        show (itf f i a).getD 0 < 6
        rw [hc]
        have := itf_lt hf ha hc
        exact Nat.lt_of_lt_of_le this hk)
      obtain ⟨c, hc⟩ := hv i (by omega)
      obtain ⟨d, hd⟩ := hv j h2
      have h3 : (itf f i a).getD 0 = (itf f j a).getD 0 := h3
      rw [hc, hd] at h3
      have h3 : c = d := h3
      subst h3
      have e1 : itf f (i + (e - j)) a = some b := by
        rw [itf_add, hc, ← hd, ← itf_add, show j + (e - j) = e by omega]
        exact h
      exact ih (i + (e - j)) (by omega) e1
/-- people one by one -/
def nuL : List Nat → Nat
  | [] => 0
  | a :: l => nuL l + 10 ^ a
def ptW (f : Nat → Option Nat) : List Nat → List Nat → Nat → Prop
  | [], [], n => n = 0
  | a :: l, b :: m, n => ∃ e n', itf f e a = some b ∧ ptW f l m n' ∧ n = e + n'
  | _, _, _ => False
theorem nuL_app : ∀ (l m : List Nat), nuL (l ++ m) = nuL l + nuL m
  | [], m => (Nat.zero_add _).symm
  | a :: l, m => by
    show nuL (l ++ m) + 10 ^ a = nuL l + 10 ^ a + nuL m
    rw [nuL_app l m]
    omega
theorem ptW_rf (f : Nat → Option Nat) : ∀ l, ptW f l l 0
  | [] => rfl
  | a :: l => ⟨0, 0, rfl, ptW_rf f l, rfl⟩
theorem ptW_len {f : Nat → Option Nat} : ∀ {l m : List Nat} {n : Nat}, ptW f l m n → l.length = m.length
  | [], [], _, _ => rfl
  | a :: l, b :: m, n, h => by
    obtain ⟨e, n', -, h2, -⟩ := h
    simp [ptW_len h2]
  | [], _ :: _, _, h => absurd h (fun h => h)
  | _ :: _, [], _, h => absurd h (fun h => h)
theorem ptW_rep {f : Nat → Option Nat} {s t : Nat} (hst : f s = some t) : ∀ {l m : List Nat} {n : Nat}, s ∈ m → ptW f l m n → ∃ m', ptW f l m' (n + 1) ∧ nuL m' + 10 ^ s = nuL m + 10 ^ t
  | [], [], _, hs, _ => by cases hs
  | a :: l, b :: m, n, hs, h => by
    obtain ⟨e, n', h1, h2, h3⟩ := h
    by_cases e1 : b = s
    · subst e1
      refine ⟨t :: m, ⟨e + 1, n', ?_, h2, by omega⟩, ?_⟩
      · show (itf f e a).bind f = some t
        rw [h1]
        exact hst
      · show nuL m + 10 ^ t + 10 ^ b = nuL m + 10 ^ b + 10 ^ t
        omega
    · have hs : s ∈ m := by
        rcases List.mem_cons.mp hs with h | h
        · exact absurd h.symm e1
        · exact h
      obtain ⟨m', q1, q2⟩ := ptW_rep hst hs h2
      refine ⟨b :: m', ⟨e, n' + 1, h1, q1, by omega⟩, ?_⟩
      show nuL m' + 10 ^ b + 10 ^ s = nuL m + 10 ^ b + 10 ^ t
      omega
  | [], _ :: _, _, _, h => absurd h (fun h => h)
  | _ :: _, [], _, _, h => absurd h (fun h => h)
theorem ptW_short {f : Nat → Option Nat} {k : Nat} (hk : k ≤ 6) (hf : ∀ s t, f s = some t → t < k) : ∀ {l m : List Nat} {n : Nat}, (∀ a ∈ l, a < k) → ptW f l m n → ∃ n', n' ≤ 5 * l.length ∧ ptW f l m n'
  | [], [], n, _, h => ⟨0, Nat.le_refl _, rfl⟩
  | a :: l, b :: m, n, hl, h => by
    obtain ⟨e, n', h1, h2, h3⟩ := h
    obtain ⟨e', he, q1⟩ := itf_short hk hf (hl a List.mem_cons_self) e h1
    obtain ⟨n2, q2, q3⟩ := ptW_short hk hf (fun x hx => hl x (List.mem_cons_of_mem _ hx)) h2
    exact ⟨e' + n2, by simp only [List.length_cons]; omega, e', n2, q1, q3, rfl⟩
  | [], _ :: _, _, _, h => absurd h (fun h => h)
  | _ :: _, [], _, _, h => absurd h (fun h => h)
/-- a list of people is a household -/
theorem nuL_house {k : Nat} (hk : k ≤ 6) : ∀ {l : List Nat}, (∀ a ∈ l, a < k) → l.length ≤ 5 → ∃ u, u < nkT k ∧ tb k u = nuL l ∧ dsN 6 (tb k u) = l.length ∧ ∀ s, s < k → 0 < dg (tb k u) s → s ∈ l
  | [], _, _ => by
    have h0 := tb_0 k (by omega)
    refine ⟨0, by have := (nkT_bd k).1; omega, h0, ?_, ?_⟩
    · rw [h0]; rfl
    · intro s hs hd
      rw [h0] at hd
      unfold dg at hd
      rw [Nat.zero_div] at hd
      exact absurd hd (by decide)
  | a :: l, hl, hn => by
    obtain ⟨u, h1, h2, h3, h4⟩ := nuL_house hk (l := l) (fun x hx => hl x (List.mem_cons_of_mem _ hx)) (by simp only [List.length_cons] at hn; omega)
    have ha := hl a List.mem_cons_self
    obtain ⟨v, hv⟩ := MM2.more hk h1 ha (by simp only [List.length_cons] at hn; omega)
    refine ⟨v, hv.2.2.1, ?_, ?_, ?_⟩
    · rw [hv.2.2.2, h2]; rfl
    · rw [hv.ds hk, h3]; rfl
    · intro s hs hd
      rw [hv.dgs hk s (by omega)] at hd
      by_cases e : s = a
      · exact List.mem_cons.mpr (Or.inl e)
      · rw [if_neg e] at hd
        exact List.mem_cons_of_mem _ (h4 s hs (by omega))
theorem ds_pos {num : Nat} : ∀ {n : Nat}, 0 < dsN n num → ∃ s, s < n ∧ 0 < dg num s
  | 0, h => absurd h (Nat.not_lt_zero _)
  | n + 1, h => by
    have h : 0 < dsN n num + dg num n := h
    by_cases e : 0 < dg num n
    · exact ⟨n, by omega, e⟩
    · obtain ⟨s, h1, h2⟩ := ds_pos (num := num) (n := n) (by omega)
      exact ⟨s, by omega, h2⟩
theorem lw_zero {num : Nat} : ∀ {n : Nat}, dsN n num = 0 → lwN n num = 0
  | 0, _ => rfl
  | n + 1, h => by
    have h : dsN n num + dg num n = 0 := h
    show lwN n num + dg num n * 10 ^ n = 0
    rw [lw_zero (by omega), show dg num n = 0 by omega, Nat.zero_mul]
/-- a household is a list of people -/
theorem house_nuL {k : Nat} (hk : k ≤ 6) : ∀ (d : Nat) {u : Nat}, u < nkT k → dsN 6 (tb k u) = d → ∃ l : List Nat, (∀ a ∈ l, a < k) ∧ l.length = d ∧ nuL l = tb k u
  | 0, u, hu, hd => by
    have := (en_at hk hu).2.2.1
    rw [lw_zero hd] at this
    exact ⟨[], (fun a ha => by cases ha), rfl, this⟩
  | d + 1, u, hu, hd => by
    obtain ⟨s, h1, h2⟩ := ds_pos (num := tb k u) (n := 6) (by omega)
    have hs : s < k := by
      rcases Nat.lt_or_ge s k with e | e
      · exact e
      · have := (en_at hk hu).2.2.2 s h1 e
        omega
    obtain ⟨g, hg⟩ := MM2.less hk hu hs h2
    obtain ⟨l, q1, q2, q3⟩ := house_nuL hk d hg.2.1 (by have := hg.ds hk; omega)
    refine ⟨s :: l, ?_, by simp [q2], ?_⟩
    · intro a ha
      rcases List.mem_cons.mp ha with h | h
      · rw [h]; exact hs
      · exact q1 a h
    · show nuL l + 10 ^ s = tb k u
      rw [q3, hg.2.2.2]
def fP (f : Nat → Option Nat) (s t : Nat) : Prop := f s = some t
theorem ptW_lt {f : Nat → Option Nat} {k : Nat} (hf : ∀ s t, f s = some t → t < k) : ∀ {l m : List Nat} {n : Nat}, (∀ a ∈ l, a < k) → ptW f l m n → ∀ a ∈ m, a < k
  | [], [], _, _, _ => fun a ha => by cases ha
  | a :: l, b :: m, n, hl, h => by
    obtain ⟨e, n', h1, h2, -⟩ := h
    intro x hx
    rcases List.mem_cons.mp hx with h | h
    · rw [h]
      exact itf_lt hf (hl a List.mem_cons_self) h1
    · exact ptW_lt hf (fun x hx => hl x (List.mem_cons_of_mem _ hx)) h2 x h
  | [], _ :: _, _, _, h => absurd h (fun h => h)
  | _ :: _, [], _, _, h => absurd h (fun h => h)
/-- a walk of growing, people one by one -/
theorem walk_pt {f : Nat → Option Nat} {k : Nat} (hk : k ≤ 6) (hf : ∀ s t, f s = some t → t < k) {l : List Nat} (hl : ∀ a ∈ l, a < k) (h5 : l.length ≤ 5) {u : Nat} (hu : u < nkT k) (hul : nuL l = tb k u) : ∀ {n v : Nat}, wkR (grR k (fP f)) n u v → ∃ m, ptW f l m n ∧ nuL m = tb k v
  | 0, v, h => by
    cases h
    exact ⟨l, ptW_rf f l, hul⟩
  | n + 1, v, h => by
    obtain ⟨w, h1, a, s, t, hP, hw, hv⟩ := h
    obtain ⟨m, q1, q2⟩ := walk_pt hk hf hl h5 hu hul h1
    have hm := ptW_lt hf hl q1
    obtain ⟨w', r1, r2, r3, r4⟩ := nuL_house hk hm (by rw [← ptW_len q1]; exact h5)
    have : w' = w := tb_inj hk r1 hw.2.2.1 (by rw [r2, q2])
    subst this
    have hs : s ∈ m := r4 s hw.1 (by rw [hw.dgs hk s (by have := hw.1; omega), if_pos rfl]; omega)
    obtain ⟨m', p1, p2⟩ := ptW_rep hP hs q1
    refine ⟨m', p1, ?_⟩
    have e1 := hw.2.2.2
    have e2 := hv.2.2.2
    omega
theorem it_walk {f : Nat → Option Nat} {k : Nat} (hk : k ≤ 6) (hf : ∀ s t, f s = some t → t < k) {a g : Nat} (ha : a < k) : ∀ {e b u v : Nat}, itf f e a = some b → MM2 k g a u → MM2 k g b v → wkR (grR k (fP f)) e u v
  | 0, b, u, v, h, hu, hv => by
    cases h
    exact hu.fun hk hv
  | e + 1, b, u, v, h, hu, hv => by
    have h : (itf f e a).bind f = some b := h
    cases hc : itf f e a with
    | none => rw [hc] at h; cases h
    | some c =>
      rw [hc] at h
      obtain ⟨w, hw⟩ := hu.other hk (itf_lt hf ha hc)
      exact ⟨w, it_walk hk hf ha hc hu hw, g, c, b, h, hw, hv⟩
theorem pt_walk {f : Nat → Option Nat} {k : Nat} (hk : k ≤ 6) (hf : ∀ s t, f s = some t → t < k) : ∀ {l m lc : List Nat} {n u v : Nat}, ptW f l m n → (∀ a ∈ l, a < k) → (∀ a ∈ lc, a < k) → l.length + lc.length ≤ 5 → u < nkT k → v < nkT k → tb k u = nuL l + nuL lc → tb k v = nuL m + nuL lc → wkR (grR k (fP f)) n u v
  | [], [], lc, n, u, v, h, _, _, _, hu, hv, e1, e2 => by
    have h : n = 0 := h
    subst h
    exact tb_inj hk hu hv (by rw [e1, e2])
  | a :: l, b :: m, lc, n, u, v, h, hl, hlc, hn, hu, hv, e1, e2 => by
    obtain ⟨e, n', h1, h2, h3⟩ := h
    subst h3
    simp only [List.length_cons] at hn
    have hl' : ∀ x ∈ l, x < k := fun x hx => hl x (List.mem_cons_of_mem _ hx)
    have ha := hl a List.mem_cons_self
    have hb := itf_lt hf ha h1
    obtain ⟨g, g1, g2, g3, -⟩ := nuL_house hk (l := l ++ lc) (fun x hx => by
      rcases List.mem_append.mp hx with h | h
      · exact hl' x h
      · exact hlc x h) (by rw [List.length_append]; omega)
    rw [nuL_app] at g2
    have hgu : MM2 k g a u := ⟨ha, g1, hu, by rw [e1, g2]; show nuL l + 10 ^ a + nuL lc = _; omega⟩
    obtain ⟨w, hw⟩ := hgu.other hk hb
    have w1 := it_walk hk hf ha h1 hgu hw
    have w2 := pt_walk hk hf (lc := b :: lc) (u := w) (v := v) h2 hl' (fun x hx => by
      rcases List.mem_cons.mp hx with h | h
      · rw [h]; exact hb
      · exact hlc x h) (by simp only [List.length_cons]; omega) hw.2.2.1 hv (by rw [hw.2.2.2, g2]; show _ = nuL l + (nuL lc + 10 ^ b); omega) (by rw [e2]; show nuL m + 10 ^ b + nuL lc = nuL m + (nuL lc + 10 ^ b); omega)
    exact w1.app w2
  | [], _ :: _, _, _, _, _, h, _, _, _, _, _, _, _ => absurd h (fun h => h)
  | _ :: _, [], _, _, _, _, h, _, _, _, _, _, _, _ => absurd h (fun h => h)
theorem grow_short {f : Nat → Option Nat} {k : Nat} (hk : k ≤ 6) (hf : ∀ s t, f s = some t → t < k) {n u v : Nat} (hu : u < nkT k) (h : wkR (grR k (fP f)) n u v) : ∃ n', n' ≤ 25 ∧ wkR (grR k (fP f)) n' u v := by
  have hv := wkR.lt (k := k) (fun _ _ => gr_lt) h hu
  obtain ⟨l, h1, h2, h3⟩ := house_nuL hk _ hu rfl
  have h5 : l.length ≤ 5 := by rw [h2]; exact (en_at hk hu).2.1
  obtain ⟨m, q1, q2⟩ := walk_pt hk hf h1 h5 hu h3 h
  obtain ⟨n', r1, r2⟩ := ptW_short hk hf h1 q1
  refine ⟨n', by omega, ?_⟩
  exact pt_walk hk hf (lc := []) r2 h1 (fun a ha => by cases ha) (by simpa using h5) hu hv (by rw [← h3]; rfl) (by rw [← q2]; rfl)
/-! backwards -/
theorem wkR.pre {R : Nat → Nat → Prop} {a b c : Nat} (h : R a b) : ∀ {n : Nat}, wkR R n b c → wkR R (n + 1) a c
  | n, h2 => by
    have : wkR R 1 a b := ⟨a, rfl, h⟩
    have := this.app h2
    rwa [Nat.add_comm] at this
theorem wkR.rev {R R' : Nat → Nat → Prop} (h : ∀ a b, R a b → R' b a) : ∀ {n a b : Nat}, wkR R n a b → wkR R' n b a
  | 0, a, b, e => e.symm
  | n + 1, a, b, e => by
    obtain ⟨m, h1, h2⟩ := e
    exact wkR.pre (h _ _ h2) (wkR.rev h h1)
def rvP (P : Nat → Nat → Prop) (s t : Nat) : Prop := P t s
theorem gr_rev {k : Nat} {P : Nat → Nat → Prop} (a b : Nat) (h : grR k P a b) : grR k (rvP P) b a := by
  obtain ⟨c, s, t, h1, h2, h3⟩ := h
  exact ⟨c, t, s, h1, h3, h2⟩
theorem gr_rev' {k : Nat} {P : Nat → Nat → Prop} (a b : Nat) (h : grR k (rvP P) a b) : grR k P b a := by
  obtain ⟨c, s, t, h1, h2, h3⟩ := h
  exact ⟨c, t, s, h1, h3, h2⟩
theorem gr_ul {k u v : Nat} {P : Nat → Nat → Prop} (e : grR k P u v) : u < nkT k := by
  obtain ⟨a, s, t, -, h, -⟩ := e
  exact h.2.2.1
theorem grow_short' {f : Nat → Option Nat} {k : Nat} (hk : k ≤ 6) (hf : ∀ s t, f s = some t → t < k) {n u v : Nat} (hu : u < nkT k) (h : wkR (grR k (rvP (fP f))) n u v) : ∃ n', n' ≤ 25 ∧ wkR (grR k (rvP (fP f))) n' u v := by
  have hv := wkR.lt (k := k) (fun _ _ => gr_lt) h hu
  obtain ⟨n', h1, h2⟩ := grow_short hk hf hv (wkR.rev gr_rev' h)
  exact ⟨n', h1, wkR.rev gr_rev h2⟩
