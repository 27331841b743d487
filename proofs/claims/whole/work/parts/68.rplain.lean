/-! THE REFERENCE'S CALLS: PLAIN, THROUGH, SURE -/
section TC
variable {N n : Nat} {D ex : Nat → Nat → Int}
/-- what tales want, of the reference -/
def RH (N : Nat) (D ex : Nat → Nat → Int) : Prop := 0 < N ∧ (∀ a b, a < N → b < N → 0 ≤ D a b ∧ D a b ≤ 90) ∧ (∀ m h, 0 ≤ ex m h) ∧ ∀ m h, ex m h ≤ 9 ∨ ex m h = 1000000
theorem RH.d0 (H : RH N D ex) : ∀ a b, a < N → b < N → 0 ≤ D a b := fun a b ha hb => (H.2.1 a b ha hb).1
theorem RH.e0 (H : RH N D ex) : ∀ m h, h < N → 0 ≤ ex m h := fun m h _ => H.2.2.1 m h
theorem RH.th (H : RH N D ex) (ht : bsN 1000000 N n D ex < 1000000) : TH 1000000 N n D ex := ⟨by omega, H.1, H.d0, H.e0, ht⟩
theorem bs_dc (H : RH N D ex) : bsN 1000000 N n D ex = 1000000 ∨ (0 ≤ bsN 1000000 N n D ex ∧ bsN 1000000 N n D ex ≤ 99 * (n : Int)) := by
  unfold bsN
  by_cases e : n = 0
  · rw [if_pos e]
    omega
  · rw [if_neg e]
    rcases mnN_or (F := 1000000) (f := ahN 1000000 N D ex (n - 1)) N with q | ⟨g, hg, q⟩
    · exact Or.inl q
    · rw [q]
      have h1 := ah_dc H.1 H.2.1 H.e0 H.2.2.2 (n - 1) hg
      have h2 := (ahN_bd (F := 1000000) (by omega) H.1 H.d0 H.e0 (n - 1) hg).1
      omega
theorem ct_dc (H : RH N D ex) {m h : Nat} (hm : m < n) (hh : h < N) : 0 ≤ ctM 1000000 N n D ex m h ∧ (1000000 ≤ ctM 1000000 N n D ex m h ∨ ctM 1000000 N n D ex m h ≤ 99 * (n : Int)) := by
  have h1 := ah_dc H.1 H.2.1 H.e0 H.2.2.2 m hh
  have h2 := (ahN_bd (F := 1000000) (by omega) H.1 H.d0 H.e0 m hh).1
  have h3 := bk_dc (n := n) H.2.1 H.e0 H.2.2.2 (n - 1 - m) hh
  have h4 := (bkN_bd (F := 1000000) (n := n) (by omega) H.d0 H.e0 (n - 1 - m) hh).1
  unfold ctM
  omega
theorem pl_mi (H : RH N D ex) (h12 : n ≤ 12) {m h : Nat} (hm : m < n) (hh : h < N) (ht : bsN 1000000 N n D ex < 1000000) : miN 100000 (ctM 1000000 N n D ex m h) = miN 100000 (bsN 1000000 N n D ex) ↔ plM 1000000 N n D ex m h = true := by
  have h1 := ct_dc H hm hh
  have h2 := bs_dc (n := n) H
  have h3 := mi_c (ctM 1000000 N n D ex m h)
  have h4 := mi_c (bsN 1000000 N n D ex)
  have h5 : plM 1000000 N n D ex m h = true ↔ ctM 1000000 N n D ex m h = bsN 1000000 N n D ex := ⟨of_decide_eq_true, decide_eq_true⟩
  rw [h5]
  omega
theorem fo_mi (H : RH N D ex) (h12 : n ≤ 12) {m g h : Nat} (hm : m + 1 < n) (hg : g < N) (hh : h < N) (ht : bsN 1000000 N n D ex < 1000000) (hp : plM 1000000 N n D ex (m + 1) h = true) : miN 100000 (ahN 1000000 N D ex m g) + D g h + miN 100000 (ex (m + 1) h) = miN 100000 (ahN 1000000 N D ex (m + 1) h) ↔ foM 1000000 N D ex m g h = true := by
  have e : ctM 1000000 N n D ex (m + 1) h = bsN 1000000 N n D ex := of_decide_eq_true hp
  have h2 := bs_dc (n := n) H
  have h3 := (bkN_bd (F := 1000000) (n := n) (by omega) H.d0 H.e0 (n - 1 - (m + 1)) hh).1
  have h4 := ah_dc H.1 H.2.1 H.e0 H.2.2.2 m hg
  have h5 := (ahN_bd (F := 1000000) (by omega) H.1 H.d0 H.e0 m hg).1
  have h6 := (ahN_bd (F := 1000000) (by omega) H.1 H.d0 H.e0 (m + 1) hh).1
  have h7 := H.2.1 g h hg hh
  have h8 := H.2.2.1 (m + 1) h
  have h9 := H.2.2.2 (m + 1) h
  have m1 := mi_c (ahN 1000000 N D ex m g)
  have m2 := mi_c (ahN 1000000 N D ex (m + 1) h)
  have m3 := mi_c (ex (m + 1) h)
  have h10 : foM 1000000 N D ex m g h = true ↔ ahN 1000000 N D ex m g + D g h + ex (m + 1) h = ahN 1000000 N D ex (m + 1) h := ⟨of_decide_eq_true, decide_eq_true⟩
  unfold ctM at e
  rw [h10]
  have hx : ex (m + 1) h = 1000000 → ahN 1000000 N D ex (m + 1) h = 1000000 := fun q => by
    have := mnN_bd (F := 1000000) (n := N) (f := fun g => ahN 1000000 N D ex m g + D g h) (by omega) (fun g hg => by have := ahN_bd (F := 1000000) (by omega) H.1 H.d0 H.e0 m hg; have := H.d0 g h hg hh; omega)
    show miN 1000000 (mnN 1000000 N (fun g => ahN 1000000 N D ex m g + D g h) + ex (m + 1) h) = 1000000
    exact if_neg (by omega)
  rcases h9 with q | q
  · omega
  · have := hx q
    omega
end TC
theorem mnS_s {x y : Int} : mnS x y = if y < x then y else x := rfl
theorem mxS_s {x y : Int} : mxS x y = if x < y then y else x := rfl
theorem TLs.fr {W : List Nat} {k nm : Nat} {D ex : Nat → Nat → Int} {σ σ' : am_S} (h : TLs k nm D ex σ) (hF : Fr W σ σ') (hw : ∀ a ∈ W, a ≠ 76 ∧ a ≠ 98 ∧ a ≠ 99 ∧ a ≠ 100) : TLs k nm D ex σ' := by
  have q : ∀ a, (a = 76 ∨ a = 98 ∨ a = 99 ∨ a = 100) → σ'.1 a = σ.1 a := fun a ha => funext (hF.2 a (fun e => by have := hw a e; omega))
  unfold TLs
  rw [q 76 (by omega), q 98 (by omega), q 99 (by omega), q 100 (by omega)]
  exact h
theorem RH_of {k nm ns : Nat} {D ex : Nat → Nat → Int} {A : am_S} (hA : CI k nm ns D A) (hex : exA k A = ex) : RH (nkT k) D ex := ⟨(nkT_bd k).1, fun a b ha hb => DI.bd hA.x.1.2.1 hA.x.1.2.2.2.1 hA.x.2.2.2 ha hb, fun m h => by rw [← hex]; exact (ep_mi hA.x.1).2.2, fun m h => by rw [← hex]; exact (ep_mi hA.x.1).2.1⟩
theorem c236t (σ : am_S) (k nm : Nat) (D ex : Nat → Nat → Int) (hW : Wd σ) (H : RH (nkT k) D ex) (h12 : nm ≤ 12) (hT : TLs k nm D ex σ) (m h : Nat) (hm : m < nm) (hh : h < nkT k) : CC 236 [vR 76, vI ((462 * m + h : Nat) : Int)] σ (fun r σ' => r = some (vI (miN 100000 (ctM 1000000 (nkT k) nm D ex m h))) ∧ σ' = σ) := by
  have hn := (nkT_bd k).2
  obtain ⟨-, t2, t3⟩ := hT.1 m hm h hh
  have h2 := (ahN_bd (F := 1000000) (by omega) H.1 H.d0 H.e0 m hh).1
  have h4 := (bkN_bd (F := 1000000) (n := nm) (by omega) H.d0 H.e0 (nm - 1 - m) hh).1
  have m1 := mi_c (ahN 1000000 (nkT k) D ex m h)
  have m2 := mi_c (bkN 1000000 (nkT k) nm D ex (nm - 1 - m) h)
  have := c236 σ (462 * m + h) _ _ hW (by omega) t2 t3 (by omega) (by omega)
  rw [mi_add h2 h4] at this
  exact this
theorem c239 (A σ : am_S) (k nm ns : Nat) (D : Nat → Nat → Int) (hA : CI k nm ns D A) (hW : Wd σ) (hR : RRb k nm ns D A σ) (ex : Nat → Nat → Int) (hex : exA k A = ex) (hs : σ.1 76 31 = 1) (hT : TLs k nm D ex σ) (m h : Nat) (hm : m < nm) (hh : h < nkT k) (ht : bsN 1000000 (nkT k) nm D ex < 1000000) : CC 239 [vR 76, vI (((m : Nat) : Int)), vI (((h : Nat) : Int))] σ (fun r σ' => σ' = σ ∧ ((plM 1000000 (nkT k) nm D ex m h = true) ∧ r = some (vI 1) ∨ ¬(plM 1000000 (nkT k) nm D ex m h = true) ∧ r = some (vI 0))) := by
  show TT am_b239 (am_b239.getD 0 []) [(0, vR 76), (1, vI (((m : Nat) : Int))), (2, vI (((h : Nat) : Int)))] [] σ _
  have hk5 := hR.aa.1
  have hl27 := hR.aa.2.1
  have hs47 := hR.aa.2.2
  have hk6 := hA.x.1.2.1
  have hm12 := hA.x.2.2.1.2.1
  have hs16 := hA.st.2
  have hDA := hA.x.1
  have hHT := hA.x.2.1
  have hLA := hA.x.2.2.1
  have hHB := HB_of hDA hHT
  have hnb := nkT_bd k
  have hpr := hDA.2.2.2.1
  have hDx : ∀ a b, a < nkT k → b < nkT k → 0 ≤ D a b ∧ D a b ≤ 90 := fun a b ha hb => DI.bd hk6 hpr hA.x.2.2.2 ha hb
  have hD0 : ∀ a b, a < nkT k → b < nkT k → 0 ≤ D a b := fun a b ha hb => (hDx a b ha hb).1
  have hx9 : ∀ m h, ex m h ≤ 9 ∨ ex m h = 1000000 := fun m h => by rw [← hex]; exact (ep_mi hDA).2.1
  have hx0 : ∀ m h, 0 ≤ ex m h := fun m h => by rw [← hex]; exact (ep_mi hDA).2.2
  have hep : ∀ m h, epR A k m h = miN 100000 (ex m h) := fun m h => by rw [← hex]; exact (ep_mi hDA).1
  have hRH := RH_of hA hex
  have hpm := pl_mi (n := nm) hRH (by omega) hm hh ht
  refine tt_ar rfl ?_
  refine tt_ar rfl ?_
  refine tt_ar rfl ?_
  refine tt_imul (by omega) (by omega) ?_
  refine tt_ar rfl ?_
  refine tt_iadd (by omega) (by omega) ?_
  have hc236 := c236t σ k nm D ex hW hRH (by omega) hT m h (by omega) (by omega)
  rw [show ((462 * m + h : Nat) : Int) = (((462 * ((m : Nat) : Int)) + ((h : Nat) : Int))) by omega] at hc236
  refine tt_cv2 2 rfl (wo_76 hW) hc236 (kp ?_)
  refine tt_ar rfl ?_
  refine tt_getI (x := miN 100000 (bsN 1000000 (nkT k) nm D ex)) (wo_76 hW) rfl hT.2 ?_
  refine tt_icne (fun h0_9 => ?_) (fun h0_9 => ?_)
  · refine tt_ar rfl ?_
    refine tt_nop ?_
    refine tt_zret (by omega) ?_
    exact ⟨rfl, Or.inr ⟨fun q => by have := hpm.mpr q; omega, rfl⟩⟩
  · refine tt_ar rfl ?_
    refine tt_goto ?_
    refine tt_zret (by omega) ?_
    exact ⟨rfl, Or.inl ⟨hpm.mp (by omega), rfl⟩⟩

theorem c234 (A σ : am_S) (k nm ns : Nat) (D : Nat → Nat → Int) (hA : CI k nm ns D A) (hW : Wd σ) (hR : RRb k nm ns D A σ) : CC 234 [vR 76] σ (fun r σ' => PMd A σ (x_plain k nm D A ) r σ') := by
  show TT am_b234 (am_b234.getD 0 []) [(0, vR 76)] [] σ _
  have hk5 := hR.aa.1
  have hl27 := hR.aa.2.1
  have hs47 := hR.aa.2.2
  have hk6 := hA.x.1.2.1
  have hm12 := hA.x.2.2.1.2.1
  have hs16 := hA.st.2
  have hDA := hA.x.1
  have hHT := hA.x.2.1
  have hLA := hA.x.2.2.1
  have hHB := HB_of hDA hHT
  have hnb := nkT_bd k
  obtain ⟨ex, hxA⟩ : ∃ ex : Nat → Nat → Int, exA k A = ex := ⟨_, rfl⟩
  have hRH := RH_of hA hxA
  refine tt_ar rfl ?_
  refine tt_cv1 1 rfl (wo_76 hW) (c235 A σ k nm ns D hA hW hR ex hxA) ?_
  intro r0 σt hq0
  obtain ⟨rfl, hRt, hst, hFt, hT⟩ := hq0
  have hW1 := Fr.wd hFt hW
  have hbsd := bs_dc (n := nm) hRH
  have hbm := mi_c (bsN 1000000 (nkT k) nm D ex)
  refine tt_ar rfl ?_
  refine tt_getI (x := miN 100000 (bsN 1000000 (nkT k) nm D ex)) (wo_76 hW1) rfl hT.2 ?_
  refine tt_ar rfl ?_
  refine tt_icne (fun h0_5 => ?_) (fun h0_5 => ?_)
  · refine tt_ar rfl ?_
    refine tt_getI (x := miN 100000 (bsN 1000000 (nkT k) nm D ex)) (wo_76 hW1) rfl hT.2 ?_
    refine tt_nop ?_
    refine tt_iret ?_
    rw [show miN 100000 (bsN 1000000 (nkT k) nm D ex) = bsN 1000000 (nkT k) nm D ex by omega]
    exact pm_same hRt (show x_plain k nm D A = (_, A) by unfold x_plain; rw [hxA, if_pos (by omega)]) (QR.of hFt (by decide))
  · refine tt_ar rfl ?_
    refine tt_goto ?_
    refine tt_iret ?_
    exact pm_same hRt (show x_plain k nm D A = (_, A) by unfold x_plain; rw [hxA, if_neg (by omega)]) (QR.of hFt (by decide))

theorem c247 (A σ : am_S) (k nm ns : Nat) (D : Nat → Nat → Int) (hA : CI k nm ns D A) (hW : Wd σ) (hR : RRb k nm ns D A σ) (u v : Int) : CC 247 [vR 76, vI (u), vI (v)] σ (fun r σ' => PMd A σ (x_through k nm D A u v) r σ') := by
  show TT am_b247 (am_b247.getD 0 []) [(0, vR 76), (1, vI (u)), (2, vI (v))] [] σ _
  have hk5 := hR.aa.1
  have hl27 := hR.aa.2.1
  have hs47 := hR.aa.2.2
  have hk6 := hA.x.1.2.1
  have hm12 := hA.x.2.2.1.2.1
  have hs16 := hA.st.2
  have hDA := hA.x.1
  have hHT := hA.x.2.1
  have hLA := hA.x.2.2.1
  have hHB := HB_of hDA hHT
  have hnb := nkT_bd k
  obtain ⟨ex, hxA⟩ : ∃ ex : Nat → Nat → Int, exA k A = ex := ⟨_, rfl⟩
  have hRH := RH_of hA hxA
  refine tt_ar rfl ?_
  refine tt_ar rfl ?_
  have hpl_v := plR_c k v
  refine tt_cv2 2 rfl (wo_76 hW) (c214 A σ k nm ns D hA hW hR (v)) (kp ?_)
  refine tt_ar rfl ?_
  refine tt_ar rfl ?_
  refine tt_ar rfl ?_
  refine tt_cv2 2 rfl (wo_76 hW) (c209 A σ k nm ns D hA hW hR _) (kb (fun h0_6 => ?_) (fun h0_6 => ?_))
  · refine tt_ifeqF (by decide) ?_
    refine tt_ar rfl ?_
    refine tt_ifge (fun h0_9 => ?_) (fun h0_9 => ?_)
    · obtain ⟨un, rfl⟩ : ∃ un : Nat, u = (un : Int) := ⟨u.toNat, by omega⟩
      obtain ⟨hn, hhn⟩ : ∃ hn : Nat, ix k v = (hn : Int) := ⟨_, (Int.toNat_of_nonneg (by omega)).symm⟩
      have bhn : hn < nkT k := by have := ix_bd hk6 v; omega
      refine tt_loc [(0, vR 76), (1, vI (((un : Nat) : Int))), (3, vI (((hn : Nat) : Int)))] rfl rfl ⟨rfl, rfl, lv_to rfl (by omega), trivial⟩ ?_
      refine tt_ar rfl ?_
      refine tt_cv1 1 rfl (wo_76 hW) (c235 A σ k nm ns D hA hW hR ex hxA) ?_
      intro r0 σt hq0
      obtain ⟨rfl, hRt, hst, hFt, hT⟩ := hq0
      have hW1 := Fr.wd hFt hW
      have hbsd := bs_dc (n := nm) hRH
      have hbm := mi_c (bsN 1000000 (nkT k) nm D ex)
      refine tt_ar rfl ?_
      refine tt_ar rfl ?_
      refine tt_ar rfl ?_
      refine tt_imul (by omega) (by omega) ?_
      refine tt_ar rfl ?_
      refine tt_iadd (by omega) (by omega) ?_
      have hc236 := c236t σt k nm D ex hW1 hRH (by omega) hT un hn (by omega) (by omega)
      rw [show ((462 * un + hn : Nat) : Int) = (((462 * ((un : Nat) : Int)) + ((hn : Nat) : Int))) by omega] at hc236
      refine tt_cv2 2 rfl (wo_76 hW1) hc236 (kp ?_)
      refine tt_ar rfl ?_
      refine tt_ar rfl ?_
      refine tt_ar rfl ?_
      refine tt_icne (fun h2_12 => ?_) (fun h2_12 => ?_)
      · refine tt_ar rfl ?_
        refine tt_nop ?_
        refine tt_iret ?_
        have hcd := ct_dc (n := nm) hRH (m := un) (h := hn) (by omega) (by omega)
        have hcm := mi_c (ctM 1000000 (nkT k) nm D ex un hn)
        have hlb : bsN 1000000 (nkT k) nm D ex ≤ ctM 1000000 (nkT k) nm D ex un hn := tale_lb (by omega) hRH.1 hRH.d0 hRH.e0 (by omega) _ rfl (by omega) (by omega)
        obtain ⟨z, hz⟩ : ∃ z : Int, (if bsN 1000000 (nkT k) nm D ex < 1000000 then ctM 1000000 (nkT k) nm D ex un hn else 1000000) = z := ⟨_, rfl⟩
        have hz2 : (bsN 1000000 (nkT k) nm D ex < 1000000 ∧ z = ctM 1000000 (nkT k) nm D ex un hn) ∨ (¬ bsN 1000000 (nkT k) nm D ex < 1000000 ∧ z = 1000000) := by
          by_cases e : bsN 1000000 (nkT k) nm D ex < 1000000
          · rw [if_pos e] at hz
            exact Or.inl ⟨e, hz.symm⟩
          · rw [if_neg e] at hz
            exact Or.inr ⟨e, hz.symm⟩
        rw [show miN 100000 (ctM 1000000 (nkT k) nm D ex un hn) = z by omega]
        exact pm_same hRt (show x_through k nm D A un v = (vI z, A) by unfold x_through; simp only [Int.toNat_natCast, hl27, hhn]; rw [hxA, hz, if_pos (by omega)]; rw [if_pos (by omega)]) (QR.of hFt (by decide))
      · refine tt_ar rfl ?_
        refine tt_goto ?_
        refine tt_iret ?_
        have hcd := ct_dc (n := nm) hRH (m := un) (h := hn) (by omega) (by omega)
        have hcm := mi_c (ctM 1000000 (nkT k) nm D ex un hn)
        have hlb : bsN 1000000 (nkT k) nm D ex ≤ ctM 1000000 (nkT k) nm D ex un hn := tale_lb (by omega) hRH.1 hRH.d0 hRH.e0 (by omega) _ rfl (by omega) (by omega)
        obtain ⟨z, hz⟩ : ∃ z : Int, (if bsN 1000000 (nkT k) nm D ex < 1000000 then ctM 1000000 (nkT k) nm D ex un hn else 1000000) = z := ⟨_, rfl⟩
        have hz2 : (bsN 1000000 (nkT k) nm D ex < 1000000 ∧ z = ctM 1000000 (nkT k) nm D ex un hn) ∨ (¬ bsN 1000000 (nkT k) nm D ex < 1000000 ∧ z = 1000000) := by
          by_cases e : bsN 1000000 (nkT k) nm D ex < 1000000
          · rw [if_pos e] at hz
            exact Or.inl ⟨e, hz.symm⟩
          · rw [if_neg e] at hz
            exact Or.inr ⟨e, hz.symm⟩
        exact pm_same hRt (show x_through k nm D A un v = (vI (-9), A) by unfold x_through; simp only [Int.toNat_natCast, hl27, hhn]; rw [hxA, hz, if_pos (by omega)]; rw [if_neg (by omega)]) (QR.of hFt (by decide))
    · refine tt_nop ?_
      refine tt_ar rfl ?_
      refine tt_iret ?_
      exact pm_any (M := A) hR (show x_through k nm D A u v = (vI (-1), A) by unfold x_through; (try simp only [Int.toNat_natCast, hl27, hk5]); (try rw [hxA]); (repeat (first | rw [if_pos (by omega)] | rw [if_neg (by omega)])); (first | done | rfl)) QR.rf
  · refine tt_ifeqT (by decide) ?_
    refine tt_ar rfl ?_
    refine tt_iret ?_
    exact pm_any (M := A) hR (show x_through k nm D A u v = (vI (-1), A) by unfold x_through; (try simp only [Int.toNat_natCast, hl27, hk5]); (try rw [hxA]); (repeat (first | rw [if_pos (by omega)] | rw [if_neg (by omega)])); (first | done | rfl)) QR.rf

theorem c243 (A σ : am_S) (k nm ns : Nat) (D : Nat → Nat → Int) (hA : CI k nm ns D A) (hW : Wd σ) (hR : RRb k nm ns D A σ) (u s : Int) : CC 243 [vR 76, vI (u), vI (s)] σ (fun r σ' => PMd A σ (x_sure k nm D A u s) r σ') := by
  show TT am_b243 (am_b243.getD 0 []) [(0, vR 76), (1, vI (u)), (2, vI (s))] [] σ _
  have hk5 := hR.aa.1
  have hl27 := hR.aa.2.1
  have hs47 := hR.aa.2.2
  have hk6 := hA.x.1.2.1
  have hm12 := hA.x.2.2.1.2.1
  have hs16 := hA.st.2
  have hDA := hA.x.1
  have hHT := hA.x.2.1
  have hLA := hA.x.2.2.1
  have hHB := HB_of hDA hHT
  have hnb := nkT_bd k
  obtain ⟨ex, hxA⟩ : ∃ ex : Nat → Nat → Int, exA k A = ex := ⟨_, rfl⟩
  have hRH := RH_of hA hxA
  refine tt_ar rfl ?_
  refine tt_ar rfl ?_
  refine tt_cv2 2 rfl (wo_76 hW) (c209 A σ k nm ns D hA hW hR _) (kb (fun h0_2 => ?_) (fun h0_2 => ?_))
  · refine tt_ifeqF (by decide) ?_
    refine tt_ar rfl ?_
    refine tt_ar rfl ?_
    refine tt_cv2 2 rfl (wo_76 hW) (c202 A σ k nm ns D hA hW hR _) (kb (fun h0_6 => ?_) (fun h0_6 => ?_))
    · refine tt_ifneT (by decide) ?_
      obtain ⟨un, rfl⟩ : ∃ un : Nat, u = (un : Int) := ⟨u.toNat, by omega⟩
      obtain ⟨sn, rfl⟩ : ∃ sn : Nat, s = (sn : Int) := ⟨s.toNat, by omega⟩
      refine tt_ar rfl ?_
      refine tt_cv1 1 rfl (wo_76 hW) (c235 A σ k nm ns D hA hW hR ex hxA) ?_
      intro r0 σt hq0
      obtain ⟨rfl, hRt, hst, hFt, hT⟩ := hq0
      have hW1 := Fr.wd hFt hW
      have hbsd := bs_dc (n := nm) hRH
      have hbm := mi_c (bsN 1000000 (nkT k) nm D ex)
      refine tt_ar rfl ?_
      refine tt_getI (x := miN 100000 (bsN 1000000 (nkT k) nm D ex)) (wo_76 hW1) rfl hT.2 ?_
      refine tt_ar rfl ?_
      refine tt_icne (fun h2_5 => ?_) (fun h2_5 => ?_)
      · have htold : bsN 1000000 (nkT k) nm D ex < 1000000 := by omega
        refine tt_ar rfl ?_
        refine tt_ar rfl ?_
        refine tt_ar rfl ?_
        refine tt_ar rfl ?_
        refine tt_ar rfl ?_
        refine tt_ar rfl ?_
        refine tt_nop ?_
        have lp4_2 : ∀ (μ : Nat) (h : Nat), nkT k - h < μ → (h ≤ nkT k) → TT am_b243 (am_b243.getD 4 []) [(0, vR 76), (1, vI (((un : Nat) : Int))), (2, vI (((sn : Nat) : Int))), (3, vI (foQ mnS 5 (plM 1000000 (nkT k) nm D ex un) h (fun h => ((dg (tb k h) sn : Nat) : Int)))), (4, vI (foQ mxS 0 (plM 1000000 (nkT k) nm D ex un) h (fun h => ((dg (tb k h) sn : Nat) : Int)))), (5, vI (((h : Nat) : Int)))] [] σt (fun r σ' => PMd A σ (x_sure k nm D A (un : Int) (sn : Int)) r σ') := by
          intro μ
          induction μ with
          | zero => intro h hμ; exact absurd hμ (Nat.not_lt_zero _)
          | succ μ ih4 =>
            intro h hμ hh
            refine tt_ar rfl ?_
            refine tt_ar rfl ?_
            refine tt_getI (x := ((nkT k : Nat) : Int)) (wo_76 hW1) rfl hRt.hs.1 ?_
            refine tt_icge (fun h4_3 => ?_) (fun h4_3 => ?_)
            · refine tt_ar rfl ?_
              refine tt_ar rfl ?_
              refine tt_ar rfl ?_
              refine tt_cv3 3 rfl (wo_76 hW1) (c183 σt _ _ hW1) (ks ?_)
              refine tt_iret ?_
              have eh : h = nkT k := by omega
              rw [eh]
              exact pm_ak (M := A) hRt (show x_sure k nm D A un sn = (_, upA _ A) by unfold x_sure; (try simp only [Int.toNat_natCast, hl27, hk5]); (try rw [hxA]); (repeat (first | rw [if_pos (by omega)] | rw [if_neg (by omega)])); (first | done | rfl)) (QR.of hFt (by decide))
            · refine tt_ar rfl ?_
              refine tt_ar rfl ?_
              refine tt_ar rfl ?_
              refine tt_cv3 3 rfl (wo_76 hW1) (c239 A σt k nm ns D hA hW1 hRt ex hxA hst hT un h (by omega) (by omega) htold) (kb (fun h4_7 => ?_) (fun h4_7 => ?_))
              · refine tt_ifeqF (by decide) ?_
                refine tt_ar rfl ?_
                refine tt_getR (wo_76 hW1) rfl (wr_76_29 hW1) ?_
                refine tt_ar rfl ?_
                refine tt_ar rfl ?_
                refine tt_imul (by omega) (by omega) ?_
                refine tt_ar rfl ?_
                refine tt_iadd (by omega) (by omega) ?_
                refine tt_iald (((6 * h) + sn)) (x := ((dg (tb k h) sn : Nat) : Int)) (wa_93 hW1) (by omega) (by omega) ((hFt.2 93 (by decide) (((6 * h) + sn))).trans ((hR.hs.2 h (by omega)).2 sn (by omega))) ?_
                have hd9 := dg_lt (tb k h) sn
                refine tt_ar rfl ?_
                refine tt_ar rfl ?_
                refine tt_ar rfl ?_
                refine tt_icge (fun h4_20 => ?_) (fun h4_20 => ?_)
                · refine tt_ar rfl ?_
                  refine tt_nop ?_
                  refine tt_ar rfl ?_
                  refine tt_ar rfl ?_
                  refine tt_ar rfl ?_
                  refine tt_cs2 2 rfl (c226 _ (foQ mxS 0 (plM 1000000 (nkT k) nm D ex un) h (fun h => ((dg (tb k h) sn : Nat) : Int))) (((dg (tb k h) sn : Nat) : Int))) (kp ?_)
                  refine tt_ar rfl ?_
                  refine tt_nop ?_
                  refine tt_iinc (y := ((h + 1 : Nat) : Int)) rfl (iinc_fit (by omega) (by omega) (by omega)) ?_
                  refine tt_goto ?_
                  refine tt_loc [(0, vR 76), (1, vI (((un : Nat) : Int))), (2, vI (((sn : Nat) : Int))), (3, vI (foQ mnS 5 (plM 1000000 (nkT k) nm D ex un) (h + 1) (fun h => ((dg (tb k h) sn : Nat) : Int)))), (4, vI (foQ mxS 0 (plM 1000000 (nkT k) nm D ex un) (h + 1) (fun h => ((dg (tb k h) sn : Nat) : Int)))), (5, vI (((h + 1 : Nat) : Int)))] rfl rfl ⟨rfl, rfl, rfl, lv_to rfl (by rw [show foQ mnS 5 (plM 1000000 (nkT k) nm D ex un) (h + 1) (fun h => ((dg (tb k h) sn : Nat) : Int)) = if plM 1000000 (nkT k) nm D ex un h = true then mnS (foQ mnS 5 (plM 1000000 (nkT k) nm D ex un) h (fun h => ((dg (tb k h) sn : Nat) : Int))) ((dg (tb k h) sn : Nat) : Int) else foQ mnS 5 (plM 1000000 (nkT k) nm D ex un) h (fun h => ((dg (tb k h) sn : Nat) : Int)) from rfl]; first | (rw [if_pos h4_7]; rw [mnS_s]; first | done | exact (if_pos (by omega)).symm | exact (if_neg (by omega)).symm | rfl) | (rw [if_neg h4_7])), lv_to rfl (by rw [show foQ mxS 0 (plM 1000000 (nkT k) nm D ex un) (h + 1) (fun h => ((dg (tb k h) sn : Nat) : Int)) = if plM 1000000 (nkT k) nm D ex un h = true then mxS (foQ mxS 0 (plM 1000000 (nkT k) nm D ex un) h (fun h => ((dg (tb k h) sn : Nat) : Int))) ((dg (tb k h) sn : Nat) : Int) else foQ mxS 0 (plM 1000000 (nkT k) nm D ex un) h (fun h => ((dg (tb k h) sn : Nat) : Int)) from rfl]; first | (rw [if_pos h4_7]; rw [mxS_s]; first | done | exact (if_pos (by omega)).symm | exact (if_neg (by omega)).symm | rfl) | (rw [if_neg h4_7])), rfl, trivial⟩ ?_
                  exact ih4 (h + 1) (by omega) (by omega)
                · refine tt_ar rfl ?_
                  refine tt_goto ?_
                  refine tt_ar rfl ?_
                  refine tt_ar rfl ?_
                  refine tt_ar rfl ?_
                  refine tt_cs2 2 rfl (c226 _ (foQ mxS 0 (plM 1000000 (nkT k) nm D ex un) h (fun h => ((dg (tb k h) sn : Nat) : Int))) (((dg (tb k h) sn : Nat) : Int))) (kp ?_)
                  refine tt_ar rfl ?_
                  refine tt_nop ?_
                  refine tt_iinc (y := ((h + 1 : Nat) : Int)) rfl (iinc_fit (by omega) (by omega) (by omega)) ?_
                  refine tt_goto ?_
                  refine tt_loc [(0, vR 76), (1, vI (((un : Nat) : Int))), (2, vI (((sn : Nat) : Int))), (3, vI (foQ mnS 5 (plM 1000000 (nkT k) nm D ex un) (h + 1) (fun h => ((dg (tb k h) sn : Nat) : Int)))), (4, vI (foQ mxS 0 (plM 1000000 (nkT k) nm D ex un) (h + 1) (fun h => ((dg (tb k h) sn : Nat) : Int)))), (5, vI (((h + 1 : Nat) : Int)))] rfl rfl ⟨rfl, rfl, rfl, lv_to rfl (by rw [show foQ mnS 5 (plM 1000000 (nkT k) nm D ex un) (h + 1) (fun h => ((dg (tb k h) sn : Nat) : Int)) = if plM 1000000 (nkT k) nm D ex un h = true then mnS (foQ mnS 5 (plM 1000000 (nkT k) nm D ex un) h (fun h => ((dg (tb k h) sn : Nat) : Int))) ((dg (tb k h) sn : Nat) : Int) else foQ mnS 5 (plM 1000000 (nkT k) nm D ex un) h (fun h => ((dg (tb k h) sn : Nat) : Int)) from rfl]; first | (rw [if_pos h4_7]; rw [mnS_s]; first | done | exact (if_pos (by omega)).symm | exact (if_neg (by omega)).symm | rfl) | (rw [if_neg h4_7])), lv_to rfl (by rw [show foQ mxS 0 (plM 1000000 (nkT k) nm D ex un) (h + 1) (fun h => ((dg (tb k h) sn : Nat) : Int)) = if plM 1000000 (nkT k) nm D ex un h = true then mxS (foQ mxS 0 (plM 1000000 (nkT k) nm D ex un) h (fun h => ((dg (tb k h) sn : Nat) : Int))) ((dg (tb k h) sn : Nat) : Int) else foQ mxS 0 (plM 1000000 (nkT k) nm D ex un) h (fun h => ((dg (tb k h) sn : Nat) : Int)) from rfl]; first | (rw [if_pos h4_7]; rw [mxS_s]; first | done | exact (if_pos (by omega)).symm | exact (if_neg (by omega)).symm | rfl) | (rw [if_neg h4_7])), rfl, trivial⟩ ?_
                  exact ih4 (h + 1) (by omega) (by omega)
              · refine tt_ifeqT (by decide) ?_
                refine tt_iinc (y := ((h + 1 : Nat) : Int)) rfl (iinc_fit (by omega) (by omega) (by omega)) ?_
                refine tt_goto ?_
                refine tt_loc [(0, vR 76), (1, vI (((un : Nat) : Int))), (2, vI (((sn : Nat) : Int))), (3, vI (foQ mnS 5 (plM 1000000 (nkT k) nm D ex un) (h + 1) (fun h => ((dg (tb k h) sn : Nat) : Int)))), (4, vI (foQ mxS 0 (plM 1000000 (nkT k) nm D ex un) (h + 1) (fun h => ((dg (tb k h) sn : Nat) : Int)))), (5, vI (((h + 1 : Nat) : Int)))] rfl rfl ⟨rfl, rfl, rfl, lv_to rfl (by rw [show foQ mnS 5 (plM 1000000 (nkT k) nm D ex un) (h + 1) (fun h => ((dg (tb k h) sn : Nat) : Int)) = if plM 1000000 (nkT k) nm D ex un h = true then mnS (foQ mnS 5 (plM 1000000 (nkT k) nm D ex un) h (fun h => ((dg (tb k h) sn : Nat) : Int))) ((dg (tb k h) sn : Nat) : Int) else foQ mnS 5 (plM 1000000 (nkT k) nm D ex un) h (fun h => ((dg (tb k h) sn : Nat) : Int)) from rfl]; first | (rw [if_pos h4_7]; rw [mnS_s]; first | done | exact (if_pos (by omega)).symm | exact (if_neg (by omega)).symm | rfl) | (rw [if_neg h4_7])), lv_to rfl (by rw [show foQ mxS 0 (plM 1000000 (nkT k) nm D ex un) (h + 1) (fun h => ((dg (tb k h) sn : Nat) : Int)) = if plM 1000000 (nkT k) nm D ex un h = true then mxS (foQ mxS 0 (plM 1000000 (nkT k) nm D ex un) h (fun h => ((dg (tb k h) sn : Nat) : Int))) ((dg (tb k h) sn : Nat) : Int) else foQ mxS 0 (plM 1000000 (nkT k) nm D ex un) h (fun h => ((dg (tb k h) sn : Nat) : Int)) from rfl]; first | (rw [if_pos h4_7]; rw [mxS_s]; first | done | exact (if_pos (by omega)).symm | exact (if_neg (by omega)).symm | rfl) | (rw [if_neg h4_7])), rfl, trivial⟩ ?_
                exact ih4 (h + 1) (by omega) (by omega)
        refine tt_loc [(0, vR 76), (1, vI (((un : Nat) : Int))), (2, vI (((sn : Nat) : Int))), (3, vI (foQ mnS 5 (plM 1000000 (nkT k) nm D ex un) 0 (fun h => ((dg (tb k h) sn : Nat) : Int)))), (4, vI (foQ mxS 0 (plM 1000000 (nkT k) nm D ex un) 0 (fun h => ((dg (tb k h) sn : Nat) : Int)))), (5, vI (((0 : Nat) : Int)))] rfl rfl ⟨rfl, rfl, rfl, lv_to rfl rfl, lv_to rfl rfl, lv_to rfl (by omega), trivial⟩ ?_
        exact lp4_2 _ (0) (Nat.lt_succ_self _) (by omega)
      · refine tt_ar rfl ?_
        refine tt_ar rfl ?_
        refine tt_cv2 2 rfl (wo_76 hW1) (c179 σt 4 hW1 (by omega)) (ks ?_)
        refine tt_iret ?_
        exact pm_mt (f := 4) hRt (by decide) (show x_sure k nm D A un sn = (vI (-3), upF 4 A) by unfold x_sure; (try simp only [Int.toNat_natCast, hl27, hk5]); (try rw [hxA]); (repeat (first | rw [if_pos (by omega)] | rw [if_neg (by omega)])); (first | done | rfl)) (QR.of hFt (by decide))
    · refine tt_ifneF (by decide) ?_
      refine tt_nop ?_
      refine tt_ar rfl ?_
      refine tt_iret ?_
      exact pm_any (M := A) hR (show x_sure k nm D A u s = (vI (-1), A) by unfold x_sure; (try simp only [Int.toNat_natCast, hl27, hk5]); (try rw [hxA]); (repeat (first | rw [if_pos (by omega)] | rw [if_neg (by omega)])); (first | done | rfl)) QR.rf
  · refine tt_ifeqT (by decide) ?_
    refine tt_ar rfl ?_
    refine tt_iret ?_
    exact pm_any (M := A) hR (show x_sure k nm D A u s = (vI (-1), A) by unfold x_sure; (try simp only [Int.toNat_natCast, hl27, hk5]); (try rw [hxA]); (repeat (first | rw [if_pos (by omega)] | rw [if_neg (by omega)])); (first | done | rfl)) QR.rf

