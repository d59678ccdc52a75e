def clr {α : Type} (m : Nat → Nat → α) (c i : Nat) (v : α) : Nat → Nat → α := fun f j => if f / 128 = c ∧ j = i then v else m f j
theorem clr_s {α : Type} (m : Nat → Nat → α) {c f : Nat} (i : Nat) (v : α) (h : f / 128 = c) : clr m c i v f i = v := by unfold clr; rw [if_pos ⟨h, rfl⟩]
theorem clr_n {α : Type} (m : Nat → Nat → α) {c i f j : Nat} (v : α) (h : ¬ (f / 128 = c ∧ j = i)) : clr m c i v f j = m f j := by unfold clr; rw [if_neg h]
theorem dflt {c : Nat} (h : c < 10) : ∀ k, k < nF c → (tg c k = 0 → defaultValue (cY c k) = .int 0) ∧ (tg c k ≠ 0 → defaultValue (cY c k) = .null) :=
  c10 (P := fun c => ∀ k, k < nF c → (tg c k = 0 → defaultValue (cY c k) = .int 0) ∧ (tg c k ≠ 0 → defaultValue (cY c k) = .null)) (by decide +kernel) (by decide +kernel) (by decide +kernel) (by decide +kernel) (by decide +kernel) (by decide +kernel) (by decide +kernel) (by decide +kernel) (by decide +kernel) (by decide +kernel) h
theorem lvx_grow {D : DD} {lv : Nat → Nat → Bool} {ad ad' : Ad} {c i sz : Nat} (hA : ∀ c i, lv c i = true → ad' c i = ad c i) (hA2 : ∀ c i, lv c i = true → kd c = 4 → ad' (c + 10) i = ad (c + 10) i) (hA4 : ad' c i = sz) (hA5 : kd c = 4 → ad' (c + 10) i = D.2.2.1) : ∀ q, own D (up2 lv c i true) ad' q → own D lv ad q ∨ sz ≤ q := by
  rintro q ⟨c', i', h, rfl⟩
  have old : ∀ c' i', up2 lv c i true c' i' = true → ¬ (c' = c ∧ i' = i) → lv c' i' = true := fun c' i' h hne => by
    rw [up2_n _ _ hne] at h
    exact h
  rcases h with h | ⟨h1, h2, h3, h4⟩
  · by_cases z : c' = c ∧ i' = i
    · rw [z.1, z.2, hA4]
      exact Or.inr (Nat.le_refl _)
    · exact Or.inl ⟨c', i', Or.inl (old _ _ h z), hA _ _ (old _ _ h z)⟩
  · have e : c' - 10 + 10 = c' := by omega
    by_cases z : c' - 10 = c ∧ i' = i
    · exfalso
      have hk4 := kd_list h1 h2
      rw [z.1] at hk4
      have := hA5 hk4
      rw [← z.1, e, ← z.2] at this
      exact h4 this
    · have o := old _ _ h3 z
      have ha := hA2 (c' - 10) i' o (kd_list h1 h2)
      rw [e] at ha
      exact Or.inl ⟨c', i', Or.inr ⟨h1, h2, o, by rw [← ha]; exact h4⟩, ha⟩
theorem Ext_grow {D : DD} {lv : Nat → Nat → Bool} {ad ad' : Ad} {c i : Nat} (hA : ∀ c i, lv c i = true → ad' c i = ad c i) : Ext D lv ad (up2 lv c i true) ad' := fun c' i' h => ⟨by
  by_cases z : c' = c ∧ i' = i
  · rw [z.1, z.2, up2_s]
  · rw [up2_n _ _ z]; exact h, hA c' i' h⟩
section WPN
variable {mi : MI} {d k pc : Nat} {L L' : List (Option sV)} {st : List sV} {Q : Option sV → OM → Prop} {QX : String → OM → Prop} {lv : Nat → Nat → Bool} {fr : Nat → Nat → Option Nat} {fi : Nat → Nat → Int32} {ai : Nat → Nat → Nat → Int32} {ar : Nat → Nat → Nat → Option Nat} {li : Nat → Nat → List Nat} {out : Int64} {rho : Nat → Nat → Int32}
/-- the new cell's address; the rest as it was -/
def adN (ad : Ad) (c i a : Nat) : Ad := up2 ad c i a
theorem adN_old {ad : Ad} {lv : Nat → Nat → Bool} {c i a : Nat} (hn : ¬ lv c i = true) : ∀ c' i', lv c' i' = true → adN ad c i a c' i' = ad c' i' := fun c' i' h => up2_n _ _ (fun z => hn (by rw [← z.1, ← z.2]; exact h))
theorem wp_new {c i x : Nat} (hc : c < 9) (hn : ¬ lv c i = true) (hw1 : Cond.classLink mi.1.cls x (cn c) ∈ TW) (hw2 : Cond.instantiable (cn c) (nF c) ∈ TW) (hw3 : Cond.initialized (cn c) ∈ TW) (hd : decode mi.2.1 pc = .ok (.new x, 3))
    (h : WP mi d k (pc + 3) L (vR c i :: st) (up2 lv c i true, clr fr c i none, clr fi c i 0, ai, ar, li, out, rho) Q QX) : WP mi d (k + 1) pc L st (lv, fr, fi, ai, ar, li, out, rho) Q QX := by
  intro p l e R s m args below meth cc D A lv0 ad0 hC H locs cells slots ls ad hD
  have hts := hC.2.2.2.2.2.2.1
  have hKn := hC.2.2.2.2.2.2.2.1.1.1 c _ (cls_at (show c < 10 by omega))
  have hb1 := hD.2.2.2.2.2.2.1
  have hb2 := hD.2.2.2.2.2.2.2
  have hnF := nF_lt (c := c) (by omega)
  have hk0 := kd_of (show c < 10 by omega)
  refine W.newcK hC.1 hC.2.1 hC.2.2.2.2.2.1 (hts _ hw1) (hts _ hw2) (hts _ hw3) rfl hd (by omega) (by omega) hKn.2.1 rfl fun H1 kC hkC e1 z1 o1 => ?_
  have hob := u_born (cY c) hts (cW_ok (show c < 10 by omega)) hKn hkC e1 (cY_ok (by omega))
  have hm := hD.1
  have hoA := adN_old (ad := ad) (a := H.size) hn
  have hoA2 : ∀ c' i', lv c' i' = true → kd c' = 4 → adN ad c i H.size (c' + 10) i' = ad (c' + 10) i' := fun c' i' h1 h2 => up2_n _ _ (fun z => by have := kd4 h2; omega)
  have hold : ∀ c' i', lv c' i' = true → cOK D (up2 lv c i true, clr fr c i none, clr fi c i 0, ai, ar, li, out, rho) (adN ad c i H.size) H1 c' i' := fun c' i' hl' => by
    have hne : ¬ (c' = c ∧ i' = i) := fun z => hn (by rw [← z.1, ← z.2]; exact hl')
    refine cOK_move hm hl' o1 hoA (hoA2 c' i' hl') (fun hk' y hy => ?_) (fun _ => rfl) (fun _ => rfl) (fun _ => rfl) (fun _ => rfl)
    have := nF_lt (kd0 hk')
    have e : (128 * c' + y) / 128 = c' := by omega
    exact ⟨clr_n _ _ (by rw [e]; exact hne), fun _ => clr_n _ _ (by rw [e]; exact hne), fun _ _ => rfl⟩
  have hm' : MM D (up2 lv c i true, clr fr c i none, clr fi c i 0, ai, ar, li, out, rho) (adN ad c i H.size) H1 := by
    refine hm.grow hn (by rw [hk0]; decide) o1 rfl hoA hoA2 (fun j hj => up2_n _ _ (fun z => by omega)) (up2_s _ _ _ _) (fun z => by rw [hk0] at z; cases z) ?_ hold (fun z => by omega) (fun c' i' y t j h1 h2 h3 h4 h5 => ?_) (fun c' i' y j h1 h2 h3 h4 => ?_) (fun c' i' j h1 h2 h3 => ?_)
    · unfold cOK
      rw [hk0]
      show t_OB (adN ad c i H.size c i) _ _ _ _ _
      have e2 : adN ad c i H.size c i = H.size := up2_s _ _ _ _
      rw [e2]
      refine t_OB.to hob (fun y hy => ?_)
      have e : (128 * c + y) / 128 = c := by omega
      obtain ⟨d1, d2⟩ := dflt (show c < 10 by omega) y hy
      unfold fV
      split
      next ht =>
        rw [d1 ht, if_neg (by omega)]
        show _ = Value.int (clr fi c i 0 (128 * c + y) i)
        rw [clr_s _ _ _ e]
      next t ht =>
        rw [d2 (by rw [ht]; omega)]
        show _ = va_rf (Option.map _ (clr fr c i none (128 * c + y) i))
        rw [clr_s _ _ _ e]
        rfl
    · have := nF_lt (kd0 h2)
      have e : (128 * c' + y) / 128 = c' := by omega
      have h5' : clr fr c i none (128 * c' + y) i' = some j := h5
      by_cases z : c' = c ∧ i' = i
      · rw [z.2, clr_s _ _ _ (by rw [e]; exact z.1)] at h5'
        cases h5'
      · rw [clr_n _ _ (by rw [e]; exact z)] at h5'
        have h1' : up2 lv c i true c' i' = true := h1
        rw [up2_n _ _ z] at h1'
        exact hm.2.2.1 c' i' y t j h1' h2 h3 h4 h5'
    · have z : ¬ (c' = c ∧ i' = i) := fun z => by rw [z.1, hk0] at h2; cases h2
      have h1' : up2 lv c i true c' i' = true := h1
      rw [up2_n _ _ z] at h1'
      exact hm.2.2.2.1 c' i' y j h1' h2 h3 h4
    · have z : ¬ (c' = c ∧ i' = i) := fun z => by rw [z.1, hk0] at h2; cases h2
      have h1' : up2 lv c i true c' i' = true := h1
      rw [up2_n _ _ z] at h1'
      exact hm.2.2.2.2.1 c' i' j h1' h2 h3
  have hE : Ext D lv ad (up2 lv c i true) (adN ad c i H.size) := Ext_grow hoA
  have hst := map_ext hE hm hm' hD.lvs
  have hgo := h p l e R s m args below meth cc D A lv0 ad0 hC H1 locs (cells + 1) (slots + nF c) ls (adN ad c i H.size) (hD.gr hC.2.2.2.2.2.2.2.2.2.2.2.2.2.1 hm' hE (lvx_grow hoA hoA2 (up2_s _ _ _ _) (fun z => by rw [hk0] at z; cases z)) (by omega) o1 ⟨Or.inl (up2_s _ _ _ _), LvS_ext hE hD.lvs⟩ (by omega) (by omega))
  rw [List.map_cons, hst] at hgo
  have e2 : tV (adN ad c i H.size) (vR c i) = .ref H.size := congrArg Value.ref (up2_s ad c i H.size)
  rw [e2] at hgo
  exact hgo
theorem kd12 {c : Nat} (h : kd c = 1 ∨ kd c = 2) : c < 40 ∨ 200 ≤ c := by
  apply Classical.byContradiction
  intro z
  have h1 : ¬ c < 40 := fun q => z (Or.inl q)
  have h2 : c < 200 := Nat.not_le.mp (fun q => z (Or.inr q))
  unfold kd at h
  rw [if_neg (by omega), if_neg (by omega), if_neg h1] at h
  repeat' split at h
  all_goals omega
/-- a new row of ints or booleans -/
theorem wp_newa9 {S S' : OM} {c i : Nat} {N : Int32} {t : ArrayType} (hc : kd c = 1 ∨ kd c = 2) (hn : ¬ S.1 c i = true) (hN : ¬ N < 0) (hN2 : N.toNatClampNeg = len c) (hlen : len c ≤ 700) (hw : Cond.arrayClass (newarray.typeOf t) ∈ TW) (ht : newarray.typeOf t = tyr (kA c)) (hd : decode mi.2.1 pc = .ok (.newarray t, 2)) (h0 : (70 ≤ c ∨ c = 9) → i = 0)
    (hlv : S'.1 = up2 S.1 c i true) (hfr : S'.2.1 = S.2.1) (hfi : S'.2.2.1 = S.2.2.1) (har : S'.2.2.2.2.1 = S.2.2.2.2.1) (hli : S'.2.2.2.2.2.1 = S.2.2.2.2.2.1) (hout : S'.2.2.2.2.2.2.1 = S.2.2.2.2.2.2.1) (hrho : ∀ y, tg 9 y = 0 → y < 0 → S'.2.2.2.2.2.2.2 y 0 = S.2.2.2.2.2.2.2 y 0)
    (haI : ∀ c' i', S.1 c' i' = true → aI S'.2.2.2.2.2.2.2 S'.2.2.2.1 c' i' = aI S.2.2.2.2.2.2.2 S.2.2.2.1 c' i') (haI2 : aI S'.2.2.2.2.2.2.2 S'.2.2.2.1 c i = fun _ => 0)
    (h : WP mi d k (pc + 2) L (vR c i :: st) S' Q QX) : WP mi d (k + 1) pc L (vI N :: st) S Q QX := by
  intro p l e R s m args below meth cc D A lv0 ad0 hC H locs cells slots ls ad hD
  have hts := hC.2.2.2.2.2.2.1
  have hb1 := hD.2.2.2.2.2.2.1
  have hb2 := hD.2.2.2.2.2.2.2
  have hkA : kA c = 0 ∨ kA c = 1 := hc.elim (fun z => Or.inl (kA_1 z)) (fun z => Or.inr (kA_2 z))
  have hc4 : ¬ kd c = 4 := fun z => by rcases hc with q | q <;> (rw [q] at z; cases z)
  have hc9 : kd c ≠ 9 := fun z => by rcases hc with q | q <;> (rw [q] at z; cases z)
  have hc0 : ¬ kd c = 0 := fun z => by rcases hc with q | q <;> (rw [q] at z; cases z)
  have hc3 : ¬ kd c = 3 := fun z => by rcases hc with q | q <;> (rw [q] at z; cases z)
  have hk9 := kd9 hc9
  refine va_newaK hC.1 hC.2.1 (hts _ hw) rfl hd rfl hN hN2 (by rcases hkA with q | q <;> (rw [ht, q]; show len c * componentBytes _ ≤ _; unfold tyr componentBytes; simp; omega)) (by omega) (by omega) rfl fun H1 cA e1 z1 o1 hAr hfc => ?_
  have hcA : cA = D.2.1 (kA c) := by
    have h9 := (hC.2.2.2.2.2.2.2.1.1.2 (kA c) _ (tys_at D (by omega))).2
    rw [ht] at hfc
    rcases hkA with q | q <;> (rw [q] at h9 hfc ⊢; exact Option.some.inj (hfc.symm.trans h9))
  subst hcA
  have hm := hD.1
  have hoA := adN_old (ad := ad) (a := H.size) hn
  have hoA2 : ∀ c' i', S.1 c' i' = true → kd c' = 4 → adN ad c i H.size (c' + 10) i' = ad (c' + 10) i' := fun c' i' h1 h2 => up2_n _ _ (fun z => by have := kd4 h2; omega)
  have hold : ∀ c' i', S.1 c' i' = true → cOK D S' (adN ad c i H.size) H1 c' i' := fun c' i' hl' =>
    cOK_move hm hl' o1 hoA (hoA2 c' i' hl') (fun hk' y hy => ⟨by rw [hfr], fun _ => by rw [hfi], fun z9 z0 => hrho y z0 (by rw [z9] at hy; exact hy)⟩) (fun _ => haI c' i' hl') (fun _ => by rw [har]) (fun _ => by rw [hli]) (fun _ => hout)
  have hm' : MM D S' (adN ad c i H.size) H1 := by
    have old : ∀ c' i', S'.1 c' i' = true → ¬ (c' = c ∧ i' = i) → S.1 c' i' = true := fun c' i' h1 z => by rw [hlv, up2_n _ _ z] at h1; exact h1
    refine hm.grow hn hc9 o1 hlv hoA hoA2 (fun j hj => up2_n _ _ (fun z => by omega)) (up2_s _ _ _ _) (fun z => absurd z hc4) ?_ hold h0 (fun c' i' y t j h1 h2 h3 h4 h5 => ?_) (fun c' i' y j h1 h2 h3 h4 => ?_) (fun c' i' j h1 h2 h3 => ?_)
    · have e2 : adN ad c i H.size c i = H.size := up2_s _ _ _ _
      have e9 : H1[adN ad c i H.size c i]? = some (vp_cell (D.2.1 (kA c)) (len c, .inl (aI S'.2.2.2.2.2.2.2 S'.2.2.2.1 c i))) := by
        rw [e2, e1, haI2, vp_cell_i]
        have : defaultValue (newarray.typeOf t) = .int 0 := by rw [ht]; rcases hkA with q | q <;> (rw [q]; rfl)
        rw [this]
      unfold cOK
      rcases hc with q | q <;> (rw [q]; exact e9)
    · rw [hfr] at h5
      exact hm.2.2.1 c' i' y t j (old c' i' h1 (fun z => hc0 (by rw [← z.1]; exact h2))) h2 h3 h4 h5
    · rw [har] at h4
      exact hm.2.2.2.1 c' i' y j (old c' i' h1 (fun z => hc3 (by rw [← z.1]; exact h2))) h2 h3 h4
    · rw [hli] at h3
      exact hm.2.2.2.2.1 c' i' j (old c' i' h1 (fun z => hc4 (by rw [← z.1]; exact h2))) h2 h3
  have hE : Ext D S.1 ad S'.1 (adN ad c i H.size) := by rw [hlv]; exact Ext_grow hoA
  have hst := map_ext hE hm hm' hD.lvs.2
  have hgo := h p l e R s m args below meth cc D A lv0 ad0 hC H1 locs (cells + 1) (slots + len c) ls (adN ad c i H.size) (hD.gr hC.2.2.2.2.2.2.2.2.2.2.2.2.2.1 hm' hE (by rw [hlv]; exact lvx_grow hoA hoA2 (up2_s _ _ _ _) (fun z => absurd z hc4)) (by omega) o1 ⟨Or.inl (by rw [hlv]; exact up2_s _ _ _ _), LvS_ext hE hD.lvs.2⟩ (by omega) (by omega))
  rw [List.map_cons, hst] at hgo
  have e2 : tV (adN ad c i H.size) (vR c i) = .ref H.size := congrArg Value.ref (up2_s ad c i H.size)
  rw [e2] at hgo
  exact hgo
theorem wp_newa {c i : Nat} {N : Int32} {t : ArrayType} (hc : kd c = 1 ∨ kd c = 2) (hc2 : c < 200) (hn : ¬ lv c i = true) (hN : ¬ N < 0) (hN2 : N.toNatClampNeg = len c) (hlen : len c ≤ 700) (hw : Cond.arrayClass (newarray.typeOf t) ∈ TW) (ht : newarray.typeOf t = tyr (kA c)) (hd : decode mi.2.1 pc = .ok (.newarray t, 2)) (h9 : c ≠ 9)
    (h : WP mi d k (pc + 2) L (vR c i :: st) (up2 lv c i true, fr, fi, up2 ai c i (fun _ => 0), ar, li, out, rho) Q QX) : WP mi d (k + 1) pc L (vI N :: st) (lv, fr, fi, ai, ar, li, out, rho) Q QX := by
  refine wp_newa9 (S' := (up2 lv c i true, fr, fi, up2 ai c i (fun _ => 0), ar, li, out, rho)) hc hn hN hN2 hlen hw ht hd (fun z => by have := kd12 hc; omega) rfl rfl rfl rfl rfl rfl (fun _ _ _ => rfl) (fun c' i' hl' => ?_) ?_ h
  · unfold aI
    split
    · rfl
    · exact up2_n ai (fun _ => 0) (fun z => hn (by rw [← z.1, ← z.2]; exact hl'))
  · unfold aI
    rw [if_neg (by omega)]
    exact up2_s ai c i _
theorem wp_newaR {c y : Nat} {N : Int32} {t : ArrayType} (hc : kd c = 1 ∨ kd c = 2) (hc2 : c = 200 + y) (hn : ¬ lv c 0 = true) (hN : ¬ N < 0) (hN2 : N.toNatClampNeg = len c) (hlen : len c ≤ 700) (hw : Cond.arrayClass (newarray.typeOf t) ∈ TW) (ht : newarray.typeOf t = tyr (kA c)) (hd : decode mi.2.1 pc = .ok (.newarray t, 2))
    (h : WP mi d k (pc + 2) L (vR c 0 :: st) (up2 lv c 0 true, fr, fi, ai, ar, li, out, va_up rho y (fun _ => 0)) Q QX) : WP mi d (k + 1) pc L (vI N :: st) (lv, fr, fi, ai, ar, li, out, rho) Q QX := by
  intro p l e R s m args below meth cc D A lv0 ad0 hC H locs cells slots ls ad hD
  refine wp_newa9 (S := (lv, fr, fi, ai, ar, li, out, rho)) (S' := (up2 lv c 0 true, fr, fi, ai, ar, li, out, va_up rho y (fun _ => 0))) hc hn hN hN2 hlen hw ht hd (fun z => rfl) rfl rfl rfl rfl rfl rfl (fun y' _ q => absurd q (Nat.not_lt_zero _)) (fun c' i' hl' => ?_) ?_ h p l e R s m args below meth cc D A lv0 ad0 hC H locs cells slots ls ad hD
  · unfold aI
    split
    next hge =>
      have h0 := hD.1.2.2.2.2.2.2 c' i' hl' (Or.inl (by omega))
      have : c' - 200 ≠ y := fun z => hn (by rw [show c = c' by omega, ← h0]; exact hl')
      generalize c' - 200 = z at this ⊢
      show va_up rho y (fun _ => 0) z = rho z
      simp [va_up, this]
    · rfl
  · unfold aI
    rw [if_pos (by omega), show c - 200 = y by omega]
    show va_up rho y (fun _ => 0) y = _
    simp [va_up]
end WPN
