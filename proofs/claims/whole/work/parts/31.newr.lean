/-! the reference's own cell; the law's long row; the policies' rows -/
section NR
variable {mi : MI} {d k pc : Nat} {L L' : List (Option sV)} {st : List sV} {Q : Option sV → OM → Prop} {QX : String → OM → Prop} {lv : Nat → Nat → Bool} {fr : Nat → Nat → Option Nat} {fi : Nat → Nat → Int32} {ai : Nat → Nat → Nat → Int32} {ar : Nat → Nat → Nat → Option Nat} {li : Nat → Nat → List Nat} {out : Int64} {rho : Nat → Nat → Int32}
theorem wp_newR {x : Nat} (hrho : ∀ y, y < 65 → rho y 0 = 0) (hn : ¬ lv 9 0 = true) (hw1 : Cond.classLink mi.1.cls x (cn 9) ∈ TW) (hw2 : Cond.instantiable (cn 9) (nF 9) ∈ TW) (hw3 : Cond.initialized (cn 9) ∈ TW) (hd : decode mi.2.1 pc = .ok (.new x, 3))
    (h : WP mi d k (pc + 3) L (vR 9 0 :: st) (up2 lv 9 0 true, clr fr 9 0 none, fi, ai, ar, li, out, rho) Q QX) : WP mi d (k + 1) pc L st (lv, fr, fi, ai, ar, li, out, rho) Q QX := by
  intro p l e R s m args below meth cc D A lv0 ad0 hC H locs cells slots ls ad hD
  have hts := hC.2.2.2.2.2.2.1
  have hKn := hC.2.2.2.2.2.2.2.1.1.1 9 _ (cls_at (show 9 < 10 by omega))
  have hb1 := hD.2.2.2.2.2.2.1
  have hb2 := hD.2.2.2.2.2.2.2
  have hnF : nF 9 = 65 := rfl
  have hk0 : kd 9 = 0 := rfl
  refine W.newcK hC.1 hC.2.1 hC.2.2.2.2.2.1 (hts _ hw1) (hts _ hw2) (hts _ hw3) rfl hd (by omega) (by omega) hKn.2.1 rfl fun H1 kC hkC e1 z1 o1 => ?_
  have hob := u_born (cY 9) hts (cW_ok (show 9 < 10 by omega)) hKn hkC e1 (cY_ok (by omega))
  have hm := hD.1
  have hoA := adN_old (ad := ad) (a := H.size) hn
  have hoA2 : ∀ c' i', lv c' i' = true → kd c' = 4 → adN ad 9 0 H.size (c' + 10) i' = ad (c' + 10) i' := fun c' i' h1 h2 => up2_n _ _ (fun z => by have := kd4 h2; omega)
  have hold : ∀ c' i', lv c' i' = true → cOK D (up2 lv 9 0 true, clr fr 9 0 none, fi, ai, ar, li, out, rho) (adN ad 9 0 H.size) H1 c' i' := fun c' i' hl' => by
    have hne : ¬ (c' = 9 ∧ i' = 0) := fun z => hn (by rw [← z.1, ← z.2]; exact hl')
    refine cOK_move hm hl' o1 hoA (hoA2 c' i' hl') (fun hk' y hy => ?_) (fun _ => rfl) (fun _ => rfl) (fun _ => rfl) (fun _ => rfl)
    have := nF_lt (kd0 hk')
    have e : (128 * c' + y) / 128 = c' := by omega
    exact ⟨clr_n _ _ (by rw [e]; exact hne), fun _ => rfl, fun _ _ => rfl⟩
  have hm' : MM D (up2 lv 9 0 true, clr fr 9 0 none, fi, ai, ar, li, out, rho) (adN ad 9 0 H.size) H1 := by
    refine hm.grow hn (by decide) o1 rfl hoA hoA2 (fun j hj => up2_n _ _ (fun z => by omega)) (up2_s _ _ _ _) (fun z => by cases z) ?_ hold (fun _ => rfl) (fun c' i' y t j h1 h2 h3 h4 h5 => ?_) (fun c' i' y j h1 h2 h3 h4 => ?_) (fun c' i' j h1 h2 h3 => ?_)
    · show t_OB (adN ad 9 0 H.size 9 0) _ _ _ _ _
      have e2 : adN ad 9 0 H.size 9 0 = H.size := up2_s _ _ _ _
      rw [e2]
      refine t_OB.to hob (fun y hy => ?_)
      have e : (128 * 9 + y) / 128 = 9 := by have : y < 65 := hy; omega
      obtain ⟨d1, d2⟩ := dflt (show 9 < 10 by omega) y hy
      unfold fV
      split
      next ht =>
        rw [d1 ht, if_pos rfl]
        exact congrArg Value.int (hrho y hy).symm
      next t ht =>
        rw [d2 (by rw [ht]; omega)]
        show _ = va_rf (Option.map _ (clr fr 9 0 none (128 * 9 + y) 0))
        rw [clr_s _ _ _ e]
        rfl
    · have := nF_lt (kd0 h2)
      have e : (128 * c' + y) / 128 = c' := by omega
      have h5' : clr fr 9 0 none (128 * c' + y) i' = some j := h5
      by_cases z : c' = 9 ∧ i' = 0
      · rw [z.2, clr_s _ _ _ (by rw [e]; exact z.1)] at h5'
        cases h5'
      · rw [clr_n _ _ (by rw [e]; exact z)] at h5'
        have h1' : up2 lv 9 0 true c' i' = true := h1
        rw [up2_n _ _ z] at h1'
        exact hm.2.2.1 c' i' y t j h1' h2 h3 h4 h5'
    · have z : ¬ (c' = 9 ∧ i' = 0) := fun z => by rw [z.1] at h2; cases h2
      have h1' : up2 lv 9 0 true c' i' = true := h1
      rw [up2_n _ _ z] at h1'
      exact hm.2.2.2.1 c' i' y j h1' h2 h3 h4
    · have z : ¬ (c' = 9 ∧ i' = 0) := fun z => by rw [z.1] at h2; cases h2
      have h1' : up2 lv 9 0 true c' i' = true := h1
      rw [up2_n _ _ z] at h1'
      exact hm.2.2.2.2.1 c' i' j h1' h2 h3
  have hE : Ext D lv ad (up2 lv 9 0 true) (adN ad 9 0 H.size) := Ext_grow hoA
  have hst := map_ext hE hm hm' hD.lvs
  have hgo := h p l e R s m args below meth cc D A lv0 ad0 hC H1 locs (cells + 1) (slots + nF 9) ls (adN ad 9 0 H.size) (hD.gr hC.2.2.2.2.2.2.2.2.2.2.2.2.2.1 hm' hE (lvx_grow hoA hoA2 (up2_s _ _ _ _) (fun z => by cases z)) (by omega) o1 ⟨Or.inl (up2_s lv 9 0 true), LvS_ext hE hD.lvs⟩ (by omega) (by omega))
  rw [List.map_cons, hst] at hgo
  have e2 : tV (adN ad 9 0 H.size) (vR 9 0) = .ref H.size := congrArg Value.ref (up2_s ad 9 0 H.size)
  rw [e2] at hgo
  exact hgo
theorem wp_newl {N : Int32} (hn : ¬ lv 70 0 = true) (hN : N = 1) (ho : out = 0) (hd : decode mi.2.1 pc = .ok (.newarray .long, 2)) (hw : Cond.arrayClass .long ∈ TW)
    (h : WP mi d k (pc + 2) L (vR 70 0 :: st) (up2 lv 70 0 true, fr, fi, ai, ar, li, out, rho) Q QX) : WP mi d (k + 1) pc L (vI N :: st) (lv, fr, fi, ai, ar, li, out, rho) Q QX := by
  subst hN
  subst ho
  intro p l e R s m args below meth cc D A lv0 ad0 hC H locs cells slots ls ad hD
  have hts := hC.2.2.2.2.2.2.1
  have hb1 := hD.2.2.2.2.2.2.1
  have hb2 := hD.2.2.2.2.2.2.2
  refine va_newaK (atype := .long) (N := 1) hC.1 hC.2.1 (hts _ hw) rfl hd rfl (by decide) (by decide) (by decide) (by omega) (by omega) rfl fun H1 cA e1 z1 o1 hAr hfc => ?_
  have hcA : cA = D.2.1 2 := by
    have h9 := (hC.2.2.2.2.2.2.2.1.1.2 2 _ (tys_at D (by omega))).2
    exact Option.some.inj (hfc.symm.trans h9)
  subst hcA
  have hm := hD.1
  have hoA := adN_old (ad := ad) (a := H.size) hn
  have hoA2 : ∀ c' i', lv c' i' = true → kd c' = 4 → adN ad 70 0 H.size (c' + 10) i' = ad (c' + 10) i' := fun c' i' h1 h2 => up2_n _ _ (fun z => by have := kd4 h2; omega)
  have hold : ∀ c' i', lv c' i' = true → cOK D (up2 lv 70 0 true, fr, fi, ai, ar, li, 0, rho) (adN ad 70 0 H.size) H1 c' i' := fun c' i' hl' =>
    cOK_move hm hl' o1 hoA (hoA2 c' i' hl') (fun _ _ _ => ⟨rfl, fun _ => rfl, fun _ _ => rfl⟩) (fun _ => rfl) (fun _ => rfl) (fun _ => rfl) (fun _ => rfl)
  have hm' : MM D (up2 lv 70 0 true, fr, fi, ai, ar, li, 0, rho) (adN ad 70 0 H.size) H1 := by
    have old : ∀ c' i', up2 lv 70 0 true c' i' = true → ¬ (c' = 70 ∧ i' = 0) → lv c' i' = true := fun c' i' h1 z => by rw [up2_n _ _ z] at h1; exact h1
    refine hm.grow hn (by decide) o1 rfl hoA hoA2 (fun j hj => up2_n _ _ (fun z => by omega)) (up2_s _ _ _ _) (fun z => by cases z) ?_ hold (fun _ => rfl) (fun c' i' y t j h1 h2 h3 h4 h5 => ?_) (fun c' i' y j h1 h2 h3 h4 => ?_) (fun c' i' j h1 h2 h3 => ?_)
    · show H1[adN ad 70 0 H.size 70 0]? = some (vp_cell (D.2.1 2) (1, .inr (.inl (fun _ => 0))))
      have e2 : adN ad 70 0 H.size 70 0 = H.size := up2_s _ _ _ _
      rw [e2, e1]
      rfl
    · exact hm.2.2.1 c' i' y t j (old c' i' h1 (fun z => by rw [z.1] at h2; cases h2)) h2 h3 h4 h5
    · exact hm.2.2.2.1 c' i' y j (old c' i' h1 (fun z => by rw [z.1] at h2; cases h2)) h2 h3 h4
    · exact hm.2.2.2.2.1 c' i' j (old c' i' h1 (fun z => by rw [z.1] at h2; cases h2)) h2 h3
  have hE : Ext D lv ad (up2 lv 70 0 true) (adN ad 70 0 H.size) := Ext_grow hoA
  have hst := map_ext hE hm hm' hD.lvs.2
  have hgo := h p l e R s m args below meth cc D A lv0 ad0 hC H1 locs (cells + 1) (slots + 1) ls (adN ad 70 0 H.size) (hD.gr hC.2.2.2.2.2.2.2.2.2.2.2.2.2.1 hm' hE (lvx_grow hoA hoA2 (up2_s _ _ _ _) (fun z => by cases z)) (by omega) o1 ⟨Or.inl (up2_s lv 70 0 true), LvS_ext hE hD.lvs.2⟩ (by omega) (by omega))
  rw [List.map_cons, hst] at hgo
  have e2 : tV (adN ad 70 0 H.size) (vR 70 0) = .ref H.size := congrArg Value.ref (up2_s ad 70 0 H.size)
  rw [e2] at hgo
  exact hgo
theorem wp_laload {j : Int32} (hj : j = 0) (hd : decode mi.2.1 pc = .ok (.laload, 1))
    (h : WP mi d k (pc + 1) L (vL out :: st) (lv, fr, fi, ai, ar, li, out, rho) Q QX) : WP mi d k pc L (vI j :: vR 70 0 :: st) (lv, fr, fi, ai, ar, li, out, rho) Q QX := by
  subst hj
  intro p l e R s m args below meth cc D A lv0 ad0 hC H locs cells slots ls ad hD
  have hl : lv 70 0 = true := lv_of hD.lvs.2.1 (by omega)
  have hr : H[ad 70 0]? = some (vp_cell (D.2.1 2) (1, .inr (.inl (fun _ => out)))) := hD.1.1 70 0 hl
  have hgo := h p l e R s m args below meth cc D A lv0 ad0 hC H locs cells slots ls ad (hD.stk ⟨trivial, hD.lvs.2.2⟩)
  have hA := (hC.2.2.2.2.2.2.2.1.1.2 2 _ (tys_at D (by decide))).1 1 (fun _ => .long out)
  exact W.lald (v := .long out) hC.1 hC.2.1 hr hA (fun q => by cases q) (by show ¬ ((0 : Int32) < 0 ∨ (arrV _ _ _).slots.size ≤ _); rw [arrV_size]; exact (by decide : ¬ ((0 : Int32) < 0 ∨ 1 ≤ (0 : Int32).toNatClampNeg))) (by show (arrV _ _ _).slots[_]? = _; rw [arrV_read _ _ (show (0 : Int32).toNatClampNeg < 1 by decide)]) rfl rfl hd hgo
theorem wp_lastore {j : Int32} {x : Int64} (hj : j = 0) (hd : decode mi.2.1 pc = .ok (.lastore, 1))
    (h : WP mi d k (pc + 1) L st (lv, fr, fi, ai, ar, li, x, rho) Q QX) : WP mi d k pc L (vL x :: vI j :: vR 70 0 :: st) (lv, fr, fi, ai, ar, li, out, rho) Q QX := by
  subst hj
  intro p l e R s m args below meth cc D A lv0 ad0 hC H locs cells slots ls ad hD
  have hl : lv 70 0 = true := lv_of hD.lvs.2.2.1 (by omega)
  have hr : H[ad 70 0]? = some (vp_cell (D.2.1 2) (1, .inr (.inl (fun _ => out)))) := hD.1.1 70 0 hl
  have hA := (hC.2.2.2.2.2.2.2.1.1.2 2 _ (tys_at D (by decide))).1 1 (fun _ => .long out)
  refine W.last hC.1 hC.2.1 hr hA (fun q => by cases q) (by show ¬ ((0 : Int32) < 0 ∨ (arrV _ _ _).slots.size ≤ _); rw [arrV_size]; exact (by decide : ¬ ((0 : Int32) < 0 ∨ 1 ≤ (0 : Int32).toNatClampNeg))) rfl rfl hd fun H1 e9 z oq => ?_
  have hm : MM D (lv, fr, fi, ai, ar, li, x, rho) ad H1 := by
    refine hD.1.write hl (Or.inl rfl) rfl oq ?_ (fun c' i' hl' hne h' => cOK_congr h' (fun _ _ _ => rfl) (fun _ => rfl) (fun _ => rfl) (fun _ => rfl) (fun h5 => ?_)) hD.1.2.2.1 hD.1.2.2.2.1 hD.1.2.2.2.2.1
    · show H1[ad 70 0]? = some (vp_cell (D.2.1 2) (1, .inr (.inl (fun _ => x))))
      rw [e9]
      rfl
    · exfalso
      have e7 : c' = 70 := by
        unfold kd at h5
        repeat' split at h5
        all_goals first | omega | (exfalso; revert h5; decide) | contradiction
      exact hne ⟨e7, hD.1.2.2.2.2.2.2 c' i' hl' (Or.inl (by omega))⟩
  exact h p l e R s m args below meth cc D A lv0 ad0 hC H1 _ cells slots ls ad (hD.wr hm rfl (hD.own1 hl) z oq hD.lvs.2.2.2)
end NR
