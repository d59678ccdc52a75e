section WPQ
variable {mi : MI} {d k pc : Nat} {L L' : List (Option sV)} {st : List sV} {Q : Option sV → OM → Prop} {QX : String → OM → Prop} {lv : Nat → Nat → Bool} {fr : Nat → Nat → Option Nat} {fi : Nat → Nat → Int32} {ai : Nat → Nat → Nat → Int32} {ar : Nat → Nat → Nat → Option Nat} {li : Nat → Nat → List Nat} {out : Int64} {rho : Nat → Nat → Int32}
theorem refs_of {D : DD} {S : OM} {ad : Ad} {H : Heap} {c i : Nat} (hm : MM D S ad H) (hl : S.1 c i = true) (hk : kd c = 3) : H[ad c i]? = some (vp_cell (D.2.1 (kA c)) (len c, .inr (.inr (.inr (.inr (fun j => (S.2.2.2.2.1 c i j).map (ad (tA c)))))))) := by
  have h := hm.1 c i hl
  unfold cOK at h
  rw [hk] at h
  exact h
theorem kA_lt (c : Nat) : kA c < 8 := by
  unfold kA
  split
  · omega
  · split <;> omega
theorem kA_3 {c : Nat} (hk : kd c = 3) (hc : c < 44) : c = 40 ∨ c = 41 ∨ c = 42 ∨ c = 43 := by
  have : 40 ≤ c := by
    unfold kd at hk
    repeat' split at hk
    all_goals (first | (simp at hk; done) | omega)
  omega
/-- a reference of a row -/
theorem wp_aald {c i : Nat} {j : Int32} {o : Option Nat} (hk : kd c = 3) (hc : c < 44) (hj : vp_in j (len c)) (hd : decode mi.2.1 pc = .ok (.aaload, 1)) (ho : ar c i j.toNatClampNeg = o)
    (h : WP mi d k (pc + 1) L (vO (tA c) o :: st) (lv, fr, fi, ai, ar, li, out, rho) Q QX) : WP mi d k pc L (vI j :: vR c i :: st) (lv, fr, fi, ai, ar, li, out, rho) Q QX := by
  subst ho
  intro p l e R s m args below meth cc D A lv0 ad0 hC H locs cells slots ls ad hD
  have hl := lv_of hD.lvs.2.1 (not71 (by omega))
  have hr := refs_of hD.1 hl hk
  have hlt : j.toNatClampNeg < len c := Nat.not_le.mp fun q => hj (Or.inr q)
  have hA := (hC.2.2.2.2.2.2.2.1.1.2 (kA c) _ (tys_at D (kA_lt c))).1 (len c) (fun q => va_rf ((ar c i q).map (ad (tA c))))
  have hty : (tyr (kA c)).isReference = true := by rcases kA_3 hk hc with rfl | rfl | rfl | rfl <;> rfl
  have hgo := h p l e R s m args below meth cc D A lv0 ad0 hC H locs cells slots ls ad (hD.stk ⟨?_, hD.lvs.2.2⟩)
  · rw [List.map_cons, tV_O] at hgo
    exact W.aald (v := va_rf ((ar c i j.toNatClampNeg).map (ad (tA c)))) (ty := tyr (kA c)) hC.1 hC.2.1 hr (by rw [vp_cell_q]; exact hA) hty (fun q => by cases q) (by rw [vp_cell_q, arrV_size]; exact hj) (by rw [vp_cell_q, arrV_read _ _ hlt]) rfl rfl hd hgo
  · cases ho : ar c i j.toNatClampNeg with
    | none => trivial
    | some x => exact Or.inl (hD.1.2.2.2.1 c i _ x hl hk hlt ho)
/-- an object is put into a row -/
theorem wp_aast {c i t : Nat} {j : Int32} {x : Nat} (hk : kd c = 3) (hc : c = 41 ∨ c = 42 ∨ c = 43) (ht : tA c = t) (hj : vp_in j (len c)) (hd : decode mi.2.1 pc = .ok (.aastore, 1))
    (h : WP mi d k (pc + 1) L st (lv, fr, fi, ai, up3 ar c i j.toNatClampNeg (some x), li, out, rho) Q QX) : WP mi d k pc L (vR t x :: vI j :: vR c i :: st) (lv, fr, fi, ai, ar, li, out, rho) Q QX := by
  intro p l e R s m args below meth cc D A lv0 ad0 hC H locs cells slots ls ad hD
  have hl := lv_of hD.lvs.2.2.1 (not71 (by omega))
  have ht10 : t < 10 := by subst ht; rcases hc with rfl | rfl | rfl <;> decide
  have hlx := lv_of hD.lvs.1 (show ¬ (71 ≤ t ∧ t < 75) by omega)
  have hr := refs_of hD.1 hl hk
  have hlt : j.toNatClampNeg < len c := Nat.not_le.mp fun q => hj (Or.inr q)
  have h0 : ¬ j < 0 := fun q => hj (Or.inl q)
  have hK := hC.2.2.2.2.2.2.2.1.1
  obtain ⟨cellV, g1, g2, g3, -⟩ := ob_of hD.1 hlx ht10
  have hcls := (hK.1 t _ (cls_at ht10)).2
  have hRA : ∃ (kA9 : Class) (comp : ClassId), s.vm.classes[D.2.1 (kA c)]? = some kA9 ∧ kA9.kind = .array comp (.object (cn t)) ∧ s.vm.findClass (cn t) = some comp := by
    have h9 := (hK.2 (kA c) _ (tys_at D (kA_lt c))).2
    subst ht
    rcases hc with rfl | rfl | rfl <;> (obtain ⟨a1, a2, a3, a4, a5, -⟩ := h9; exact ⟨a1, a2, a3, a4, a5⟩)
  obtain ⟨kA9, comp, k1, k2, k3⟩ := hRA
  have hcomp : comp = D.1.1 t := Option.some.inj (k3.symm.trans hcls.1)
  subst hcomp
  obtain ⟨kC, hkC, -⟩ := hcls.2
  refine W.aast hC.1 hC.2.1 hr (fun q h => by cases h) (fun h => by cases h) k1 k2 rfl hkC ⟨h0, by rw [vp_cell_q, arrV_size]; exact hlt⟩ g1 (fun q h => by rw [g3] at h; cases h) (by rw [g2]; exact hkC) (by rw [g2]; exact va_assign hcls) rfl rfl hd fun H1 e9 z oq => ?_
  have hm : MM D (lv, fr, fi, ai, up3 ar c i j.toNatClampNeg (some x), li, out, rho) ad H1 := by
    refine hD.1.write hl (Or.inl rfl) rfl oq ?_ (fun c' i' hl' hne h' => cOK_congr h' (fun _ _ _ => rfl) (fun _ => rfl) (fun _ => up3_o _ _ _ hne) (fun _ => rfl) (fun _ => rfl)) hD.1.2.2.1 (fun c' i' y j' h1 h2 h3 h4 => ?_) hD.1.2.2.2.2.1
    · unfold cOK
      rw [hk]
      show H1[ad c i]? = some (vp_cell _ (len c, .inr (.inr (.inr (.inr (fun q => (up3 ar c i j.toNatClampNeg (some x) c i q).map (ad (tA c))))))))
      rw [e9, vp_cell_q, vp_cell_q, arrV_store, up3_r]
      congr 2
      funext q
      by_cases hq : q = j.toNatClampNeg
      · subst hq
        simp [updV, va_up, va_rf, ht]
      · simp [updV, va_up, hq]
    · have h4' : up3 ar c i j.toNatClampNeg (some x) c' i' y = some j' := h4
      by_cases z : c' = c ∧ i' = i ∧ y = j.toNatClampNeg
      · rw [z.1, z.2.1, z.2.2, up3_s] at h4'
        cases h4'
        rw [z.1, ht]
        exact hlx
      · rw [up3_n _ _ z] at h4'
        exact hD.1.2.2.2.1 c' i' y j' h1 h2 h3 h4'
  exact h p l e R s m args below meth cc D A lv0 ad0 hC H1 _ cells slots ls ad (hD.wr hm rfl (hD.own1 hl) z oq hD.lvs.2.2.2)
/-- a new row of references -/
theorem wp_anew {c i x : Nat} {N : Int32} (hk : kd c = 3) (hc : c = 41 ∨ c = 42 ∨ c = 43) (hn : ¬ lv c i = true) (hN : ¬ N < 0) (hN2 : N.toNatClampNeg = len c) (hw : Cond.classLink mi.1.cls x (cn (tA c)) ∈ TW) (hao : ∀ s, KN s → va_AO (cn (tA c)) s) (hd : decode mi.2.1 pc = .ok (.anewarray x, 3))
    (h : WP mi d k (pc + 3) L (vR c i :: st) (up2 lv c i true, fr, fi, ai, up2 ar c i (fun _ => none), li, out, rho) Q QX) : WP mi d (k + 1) pc L (vI N :: st) (lv, fr, fi, ai, ar, li, out, rho) Q QX := by
  intro p l e R s m args below meth cc D A lv0 ad0 hC H locs cells slots ls ad hD
  have hts := hC.2.2.2.2.2.2.1
  have hb1 := hD.2.2.2.2.2.2.1
  have hb2 := hD.2.2.2.2.2.2.2
  have hlen : len c ≤ 7 := by rcases hc with rfl | rfl | rfl <;> decide
  have hc9 : kd c ≠ 9 := by rw [hk]; decide
  have hK := hC.2.2.2.2.2.2.2.1.1
  refine W.anew hC.1 hC.2.1 hC.2.2.2.2.2.1 (hts _ hw) (va_AO.use (hao s hC.2.2.2.2.2.2.2.1.2)) rfl hd rfl hN (by rw [hN2]; omega) (by omega) (by omega) fun cA kA9 comp f1 f2 f3 f4 => ?_
  have hcA : cA = D.2.1 (kA c) := by
    have h9 := (hK.2 (kA c) _ (tys_at D (kA_lt c))).2
    rcases hc with rfl | rfl | rfl <;> (obtain ⟨a1, a2, a3, a4, a5, a6⟩ := h9; exact Option.some.inj (f1.symm.trans a6))
  subst hcA
  generalize hH1 : H.push ({ cls := D.2.1 (kA c), slots := Array.replicate N.toNatClampNeg .null, vm := .none } : Cell) = H1
  have z1 : H1.size = H.size + 1 := by rw [← hH1, Array.size_push]
  have e1 : H1[H.size]? = some (arrV (D.2.1 (kA c)) (len c) (fun _ => .null)) := by rw [← hH1, Array.getElem?_push_size, ← arrV_new, hN2]
  have o1 : ∀ q : Nat, q < H.size → H1[q]? = H[q]? := fun q hq => by rw [← hH1, Array.getElem?_push, if_neg (Nat.ne_of_lt hq)]
  have hm := hD.1
  have hoA := adN_old (ad := ad) (a := H.size) hn
  have hoA2 : ∀ c' i', lv c' i' = true → kd c' = 4 → adN ad c i H.size (c' + 10) i' = ad (c' + 10) i' := fun c' i' h1 h2 => up2_n _ _ (fun z => by have := kd4 h2; omega)
  have hold : ∀ c' i', lv c' i' = true → cOK D (up2 lv c i true, fr, fi, ai, up2 ar c i (fun _ => none), li, out, rho) (adN ad c i H.size) H1 c' i' := fun c' i' hl' => by
    have hne : ¬ (c' = c ∧ i' = i) := fun z => hn (by rw [← z.1, ← z.2]; exact hl')
    exact cOK_move hm hl' o1 hoA (hoA2 c' i' hl') (fun _ _ _ => ⟨rfl, fun _ => rfl, fun _ _ => rfl⟩) (fun _ => rfl) (fun _ => up2_n ar _ hne) (fun _ => rfl) (fun _ => rfl)
  have hm' : MM D (up2 lv c i true, fr, fi, ai, up2 ar c i (fun _ => none), li, out, rho) (adN ad c i H.size) H1 := by
    have old : ∀ c' i', up2 lv c i true c' i' = true → ¬ (c' = c ∧ i' = i) → lv c' i' = true := fun c' i' h1 z => by rw [up2_n _ _ z] at h1; exact h1
    refine hm.grow hn hc9 o1 rfl hoA hoA2 (fun j hj => up2_n _ _ (fun z => by omega)) (up2_s _ _ _ _) (fun z => by rw [hk] at z; cases z) ?_ hold (fun z => by omega) (fun c' i' y t j h1 h2 h3 h4 h5 => ?_) (fun c' i' y j h1 h2 h3 h4 => ?_) (fun c' i' j h1 h2 h3 => ?_)
    · have e2 : adN ad c i H.size c i = H.size := up2_s _ _ _ _
      unfold cOK
      rw [hk]
      show H1[adN ad c i H.size c i]? = some (vp_cell _ (len c, .inr (.inr (.inr (.inr (fun q => (up2 ar c i (fun _ => none) c i q).map (adN ad c i H.size (tA c))))))))
      rw [e2, e1, up2_s, vp_cell_q]
      rfl
    · exact hm.2.2.1 c' i' y t j (old c' i' h1 (fun z => by rw [z.1, hk] at h2; cases h2)) h2 h3 h4 h5
    · have h4' : up2 ar c i (fun _ => none) c' i' y = some j := h4
      by_cases z : c' = c ∧ i' = i
      · rw [z.1, z.2, up2_s] at h4'
        cases h4'
      · rw [up2_n ar _ z] at h4'
        exact hm.2.2.2.1 c' i' y j (old c' i' h1 z) h2 h3 h4'
    · exact hm.2.2.2.2.1 c' i' j (old c' i' h1 (fun z => by rw [z.1, hk] at h2; cases h2)) h2 h3
  have hE : Ext D lv ad (up2 lv c i true) (adN ad c i H.size) := Ext_grow hoA
  have hst := map_ext hE hm hm' hD.lvs.2
  have hgo := h p l e R s m args below meth cc D A lv0 ad0 hC H1 locs (cells + 1) (slots + N.toNatClampNeg) ls (adN ad c i H.size) (hD.gr hC.2.2.2.2.2.2.2.2.2.2.2.2.2.1 hm' hE (lvx_grow hoA hoA2 (up2_s _ _ _ _) (fun z => by rw [hk] at z; cases z)) (by omega) o1 ⟨Or.inl (up2_s _ _ _ _), LvS_ext hE hD.lvs.2⟩ (by omega) (by omega))
  rw [List.map_cons, hst] at hgo
  have e2 : tV (adN ad c i H.size) (vR c i) = .ref H.size := congrArg Value.ref (up2_s ad c i H.size)
  rw [e2] at hgo
  exact hgo
/-- checkcast of an object of that very class, and of null -/
theorem wp_cast {c i x : Nat} (hc : c < 10) (hw : Cond.classLink mi.1.cls x (cn c) ∈ TW) (hd : decode mi.2.1 pc = .ok (.checkcast x, 3))
    (h : WP mi d k (pc + 3) L (vR c i :: st) (lv, fr, fi, ai, ar, li, out, rho) Q QX) : WP mi d k pc L (vR c i :: st) (lv, fr, fi, ai, ar, li, out, rho) Q QX := by
  intro p l e R s m args below meth cc D A lv0 ad0 hC H locs cells slots ls ad hD
  have hl := lv_of hD.lvs.1 (show ¬ (71 ≤ c ∧ c < 75) by omega)
  exact va_castS hC.1 hC.2.1 hC.2.2.2.2.2.1 (hC.2.2.2.2.2.2.1 _ hw) (hC.2.2.2.2.2.2.2.1.1.1 c _ (cls_at hc)).2 (recv9 hC.2.2.2.2.2.2.2.1 hD.1 hl hc) hd (h p l e R s m args below meth cc D A lv0 ad0 hC H locs cells slots ls ad hD)
/-- the class's static rows -/
theorem wp_gets {j x : Nat} (hj : j < 3) (hw : Cond.fieldLink mi.1.cls x "BrambleMesh" (polN j) "[I" ∈ TW) (hd : decode mi.2.1 pc = .ok (.getstatic x, 3))
    (h : WP mi d k (pc + 3) L (vR (71 + j) 0 :: st) (lv, fr, fi, ai, ar, li, out, rho) Q QX) : WP mi d k pc L st (lv, fr, fi, ai, ar, li, out, rho) Q QX := by
  intro p l e R s m args below meth cc D A lv0 ad0 hC H locs cells slots ls ad hD
  have hS := hC.2.2.2.2.2.2.2.2.2.2.2.2.2.2.1.2.2.1 j hj
  have hgo := h p l e R s m args below meth cc D A lv0 ad0 hC H locs cells slots ls ad (hD.stk ⟨Or.inr ⟨Nat.le_add_right _ _, by show 71 + j < 75; omega, rfl⟩, hD.lvs⟩)
  have e9 : tV ad (vR (71 + j) 0) = .ref (D.2.2.2 j) := congrArg Value.ref (hD.1.2.2.2.2.2.1 j (by omega))
  rw [List.map_cons, e9] at hgo
  exact va_gets hC.1 hC.2.1 hS.1 hD.2.2.1 hC.2.2.2.2.2.1 (hC.2.2.2.2.2.2.1 _ hw) (fun _ q => q) hd hgo
theorem wp_ialdS {j : Nat} {y : Int32} (hj : j < 3) (hy : vp_in y 3) (hd : decode mi.2.1 pc = .ok (.iaload, 1))
    (h : WP mi d k (pc + 1) L (vI (polV j y.toNatClampNeg) :: st) (lv, fr, fi, ai, ar, li, out, rho) Q QX) : WP mi d k pc L (vI y :: vR (71 + j) 0 :: st) (lv, fr, fi, ai, ar, li, out, rho) Q QX := by
  intro p l e R s m args below meth cc D A lv0 ad0 hC H locs cells slots ls ad hD
  have hS := hC.2.2.2.2.2.2.2.2.2.2.2.2.2.2.1.2.2.1 j hj
  have hgo := h p l e R s m args below meth cc D A lv0 ad0 hC H locs cells slots ls ad (hD.stk ⟨trivial, hD.lvs.2.2⟩)
  have e9 : tV ad (vR (71 + j) 0) = .ref (D.2.2.2 j) := congrArg Value.ref (hD.1.2.2.2.2.2.1 j (by omega))
  rw [List.map_cons, List.map_cons, e9]
  exact va_ti hC.1 hC.2.1 hS.2 hD.2.2.1 hy rfl hd hgo
/-- Math.min, Math.max -/
theorem wp_mmin {x : Nat} {a b : Int32} (hw : Cond.methodLink mi.1.cls x Lib.Math.min.name ∈ TW) (hw2 : Cond.static Lib.Math.min.name ∈ TW) (hw3 : Cond.initialized "java/lang/Math" ∈ TW) (hw4 : Cond.code Lib.Math.min.name Lib.Math.min.code 2 (some .int) ∈ TW) (hd : decode mi.2.1 pc = .ok (.invokestatic x, 3)) (hdd : 1 ≤ d) (hr : st.length ≤ 4)
    (h : WP mi d k (pc + 3) L (vI (if b < a then b else a) :: st) (lv, fr, fi, ai, ar, li, out, rho) Q QX) : WP mi d k pc L (vI b :: vI a :: st) (lv, fr, fi, ai, ar, li, out, rho) Q QX := by
  intro p l e R s m args below meth cc D A lv0 ad0 hC H locs cells slots ls ad hD
  have hts := hC.2.2.2.2.2.2.1
  have hf1 := hC.2.2.2.2.2.2.2.2.2.2.2.1
  have hf2 := hC.2.2.2.2.2.2.2.2.2.2.2.2.1
  have hb1 := hD.2.2.2.2.2.2.1
  have hb2 := hD.2.2.2.2.2.2.2
  have hrc := rest_cat ad (rest := st)
  exact va_mmin hC.1 hC.2.1 (hC.2.2.2.2.1.trans hD.lh.1.symm) hC.2.2.2.2.2.1 (hts _ hw) (hts _ hw2) (hts _ hw3) (hts _ hw4) (by omega) (by omega) (by omega) (by omega) hd (h p l e R s m args below meth cc D A lv0 ad0 hC H locs cells slots ls ad (hD.stk ⟨trivial, hD.lvs.2.2⟩))
theorem wp_mmax {x : Nat} {a b : Int32} (hw : Cond.methodLink mi.1.cls x Lib.Math.max.name ∈ TW) (hw2 : Cond.static Lib.Math.max.name ∈ TW) (hw3 : Cond.initialized "java/lang/Math" ∈ TW) (hw4 : Cond.code Lib.Math.max.name Lib.Math.max.code 2 (some .int) ∈ TW) (hd : decode mi.2.1 pc = .ok (.invokestatic x, 3)) (hdd : 1 ≤ d) (hr : st.length ≤ 4)
    (h : WP mi d k (pc + 3) L (vI (if a < b then b else a) :: st) (lv, fr, fi, ai, ar, li, out, rho) Q QX) : WP mi d k pc L (vI b :: vI a :: st) (lv, fr, fi, ai, ar, li, out, rho) Q QX := by
  intro p l e R s m args below meth cc D A lv0 ad0 hC H locs cells slots ls ad hD
  have hts := hC.2.2.2.2.2.2.1
  have hf1 := hC.2.2.2.2.2.2.2.2.2.2.2.1
  have hf2 := hC.2.2.2.2.2.2.2.2.2.2.2.2.1
  have hb1 := hD.2.2.2.2.2.2.1
  have hb2 := hD.2.2.2.2.2.2.2
  have hrc := rest_cat ad (rest := st)
  exact va_mmax hC.1 hC.2.1 (hC.2.2.2.2.1.trans hD.lh.1.symm) hC.2.2.2.2.2.1 (hts _ hw) (hts _ hw2) (hts _ hw3) (hts _ hw4) (by omega) (by omega) (by omega) (by omega) hd (h p l e R s m args below meth cc D A lv0 ad0 hC H locs cells slots ls ad (hD.stk ⟨trivial, hD.lvs.2.2⟩))
/-- the law's script -/
theorem wp_sld {N : Nat} {xs : Nat → Int32} {y : Int32} (hs : mi.2.2.2.2.2 = some (N, xs)) (hy : vp_in y N) (hd : decode mi.2.1 pc = .ok (.iaload, 1))
    (h : WP mi d k (pc + 1) L (vI (xs y.toNatClampNeg) :: st) (lv, fr, fi, ai, ar, li, out, rho) Q QX) : WP mi d k pc L (vI y :: vR 74 0 :: st) (lv, fr, fi, ai, ar, li, out, rho) Q QX := by
  intro p l e R s m args below meth cc D A lv0 ad0 hC H locs cells slots ls ad hD
  obtain ⟨hX, hbl, hbA⟩ := hC.2.2.2.2.2.2.2.2.2.2.2.2.2.2.2 N xs hs
  have hgo := h p l e R s m args below meth cc D A lv0 ad0 hC H locs cells slots ls ad (hD.stk ⟨trivial, hD.lvs.2.2⟩)
  have e9 : tV ad (vR 74 0) = .ref (D.2.2.2 3) := congrArg Value.ref (hD.1.2.2.2.2.2.1 3 (by omega))
  rw [List.map_cons, List.map_cons, e9]
  exact va_sld hC.1 hC.2.1 hX hbl hbA hD.2.2.1 hy hd hgo
theorem wp_slen {N : Nat} {xs : Nat → Int32} (hs : mi.2.2.2.2.2 = some (N, xs)) (hd : decode mi.2.1 pc = .ok (.arraylength, 1))
    (h : WP mi d k (pc + 1) L (vI (Int32.ofNat N) :: st) (lv, fr, fi, ai, ar, li, out, rho) Q QX) : WP mi d k pc L (vR 74 0 :: st) (lv, fr, fi, ai, ar, li, out, rho) Q QX := by
  intro p l e R s m args below meth cc D A lv0 ad0 hC H locs cells slots ls ad hD
  obtain ⟨hX, hbl, hbA⟩ := hC.2.2.2.2.2.2.2.2.2.2.2.2.2.2.2 N xs hs
  have hgo := h p l e R s m args below meth cc D A lv0 ad0 hC H locs cells slots ls ad (hD.stk ⟨trivial, hD.lvs.2⟩)
  have e9 : tV ad (vR 74 0) = .ref (D.2.2.2 3) := congrArg Value.ref (hD.1.2.2.2.2.2.1 3 (by omega))
  rw [List.map_cons, e9]
  exact va_slen hC.1 hC.2.1 hX hbl hbA hD.2.2.1 hd hgo
end WPQ
