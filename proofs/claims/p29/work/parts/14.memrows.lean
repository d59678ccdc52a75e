theorem kd_of {c : Nat} (h : c < 10) : kd c = 0 := by unfold kd; rw [if_pos h]
theorem lv_of {lv : Nat → Nat → Bool} {c i : Nat} (h : LvV lv (vR c i)) (hc : ¬ (71 ≤ c ∧ c < 75)) : lv c i = true := h.elim id (fun q => absurd ⟨q.1, q.2.1⟩ hc)
theorem ob_of {D : DD} {S : OM} {ad : Ad} {H : Heap} {c i : Nat} (hm : MM D S ad H) (hl : S.1 c i = true) (hc : c < 10) : t_OB (ad c i) (D.1.1 c) (nF c) (D.1.2 c) H (fV ad S.2.2.2.2.2.2.2 S.2.1 S.2.2.1 c i) := by
  have h := hm.1 c i hl
  unfold cOK at h
  rw [kd_of hc] at h
  exact h
theorem Dyn.own1 {D : DD} {A : Nat → Prop} {lv0 : Nat → Nat → Bool} {ad0 : Ad} {s : State} {R : Room} {n k : Nat} {L : List (Option sV)} {st : List sV} {S : OM} {H : Heap} {locs : List Loc} {cells slots : Nat} {ls : Array Slot} {ad : Ad}
    (h : Dyn D A lv0 ad0 s R n k L st S H locs cells slots ls ad) {c i : Nat} (hl : S.1 c i = true) : A (ad c i) := h.2.1 _ ⟨c, i, Or.inl hl, rfl⟩
/-- behind a write that leaves the live cells -/
theorem Dyn.wr {D : DD} {A : Nat → Prop} {lv0 : Nat → Nat → Bool} {ad0 : Ad} {s : State} {R : Room} {n k : Nat} {L : List (Option sV)} {st st' : List sV} {S S' : OM} {H H1 : Heap} {locs : List Loc} {cells slots : Nat} {ls : Array Slot} {ad : Ad} {a j : Nat}
    (h : Dyn D A lv0 ad0 s R n k L st S H locs cells slots ls ad) (hm : MM D S' ad H1) (hlv : S'.1 = S.1) (hA : A a) (z : H1.size = H.size) (oq : ∀ q : Nat, q ≠ a → H1[q]? = H[q]?) (hs : LvS S.1 st') : Dyn D A lv0 ad0 s R n k L st' S' H1 (locs ++ [⟨a, j⟩]) cells slots ls ad :=
  ⟨hm, by rw [hlv]; exact h.2.1, h.2.2.1.put z oq hA, by rw [hlv]; exact h.2.2.2.1, by rw [hlv]; exact hs, by rw [hlv]; exact h.2.2.2.2.2.1, h.2.2.2.2.2.2⟩
section WPM
variable {mi : MI} {d k pc : Nat} {L L' : List (Option sV)} {st : List sV} {Q : Option sV → OM → Prop} {QX : String → OM → Prop} {lv : Nat → Nat → Bool} {fr : Nat → Nat → Option Nat} {fi : Nat → Nat → Int32} {ai : Nat → Nat → Nat → Int32} {ar : Nat → Nat → Nat → Option Nat} {li : Nat → Nat → List Nat} {out : Int64} {rho : Nat → Nat → Int32}
theorem wp_getf {S : OM} {c i y x : Nat} {v : sV} (hc : c < 10) (hy : y < nF c) (hw : Cond.fieldLink mi.1.cls x (cT c y).1 (cT c y).2.1 (cT c y).2.2.1 ∈ TW) (hd : decode mi.2.1 pc = .ok (.getfield x, 3)) (hv : ∀ ad : Ad, fV ad S.2.2.2.2.2.2.2 S.2.1 S.2.2.1 c i y = tV ad v) (hlv : S.1 c i = true → LvV S.1 v ∨ ∃ t : Nat, tg c y = t + 1 ∧ v = vO t (S.2.1 (128 * c + y) i))
    (h : WP mi d k (pc + 3) L (v :: st) S Q QX) : WP mi d k pc L (vR c i :: st) S Q QX := by
  intro p l e R s m args below meth cc D A lv0 ad0 hC H locs cells slots ls ad hD
  have hl := lv_of hD.lvs.1 (by omega)
  obtain ⟨cell, q1, q2, q3, q4⟩ := ob_of hD.1 hl hc
  obtain ⟨hS, hfc, kC, hkC, hkind⟩ := hC.2.2.2.2.2.2.2.1.1.1 c _ (cls_at hc)
  obtain ⟨cf, kf, fi', f, hi, hsl⟩ := hS y hy
  have hvl : LvV S.1 v := by
    rcases hlv hl with z | ⟨t, z1, z2⟩
    · exact z
    · subst z2
      cases ho : S.2.1 (128 * c + y) i with
      | none => trivial
      | some o => exact Or.inl (hD.1.2.2.1 c i y t o hl (kd_of hc) hy z1 ho)
  refine W.getf hC.1 hC.2.1 hC.2.2.2.2.2.1 (hC.2.2.2.2.2.2.1 _ hw) hi (u_facts hfc hkC (u_lays hC.2.2.2.2.2.2.1 (cW_ok hc) hy) hi).1 q1 (by rw [q3]; exact fun h => by cases h) (v := tV ad v) ?_ rfl rfl hd (h p l e R s m args below meth cc D A lv0 ad0 hC H locs cells slots ls ad (hD.stk ⟨hvl, hD.lvs.2⟩))
  rw [hsl, q4 y hy, hv ad]
theorem wp_getI {c i y x f : Nat} (hc : c < 9) (hy : y < nF c) (ht : tg c y = 0) (hf : 128 * c + y = f) (hw : Cond.fieldLink mi.1.cls x (cT c y).1 (cT c y).2.1 (cT c y).2.2.1 ∈ TW) (hd : decode mi.2.1 pc = .ok (.getfield x, 3))
    (h : WP mi d k (pc + 3) L (vI (fi f i) :: st) (lv, fr, fi, ai, ar, li, out, rho) Q QX) : WP mi d k pc L (vR c i :: st) (lv, fr, fi, ai, ar, li, out, rho) Q QX := by
  subst hf
  refine wp_getf (v := vI (fi (128 * c + y) i)) (by omega) hy hw hd (fun ad => ?_) (fun _ => Or.inl trivial) h
  unfold fV
  rw [ht]
  show Value.int (if c = 9 then _ else _) = _
  rw [if_neg (by omega)]
  rfl
theorem wp_getR {c i y x f t : Nat} {o : Option Nat} (hc : c < 10) (hy : y < nF c) (ht : tg c y = t + 1) (hf : 128 * c + y = f) (hw : Cond.fieldLink mi.1.cls x (cT c y).1 (cT c y).2.1 (cT c y).2.2.1 ∈ TW) (hd : decode mi.2.1 pc = .ok (.getfield x, 3)) (ho : fr f i = o)
    (h : WP mi d k (pc + 3) L (vO t o :: st) (lv, fr, fi, ai, ar, li, out, rho) Q QX) : WP mi d k pc L (vR c i :: st) (lv, fr, fi, ai, ar, li, out, rho) Q QX := by
  subst hf
  subst ho
  refine wp_getf hc hy hw hd (fun ad => ?_) (fun _ => Or.inr ⟨t, ht, rfl⟩) h
  unfold fV
  rw [ht, tV_O]
/-- a field is written -/
theorem wp_put9 {S S' : OM} {c i y x : Nat} {v : sV} (hc : c < 10) (hy : y < nF c) (hfin : (cT c y).2.2.2 = false ∨ (mi.1.name = "<init>" ∧ (cT c y).1 = mi.1.cls)) (hw : Cond.fieldLink mi.1.cls x (cT c y).1 (cT c y).2.1 (cT c y).2.2.1 ∈ TW) (hd : decode mi.2.1 pc = .ok (.putfield x, 3))
    (hn : ∀ ad : Ad, narrow (cY c y) (tV ad v) = tV ad v) (hft : ∀ ad : Ad, fits (cY c y) (tV ad v) = true) (hlv : S'.1 = S.1)
    (hm : ∀ (D : DD) (ad : Ad) (H H1 : Heap), MM D S ad H → S.1 c i = true → LvV S.1 v → t_OB (ad c i) (D.1.1 c) (nF c) (D.1.2 c) H1 (updV (fV ad S.2.2.2.2.2.2.2 S.2.1 S.2.2.1 c i) y (tV ad v)) → (∀ q : Nat, q ≠ ad c i → H1[q]? = H[q]?) → MM D S' ad H1)
    (h : WP mi d k (pc + 3) L st S' Q QX) : WP mi d k pc L (v :: vR c i :: st) S Q QX := by
  intro p l e R s m args below meth cc D A lv0 ad0 hC H locs cells slots ls ad hD
  have hl := lv_of hD.lvs.2.1 (by omega)
  have hts := hC.2.2.2.2.2.2.1
  have hap := va_apart (own := mi.1.cls) hts (cW_ok hc) (cY c) (cY_ok hc) (cN_ok hc) hC.2.2.2.2.2.2.2.1.1 (cls_at hc)
  obtain ⟨cell, q1, q2, q3, q4⟩ := ob_of hD.1 hl hc
  obtain ⟨hS, hfc, kC, hkC, hkind⟩ := hC.2.2.2.2.2.2.2.1.1.1 c _ (cls_at hc)
  obtain ⟨cf, kf, fi', f, hi, hsl⟩ := hS y hy
  have hlay := hts _ (cW_ok hc _ (u_in_lay hy))
  have hst := (u_facts hfc hkC (u_lays hts (cW_ok hc) hy) hi).1
  have fin : ∀ H' : Heap, H'[ad c i]? = some (cell.setSlot f.slot (tV ad v)) → H'.size = H.size → (∀ q : Nat, q ≠ ad c i → H'[q]? = H[q]?) → W p l e R s m args below meth cc H' (locs ++ [⟨ad c i, f.slot⟩]) cells slots (vx_MQ below (Qn Q D A lv0 ad0) (Xn QX D A lv0 ad0) args s R.cells R.slots A) (F0 m (pc + 3) ls (st.map (tV ad))) := by
    intro H' e1 e2 e3
    rw [hsl] at e1
    have hob : t_OB (ad c i) (D.1.1 c) (nF c) (D.1.2 c) H' (updV (fV ad S.2.2.2.2.2.2.2 S.2.1 S.2.2.1 c i) y (tV ad v)) := ⟨_, e1, q2, q3, t_set q4 hap hy (tV ad v)⟩
    exact h p l e R s m args below meth cc D A lv0 ad0 hC H' _ cells slots ls ad (hD.wr (hm D ad H H' hD.1 hl hD.lvs.1 hob e3) hlv (hD.own1 hl) e2 e3 hD.lvs.2.2)
  cases hb : (cT c y).2.2.2 with
  | false =>
    unfold u_lay at hlay
    rw [if_neg (by rw [hb]; decide)] at hlay
    have h6 := u_store hfc hkC hkind hlay hi (cY_ok hc y hy) (hn ad) (hft ad)
    exact W.putK hC.1 hC.2.1 (f := f) ⟨hC.2.2.2.2.2.1, hts _ hw, ⟨_, _, _, hi⟩, hst⟩ (by rw [q2]; exact h6) q1 q3 (by rw [hsl]; exact k2_hasslot (q4 y hy)) rfl rfl hd fin
  | true =>
    rcases hfin with z | ⟨z1, z2⟩
    · rw [hb] at z; cases z
    · unfold u_lay at hlay
      rw [if_pos hb] at hlay
      have hcf : m.cls = cf := by
        obtain ⟨_, _, c', _, _, _, -, -, hf', -, -, -, hown2, -⟩ := Cond.laysFinal_spec hlay
        have e1 : c' = cf := by have := hi.symm.trans hf'; simp at this; exact this.1.symm
        rw [z2] at hown2
        rw [← e1]; exact Option.some.inj (hC.2.2.2.2.2.1.symm.trans hown2)
      have h6 := u_fits hfc hkC hkind (Or.inr hlay) hi (cY_ok hc y hy) (hn ad) (hft ad)
      exact W.putFinK hC.1 hC.2.1 hC.2.2.2.2.2.1 (hts _ hw) hi hst hcf (hC.2.2.2.2.2.2.2.2.2.2.1.trans z1) (by rw [q2]; exact h6) q1 q3 (by rw [hsl]; exact k2_hasslot (q4 y hy)) rfl rfl hd fin
theorem fV_fi {ad : Ad} {rho : Nat → Nat → Int32} {fr : Nat → Nat → Option Nat} {fi : Nat → Nat → Int32} {c i y c' i' y' : Nat} {v : Int32} (h : ¬ (128 * c' + y' = 128 * c + y ∧ i' = i)) : fV ad rho fr (up2 fi (128 * c + y) i v) c' i' y' = fV ad rho fr fi c' i' y' := by
  unfold fV
  split
  · rw [up2_n _ _ h]
  · rfl
theorem fV_fr {ad : Ad} {rho : Nat → Nat → Int32} {fr : Nat → Nat → Option Nat} {fi : Nat → Nat → Int32} {c i y c' i' y' : Nat} {v : Option Nat} (h : ¬ (128 * c' + y' = 128 * c + y ∧ i' = i)) : fV ad rho (up2 fr (128 * c + y) i v) fi c' i' y' = fV ad rho fr fi c' i' y' := by
  unfold fV
  split
  · rfl
  · rw [up2_n _ _ h]
theorem fV_rho {ad : Ad} {rho : Nat → Nat → Int32} {fr : Nat → Nat → Option Nat} {fi : Nat → Nat → Int32} {y c' i' y' j : Nat} {v : Int32} (h : ¬ (c' = 9 ∧ y' = y ∧ tg c' y' = 0)) : fV ad (up2 rho y j v) fr fi c' i' y' = fV ad rho fr fi c' i' y' := by
  unfold fV
  split
  next ht =>
    by_cases hc : c' = 9
    · rw [if_pos hc, if_pos hc]
      by_cases hy : y' = y
      · exact absurd ⟨hc, hy, ht⟩ h
      · rw [up2_f _ _ _ _ hy]
    · rw [if_neg hc, if_neg hc]
  · rfl
theorem wp_putI9 {c i y x f : Nat} {v : Int32} (hc : c < 9) (hy : y < nF c) (ht : tg c y = 0) (hf : 128 * c + y = f) (hfin : (cT c y).2.2.2 = false ∨ (mi.1.name = "<init>" ∧ (cT c y).1 = mi.1.cls)) (hw : Cond.fieldLink mi.1.cls x (cT c y).1 (cT c y).2.1 (cT c y).2.2.1 ∈ TW) (hd : decode mi.2.1 pc = .ok (.putfield x, 3)) (hn : narrow (cY c y) (.int v) = .int v) (hft : fits (cY c y) (.int v) = true)
    (h : WP mi d k (pc + 3) L st (lv, fr, up2 fi f i v, ai, ar, li, out, rho) Q QX) : WP mi d k pc L (vI v :: vR c i :: st) (lv, fr, fi, ai, ar, li, out, rho) Q QX := by
  subst hf
  refine wp_put9 (S' := (lv, fr, up2 fi (128 * c + y) i v, ai, ar, li, out, rho)) (by omega) hy hfin hw hd (fun _ => hn) (fun _ => hft) rfl (fun D ad H H1 hm hl _ hob oq => ?_) h
  have hnl := nF_lt (c := c) (by omega)
  refine hm.write hl (Or.inl rfl) rfl oq ?_ (fun c' i' hl' hne h' => cOK_congr h' (fun hk y' hy' => fV_fi (fun z => hne ⟨by have := nF_lt (kd0 hk); omega, z.2⟩)) (fun _ => rfl) (fun _ => rfl) (fun _ => rfl) (fun _ => rfl)) hm.2.2.1 hm.2.2.2.1 hm.2.2.2.2.1
  unfold cOK
  rw [kd_of (show c < 10 by omega)]
  refine t_OB.to hob (fun y' hy' => ?_)
  by_cases hyy : y' = y
  · subst hyy
    have e : fV ad rho fr (up2 fi (128 * c + y') i v) c i y' = .int v := by
      unfold fV
      rw [ht]
      show Value.int (if c = 9 then _ else up2 fi (128 * c + y') i v (128 * c + y') i) = _
      rw [if_neg (by omega), up2_s]
    show updV _ y' _ y' = fV ad rho fr (up2 fi (128 * c + y') i v) c i y'
    rw [e]
    simp [updV, tV]
  · rw [fV_fi (fun z => hyy (by omega))]
    simp [updV, hyy]
theorem wp_putI {c i y x f : Nat} {v : Int32} (hc : c < 9) (hy : y < nF c) (ht : tg c y = 0) (hf : 128 * c + y = f) (hfin : (cT c y).2.2.2 = false ∨ (mi.1.name = "<init>" ∧ (cT c y).1 = mi.1.cls)) (hw : Cond.fieldLink mi.1.cls x (cT c y).1 (cT c y).2.1 (cT c y).2.2.1 ∈ TW) (hd : decode mi.2.1 pc = .ok (.putfield x, 3)) (hY : cY c y = .int)
    (h : WP mi d k (pc + 3) L st (lv, fr, up2 fi f i v, ai, ar, li, out, rho) Q QX) : WP mi d k pc L (vI v :: vR c i :: st) (lv, fr, fi, ai, ar, li, out, rho) Q QX := wp_putI9 hc hy ht hf hfin hw hd (by rw [hY]; rfl) (by rw [hY]; rfl) h
theorem wp_putB {c i y x f : Nat} {v : Int32} (hc : c < 9) (hy : y < nF c) (ht : tg c y = 0) (hf : 128 * c + y = f) (hfin : (cT c y).2.2.2 = false ∨ (mi.1.name = "<init>" ∧ (cT c y).1 = mi.1.cls)) (hw : Cond.fieldLink mi.1.cls x (cT c y).1 (cT c y).2.1 (cT c y).2.2.1 ∈ TW) (hd : decode mi.2.1 pc = .ok (.putfield x, 3)) (hY : cY c y = .boolean) (hv : v = 0 ∨ v = 1)
    (h : WP mi d k (pc + 3) L st (lv, fr, up2 fi f i v, ai, ar, li, out, rho) Q QX) : WP mi d k pc L (vI v :: vR c i :: st) (lv, fr, fi, ai, ar, li, out, rho) Q QX := wp_putI9 hc hy ht hf hfin hw hd (by rw [hY]; rcases hv with rfl | rfl <;> rfl) (by rw [hY]; rcases hv with rfl | rfl <;> rfl) h
theorem wp_putR {c i y x f t : Nat} {o : Option Nat} (hc : c < 10) (hy : y < nF c) (ht : tg c y = t + 1) (hf : 128 * c + y = f) (hfin : (cT c y).2.2.2 = false ∨ (mi.1.name = "<init>" ∧ (cT c y).1 = mi.1.cls)) (hw : Cond.fieldLink mi.1.cls x (cT c y).1 (cT c y).2.1 (cT c y).2.2.1 ∈ TW) (hd : decode mi.2.1 pc = .ok (.putfield x, 3)) (hn : ∀ v : Value, narrow (cY c y) v = v) (hft : fits (cY c y) .null = true) (hft2 : ∀ a : Nat, fits (cY c y) (.ref a) = true)
    (h : WP mi d k (pc + 3) L st (lv, up2 fr f i o, fi, ai, ar, li, out, rho) Q QX) (h71 : ¬ (71 ≤ t ∧ t < 75)) : WP mi d k pc L (vO t o :: vR c i :: st) (lv, fr, fi, ai, ar, li, out, rho) Q QX := by
  subst hf
  refine wp_put9 (S' := (lv, up2 fr (128 * c + y) i o, fi, ai, ar, li, out, rho)) hc hy hfin hw hd (fun _ => hn _) (fun ad => by cases o with | none => exact hft | some q => exact hft2 _) rfl (fun D ad H H1 hm hl hlo hob oq => ?_) h
  have hnl := nF_lt hc
  refine hm.write hl (Or.inl rfl) rfl oq ?_ (fun c' i' hl' hne h' => cOK_congr h' (fun hk y' hy' => fV_fr (fun z => hne ⟨by have := nF_lt (kd0 hk); omega, z.2⟩)) (fun _ => rfl) (fun _ => rfl) (fun _ => rfl) (fun _ => rfl)) (fun c' i' y' t' j' h1 h2 h3 h4 h5 => ?_) hm.2.2.2.1 hm.2.2.2.2.1
  · unfold cOK
    rw [kd_of hc]
    refine t_OB.to hob (fun y' hy' => ?_)
    by_cases hyy : y' = y
    · subst hyy
      unfold fV
      rw [ht]
      show updV _ y' _ y' = va_rf ((up2 fr (128 * c + y') i o (128 * c + y') i).map (ad t))
      rw [up2_s, ← tV_O]
      simp [updV]
    · rw [fV_fr (fun z => hyy (by omega))]
      simp [updV, hyy]
  · by_cases hs : 128 * c' + y' = 128 * c + y ∧ i' = i
    · have hcc := nF_lt (kd0 h2)
      obtain ⟨e1, e2⟩ := fc_inj (by omega) (by omega) hs.1
      obtain ⟨-, e3⟩ := hs
      subst e1; subst e2; subst e3
      have h5' : up2 fr (128 * c' + y') i' o (128 * c' + y') i' = some j' := h5
      rw [up2_s] at h5'
      subst h5'
      have e4 : t = t' := by have := ht.symm.trans h4; omega
      subst e4
      exact lv_of hlo h71
    · have h5' : up2 fr (128 * c + y) i o (128 * c' + y') i' = some j' := h5
      rw [up2_n _ _ hs] at h5'
      exact hm.2.2.1 c' i' y' t' j' h1 h2 h3 h4 h5'
theorem tys_at (D : DD) {t : Nat} (h : t < 8) : (tysD D)[t]? = some (D.2.1 t, tyr t) := by
  unfold tysD
  rw [List.getElem?_map, List.getElem?_range h]
  rfl
theorem row_of {D : DD} {S : OM} {ad : Ad} {H : Heap} {c i : Nat} (hm : MM D S ad H) (hl : S.1 c i = true) (hk : kd c = 1 ∨ kd c = 2) : H[ad c i]? = some (vp_cell (D.2.1 (kA c)) (len c, .inl (aI S.2.2.2.2.2.2.2 S.2.2.2.1 c i))) := by
  have h := hm.1 c i hl
  unfold cOK at h
  rcases hk with hk | hk <;> (rw [hk] at h; exact h)
theorem kA_1 {c : Nat} (hk : kd c = 1) : kA c = 0 := by
  have hc : c ≠ 40 ∧ c ≠ 41 ∧ c ≠ 42 ∧ c ≠ 43 ∧ c ≠ 70 := by
    refine ⟨?_, ?_, ?_, ?_, ?_⟩ <;> (rintro rfl; revert hk; decide)
  unfold kA
  rw [hk]
  simp
  split <;> simp_all
theorem kA_2 {c : Nat} (hk : kd c = 2) : kA c = 1 := by
  unfold kA
  rw [hk]
  rfl
theorem not71 {c : Nat} (hk : kd c = 1 ∨ kd c = 2 ∨ kd c = 3) : ¬ (71 ≤ c ∧ c < 75) := by
  rintro ⟨h1, h2⟩
  have : c = 71 ∨ c = 72 ∨ c = 73 ∨ c = 74 := by omega
  rcases this with rfl | rfl | rfl | rfl <;> (revert hk; decide)
theorem upd_va (f : Nat → Int32) (k : Nat) (x : Int32) : upd f k x = va_up f k x := by
  funext j
  simp [upd, va_up]
/-- an int of a row -/
theorem wp_ald9 {S : OM} {c i : Nat} {j : Int32} (hk : kd c = 1 ∨ kd c = 2) (hj : vp_in j (len c)) (hd : (kd c = 1 ∧ decode mi.2.1 pc = .ok (.iaload, 1)) ∨ (kd c = 2 ∧ decode mi.2.1 pc = .ok (.baload, 1)))
    (h : WP mi d k (pc + 1) L (vI (aI S.2.2.2.2.2.2.2 S.2.2.2.1 c i j.toNatClampNeg) :: st) S Q QX) : WP mi d k pc L (vI j :: vR c i :: st) S Q QX := by
  intro p l e R s m args below meth cc D A lv0 ad0 hC H locs cells slots ls ad hD
  have hl := lv_of hD.lvs.2.1 (not71 (by omega))
  have hr := row_of hD.1 hl hk
  have hlt : j.toNatClampNeg < len c := Nat.not_le.mp fun q => hj (Or.inr q)
  have hin : ¬ (j < 0 ∨ (vp_cell (D.2.1 (kA c)) (len c, .inl (aI S.2.2.2.2.2.2.2 S.2.2.2.1 c i))).slots.size ≤ j.toNatClampNeg) := by rw [vp_cell_i, arrV_size]; exact hj
  have hrd : (vp_cell (D.2.1 (kA c)) (len c, .inl (aI S.2.2.2.2.2.2.2 S.2.2.2.1 c i))).slots[j.toNatClampNeg]? = some (.int (aI S.2.2.2.2.2.2.2 S.2.2.2.1 c i j.toNatClampNeg)) := by rw [vp_cell_i, arrV_read _ _ hlt]
  have hgo := h p l e R s m args below meth cc D A lv0 ad0 hC H locs cells slots ls ad (hD.stk ⟨trivial, hD.lvs.2.2⟩)
  rcases hd with ⟨h1, hd⟩ | ⟨h1, hd⟩
  · have hA := (hC.2.2.2.2.2.2.2.1.1.2 0 _ (tys_at D (by decide))).1 (len c) (fun q => .int (aI S.2.2.2.2.2.2.2 S.2.2.2.1 c i q))
    exact W.iald hC.1 hC.2.1 hr (by rw [kA_1 h1, vp_cell_i]; exact hA) (fun q => by cases q) hin hrd rfl rfl hd hgo
  · have hA := (hC.2.2.2.2.2.2.2.1.1.2 1 _ (tys_at D (by decide))).1 (len c) (fun q => .int (aI S.2.2.2.2.2.2.2 S.2.2.2.1 c i q))
    exact W.zald hC.1 hC.2.1 hr (by rw [kA_2 h1, vp_cell_i]; exact hA) (fun q => by cases q) hin hrd rfl rfl hd hgo
theorem wp_iald {c i : Nat} {j : Int32} (hk : kd c = 1) (hc : c < 200) (hj : vp_in j (len c)) (hd : decode mi.2.1 pc = .ok (.iaload, 1))
    (h : WP mi d k (pc + 1) L (vI (ai c i j.toNatClampNeg) :: st) (lv, fr, fi, ai, ar, li, out, rho) Q QX) : WP mi d k pc L (vI j :: vR c i :: st) (lv, fr, fi, ai, ar, li, out, rho) Q QX := by
  refine wp_ald9 (Or.inl hk) hj (Or.inl ⟨hk, hd⟩) ?_
  show WP mi d k (pc + 1) L (vI (aI rho ai c i j.toNatClampNeg) :: st) _ Q QX
  unfold aI
  rw [if_neg (by omega)]
  exact h
theorem wp_bald {c i : Nat} {j : Int32} (hk : kd c = 2) (hc : c < 200) (hj : vp_in j (len c)) (hd : decode mi.2.1 pc = .ok (.baload, 1))
    (h : WP mi d k (pc + 1) L (vI (ai c i j.toNatClampNeg) :: st) (lv, fr, fi, ai, ar, li, out, rho) Q QX) : WP mi d k pc L (vI j :: vR c i :: st) (lv, fr, fi, ai, ar, li, out, rho) Q QX := by
  refine wp_ald9 (Or.inr hk) hj (Or.inr ⟨hk, hd⟩) ?_
  show WP mi d k (pc + 1) L (vI (aI rho ai c i j.toNatClampNeg) :: st) _ Q QX
  unfold aI
  rw [if_neg (by omega)]
  exact h
theorem wp_ialdR {c y i : Nat} {j : Int32} (hk : kd c = 1) (hc : c = 200 + y) (hj : vp_in j (len c)) (hd : decode mi.2.1 pc = .ok (.iaload, 1))
    (h : WP mi d k (pc + 1) L (vI (rho y j.toNatClampNeg) :: st) (lv, fr, fi, ai, ar, li, out, rho) Q QX) : WP mi d k pc L (vI j :: vR c i :: st) (lv, fr, fi, ai, ar, li, out, rho) Q QX := by
  refine wp_ald9 (Or.inl hk) hj (Or.inl ⟨hk, hd⟩) ?_
  show WP mi d k (pc + 1) L (vI (aI rho ai c i j.toNatClampNeg) :: st) _ Q QX
  unfold aI
  rw [if_pos (by omega), show c - 200 = y by omega]
  exact h
theorem wp_baldR {c y i : Nat} {j : Int32} (hk : kd c = 2) (hc : c = 200 + y) (hj : vp_in j (len c)) (hd : decode mi.2.1 pc = .ok (.baload, 1))
    (h : WP mi d k (pc + 1) L (vI (rho y j.toNatClampNeg) :: st) (lv, fr, fi, ai, ar, li, out, rho) Q QX) : WP mi d k pc L (vI j :: vR c i :: st) (lv, fr, fi, ai, ar, li, out, rho) Q QX := by
  refine wp_ald9 (Or.inr hk) hj (Or.inr ⟨hk, hd⟩) ?_
  show WP mi d k (pc + 1) L (vI (aI rho ai c i j.toNatClampNeg) :: st) _ Q QX
  unfold aI
  rw [if_pos (by omega), show c - 200 = y by omega]
  exact h
/-- an int is put into a row -/
theorem wp_ast9 {S S' : OM} {c i : Nat} {j x : Int32} (hk : kd c = 1 ∨ kd c = 2) (hj : vp_in j (len c)) (hd : (kd c = 1 ∧ decode mi.2.1 pc = .ok (.iastore, 1)) ∨ (kd c = 2 ∧ (x = 0 ∨ x = 1) ∧ decode mi.2.1 pc = .ok (.bastore, 1))) (hlv : S'.1 = S.1)
    (hm : ∀ (D : DD) (ad : Ad) (H H1 : Heap), MM D S ad H → S.1 c i = true → H1[ad c i]? = some (vp_cell (D.2.1 (kA c)) (len c, .inl (va_up (aI S.2.2.2.2.2.2.2 S.2.2.2.1 c i) j.toNatClampNeg x))) → (∀ q : Nat, q ≠ ad c i → H1[q]? = H[q]?) → MM D S' ad H1)
    (h : WP mi d k (pc + 1) L st S' Q QX) : WP mi d k pc L (vI x :: vI j :: vR c i :: st) S Q QX := by
  intro p l e R s m args below meth cc D A lv0 ad0 hC H locs cells slots ls ad hD
  have hl := lv_of hD.lvs.2.2.1 (not71 (by omega))
  have hr := row_of hD.1 hl hk
  have hin : ¬ (j < 0 ∨ (vp_cell (D.2.1 (kA c)) (len c, .inl (aI S.2.2.2.2.2.2.2 S.2.2.2.1 c i))).slots.size ≤ j.toNatClampNeg) := by rw [vp_cell_i, arrV_size]; exact hj
  have fin : ∀ H1 : Heap, H1[ad c i]? = some ((vp_cell (D.2.1 (kA c)) (len c, .inl (aI S.2.2.2.2.2.2.2 S.2.2.2.1 c i))).setSlot j.toNatClampNeg (.int x)) → H1.size = H.size → (∀ q : Nat, q ≠ ad c i → H1[q]? = H[q]?) → W p l e R s m args below meth cc H1 (locs ++ [⟨ad c i, j.toNatClampNeg⟩]) cells slots (vx_MQ below (Qn Q D A lv0 ad0) (Xn QX D A lv0 ad0) args s R.cells R.slots A) (F0 m (pc + 1) ls (st.map (tV ad))) := by
    intro H1 eH z oq
    refine h p l e R s m args below meth cc D A lv0 ad0 hC H1 _ cells slots ls ad (hD.wr (hm D ad H H1 hD.1 hl ?_ oq) hlv (hD.own1 hl) z oq hD.lvs.2.2.2)
    rw [eH, vp_cell_i, vp_cell_i, arrV_store]
    congr 2
    funext q
    by_cases hq : q = j.toNatClampNeg
    · subst hq
      simp [updV, va_up]
    · simp [updV, va_up, hq]
  rcases hd with ⟨h1, hd⟩ | ⟨h1, hx, hd⟩
  · have hA := (hC.2.2.2.2.2.2.2.1.1.2 0 _ (tys_at D (by decide))).1 (len c) (fun q => .int (aI S.2.2.2.2.2.2.2 S.2.2.2.1 c i q))
    exact W.iast hC.1 hC.2.1 hr (by rw [kA_1 h1, vp_cell_i]; exact hA) (fun q => by cases q) hin rfl rfl hd fin
  · have hA := (hC.2.2.2.2.2.2.2.1.1.2 1 _ (tys_at D (by decide))).1 (len c) (fun q => .int (aI S.2.2.2.2.2.2.2 S.2.2.2.1 c i q))
    refine W.zast hC.1 hC.2.1 hr (by rw [kA_2 h1, vp_cell_i]; exact hA) (fun q => by cases q) hin rfl rfl hd (fun H1 e z oq => fin H1 ?_ z oq)
    rw [e]
    rcases hx with rfl | rfl <;> rfl
theorem aI_ai {rho : Nat → Nat → Int32} {ai : Nat → Nat → Nat → Int32} {c i j c' i' : Nat} {x : Int32} (h : ¬ (c' = c ∧ i' = i)) : aI rho (up3 ai c i j x) c' i' = aI rho ai c' i' := by
  unfold aI
  split
  · rfl
  · exact up3_o _ _ _ h
theorem MM.aiw {D : DD} {ad : Ad} {H H1 : Heap} {c i j : Nat} {x : Int32} (hk : kd c = 1 ∨ kd c = 2) (hc : c < 200) (hm : MM D (lv, fr, fi, ai, ar, li, out, rho) ad H) (hl : lv c i = true) (e : H1[ad c i]? = some (vp_cell (D.2.1 (kA c)) (len c, .inl (va_up (aI rho ai c i) j x)))) (oq : ∀ q : Nat, q ≠ ad c i → H1[q]? = H[q]?) : MM D (lv, fr, fi, up3 ai c i j x, ar, li, out, rho) ad H1 := by
  refine hm.write hl (Or.inl rfl) rfl oq ?_ (fun c' i' hl' hne h' => cOK_congr h' (fun _ _ _ => rfl) (fun _ => aI_ai hne) (fun _ => rfl) (fun _ => rfl) (fun _ => rfl)) hm.2.2.1 hm.2.2.2.1 hm.2.2.2.2.1
  unfold cOK
  have e2 : aI rho (up3 ai c i j x) c i = va_up (aI rho ai c i) j x := by
    unfold aI
    rw [if_neg (by omega), if_neg (by omega), up3_r]
  rcases hk with hk | hk <;> (rw [hk]; show H1[ad c i]? = some (vp_cell _ (len c, .inl (aI rho (up3 ai c i j x) c i))); rw [e2]; exact e)
theorem MM.rhow {D : DD} {ad : Ad} {H H1 : Heap} {c y i j : Nat} {x : Int32} (hk : kd c = 1 ∨ kd c = 2) (hc : c = 200 + y) (hm : MM D (lv, fr, fi, ai, ar, li, out, rho) ad H) (hl : lv c i = true) (e : H1[ad c i]? = some (vp_cell (D.2.1 (kA c)) (len c, .inl (va_up (aI rho ai c i) j x)))) (oq : ∀ q : Nat, q ≠ ad c i → H1[q]? = H[q]?) : MM D (lv, fr, fi, ai, ar, li, out, up2 rho y j x) ad H1 := by
  have h0 := hm.2.2.2.2.2.2 c i hl (Or.inl (by omega))
  refine hm.write hl (Or.inl rfl) rfl oq ?_ (fun c' i' hl' hne h' => cOK_congr h' (fun hk' y' hy' => fV_rho (fun z => ?_)) (fun hk' => ?_) (fun _ => rfl) (fun _ => rfl) (fun _ => rfl)) hm.2.2.1 hm.2.2.2.1 hm.2.2.2.2.1
  · unfold cOK
    have e2 : aI (up2 rho y j x) ai c i = va_up (aI rho ai c i) j x := by
      unfold aI
      rw [if_pos (by omega), if_pos (by omega), show c - 200 = y by omega]
      funext b
      simp [up2, va_up]
    rcases hk with hk | hk <;> (rw [hk]; show H1[ad c i]? = some (vp_cell _ (len c, .inl (aI (up2 rho y j x) ai c i))); rw [e2]; exact e)
  · obtain ⟨e9, z2, z3⟩ := z
    subst e9
    subst z2
    exact absurd hy' (Nat.not_lt_zero _)
  · show aI (up2 rho y j x) ai c' i' = aI rho ai c' i'
    unfold aI
    split
    next hge =>
      funext b
      refine up2_f _ _ _ _ (fun z => hne ⟨by omega, ?_⟩)
      rw [h0, hm.2.2.2.2.2.2 c' i' hl' (Or.inl (by omega))]
    · rfl
theorem wp_iast {c i : Nat} {j x : Int32} (hk : kd c = 1) (hc : c < 200) (hj : vp_in j (len c)) (hd : decode mi.2.1 pc = .ok (.iastore, 1))
    (h : WP mi d k (pc + 1) L st (lv, fr, fi, up3 ai c i j.toNatClampNeg x, ar, li, out, rho) Q QX) : WP mi d k pc L (vI x :: vI j :: vR c i :: st) (lv, fr, fi, ai, ar, li, out, rho) Q QX :=
  wp_ast9 (S' := (lv, fr, fi, up3 ai c i j.toNatClampNeg x, ar, li, out, rho)) (Or.inl hk) hj (Or.inl ⟨hk, hd⟩) rfl (fun D ad H H1 hm hl e oq => hm.aiw (Or.inl hk) hc hl e oq) h
theorem wp_bast {c i : Nat} {j x : Int32} (hk : kd c = 2) (hc : c < 200) (hj : vp_in j (len c)) (hx : x = 0 ∨ x = 1) (hd : decode mi.2.1 pc = .ok (.bastore, 1))
    (h : WP mi d k (pc + 1) L st (lv, fr, fi, up3 ai c i j.toNatClampNeg x, ar, li, out, rho) Q QX) : WP mi d k pc L (vI x :: vI j :: vR c i :: st) (lv, fr, fi, ai, ar, li, out, rho) Q QX :=
  wp_ast9 (S' := (lv, fr, fi, up3 ai c i j.toNatClampNeg x, ar, li, out, rho)) (Or.inr hk) hj (Or.inr ⟨hk, hx, hd⟩) rfl (fun D ad H H1 hm hl e oq => hm.aiw (Or.inr hk) hc hl e oq) h
theorem wp_iastR {c y i : Nat} {j x : Int32} (hk : kd c = 1) (hc : c = 200 + y) (hj : vp_in j (len c)) (hd : decode mi.2.1 pc = .ok (.iastore, 1))
    (h : WP mi d k (pc + 1) L st (lv, fr, fi, ai, ar, li, out, up2 rho y j.toNatClampNeg x) Q QX) : WP mi d k pc L (vI x :: vI j :: vR c i :: st) (lv, fr, fi, ai, ar, li, out, rho) Q QX :=
  wp_ast9 (S' := (lv, fr, fi, ai, ar, li, out, up2 rho y j.toNatClampNeg x)) (Or.inl hk) hj (Or.inl ⟨hk, hd⟩) rfl (fun D ad H H1 hm hl e oq => hm.rhow (Or.inl hk) hc hl e oq) h
theorem wp_bastR {c y i : Nat} {j x : Int32} (hk : kd c = 2) (hc : c = 200 + y) (hj : vp_in j (len c)) (hx : x = 0 ∨ x = 1) (hd : decode mi.2.1 pc = .ok (.bastore, 1))
    (h : WP mi d k (pc + 1) L st (lv, fr, fi, ai, ar, li, out, up2 rho y j.toNatClampNeg x) Q QX) : WP mi d k pc L (vI x :: vI j :: vR c i :: st) (lv, fr, fi, ai, ar, li, out, rho) Q QX :=
  wp_ast9 (S' := (lv, fr, fi, ai, ar, li, out, up2 rho y j.toNatClampNeg x)) (Or.inr hk) hj (Or.inr ⟨hk, hx, hd⟩) rfl (fun D ad H H1 hm hl e oq => hm.rhow (Or.inr hk) hc hl e oq) h
end WPM
