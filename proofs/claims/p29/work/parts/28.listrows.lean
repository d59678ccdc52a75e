/-! rows for lists -/
section LW
variable {mi : MI} {d k k1 k2 pc x mc ms : Nat} {L : List (Option sV)} {st rest : List sV} {S : OM} {Q Q1 : Option sV → OM → Prop} {QX : String → OM → Prop}
variable {p : Program} {l : Launch} {e : Env} {R : Room} {s : State} {m : MethodId} {args : Array Value} {below : List Frame} {meth : Method} {cc : Code} {D : DD} {A : Nat → Prop} {lv0 : Nat → Nat → Bool} {ad0 : Ad} {H : Heap} {locs : List Loc} {cells slots : Nat} {ls : Array Slot} {ad : Ad}
variable {lv : Nat → Nat → Bool} {fr : Nat → Nat → Option Nat} {fi : Nat → Nat → Int32} {ai : Nat → Nat → Nat → Int32} {ar : Nat → Nat → Nat → Option Nat} {li : Nat → Nat → List Nat} {out : Int64} {rho : Nat → Nat → Int32} {c i t : Nat}
theorem jrun {free : Addr → Prop} {Qa : State → Outcome → State → Prop} (hC : Ctx mi d p l R s m args meth cc D A) (hD : Dyn D A lv0 ad0 s R mi.2.2.1 k L st S H locs cells slots ls ad) (hk : k1 + k2 ≤ k) (hmc : mc ≤ k1) (hms : ms ≤ 700 * k1) (hrest : LvS S.1 rest)
    (hr : va_Run p l e R s m args below meth cc H locs cells slots mc ms (F0 m pc ls (st.map (tV ad))) (rest.map (tV ad)) Qa free) (hf : ∀ q, free q → ownA D S ad H.size q)
    (hq : ∀ v st t, st.heap = H → Qa st (.returned v) t → ∃ (r : Option sV) (S' : OM) (ad' : Ad), v = r.map (tV ad') ∧ Q1 r S' ∧ MM D S' ad' t.heap ∧ Ext D S.1 ad S'.1 ad' ∧ (∀ v, r = some v → LvV S'.1 v) ∧ (∀ q, own D S'.1 ad' q → ownA D S ad H.size q) ∧ va_F (ownA D S ad H.size) st t)
    (kk : ∀ (r : Option sV) (S' : OM), Q1 r S' → WP mi d k2 (pc + 3) L (conc r rest) S' Q QX) :
    W p l e R s m args below meth cc H locs cells slots (vx_MQ below (Qn Q D A lv0 ad0) (Xn QX D A lv0 ad0) args s R.cells R.slots A) (F0 m pc ls (st.map (tV ad))) := by
  have hAA := own_A hC hD
  have hb1 := hD.2.2.2.2.2.2.1
  have hb2 := hD.2.2.2.2.2.2.2
  intro T hT X
  obtain ⟨v, st₀, t, T', L9, h0, X', hL, e1, e2, hqa, stp⟩ := hr T hT X
  obtain ⟨r, S', ad', hv, hq1, hM, hE, hlr, hown, hF⟩ := hq v st₀ t h0 hqa
  obtain ⟨k5, k6, k7⟩ := vx_keep h0 e1 hD.2.2.1 (fun q _ => hAA q) (fun q z => hAA q (hf q z)) hL hF
  cases hv
  rw [← e1] at hM
  have hm' := map_ext hE hD.1 hM hrest
  have hD' : Dyn D A lv0 ad0 s R mi.2.2.1 k2 L (conc r rest) S' T'.heap (locs ++ L9) (cells + mc) (slots + ms) ls ad' := ⟨hM, fun q z => hAA q (hown q z), k7, hD.2.2.2.1.tr hE, by cases r with | none => exact LvS_ext hE hrest | some v => exact ⟨hlr v rfl, LvS_ext hE hrest⟩, hD.lh.ext hE hD.1 hM, by omega, by omega⟩
  obtain ⟨t2, a1, b1⟩ := kk r S' hq1 p l e R s m args below meth cc D A lv0 ad0 hC _ _ _ _ ls ad' hD' T' rfl X'
  refine ⟨t2, stp t2 ?_, b1⟩
  rw [conc_map, hm'] at a1
  exact a1
/-- a list's cell and the row behind it, as the heap has them -/
theorem list_of (hm : MM D S ad H) (hl : S.1 c i = true) (hk : kd c = 4) : ∃ m : Int32, t_OB (ad c i) (D.1.1 10) 3 (D.1.2 10) H (vp_V [.int m, .ref (ad (c + 10) i), .int (nI (S.2.2.2.2.2.1 c i).length)]) ∧
    ((ad (c + 10) i = D.2.2.1 ∧ S.2.2.2.2.2.1 c i = []) ∨ (ad (c + 10) i ≠ D.2.2.1 ∧ ∃ n : Nat, (S.2.2.2.2.2.1 c i).length ≤ n ∧ 10 ≤ n ∧ n ≤ 700 ∧ H[ad (c + 10) i]? = some (vp_cell (D.2.1 7) (n, .inr (.inr (.inr (.inr (fun j => ((S.2.2.2.2.2.1 c i)[j]?).map (ad (tA c))))))))) ) := by
  have h := hm.1 c i hl
  unfold cOK at h
  rw [hk] at h
  obtain ⟨⟨m, h1⟩, h2⟩ := h
  exact ⟨m, h1, h2⟩
theorem P1 {a d9 : Nat} {m n : Int32} (h : t_OB a (D.1.1 10) 3 (D.1.2 10) H (vp_V [.int m, .ref d9, .int n])) : va_P D.1 cls [lO a d9 m n] H := fun k q hk => by
  match k, hk with
  | 0, hk => simp at hk; subst hk; exact ⟨_, rfl, h⟩
  | _ + 1, hk => simp at hk
theorem P2 {a d9 cap : Nat} {m n : Int32} {f : Nat → Option Nat} (h : t_OB a (D.1.1 10) 3 (D.1.2 10) H (vp_V [.int m, .ref d9, .int n])) (h2 : H[d9]? = some (vp_cell (D.2.1 7) (cap, .inr (.inr (.inr (.inr f)))))) : va_P D.1 cls [lO a d9 m n, lA D d9 cap f] H := fun k q hk => by
  match k, hk with
  | 0, hk => simp at hk; subst hk; exact ⟨_, rfl, h⟩
  | 1, hk => simp at hk; subst hk; exact h2
  | _ + 2, hk => simp at hk
theorem P_ob {a d9 : Nat} {m n : Int32} {ws : va_W} (h : va_P D.1 cls (lO a d9 m n :: ws) H) : t_OB a (D.1.1 10) 3 (D.1.2 10) H (vp_V [.int m, .ref d9, .int n]) := by
  obtain ⟨r, h1, h2⟩ := h 0 _ rfl
  cases h1
  exact h2
theorem P_row {a d9 cap : Nat} {m n : Int32} {f : Nat → Option Nat} (h : va_P D.1 cls [lO a d9 m n, lA D d9 cap f] H) : H[d9]? = some (vp_cell (D.2.1 7) (cap, .inr (.inr (.inr (.inr f))))) := h 1 _ rfl
theorem recvL (hC : Ctx mi d p l R s m args meth cc D A) {a d9 : Nat} {m n : Int32} (h : t_OB a (D.1.1 10) 3 (D.1.2 10) H (vp_V [.int m, .ref d9, .int n])) : ∃ cell : Cell, H[a]? = some cell ∧ cell.vm.isStatics = false ∧ s.vm.findClass RJx4a65c = some cell.cls :=
  va_recv hC.2.2.2.2.2.2.2.1.1 (P1 h) (ci := 10) (q0 := 0) rfl rfl
theorem shared_lt (hC : Ctx mi d p l R s m args meth cc D A) (hD : Dyn D A lv0 ad0 s R mi.2.2.1 k L st S H locs cells slots ls ad) : D.2.2.1 < H.size ∧ ∀ q, own D S.1 ad q → q ≠ D.2.2.1 := by
  obtain ⟨cell, h1, h2, h3, h4, h5, h6, h7⟩ := hC.2.2.2.2.2.2.2.2.2.2.2.2.2.2.1.2.2.2.1.2
  have := (Array.getElem?_eq_some_iff.mp h1).1
  exact ⟨Nat.lt_of_lt_of_le this hD.2.2.1.1, fun q hq z => h7 (by rw [← z]; exact hD.2.1 q hq)⟩
theorem stE_now (hC : Ctx mi d p l R s m args meth cc D A) (hD : Dyn D A lv0 ad0 s R mi.2.2.1 k L st S H locs cells slots ls ad) {B : Nat → Prop} (hB : ∀ q, B q → ownA D S ad H.size q) : ∀ U : State, U.heap = H → s.WarmedH U.vm → stE D B U := fun U hU hW => by
  have h := ((Sta_now hC hD).warm hW).2.2.2.1
  unfold stE
  rw [hU]
  exact ⟨h.1.narrow hB, h.2.narrow hB⟩
theorem li_own {hl : S.1 c i = true} (hk : kd c = 4) {d9 : Nat} (h9 : d9 = ad (c + 10) i ∧ ad (c + 10) i ≠ D.2.2.1 ∨ d9 = ad c i) : ∀ q, jA (ad c i) d9 H.size q → ownA D S ad H.size q := fun q z => by
  have h4 := kd4 hk
  rcases z with z | z | z
  · exact Or.inl ⟨c, i, Or.inl hl, z⟩
  · rcases h9 with ⟨e1, e2⟩ | e1
    · exact Or.inl ⟨c + 10, i, Or.inr ⟨by omega, by omega, by rw [Nat.add_sub_cancel]; exact hl, e2⟩, z.trans e1⟩
    · exact Or.inl ⟨c, i, Or.inl hl, z.trans e1⟩
  · exact Or.inr z
theorem apart1 (hm : MM D S ad H) (hl : S.1 c i = true) (hk : kd c = 4) (hne : ad (c + 10) i ≠ D.2.2.1) : ad c i ≠ ad (c + 10) i := fun z => by
  have h4 := kd4 hk
  have := (hm.2.1 c i (c + 10) i (Or.inl hl) (Or.inr ⟨by omega, by omega, by rw [Nat.add_sub_cancel]; exact hl, hne⟩) z).1
  omega
/-- an element: a live object, whose class has a cast to Object -/
theorem elem_any (hC : Ctx mi d p l R s m args meth cc D A) (hD : Dyn D A lv0 ad0 s R mi.2.2.1 k L st S H locs cells slots ls ad) {t j : Nat} (hl : S.1 t j = true) (ht : t < 9) : va_Any bO s H (ad t j) ∧ ad t j < H.size := by
  have hK := hC.2.2.2.2.2.2.2.1
  obtain ⟨cell, g1, g2, g3⟩ := recv9 hK hD.1 hl (show t < 10 by omega)
  obtain ⟨kC, hkC, -⟩ := Vm.findClass_spec g3
  exact ⟨⟨cell, g1, g2, ⟨kC, hkC⟩, fun comp h => vb_asgC (hK.2.2.2.2.2.2.2.2.2.2.2.2.2.2.1 t ht) comp _ h g3⟩, (Array.getElem?_eq_some_iff.mp g1).1⟩
theorem elem_ne (hm : MM D S ad H) (hl : S.1 c i = true) (hk : kd c = 4) {t j : Nat} (hlx : S.1 t j = true) (ht : t < 9) : ad t j ≠ ad c i ∧ (ad (c + 10) i ≠ D.2.2.1 → ad t j ≠ ad (c + 10) i) := by
  have h4 := kd4 hk
  refine ⟨fun z => ?_, fun h z => ?_⟩
  · have := (hm.2.1 t j c i (Or.inl hlx) (Or.inl hl) z).1
    omega
  · have := (hm.2.1 t j (c + 10) i (Or.inl hlx) (Or.inr ⟨by omega, by omega, by rw [Nat.add_sub_cancel]; exact hl, h⟩) z).1
    omega
theorem wp_size (hk : kd c = 4) (hdd : 8 ≤ d) (hw : Cond.methodLink mi.1.cls x yJx4a65c_size_8abf5 ∈ TW) (hd : decode mi.2.1 pc = .ok (.invokevirtual x, 3)) (hr : st.length ≤ 4)
    (h : WP mi d k (pc + 3) L (vI (nI (li c i).length) :: st) (lv, fr, fi, ai, ar, li, out, rho) Q QX) : WP mi d k pc L (vR c i :: st) (lv, fr, fi, ai, ar, li, out, rho) Q QX := by
  intro p l e R s m args below meth cc D A lv0 ad0 hC H locs cells slots ls ad hD
  have h4 := kd4 hk
  have hl := lv_of hD.lvs.1 (show ¬ (71 ≤ c ∧ c < 75) by omega)
  have hf1 := hC.2.2.2.2.2.2.2.2.2.2.2.1
  have hf2 := hC.2.2.2.2.2.2.2.2.2.2.2.2.1
  have hb1 := hD.2.2.2.2.2.2.1
  have hb2 := hD.2.2.2.2.2.2.2
  have hK := hC.2.2.2.2.2.2.2.1
  have hT := hC.2.2.2.2.2.2.1
  obtain ⟨m9, hO, -⟩ := list_of hD.1 hl hk
  refine jrun (k1 := 0) (k2 := k) (mc := 0) (ms := 0) (Q1 := fun r S' => r = some (vI (nI (li c i).length)) ∧ S' = (lv, fr, fi, ai, ar, li, out, rho)) hC hD (by omega) (Nat.le_refl _) (Nat.le_refl _) hD.lvs.2
    (va_runV (As := []) (b := ad c i) (own := mi.1.cls) (C := RJx4a65c) ⟨hC.1, hC.2.1, hC.2.2.2.2.1, hC.2.2.2.2.2.1, hT⟩ (jSize (D := D) (ad c i) (ad (c + 10) i) m9 (nI (li c i).length))
      (cwV 0 hT (goodV9 hw im_Jx4a65c_size_8abf5 se_Jx4a65c_size_8abf5 in_Jx4a65c cd_Jx4a65c_size_8abf5) rfl rfl rfl (by decide +kernel) ⟨by show 1 ≤ R.frames; omega, by show 8 + (1 + 11) + 0 ≤ R.locals; omega⟩)
      ⟨jblind, recvL hC hO, fun U hU hW => ⟨rfl, by rw [hU]; exact P1 hO, Kst.warm hW hK⟩⟩ rfl rfl hD.lh.1 rfl (lv_room (Nat.le_trans (rest_cat ad) (by omega))) hd ⟨by omega, by omega⟩) (fun q z => z.elim)
    (fun v st9 t9 h0 hq => ⟨some (vI (nI (li c i).length)), _, ad, Outcome.returned.inj hq.1, ⟨rfl, rfl⟩, by rw [hq.2, h0]; exact hD.1, Ext.rf (D := D), fun v hv => by cases hv; trivial, fun q z => Or.inl z, ⟨by rw [hq.2]; exact Nat.le_refl _, fun q _ _ => by rw [hq.2]⟩⟩)
    (fun r S' hq => by obtain ⟨rfl, rfl⟩ := hq; exact h)
theorem wp_isEmpty (hk : kd c = 4) (hdd : 8 ≤ d) (hw : Cond.methodLink mi.1.cls x yJx4a65c_isEmpty_aae02 ∈ TW) (hd : decode mi.2.1 pc = .ok (.invokevirtual x, 3)) (hr : st.length ≤ 4)
    (h : WP mi d k (pc + 3) L (vI (if nI (li c i).length = 0 then 1 else 0) :: st) (lv, fr, fi, ai, ar, li, out, rho) Q QX) : WP mi d k pc L (vR c i :: st) (lv, fr, fi, ai, ar, li, out, rho) Q QX := by
  intro p l e R s m args below meth cc D A lv0 ad0 hC H locs cells slots ls ad hD
  have h4 := kd4 hk
  have hl := lv_of hD.lvs.1 (show ¬ (71 ≤ c ∧ c < 75) by omega)
  have hf1 := hC.2.2.2.2.2.2.2.2.2.2.2.1
  have hf2 := hC.2.2.2.2.2.2.2.2.2.2.2.2.1
  have hb1 := hD.2.2.2.2.2.2.1
  have hb2 := hD.2.2.2.2.2.2.2
  have hK := hC.2.2.2.2.2.2.2.1
  have hT := hC.2.2.2.2.2.2.1
  obtain ⟨m9, hO, -⟩ := list_of hD.1 hl hk
  refine jrun (k1 := 0) (k2 := k) (mc := 0) (ms := 0) (Q1 := fun r S' => r = some (vI (if nI (li c i).length = 0 then 1 else 0)) ∧ S' = (lv, fr, fi, ai, ar, li, out, rho)) hC hD (by omega) (Nat.le_refl _) (Nat.le_refl _) hD.lvs.2
    (va_runV (As := []) (b := ad c i) (own := mi.1.cls) (C := RJx4a65c) ⟨hC.1, hC.2.1, hC.2.2.2.2.1, hC.2.2.2.2.2.1, hT⟩ (jEmpty (D := D) (ad c i) (ad (c + 10) i) m9 (nI (li c i).length))
      (cwV 0 hT (goodV9 hw im_Jx4a65c_isEmpty_aae02 se_Jx4a65c_isEmpty_aae02 in_Jx4a65c cd_Jx4a65c_isEmpty_aae02) rfl rfl rfl (by decide +kernel) ⟨by show 1 ≤ R.frames; omega, by show 8 + (1 + 11) + 0 ≤ R.locals; omega⟩)
      ⟨jblind, recvL hC hO, fun U hU hW => ⟨rfl, by rw [hU]; exact P1 hO, Kst.warm hW hK⟩⟩ rfl rfl hD.lh.1 rfl (lv_room (Nat.le_trans (rest_cat ad) (by omega))) hd ⟨by omega, by omega⟩) (fun q z => z.elim)
    (fun v st9 t9 h0 hq => ⟨some (vI (if nI (li c i).length = 0 then 1 else 0)), _, ad, Outcome.returned.inj hq.1, ⟨rfl, rfl⟩, by rw [hq.2, h0]; exact hD.1, Ext.rf (D := D), fun v hv => by cases hv; trivial, fun q z => Or.inl z, ⟨by rw [hq.2]; exact Nat.le_refl _, fun q _ _ => by rw [hq.2]⟩⟩)
    (fun r S' hq => by obtain ⟨rfl, rfl⟩ := hq; exact h)
theorem wp_get {j : Int32} {y : Nat} (hk : kd c = 4) (ht : tA c = t) (hdd : 8 ≤ d) (h0 : ¬ j < 0) (hy : (li c i)[j.toNatClampNeg]? = some y) (hw : Cond.methodLink mi.1.cls x yJx4a65c_get_915e3 ∈ TW) (hd : decode mi.2.1 pc = .ok (.invokevirtual x, 3)) (hr : st.length ≤ 4)
    (h : WP mi d k (pc + 3) L (vR t y :: st) (lv, fr, fi, ai, ar, li, out, rho) Q QX) : WP mi d k pc L (vI j :: vR c i :: st) (lv, fr, fi, ai, ar, li, out, rho) Q QX := by
  intro p l e R s m args below meth cc D A lv0 ad0 hC H locs cells slots ls ad hD
  have h4 := kd4 hk
  have hl : lv c i = true := lv_of hD.lvs.2.1 (show ¬ (71 ≤ c ∧ c < 75) by omega)
  have hf1 := hC.2.2.2.2.2.2.2.2.2.2.2.1
  have hf2 := hC.2.2.2.2.2.2.2.2.2.2.2.2.1
  have hb1 := hD.2.2.2.2.2.2.1
  have hb2 := hD.2.2.2.2.2.2.2
  have hK := hC.2.2.2.2.2.2.2.1
  have hT := hC.2.2.2.2.2.2.1
  obtain ⟨m9, hO, hrow⟩ := list_of hD.1 hl hk
  have hlt := (List.getElem?_eq_some_iff.mp hy).1
  have hrow : ∃ n : Nat, (li c i).length ≤ n ∧ 10 ≤ n ∧ n ≤ 700 ∧ H[ad (c + 10) i]? = some (vp_cell (D.2.1 7) (n, .inr (.inr (.inr (.inr (fun j => ((li c i)[j]?).map (ad (tA c)))))))) := by
    rcases hrow with ⟨-, e⟩ | ⟨-, q⟩
    · have e' : li c i = [] := e
      rw [e'] at hlt
      cases hlt
    · exact q
  obtain ⟨n, n1, n2, n3, n4⟩ := hrow
  obtain ⟨j', hj', rfl⟩ := nI_of h0
  have ej : (nI j').toNatClampNeg = j' := nI_clamp hj'
  rw [ej] at hlt hy
  have hly : lv t y = true := by rw [← ht]; exact hD.1.2.2.2.2.1 c i y hl hk (List.mem_of_getElem? hy)
  refine jrun (k1 := 0) (k2 := k) (mc := 0) (ms := 0) (Q1 := fun r S' => r = some (vR t y) ∧ S' = (lv, fr, fi, ai, ar, li, out, rho)) hC hD (by omega) (Nat.le_refl _) (Nat.le_refl _) hD.lvs.2.2
    (va_runV (As := [.int (nI j')]) (b := ad c i) (own := mi.1.cls) (C := RJx4a65c) ⟨hC.1, hC.2.1, hC.2.2.2.2.1, hC.2.2.2.2.2.1, hT⟩ (jGet (D := D) (ad c i) (ad (c + 10) i) n m9 (nI (li c i).length) (nI j') (fun j => ((li c i)[j]?).map (ad (tA c))) h0 (nI_lt hlt (by omega)) (vp_in_nI (show j' < n by omega) (by omega)))
      (cwV 1 hT (goodV9 hw im_Jx4a65c_get_915e3 se_Jx4a65c_get_915e3 in_Jx4a65c cd_Jx4a65c_get_915e3) rfl rfl rfl (by decide +kernel) ⟨by show 3 ≤ R.frames; omega, by show 8 + (2 + 11) + 80 ≤ R.locals; omega⟩)
      ⟨jblind, recvL hC hO, fun U hU hW => ⟨rfl, by rw [hU]; exact P2 hO n4, Kst.warm hW hK⟩⟩ rfl rfl hD.lh.1 rfl (lv_room (Nat.le_trans (rest_cat ad) (by omega))) hd ⟨by omega, by omega⟩) (fun q z => z.elim)
    (fun v st9 t9 h0 hq => ⟨some (vR t y), _, ad, (Outcome.returned.inj hq.1).trans (by rw [ej, hy, ht]; rfl), ⟨rfl, rfl⟩, by rw [hq.2, h0]; exact hD.1, Ext.rf (D := D), fun v hv => by cases hv; exact Or.inl hly, fun q z => Or.inl z, ⟨by rw [hq.2]; exact Nat.le_refl _, fun q _ _ => by rw [hq.2]⟩⟩)
    (fun r S' hq => by obtain ⟨rfl, rfl⟩ := hq; exact h)
theorem up_app {A : Nat → Nat} {xs : List Nat} {y : Nat} (j : Nat) : va_up (fun j => (xs[j]?).map A) xs.length (some (A y)) j = ((xs ++ [y])[j]?).map A := by
  unfold va_up
  by_cases h : j = xs.length
  · subst h
    rw [if_pos rfl, List.getElem?_append_right (Nat.le_refl _), Nat.sub_self]
    rfl
  · rw [if_neg h]
    by_cases h2 : j < xs.length
    · rw [List.getElem?_append_left h2]
    · have e1 : xs[j]? = none := List.getElem?_eq_none (by omega)
      have e2 : (xs ++ [y])[j]? = none := List.getElem?_eq_none (by simp; omega)
      show Option.map A xs[j]? = _
      rw [e1, e2]
theorem elG_eq {A : Nat → Nat} {xs : List Nat} : elG xs.length (fun j => (xs[j]?).map A) = fun j => (xs[j]?).map A := by
  funext j
  unfold elG va_cpy
  by_cases h : 0 ≤ j ∧ j < 0 + xs.length
  · rw [if_pos h, Nat.sub_zero, Nat.zero_add]
  · have e1 : xs[j]? = none := List.getElem?_eq_none (by omega)
    rw [if_neg h, e1]
    rfl
theorem remF_eq {A : Nat → Nat} {xs : List Nat} {i : Nat} (hi : i < xs.length) (j : Nat) : remF (fun j => (xs[j]?).map A) i xs.length j = ((xs.eraseIdx i)[j]?).map A := by
  unfold remF va_up
  rw [List.getElem?_eraseIdx]
  by_cases h : j = xs.length - 1
  · rw [if_pos h]
    by_cases h2 : j < i
    · omega
    · have e1 : xs[j + 1]? = none := List.getElem?_eq_none (by omega)
      rw [if_neg h2, e1]
      rfl
  · rw [if_neg h]
    by_cases h1 : i < xs.length - 1
    · rw [if_pos h1]
      unfold va_cpy
      by_cases h2 : i ≤ j ∧ j < i + (xs.length - 1 - i)
      · rw [if_pos h2, if_neg (by omega), show i + 1 + (j - i) = j + 1 by omega]
      · rw [if_neg h2]
        by_cases h3 : j < i
        · rw [if_pos h3]
        · have e1 : xs[j]? = none := List.getElem?_eq_none (by omega)
          have e2 : xs[j + 1]? = none := List.getElem?_eq_none (by omega)
          rw [if_neg h3]
          show Option.map A xs[j]? = _
          rw [e1, e2]
    · rw [if_neg h1]
      by_cases h3 : j < i
      · rw [if_pos h3]
      · have e1 : xs[j]? = none := List.getElem?_eq_none (by omega)
        have e2 : xs[j + 1]? = none := List.getElem?_eq_none (by omega)
        rw [if_neg h3]
        show Option.map A xs[j]? = _
        rw [e1, e2]
theorem list_fin {q cap : Nat} {m8 n : Int32} {g : Nat → Option Nat} {xs : List Nat} {B : Nat → Prop} {st9 t9 : State} (hm : MM D (lv, fr, fi, ai, ar, li, out, rho) ad H) (hl : lv c i = true) (hk : kd c = 4) (hsh : ∀ q, own D lv ad q → q ≠ D.2.2.1) (hB : ∀ q, B q → q = ad c i ∨ q = ad (c + 10) i ∨ H.size ≤ q) (hB2 : ∀ q, B q → ownA D (lv, fr, fi, ai, ar, li, out, rho) ad H.size q)
    (h0 : st9.heap = H) (hF : va_F B st9 t9) (hq : q = ad (c + 10) i ∨ H.size ≤ q) (hq2 : q ≠ D.2.2.1) (hP : va_P D.1 cls [lO (ad c i) q m8 n, lA D q cap g] t9.heap) (hn : n = nI xs.length) (hg : ∀ j, g j = (xs[j]?).map (ad (tA c))) (h1 : xs.length ≤ cap) (h2 : 10 ≤ cap) (h3 : cap ≤ 700) (hxs : ∀ j, j ∈ xs → lv (tA c) j = true) :
    MM D (lv, fr, fi, ai, ar, up2 li c i xs, out, rho) (up2 ad (c + 10) i q) t9.heap ∧ Ext D lv ad lv (up2 ad (c + 10) i q) ∧ (∀ a, own D lv (up2 ad (c + 10) i q) a → ownA D (lv, fr, fi, ai, ar, li, out, rho) ad H.size a) ∧ va_F (ownA D (lv, fr, fi, ai, ar, li, out, rho) ad H.size) st9 t9 := by
  have hF2 := F_wk hF hB2
  obtain ⟨f1, f2⟩ := hF
  rw [h0] at f1 f2
  subst hn
  obtain ⟨w1, w2, w3⟩ := MM.lst (xs := xs) (r := q) (cap := cap) (m := m8) hm hl hk f1 (fun a a1 a2 a3 => f2 a a1 (fun z => by rcases hB a z with z | z | z; exact a2 z; exact a3 z; exact absurd a1 (Nat.not_lt.mpr z))) hq hq2 hsh (P_ob hP) h1 h2 h3 ((P_row hP).trans (by rw [show g = fun j => (xs[j]?).map (ad (tA c)) from funext hg])) hxs
  exact ⟨w1, w2, w3, hF2⟩
set_option maxRecDepth 4000 in
theorem wp_add {y : Nat} (hk : kd c = 4) (ht : tA c = t) (hdd : 8 ≤ d) (hlen : (li c i).length ≤ 450) (hw : Cond.methodLink mi.1.cls x yJx4a65c_add_9ea2d ∈ TW) (hd : decode mi.2.1 pc = .ok (.invokevirtual x, 3)) (hr : st.length ≤ 4)
    (h : WP mi d k (pc + 3) L (vI 1 :: st) (lv, fr, fi, ai, ar, up2 li c i (li c i ++ [y]), out, rho) Q QX) : WP mi d (k + 1) pc L (vR t y :: vR c i :: st) (lv, fr, fi, ai, ar, li, out, rho) Q QX := by
  intro p l e R s m args below meth cc D A lv0 ad0 hC H locs cells slots ls ad hD
  have h4 := kd4 hk
  have hl : lv c i = true := lv_of hD.lvs.2.1 (show ¬ (71 ≤ c ∧ c < 75) by omega)
  have hf1 := hC.2.2.2.2.2.2.2.2.2.2.2.1
  have hf2 := hC.2.2.2.2.2.2.2.2.2.2.2.2.1
  have hb1 := hD.2.2.2.2.2.2.1
  have hb2 := hD.2.2.2.2.2.2.2
  have hK := hC.2.2.2.2.2.2.2.1
  have hT := hC.2.2.2.2.2.2.1
  obtain ⟨m9, hO, hrow⟩ := list_of hD.1 hl hk
  have ht9 : t < 9 := by rw [← ht]; exact (tA4 hk).1
  have hly : lv t y = true := lv_of hD.lvs.1 (by omega)
  have hv1 := elem_any hC hD hly ht9
  have hv2 := elem_ne hD.1 hl hk hly ht9
  have hsh := shared_lt hC hD
  have hRl : 8 + (2 + 11) + 384 ≤ R.locals := by omega
  have hxs : ∀ j, j ∈ li c i ++ [y] → lv (tA c) j = true := fun j hj => by
    rcases List.mem_append.mp hj with h | h
    · exact hD.1.2.2.2.2.1 c i j hl hk h
    · rw [List.mem_singleton.mp h, ht]; exact hly
  have hel : ∀ (j y9 : Nat), ((li c i)[j]?).map (ad (tA c)) = some y9 → va_Any bO s H y9 ∧ y9 < H.size ∧ y9 ≠ ad c i ∧ (ad (c + 10) i ≠ D.2.2.1 → y9 ≠ ad (c + 10) i) := fun j y9 hj => by
    rw [ht] at hj
    cases hz : (li c i)[j]? with
    | none => rw [hz] at hj; cases hj
    | some x9 =>
      rw [hz] at hj
      cases hj
      have hlx : lv t x9 = true := by rw [← ht]; exact hD.1.2.2.2.2.1 c i x9 hl hk (List.mem_of_getElem? hz)
      have b1 := elem_any hC hD hlx ht9
      have b2 := elem_ne hD.1 hl hk hlx ht9
      exact ⟨b1.1, b1.2, b2.1, b2.2⟩
  rcases hrow with ⟨e1, e2⟩ | ⟨hne, n, n1, n2, n3, n4⟩
  · have e2' : li c i = [] := e2
    have hO' : t_OB (ad c i) (D.1.1 10) 3 (D.1.2 10) H (vp_V [.int m9, .ref D.2.2.1, .int 0]) := by
      have z := hO
      rw [e1, e2] at z
      exact z
    have hfree : ∀ q, jA (ad c i) (ad c i) H.size q → ownA D (lv, fr, fi, ai, ar, li, out, rho) ad H.size q := li_own (hl := hl) hk (Or.inr rfl)
    have had : ad c i ≠ D.2.2.1 := hsh.2 _ ⟨c, i, Or.inl hl, rfl⟩
    refine jrun (k1 := 1) (k2 := k) (mc := 1) (ms := 10) (Q1 := fun r S' => r = some (vI 1) ∧ S' = (lv, fr, fi, ai, ar, up2 li c i (li c i ++ [y]), out, rho)) hC hD (by omega) (by omega) (by omega) hD.lvs.2.2
        (va_runV (As := [.ref (ad t y)]) (b := ad c i) (own := mi.1.cls) (C := RJx4a65c) ⟨hC.1, hC.2.1, hC.2.2.2.2.1, hC.2.2.2.2.2.1, hT⟩ (jAddE (D := D) (ad c i) (ad t y) H.size m9 had)
          (cwV 1 hT (goodV9 hw im_Jx4a65c_add_9ea2d se_Jx4a65c_add_9ea2d in_Jx4a65c cd_Jx4a65c_add_9ea2d) rfl rfl rfl (by decide +kernel) ⟨by show 7 ≤ R.frames; omega, hRl⟩)
          ⟨fun a U g mk q => ⟨q.1, ⟨q.2.1.1, q.2.1.2.1, ⟨Any_same q.2.1.2.2.1.1, q.2.1.2.2.1.2⟩, q.2.1.2.2.2.same rfl rfl⟩, Kst.same (s := U) (U := U.calling g mk a) rfl q.2.2⟩, recvL hC hO, fun U hU hW => ⟨rfl, ⟨by rw [hU], by rw [hU]; exact P1 hO', ⟨Any_warm hW hU hv1.1, hv1.2, hv2.1⟩, stE_now hC hD hfree U hU hW⟩, Kst.warm hW hK⟩⟩ rfl rfl hD.lh.1 rfl (lv_room (Nat.le_trans (rest_cat ad) (by omega))) hd ⟨by omega, by omega⟩) hfree
        (fun v st9 t9 h0 hq => by
          obtain ⟨q, m8, hv, z1, z2, z3, z4⟩ := hq
          cases hv
          have hre : q = ad (c + 10) i ∨ H.size ≤ q := Or.inr z1
          obtain ⟨w1, w2, w3, w4⟩ := list_fin (xs := li c i ++ [y]) hD.1 hl hk hsh.2 (fun q z => z.elim Or.inl (fun z => z.elim Or.inl (fun z => Or.inr (Or.inr z)))) hfree h0 z4 hre (fun z => absurd hsh.1 (Nat.not_lt.mpr (z ▸ z1))) z3 (by rw [e2']; rfl) (fun j => by rw [e2', ht]; exact up_app (A := ad t) (xs := []) j) (by rw [e2']; exact Nat.le_of_ble_eq_true rfl) (Nat.le_refl _) (by omega) hxs
          exact ⟨some (vI 1), _, _, rfl, ⟨rfl, rfl⟩, w1, w2, fun v hv => by cases hv; trivial, w3, w4⟩)
        (fun r S' hq => by obtain ⟨rfl, rfl⟩ := hq; exact h)
  · have had := apart1 hD.1 hl hk hne
    have hfree : ∀ q, jA (ad c i) (ad (c + 10) i) H.size q → ownA D (lv, fr, fi, ai, ar, li, out, rho) ad H.size q := li_own (hl := hl) hk (Or.inl ⟨rfl, hne⟩)
    have hel : ∀ (j y9 : Nat), ((li c i)[j]?).map (ad (tA c)) = some y9 → va_Any bO s H y9 ∧ y9 < H.size ∧ y9 ≠ ad c i ∧ y9 ≠ ad (c + 10) i := fun j y9 hj => ⟨(hel j y9 hj).1, (hel j y9 hj).2.1, (hel j y9 hj).2.2.1, (hel j y9 hj).2.2.2 hne⟩
    by_cases hfull : (li c i).length = n
    · subst hfull
      have hcap : capG (li c i).length ≤ 700 := by unfold capG; omega
      refine jrun (k1 := 1) (k2 := k) (mc := 1) (ms := capG (li c i).length) (Q1 := fun r S' => r = some (vI 1) ∧ S' = (lv, fr, fi, ai, ar, up2 li c i (li c i ++ [y]), out, rho)) hC hD (by omega) (by omega) (by omega) hD.lvs.2.2
        (va_runV (As := [.ref (ad t y)]) (b := ad c i) (own := mi.1.cls) (C := RJx4a65c) ⟨hC.1, hC.2.1, hC.2.2.2.2.1, hC.2.2.2.2.2.1, hT⟩ (jAddG (D := D) (ad c i) (ad (c + 10) i) (li c i).length (ad t y) H.size m9 (fun j => ((li c i)[j]?).map (ad (tA c))) n2 hlen had (hv2.2 hne))
          (cwV 1 hT (goodV9 hw im_Jx4a65c_add_9ea2d se_Jx4a65c_add_9ea2d in_Jx4a65c cd_Jx4a65c_add_9ea2d) rfl rfl rfl (by decide +kernel) ⟨by show 7 ≤ R.frames; omega, hRl⟩)
          ⟨fun a U g mk q => ⟨q.1, ⟨q.2.1.1, q.2.1.2.1, ⟨Any_same q.2.1.2.2.1.1, q.2.1.2.2.1.2⟩, fun i hi y hy => ⟨Any_same (q.2.1.2.2.2 i hi y hy).1, (q.2.1.2.2.2 i hi y hy).2⟩⟩, Kst.same (s := U) (U := U.calling g mk a) rfl q.2.2⟩, recvL hC hO, fun U hU hW => ⟨rfl, ⟨by rw [hU], by rw [hU]; exact P2 hO n4, ⟨Any_warm hW hU hv1.1, hv1.2, hv2.1⟩, fun j hj y9 hy9 => by obtain ⟨b1, b2, b3, b4⟩ := hel j y9 hy9; exact ⟨Any_warm hW hU b1, b2, b3, b4⟩⟩, Kst.warm hW hK⟩⟩ rfl rfl hD.lh.1 rfl (lv_room (Nat.le_trans (rest_cat ad) (by omega))) hd ⟨by omega, by omega⟩) hfree
        (fun v st9 t9 h0 hq => by
          obtain ⟨q, m8, hv, z1, z2, z3, z4⟩ := hq
          cases hv
          have hre : q = ad (c + 10) i ∨ H.size ≤ q := z1
          obtain ⟨w1, w2, w3, w4⟩ := list_fin (xs := li c i ++ [y]) hD.1 hl hk hsh.2 (fun q z => z) hfree h0 z4 hre (fun z => z1.elim (fun w => hne (w.symm.trans z)) (fun w => absurd hsh.1 (Nat.not_lt.mpr (z ▸ w)))) z3 (by rw [List.length_append]; rfl) (fun j => by rw [elG_eq, ← ht]; exact up_app j) (by rw [List.length_append]; show _ + 1 ≤ capG _; unfold capG; omega) (by unfold capG; omega) (by unfold capG; omega) hxs
          exact ⟨some (vI 1), _, _, rfl, ⟨rfl, rfl⟩, w1, w2, fun v hv => by cases hv; trivial, w3, w4⟩)
        (fun r S' hq => by obtain ⟨rfl, rfl⟩ := hq; exact h)
    · have n1' : (li c i).length ≤ n := n1
      have hlt : (li c i).length < n := by omega
      refine jrun (k1 := 1) (k2 := k) (mc := 0) (ms := 0) (Q1 := fun r S' => r = some (vI 1) ∧ S' = (lv, fr, fi, ai, ar, up2 li c i (li c i ++ [y]), out, rho)) hC hD (by omega) (by omega) (by omega) hD.lvs.2.2
        (va_runV (As := [.ref (ad t y)]) (b := ad c i) (own := mi.1.cls) (C := RJx4a65c) ⟨hC.1, hC.2.1, hC.2.2.2.2.1, hC.2.2.2.2.2.1, hT⟩ (jAddR (D := D) (ad c i) (ad (c + 10) i) (li c i).length n (ad t y) H.size m9 (fun j => ((li c i)[j]?).map (ad (tA c))) hlt n3 had (hv2.2 hne))
          (cwV 1 hT (goodV9 hw im_Jx4a65c_add_9ea2d se_Jx4a65c_add_9ea2d in_Jx4a65c cd_Jx4a65c_add_9ea2d) rfl rfl rfl (by decide +kernel) ⟨by show 7 ≤ R.frames; omega, hRl⟩)
          ⟨fun a U g mk q => ⟨q.1, ⟨q.2.1.1, q.2.1.2.1, ⟨Any_same q.2.1.2.2.1.1, q.2.1.2.2.1.2⟩, trivial⟩, Kst.same (s := U) (U := U.calling g mk a) rfl q.2.2⟩, recvL hC hO, fun U hU hW => ⟨rfl, ⟨by rw [hU], by rw [hU]; exact P2 hO n4, ⟨Any_warm hW hU hv1.1, hv1.2, hv2.1⟩, trivial⟩, Kst.warm hW hK⟩⟩ rfl rfl hD.lh.1 rfl (lv_room (Nat.le_trans (rest_cat ad) (by omega))) hd ⟨by omega, by omega⟩) hfree
        (fun v st9 t9 h0 hq => by
          obtain ⟨q, m8, hv, z1, z2, z3, z4⟩ := hq
          cases hv
          have hre : q = ad (c + 10) i ∨ H.size ≤ q := z1
          obtain ⟨w1, w2, w3, w4⟩ := list_fin (xs := li c i ++ [y]) hD.1 hl hk hsh.2 (fun q z => z) hfree h0 z4 hre (fun z => z1.elim (fun w => hne (w.symm.trans z)) (fun w => absurd hsh.1 (Nat.not_lt.mpr (z ▸ w)))) z3 (by rw [List.length_append]; rfl) (fun j => by rw [← ht]; exact up_app j) (by rw [List.length_append]; show _ + 1 ≤ n; omega) (n2) (n3) hxs
          exact ⟨some (vI 1), _, _, rfl, ⟨rfl, rfl⟩, w1, w2, fun v hv => by cases hv; trivial, w3, w4⟩)
        (fun r S' hq => by obtain ⟨rfl, rfl⟩ := hq; exact h)
set_option maxRecDepth 4000 in
theorem wp_remove {j : Int32} {y : Nat} (hk : kd c = 4) (ht : tA c = t) (hdd : 8 ≤ d) (h0 : ¬ j < 0) (hy : (li c i)[j.toNatClampNeg]? = some y) (hw : Cond.methodLink mi.1.cls x yJx4a65c_remove_915e3 ∈ TW) (hd : decode mi.2.1 pc = .ok (.invokevirtual x, 3)) (hr : st.length ≤ 4)
    (h : WP mi d k (pc + 3) L (vR t y :: st) (lv, fr, fi, ai, ar, up2 li c i ((li c i).eraseIdx j.toNatClampNeg), out, rho) Q QX) : WP mi d k pc L (vI j :: vR c i :: st) (lv, fr, fi, ai, ar, li, out, rho) Q QX := by
  intro p l e R s m args below meth cc D A lv0 ad0 hC H locs cells slots ls ad hD
  have h4 := kd4 hk
  have hl : lv c i = true := lv_of hD.lvs.2.1 (show ¬ (71 ≤ c ∧ c < 75) by omega)
  have hf1 := hC.2.2.2.2.2.2.2.2.2.2.2.1
  have hf2 := hC.2.2.2.2.2.2.2.2.2.2.2.2.1
  have hb1 := hD.2.2.2.2.2.2.1
  have hb2 := hD.2.2.2.2.2.2.2
  have hK := hC.2.2.2.2.2.2.2.1
  have hT := hC.2.2.2.2.2.2.1
  obtain ⟨m9, hO, hrow⟩ := list_of hD.1 hl hk
  have hlt := (List.getElem?_eq_some_iff.mp hy).1
  have ht9 : t < 9 := by rw [← ht]; exact (tA4 hk).1
  have hsh := shared_lt hC hD
  have hRl : 8 + (4 + 11) + 160 ≤ R.locals := by omega
  obtain ⟨j', hj', rfl⟩ := nI_of h0
  have ej : (nI j').toNatClampNeg = j' := nI_clamp hj'
  rw [ej] at hlt hy h
  have hly : lv t y = true := by rw [← ht]; exact hD.1.2.2.2.2.1 c i y hl hk (List.mem_of_getElem? hy)
  rcases hrow with ⟨e1, e2⟩ | ⟨hne, n, n1, n2, n3, n4⟩
  · have e2' : li c i = [] := e2
    rw [e2'] at hlt
    cases hlt
  · have had := apart1 hD.1 hl hk hne
    have hfree : ∀ q, jA (ad c i) (ad (c + 10) i) H.size q → ownA D (lv, fr, fi, ai, ar, li, out, rho) ad H.size q := li_own (hl := hl) hk (Or.inl ⟨rfl, hne⟩)
    have hel : ∀ (j y9 : Nat), ((li c i)[j]?).map (ad (tA c)) = some y9 → va_Any bO s H y9 ∧ y9 < H.size ∧ y9 ≠ ad c i ∧ y9 ≠ ad (c + 10) i := fun j y9 hj => by
      rw [ht] at hj
      cases hz : (li c i)[j]? with
      | none => rw [hz] at hj; cases hj
      | some x9 =>
        rw [hz] at hj
        cases hj
        have hlx : lv t x9 = true := by rw [← ht]; exact hD.1.2.2.2.2.1 c i x9 hl hk (List.mem_of_getElem? hz)
        have b1 := elem_any hC hD hlx ht9
        have b2 := elem_ne hD.1 hl hk hlx ht9
        exact ⟨b1.1, b1.2, b2.1, b2.2 hne⟩
    have n1' : (li c i).length ≤ n := n1
    have elen : ((li c i).eraseIdx j').length = (li c i).length - 1 := List.length_eraseIdx_of_lt hlt
    have hxs : ∀ j, j ∈ (li c i).eraseIdx j' → lv (tA c) j = true := fun j hj => hD.1.2.2.2.2.1 c i j hl hk (List.mem_of_mem_eraseIdx hj)
    refine jrun (k1 := 0) (k2 := k) (mc := 0) (ms := 0) (Q1 := fun r S' => r = some (vR t y) ∧ S' = (lv, fr, fi, ai, ar, up2 li c i ((li c i).eraseIdx j'), out, rho)) hC hD (by omega) (Nat.le_refl _) (Nat.le_refl _) hD.lvs.2.2
      (va_runV (As := [.int (nI j')]) (b := ad c i) (own := mi.1.cls) (C := RJx4a65c) ⟨hC.1, hC.2.1, hC.2.2.2.2.1, hC.2.2.2.2.2.1, hT⟩ (jRemove (D := D) (ad t y) (ad c i) (ad (c + 10) i) n (li c i).length j' H.size m9 (fun j => ((li c i)[j]?).map (ad (tA c))) hlt n1' n3 had (by rw [ht, hy]; rfl))
        (cwV 1 hT (goodV9 hw im_Jx4a65c_remove_915e3 se_Jx4a65c_remove_915e3 in_Jx4a65c cd_Jx4a65c_remove_915e3) rfl rfl rfl (by decide +kernel) ⟨by show 3 ≤ R.frames; omega, hRl⟩)
        ⟨fun a U g mk q => ⟨q.1, ⟨q.2.1.1, q.2.1.2.1, fun i hi y hy => ⟨Any_same (q.2.1.2.2 i hi y hy).1, (q.2.1.2.2 i hi y hy).2⟩⟩, Kst.same (s := U) (U := U.calling g mk a) rfl q.2.2⟩, recvL hC hO, fun U hU hW => ⟨rfl, ⟨by rw [hU], by rw [hU]; exact P2 hO n4, fun j hj y9 hy9 => by obtain ⟨b1, b2, b3, b4⟩ := hel j y9 hy9; exact ⟨Any_warm hW hU b1, b2, b3, b4⟩⟩, Kst.warm hW hK⟩⟩ rfl rfl hD.lh.1 rfl (lv_room (Nat.le_trans (rest_cat ad) (by omega))) hd ⟨by omega, by omega⟩) hfree
      (fun v st9 t9 h0 hq => by
        obtain ⟨m8, hv, z3, z4⟩ := hq
        cases hv
        obtain ⟨w1, w2, w3, w4⟩ := list_fin (xs := (li c i).eraseIdx j') hD.1 hl hk hsh.2 (fun q z => z) hfree h0 z4 (Or.inl rfl) hne z3 (by rw [elen]) (fun j => remF_eq hlt j) (by omega) n2 n3 hxs
        exact ⟨some (vR t y), _, _, by show some (Value.ref _) = some (Value.ref _); rw [(w2 t y hly).2], ⟨rfl, rfl⟩, w1, w2, fun v hv => by cases hv; exact Or.inl hly, w3, w4⟩)
      (fun r S' hq => by obtain ⟨rfl, rfl⟩ := hq; exact h)
end LW
