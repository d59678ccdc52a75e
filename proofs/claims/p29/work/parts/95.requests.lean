/-! requests: their end, and how they go on -/
section QI
variable {X Y : Nat → Prop} {m : CM} {rho : RH}
/-- what no part of a tick writes -/
def S0 (rho rho' : RH) : Prop := ∀ F, F = 0 ∨ F = 64 → rho' F 0 = rho F 0
theorem S0.rf (rho : RH) : S0 rho rho := fun _ _ => rfl
theorem S0.tr {r1 r2 r3 : RH} (h : S0 r1 r2) (g : S0 r2 r3) : S0 r1 r3 := fun F hF => (g F hF).trans (h F hF)
def eqM (m : CM) (r : Nat) (e t v : Int32) : CM := sI (sI (sI m 642 r e) 643 r t) 644 r v
def eqR (rho : RH) (r : Nat) (e t v : Int32) : RH := up2 (up2 (up2 rho 56 r e) 57 r t) 58 r v
def kpV (rho : RH) (r : Nat) (e : Int32) : Int32 := if (nI r - nI r / rho 29 0 * rho 29 0) = 0 then 1 else if e = 3 then (if rho 0 0 - rho 55 r ≤ rho 30 0 then 0 else 1) else 1
theorem kpV_01 (rho : RH) (r : Nat) (e : Int32) : kpV rho r e = 0 ∨ kpV rho r e = 1 := by
  unfold kpV
  split
  · exact Or.inr rfl
  · split
    · split
      · exact Or.inl rfl
      · exact Or.inr rfl
    · exact Or.inr rfl
theorem eq_inv {r : Nat} {e t v : Int32} (h : INVX (fun x => X x ∨ x = 400 + r) Y m rho) (hr : r < iR rho) (he : e ≠ 8) (hv : v = 0 ∨ v = 1) : INVX (fun x => X x ∨ x = 400 + r) Y (eqM m r e t v) (eqR rho r e t v) := by
  obtain ⟨b1, b2, b3, b4, b5, b6, b7, b8, b9, b10, b11, b12, b13, b14, b15, b16, c0, cs, ci, cp, cr, cq, ck, cw, cz⟩ := h
  refine ⟨b1, b2, b3, b4, b5, b6, b7, fun j hj => ?_, b9, b10, b11, b12, b13, ⟨fun o n ho hn => ?_, b14.2⟩, b15, b16, c0, cs, ci, cp, cr, cq, ck, cw, cz⟩
  · have hh := b8 j hj
    by_cases z : j = r
    · subst z
      refine ⟨hh.1, hh.2.1, ?_, fun _ => ⟨?_, ?_, ?_⟩⟩
      · show gI (sI (sI (sI m 642 j e) 643 j t) 644 j v) 642 j = up2 (up2 (up2 rho 56 j e) 57 j t) 58 j v 56 j
        rw [gI_sI, if_neg (by decide), gI_sI, if_neg (by decide), gI_sI, if_pos rfl, if_pos rfl, up2_f _ _ _ _ (by decide), up2_f _ _ _ _ (by decide), up2_s]
      · show gI (sI (sI (sI m 642 j e) 643 j t) 644 j v) 643 j = up2 (up2 (up2 rho 56 j e) 57 j t) 58 j v 57 j
        rw [gI_sI, if_neg (by decide), gI_sI, if_pos rfl, if_pos rfl, up2_f _ _ _ _ (by decide), up2_s]
      · show gI (sI (sI (sI m 642 j e) 643 j t) 644 j v) 644 j = up2 (up2 (up2 rho 56 j e) 57 j t) 58 j v 58 j
        rw [gI_sI, if_pos rfl, if_pos rfl, up2_s]
      · show up2 (up2 (up2 rho 56 j e) 57 j t) 58 j v 58 j = 0 ∨ up2 (up2 (up2 rho 56 j e) 57 j t) 58 j v 58 j = 1
        rw [up2_s]
        exact hv
    · have e1 : ∀ F, eqR rho r e t v F j = rho F j := fun F => by
        unfold eqR
        rw [up2_i _ _ _ _ z, up2_i _ _ _ _ z, up2_i _ _ _ _ z]
      have e2 : ∀ F, gI (eqM m r e t v) F j = gI m F j := fun F => by
        unfold eqM
        rw [gI_sI, if_neg z, ite_self, gI_sI, if_neg z, ite_self, gI_sI, if_neg z, ite_self]
      rw [e1, e1, e1, e1, e2, e2, e2, e2]
      exact hh
  · have hh := b14.1 o n ho hn
    refine ⟨hh.1, fun z1 z2 => ?_⟩
    have z3 := hh.2 z1 z2
    have hgo : Go (eqR rho r e t v) o ↔ Go rho o := by
      unfold Go goB
      by_cases y1 : o < 400
      · rw [if_pos y1, if_pos y1]
        exact Iff.rfl
      · rw [if_neg y1, if_neg y1]
        by_cases y2 : o < 440
        · rw [if_pos y2, if_pos y2, show eqR rho r e t v 56 (o - 400) = rho 56 (o - 400) by
            unfold eqR
            rw [up2_f _ _ _ _ (by decide), up2_f _ _ _ _ (by decide), up2_i _ _ _ _ (fun y => z2 (Or.inr (by omega)))]]
        · rw [if_neg y2, if_neg y2]
          exact Iff.rfl
    rw [hgo]
    exact z3
theorem e8_kept (h : INVX X Y m rho) {r : Nat} (hr : r < iR rho) {m' : CM} (h1 : gI m' 1026 0 = gI m 1026 0) (h2 : gR m' 640 r = gR m 640 r) (h3 : gI m' 902 (4 * (400 + r)) = gI m 902 (4 * (400 + r))) : f8_X8_isKeptByHead 0 r m' = some (if (nI r - nI r / rho 29 0 * rho 29 0) = 0 then 1 else 0, m', 0) := by
  have hb := h.rb9
  have hR := hb.R
  have h0 := hb.r09
  have hok : OE rho (400 + r) := Or.inr (Or.inl ⟨by omega, by omega⟩)
  have hss := (hb.sce hok).2.2 (by omega)
  have ht := h.at9 (400 + r) 0 hok (by omega)
  have h29 := h0.2.2.2.2.2.2.1.eq (by omega)
  have h29' := h0.2.2.2.2.2.2.1.lt (by omega)
  have hpos := h0.2.2.2.2.2.2.2.1
  have e902 : gI m 902 (4 * (400 + r)) = nI r := by
    refine (ht.2.2.2.2.2.2.1).trans ?_
    unfold rqo
    rw [if_neg (by omega), if_pos (by omega)]
    rw [show 400 + r - 400 = r by omega]
  unfold f8_X8_isKeptByHead
  rw [h1, h2, h.ag9.2.2.1, (h.ar9 r hr).1, od_s, h3, e902, if_neg (by rw [h29]; exact cle (a := 0) (by omega) h0.2.2.2.2.2.2.2.1), if_pos (by rw [h29]; exact nI_ne0 (by omega) (by omega))]
  split <;> rfl
theorem e8_endRequest (h : INVX X Y m rho) {r : Nat} (hr : r < iR rho) (e : Int32) : f8_X8_endRequest 0 r e m = cb (f8_X8_close (f8_X8_end 8) 0 (4 * (400 + r)) 0 (eqM m r e (rho 0 0) (kpV rho r e))) fun _ m9 => some (0, m9, 0) := by
  have hk := e8_kept h hr (m' := sI (sI m 642 r e) 643 r (rho 0 0)) rfl rfl rfl
  have e1 : gI (sI m 642 r e) 1024 0 = rho 0 0 := h.now
  have e2 : gI (sI (sI m 642 r e) 643 r (rho 0 0)) 1024 0 = rho 0 0 := h.now
  have e3 : gI (sI (sI m 642 r e) 643 r (rho 0 0)) 641 r = rho 55 r := (h.ar9 r hr).2.1
  have e4 : gI (sI (sI m 642 r e) 643 r (rho 0 0)) 1027 0 = rho 30 0 := h.ag9.2.2.2
  have e5 : ∀ v, gR (sI (sI (sI m 642 r e) 643 r (rho 0 0)) 644 r v) 640 r = some (4 * (400 + r)) := fun v => (h.ar9 r hr).1
  unfold f8_X8_endRequest
  simp only [wr_s]
  simp only [e1, e2, e3, e4, hk, cb_s0, e5, od_s]
  unfold kpV eqM
  by_cases z1 : (nI r - nI r / rho 29 0 * rho 29 0) = 0
  · simp only [if_pos z1, if_neg (show ¬ (1 : Int32) = 0 by decide), ite_self]
  · simp only [if_neg z1]
    by_cases z2 : e = 3
    · simp only [if_pos z2]
      by_cases z3 : rho 0 0 - rho 55 r ≤ rho 30 0
      · simp only [if_pos z3, if_true]
      · simp only [if_neg z3, if_true]
    · simp only [if_neg z2, if_true, ite_self]
theorem e9_endsRequest (hb : RB rho) {r : Nat} (hr : r < iR rho) (e : Int32) : f9_endsRequest (nI r) e rho = ob (f9_turnsOff (nI (400 + r)) (eqR rho r e (rho 0 0) (kpV rho r e))) fun _ r9 => some (0, r9) := by
  have hR := hb.R
  have h0 := hb.r09
  have h29 := h0.2.2.2.2.2.2.1.eq (by omega)
  have h29' := h0.2.2.2.2.2.2.1.lt (by omega)
  have hpos := h0.2.2.2.2.2.2.2.1
  have q := vq_nI (k := r) (n := 40) (by omega) (by omega)
  have c := nI_clamp (n := r) (by omega)
  have e29 : up2 (up2 rho 56 r e) 57 r (up2 rho 56 r e 0 0) 29 0 = rho 29 0 := rfl
  have e0 : up2 (up2 rho 56 r e) 57 r (up2 rho 56 r e 0 0) 0 0 = rho 0 0 := rfl
  have e55 : up2 (up2 rho 56 r e) 57 r (up2 rho 56 r e 0 0) 55 r = rho 55 r := rfl
  have e30 : up2 (up2 rho 56 r e) 57 r (up2 rho 56 r e 0 0) 30 0 = rho 30 0 := rfl
  have e00 : up2 rho 56 r e 0 0 = rho 0 0 := rfl
  have hne : ¬ rho 29 0 = 0 := by rw [h29]; exact nI_ne0 (by omega) (by omega)
  have e400 : (400 : Int32) + nI r = nI (400 + r) := by rw [l400, nI_add]
  unfold f9_endsRequest
  simp only [if_pos q, wr_s]
  simp only [c, e29, e0, e55, e30, if_pos hne, e400]
  simp only [e00]
  unfold kpV eqR
  by_cases z1 : (nI r - nI r / rho 29 0 * rho 29 0) = 0
  · simp only [if_pos z1]
  · simp only [if_neg z1]
    by_cases z2 : e = 3
    · simp only [if_pos z2]
      by_cases z3 : rho 0 0 - rho 55 r ≤ rho 30 0
      · simp only [if_pos z3]
      · simp only [if_neg z3]
    · simp only [if_neg z2]
theorem ends_both {r : Nat} {e : Int32} (h : INVX (fun x => X x ∨ x = 400 + r) Y m rho) (hr : r < iR rho) (he : e ≠ 8) : ∃ m' g rho', f8_X8_endRequest 0 r e m = some (0, m', g) ∧ f9_endsRequest (nI r) e rho = some (0, rho') ∧ INVX X Y m' rho' ∧ g + pot m' ≤ pot m ∧ iR rho' = iR rho ∧ S0 rho rho' := by
  have hb := h.rb9
  have hR := hb.R
  have h3 := eq_inv (e := e) (t := rho 0 0) h hr he (kpV_01 rho r e)
  have e8 := e8_endRequest h hr e
  have e9 := e9_endsRequest hb hr e
  generalize hv : kpV rho r e = v at *
  have hok : OE (eqR rho r e (rho 0 0) v) (400 + r) := Or.inr (Or.inl ⟨by omega, by show 400 + r < 400 + iR rho; omega⟩)
  have hok0 : OE rho (400 + r) := Or.inr (Or.inl ⟨by omega, by omega⟩)
  have hsc : 0 + 1 = sc (eqR rho r e (rho 0 0) v) (400 + r) := ((hb.sce hok0).2.2 (by omega)).symm
  obtain ⟨m4, j1, j2, j3, j4⟩ : ∃ m4, f8_X8_close (f8_X8_end 8) 0 (4 * (400 + r)) 0 (eqM m r e (rho 0 0) v) = f8_X8_close (f8_X8_end 8) 0 (4 * (400 + r)) 0 m4 ∧ INVX (fun x => X x ∨ x = 400 + r) Y m4 (eqR rho r e (rho 0 0) v) ∧ pot m4 = pot m ∧ gI m4 911 (4 * (400 + r)) ≠ 8 := by
    by_cases z : gI (eqM m r e (rho 0 0) v) 911 (4 * (400 + r)) = 8
    · refine ⟨sI (eqM m r e (rho 0 0) v) 911 (4 * (400 + r)) 7, ?_, s911_inv (n := 0) h3 hok hsc (Or.inr rfl) (by decide), rfl, ?_⟩
      · have e7 : gI (sI (eqM m r e (rho 0 0) v) 911 (4 * (400 + r)) 7) 911 (4 * (400 + r)) = 7 := by rw [gI_sI, if_pos rfl, if_pos rfl]
        unfold f8_X8_close
        rw [if_pos z, wr_s, e7, if_neg (show ¬ (7 : Int32) = 8 by decide)]
      · rw [gI_sI, if_pos rfl, if_pos rfl]
        decide
    · exact ⟨_, rfl, h3, rfl, z⟩
  obtain ⟨m5, g, rho5, k1, k2, k3, k4, k5, k6, k7⟩ := close_both (n := 0) j2 hok hsc j4
  have hG := k5.toG j2.rb9
  have hok5 := hG.oe hok
  have g911 : gI m5 911 (4 * (400 + r)) ≠ 8 := by
    rw [show gI m5 911 (4 * (400 + r)) = gI m4 911 (4 * (400 + r)) from k6 (400 + r) 0 hok (by omega) (Bch_irr _ _)]
    exact j4
  refine ⟨m5, g + 0, rho5, ?_, ?_, k3.drop (fun n ho hn => ⟨fun z => ?_, fun _ => ⟨?_, fun z => by omega⟩⟩) (fun q hq h7 hqo => ?_), by omega, ?_, fun F hF => (hG.1 F 0 (by unfold stF; omega)).trans (by rcases hF with rfl | rfl <;> rfl)⟩
  · rw [e8, j1]
    exact cb_r k1 rfl
  · rw [e9, k2, ob_s]
  · unfold Go goB at z
    rw [if_neg (by omega), if_pos (by omega), show 400 + r - 400 = r by omega, hG.1 56 r (by unfold stF; omega)] at z
    have z2 := of_decide_eq_true z
    rw [show eqR rho r e (rho 0 0) v 56 r = e by unfold eqR; rw [up2_f _ _ _ _ (by decide), up2_f _ _ _ _ (by decide), up2_s]] at z2
    exact absurd z2 he
  · have : n = 0 := by
      have := (k3.rb9.sce hok5).2.2 (by omega)
      omega
    rw [this]
    exact g911
  · have hN := (k3.rb9.rk9 q hq).2.2.2.2.1
    rw [hqo, (k3.rb9.sce hok5).2.2 (by omega)] at hN
    unfold sid
    rw [hqo, show iN rho5 q = 0 by omega]
    exact g911
  · unfold iR
    rw [hG.1 51 0 (by unfold stF; omega)]
    rfl
/-- the loop over requests -/
theorem req_visit (h : INV m rho) {r : Nat} (hr : r < iR rho) (h56 : rho 56 r = 8) (h54 : rho 0 0 < rho 54 r) : ∃ m' g rho', (∀ (α : Type) (K : CM → CR α) x m9 g9, K m' = some (x, m9, g9) → cb (f8_X8_goOn 0 (4 * (400 + r)) m) (fun _ m12 => cb (f8_X8_endIfOver 0 r m12) fun _ m18 => K m18) = some (x, m9, g + g9)) ∧ f9_goesRequest (nI r) rho = some (0, rho') ∧ INV m' rho' ∧ g + pot m' ≤ pot m ∧ iR rho' = iR rho ∧ S0 rho rho' := by
  have hX0 : ∀ x, ¬ N0 x := fun _ z => z
  have hb := h.rb9
  have hR := hb.R
  have hok : OE rho (400 + r) := Or.inr (Or.inl ⟨by omega, by omega⟩)
  have hsc := (hb.sce hok).2.2 (by omega)
  have hgo : Go rho (400 + r) := by
    unfold Go goB
    rw [if_neg (by omega), if_pos (by omega), show 400 + r - 400 = r by omega]
    exact decide_eq_true h56
  have e400 : (400 : Int32) + nI r = nI (400 + r) := by rw [l400, nI_add]
  obtain ⟨how, m2, g2, rho2, i1, i2, i3, i4, i5, i6⟩ := go_both (n := 0) h hX0 hX0 (show 400 + r < 440 by omega) hok hsc.symm hgo
  have hok2 := i5.oe hok
  have hsc2 : sc rho2 (400 + r) = 1 := (i5.sc9 hok).trans hsc
  have hR2 : iR rho2 = iR rho := by
    unfold iR
    rw [i5.1 51 0 (by unfold stF; omega)]
  have h02 : S0 rho rho2 := fun F hF => i5.1 F 0 (by unfold stF; omega)
  have h562 : rho2 56 r = 8 := (i5.1 56 r (by unfold stF; omega)).trans h56
  have hgo2 : Go rho2 (400 + r) := by
    unfold Go goB
    rw [if_neg (by omega), if_pos (by omega), show 400 + r - 400 = r by omega]
    exact decide_eq_true h562
  have r640 : ∀ {X' Y' : Nat → Prop}, INVX X' Y' m2 rho2 → gR m2 640 r = some (4 * (400 + r)) := fun z => (z.ar9 r (by omega)).1
  have over : ∀ {X' Y' : Nat → Prop} {e : Int32}, INVX X' Y' m2 rho2 → gI m2 911 (4 * (400 + r)) = e → e ≠ 8 → f8_X8_endIfOver 0 r m2 = cb (f8_X8_endRequest 0 r e m2) fun _ m5 => some (0, m5, 0) := fun z y x => by
    unfold f8_X8_endIfOver
    rw [r640 z, od_s, if_neg (by rw [y]; exact x), y]
  rcases i3 with ⟨rfl, hI⟩ | ⟨rfl, hI, h911, hdead⟩ | ⟨rfl, hI, h911⟩
  · have h8 : gI m2 911 (4 * (400 + r)) = 8 := stp (n := 0) hI hX0 hok2 hsc2.symm hgo2
    refine ⟨m2, g2, rho2, fun α K x m9 g9 hK => ?_, ?_, hI, i4, hR2, h02⟩
    · refine cb_r i1 ?_
      show cb (f8_X8_endIfOver 0 r m2) _ = _
      rw [show f8_X8_endIfOver 0 r m2 = some (0, m2, 0) by
        unfold f8_X8_endIfOver
        rw [r640 hI, od_s, if_pos h8], cb_s0]
      exact hK
    · unfold f9_goesRequest
      rw [e400, i2, ob_s, if_pos (show (0 : Int32) ≤ 0 by decide)]
  · obtain ⟨m3, g3, rho3, j1, j2, j3, j4, j5⟩ := ends_both hI (show r < iR rho2 by omega) (e := 3) (by decide)
    refine ⟨m3, g2 + (g3 + 0), rho3, fun α K x m9 g9 hK => ?_, ?_, j3, by omega, j5.1.trans hR2, h02.tr j5.2⟩
    · rw [show g2 + (g3 + 0) + g9 = g2 + (g3 + 0 + g9) by omega]
      refine cb_r i1 ?_
      show cb (f8_X8_endIfOver 0 r m2) _ = _
      rw [over hI h911 (by decide)]
      exact cb_r (cb_r j1 rfl) hK
    · unfold f9_goesRequest
      rw [e400, i2, ob_s, if_neg (show ¬ (1 : Int32) ≤ 0 by decide), if_pos rfl, j2, ob_s]
  · obtain ⟨m3, g3, rho3, j1, j2, j3, j4, j5⟩ := ends_both hI (show r < iR rho2 by omega) (e := 4) (by decide)
    refine ⟨m3, g2 + (g3 + 0), rho3, fun α K x m9 g9 hK => ?_, ?_, j3, by omega, j5.1.trans hR2, h02.tr j5.2⟩
    · rw [show g2 + (g3 + 0) + g9 = g2 + (g3 + 0 + g9) by omega]
      refine cb_r i1 ?_
      show cb (f8_X8_endIfOver 0 r m2) _ = _
      rw [over hI h911 (by decide)]
      exact cb_r (cb_r j1 rfl) hK
    · unfold f9_goesRequest
      rw [e400, i2, ob_s, if_neg (show ¬ (2 : Int32) ≤ 0 by decide), if_neg (show ¬ (2 : Int32) = 1 by decide), j2, ob_s]
theorem req_loop : ∀ (d r : Nat) (m : CM) (rho : RH) (n8 n9 : Nat), r + d = iR rho → INV m rho → d < n8 → d < n9 → ∃ m' g rho', l8_X8_goOnWithRequests_2 n8 0 (nI r) m = some (0, m', g) ∧ l9_passes_232 n9 (nI r) rho = l9_passes_297 FU 0 rho' ∧ INV m' rho' ∧ g + pot m' ≤ pot m ∧ S0 rho rho' := by
  intro d
  induction d with
  | zero =>
    intro r m rho n8 n9 hj h h8 h9
    obtain ⟨n8, rfl⟩ : ∃ n', n8 = n' + 1 := ⟨n8 - 1, by omega⟩
    obtain ⟨n9, rfl⟩ : ∃ n', n9 = n' + 1 := ⟨n9 - 1, by omega⟩
    have hR := h.rb9.R
    refine ⟨m, 0, rho, ?_, ?_, h, by omega, S0.rf _⟩
    · rw [l8_X8_goOnWithRequests_2, h.a09.2.2.2.2.1, od_s, h.al9.2.1, List.length_range, if_pos (nI_le (by omega) (by omega))]
    · rw [l9_passes_232, hR.1, if_pos (nI_le (by omega) (by omega))]
  | succ d ih =>
    intro r m rho n8 n9 hj h h8 h9
    obtain ⟨n8, rfl⟩ : ∃ n', n8 = n' + 1 := ⟨n8 - 1, by omega⟩
    obtain ⟨n9, rfl⟩ : ∃ n', n9 = n' + 1 := ⟨n9 - 1, by omega⟩
    have hb := h.rb9
    have hR := hb.R
    have hr : r < iR rho := by omega
    have har := h.ar9 r hr
    have hok : OE rho (400 + r) := Or.inr (Or.inl ⟨by omega, by omega⟩)
    have hsc := (hb.sce hok).2.2 (by omega)
    have ht := h.at9 (400 + r) 0 hok (by omega)
    have q := vq_nI (k := r) (n := 40) (by omega) (by omega)
    have c := nI_clamp (n := r) (by omega)
    have e901 : gI m 901 (4 * (400 + r)) = rho 54 r := by
      refine (ht.2.2.2.2.2.1).trans ?_
      unfold dlo
      rw [if_neg (by omega), if_pos (by omega), show 400 + r - 400 = r by omega]
    rw [l8_X8_goOnWithRequests_2, h.a09.2.2.2.2.1, od_s, h.al9.2.1, List.length_range, if_neg (cle (by omega) hr), if_pos (nI_pos (by omega)), c, rg_lt hr, od_s, har.2.2.1, l9_passes_232, hR.1, if_neg (cle (by omega) hr), if_pos q, c]
    by_cases z : rho 56 r = 8
    · rw [if_pos z, if_pos z, har.1, od_s, e901, h.now]
      by_cases y : rho 0 0 < rho 54 r
      · rw [if_pos y, if_pos y]
        obtain ⟨m1, g1, r1, k1, k2, k3, k4, k5, k6⟩ := req_visit h hr z y
        obtain ⟨m2, g2, r2, i1, i2, i3, i4, i5⟩ := ih (r + 1) m1 r1 n8 n9 (by omega) k3 (by omega) (by omega)
        refine ⟨m2, g1 + g2, r2, k1 _ _ _ _ _ (by rw [nI_1]; exact i1), ?_, i3, by omega, k6.tr i5⟩
        rw [k2, ob_s, nI_1]
        exact i2
      · rw [if_neg y, if_neg y]
        obtain ⟨m1, g1, r1, k1, k2, k3, k4, k5, k6⟩ := ends_both (X := N0) (Y := N0) (r := r) (h.mono (fun _ z => z.elim) (fun _ z => z)) hr (e := 5) (by decide)
        obtain ⟨m2, g2, r2, i1, i2, i3, i4, i5⟩ := ih (r + 1) m1 r1 n8 n9 (by omega) k3 (by omega) (by omega)
        refine ⟨m2, g1 + g2, r2, cb_r k1 (by rw [nI_1]; exact i1), ?_, i3, by omega, k6.tr i5⟩
        rw [k2, ob_s, nI_1]
        exact i2
    · rw [if_neg z, if_neg z, nI_1]
      exact ih (r + 1) m rho n8 n9 (by omega) h (by omega) (by omega)
theorem reqs_both (h : INV m rho) : ∃ m' g rho', f8_X8_goOnWithRequests 0 m = some (0, m', g) ∧ l9_passes_232 FU 0 rho = l9_passes_297 FU 0 rho' ∧ INV m' rho' ∧ g + pot m' ≤ pot m ∧ S0 rho rho' := by
  have hR := h.rb9.R
  have hF : FU = 1000 := rfl
  exact req_loop (iR rho) 0 m rho FU FU (by omega) h (by omega) (by omega)
end QI
