/-! a new request: the command -/
section QW
variable {m : CM} {rho : RH}
theorem nI_lt9 {a b : Nat} (h : a < b) (hb : b ≤ 1000000) : nI a < nI b := by
  rw [← not_le32]
  exact cle hb h
theorem cb_c {α β : Type} {a : α} {m1 : CM} {g : Nat} {k k' : α → CM → CR β} (h : k a m1 = k' a m1) : cb (some (a, m1, g)) k = cb (some (a, m1, g)) k' := by
  show Option.map _ (k a m1) = Option.map _ (k' a m1)
  rw [h]
theorem cmd9 : CMD9 INV pot := by
  intro m rho a1 a2 a3 hI ha2
  have ha := INVX.a09 hI
  have hb := INVX.rb9 hI
  have hR := hb.R
  have hT := hb.T
  have hC := hb.C
  have hP := hb.P
  have e40 : (40 : Int32) ≤ nI (iR rho) ↔ 40 ≤ iR rho := by
    rw [l40]
    exact ⟨fun z => Nat.le_of_not_lt fun y => cle (by omega) y z, fun z => nI_le z (by omega)⟩
  by_cases h1 : a1 < 0 ∨ 5 < a1
  · refine ⟨.inr 0, m, 1, 0, up2 rho 64 0 1, ?_, ?_, fun j hj => by cases hj; exact Or.inl rfl, Or.inr ⟨0, rfl, up2_s _ _ _ _, by decide⟩, th_X hI, by omega⟩
    · unfold f8_X8_request
      rw [e8_within, cb_s0, if_pos h1, if_pos rfl]
    · unfold f9_request
      rw [e9_isService, ob_s, e9_in, ob_s, if_pos h1, go0, ob_s, if_pos rfl, go0, ob_s, if_pos rfl, ite_self]
  · by_cases h3 : a3 < 1 ∨ 200 < a3
    · refine ⟨.inr 1, m, 1, 0, up2 rho 64 0 2, ?_, ?_, fun j hj => by cases hj; exact Or.inr (Or.inl rfl), Or.inr ⟨1, rfl, up2_s _ _ _ _, by decide⟩, th_X hI, by omega⟩
      · unfold f8_X8_request
        rw [e8_within, cb_s0, if_neg h1, if_neg i10, e8_within, cb_s0, if_pos h3, if_pos rfl]
      · unfold f9_request
        rw [e9_isService, ob_s, e9_in, ob_s, if_neg h1, if_pos h3, go10, ob_s, if_pos rfl, go10, ob_s, if_pos rfl, ite_self]
    · by_cases h40 : 40 ≤ iR rho
      · refine ⟨.inr 2, m, 1, 0, up2 rho 64 0 3, ?_, ?_, fun j hj => by cases hj; exact Or.inr (Or.inr rfl), Or.inr ⟨2, rfl, up2_s _ _ _ _, by decide⟩, th_X hI, by omega⟩
        · unfold f8_X8_request
          rw [e8_within, cb_s0, if_neg h1, if_neg i10, e8_within, cb_s0, if_neg h3, if_neg i10, ha.2.2.2.2.1, od_s, INV.len51 hI, if_pos (e40.mpr h40)]
        · unfold f9_request
          rw [e9_isService, ob_s, e9_in, ob_s, if_neg h1, if_neg h3, hR.1, if_pos (e40.mpr h40), go11, ob_s, if_pos rfl]
      · obtain ⟨s, hs, rfl⟩ := sv_x h1
        obtain ⟨x, hx1, hx, rfl⟩ := w1_x (n := 200) (by omega) (fun z => h3 (z.imp id (fun y => by rw [l200]; exact y)))
        generalize hr : iR rho = r at *
        have hr4 : r < 40 := by omega
        have hlen : (gL m 51 0).length = r := by rw [(INVX.al9 hI).2.1, List.length_range, hr]
        have haf := (INVX.af9 hI).2.2.2 (400 + r) 0 (by omega) (by omega) (fun z => by
          rcases z.1 with q | q | q <;> omega)
        have hv5 := (INVX.af9 hI).2.1 r (by omega) hr4
        obtain ⟨k1, k2, k3⟩ := rq_inv (rho := up2 rho 64 0 0) (th_X hI) (r := r) hr hr4 (x1 := nI s) (x2 := a2) ⟨s, hs, rfl⟩ ha2 (rho 0 0 + nI x) (rho 0 0)
        have hat := rqM_at m (r := r) (nI s) a2 (rho 0 0 + nI x) (rho 0 0)
        have h909 : gI (rqM m r (nI s) a2 (rho 0 0 + nI x) (rho 0 0)) 909 (4 * (400 + r)) = -1 := by
          unfold rqM nsM
          rw [gI_sL, gI_sI, if_neg (by decide), gI_sR, gI_sI, if_neg (by decide), gI_sN, if_neg (by omega), gI_sI, if_neg (by decide), gI_sI, if_neg (by decide), gI_sI, if_neg (by decide), gI_sI, if_neg (by decide), gI_sI, if_neg (by decide), gI_sI, if_neg (by decide), gI_sI, if_pos rfl, if_pos rfl]
        have hiR : iR (rqR (up2 rho 64 0 0) r (nI s) a2 (rho 0 0 + nI x) (rho 0 0)) = r + 1 := nv_nI (by omega)
        have ho : OE (rqR (up2 rho 64 0 0) r (nI s) a2 (rho 0 0 + nI x) (rho 0 0)) (400 + r) := Or.inr (Or.inl ⟨by omega, by rw [hiR]; omega⟩)
        have q0 : rqR (up2 rho 64 0 0) r (nI s) a2 (rho 0 0 + nI x) (rho 0 0) 0 0 = rho 0 0 := rfl
        have q64 : rqR (up2 rho 64 0 0) r (nI s) a2 (rho 0 0 + nI x) (rho 0 0) 64 0 = 0 := rfl
        have q54 : rqR (up2 rho 64 0 0) r (nI s) a2 (rho 0 0 + nI x) (rho 0 0) 54 r = rho 0 0 + nI x := (show _ = if r = r then rho 0 0 + nI x else rho 54 r from rfl).trans (if_pos rfl)
        have q56 : rqR (up2 rho 64 0 0) r (nI s) a2 (rho 0 0 + nI x) (rho 0 0) 56 r = 8 := (show _ = if r = r then 8 else rho 56 r from rfl).trans (if_pos rfl)
        have q52 : rqR (up2 rho 64 0 0) r (nI s) a2 (rho 0 0 + nI x) (rho 0 0) 52 r = nI s := (show _ = if r = r then nI s else rho 52 r from rfl).trans (if_pos rfl)
        have q48 : rqR (up2 rho 64 0 0) r (nI s) a2 (rho 0 0 + nI x) (rho 0 0) 48 (400 + r) = 0 := (show _ = if (400 + r) = (400 + r) then 0 else rho 48 (400 + r) from rfl).trans (if_pos rfl)
        have q49 : rqR (up2 rho 64 0 0) r (nI s) a2 (rho 0 0 + nI x) (rho 0 0) 49 (400 + r) = 0 := (show _ = if (400 + r) = (400 + r) then 0 else rho 49 (400 + r) from rfl).trans (if_pos rfl)
        have hTr : TR (rqR (up2 rho 64 0 0) r (nI s) a2 (rho 0 0 + nI x) (rho 0 0)) (400 + r) 0 = [] := by
          rw [List.eq_nil_iff_forall_not_mem]
          intro j hj
          have hj2 := TR_mem.mp hj
          have hE := hb.E (hb.rk9 j hj2.1).2.1
          have h22 : iO rho j = 400 + r := hj2.2.1
          omega
        have e9b : f9_begins (nI (400 + r)) (up2 (up2 (up2 (up2 (up2 (up2 (up2 (up2 rho 64 0 0) 51 0 (nI (r + 1))) 52 r (nI s)) 53 r a2) 54 r (rho 0 0 + nI x)) 55 r (rho 0 0)) 56 r 8) 46 (400 + r) (-1)) = ob (f9_tries (nI (400 + r)) 0 (rqR (up2 rho 64 0 0) r (nI s) a2 (rho 0 0 + nI x) (rho 0 0))) fun _ r9 => some (0, r9) := by
          unfold f9_begins
          rw [if_pos (vq_nI (by omega) (by omega)), nI_clamp (by omega), wr_s, wr_s, wr_s, up2_s]
          rfl
        have e8r : f8_X8_request 0 (nI s) a2 (nI x) m = cg 1 (cb (some (0, nsM (sN m 7 (4 * (400 + r))) (4 * (400 + r)) 6 (nI s) a2, 1) : CR Int32) fun _ _ => cg 1 (cg 1 (cb (f8_X8_tryOnce 0 (4 * (400 + r)) 0 (rqM m r (nI s) a2 (rho 0 0 + nI x) (rho 0 0))) fun _ m54 => cb (f8_X8_goOn 0 (4 * (400 + r)) m54) fun _ m60 => cb (f8_X8_endIfOver 0 r m60) fun _ m66 => some (.inl (gI m66 902 (4 * (400 + r))), m66, 0)))) := by
          have v55 : gV (sN m 7 (4 * (400 + r))) 55 (4 * (400 + r)) = false := by
            rw [gV_sN, if_neg (by decide)]
            exact haf.2
          have ex := e8_X7init (m := sN m 7 (4 * (400 + r))) (x1 := 6) (x2 := nI s) v55 ha2
          have hno := ns_out m (4 * (400 + r)) 6 (nI s) a2
          have r1 := (hno.2.1 1032 0 (by omega)).trans ha.2.2.2.2.1
          have l0 := ns_L m (4 * (400 + r)) 6 (nI s) a2 (c := 51) (j := 0) (by omega)
          have t1 := (hno.1 1024 0 (by omega)).trans (INVX.now hI)
          have v5 := (ns_V m (4 * (400 + r)) 6 (nI s) a2 (c := 5) (j := r) (by omega)).trans hv5
          unfold f8_X8_request
          rw [e8_within, cb_s0, if_neg h1, if_neg i10, e8_within, cb_s0, if_neg h3, if_neg i10, ha.2.2.2.2.1, od_s, INV.len51 hI, hr, if_neg (fun z => h40 (e40.mp z))]
          simp only [hlen]
          rw [if_pos (show gV m 7 (4 * (400 + r)) = false from haf.1)]
          refine congrArg (cg 1) ?_
          rw [wr_s, ex]
          unfold rqM
          generalize nsM (sN m 7 (4 * (400 + r))) (4 * (400 + r)) 6 (nI s) a2 = ns at *
          refine cb_c ?_
          have l1 : (gL ns 51 0).length = r := by
            rw [l0]
            exact hlen
          have t2 : gI (sI ns 902 (4 * (400 + r)) (nI r)) 1024 0 = rho 0 0 := t1
          have l2 : (gL (sI (sI ns 902 (4 * (400 + r)) (nI r)) 901 (4 * (400 + r)) (rho 0 0 + nI x)) 51 0).length = r := l1
          have v5' : gV (sI (sI ns 902 (4 * (400 + r)) (nI r)) 901 (4 * (400 + r)) (rho 0 0 + nI x)) 5 r = false := v5
          have t3 : gI (sN (sI (sI ns 902 (4 * (400 + r)) (nI r)) 901 (4 * (400 + r)) (rho 0 0 + nI x)) 5 r) 1024 0 = rho 0 0 := by
            rw [gI_sN, if_neg (by omega)]
            exact t1
          show (od (gR ns 1032 0) _) = _
          rw [r1, od_s]
          simp only [l1, wr_s, t2, l2]
          rw [if_pos v5']
          refine congrArg (cg 1) ?_
          rw [t3, show f8_X5_init r (4 * (400 + r)) (rho 0 0) (sN (sI (sI ns 902 (4 * (400 + r)) (nI r)) 901 (4 * (400 + r)) (rho 0 0 + nI x)) 5 r) = some (0, sI (sR (sI (sN (sI (sI ns 902 (4 * (400 + r)) (nI r)) 901 (4 * (400 + r)) (rho 0 0 + nI x)) 5 r) 642 r 8) 640 r (some (4 * (400 + r)))) 641 r (rho 0 0), 0) from rfl, cb_s0]
          have l4 : gL (sI (sR (sI (sN (sI (sI ns 902 (4 * (400 + r)) (nI r)) 901 (4 * (400 + r)) (rho 0 0 + nI x)) 5 r) 642 r 8) 640 r (some (4 * (400 + r)))) 641 r (rho 0 0)) 51 0 = gL m 51 0 := l0
          have r2 : gR (sI (sR (sI (sN (sI (sI ns 902 (4 * (400 + r)) (nI r)) 901 (4 * (400 + r)) (rho 0 0 + nI x)) 5 r) 642 r 8) 640 r (some (4 * (400 + r)))) 641 r (rho 0 0)) 1032 0 = some 0 := by
            rw [gR_sI, gR_sR, if_neg (by decide), gR_sI, gR_sN, if_neg (by omega)]
            exact r1
          rw [r2, od_s, l4, if_pos (by omega)]
        generalize rqR (up2 rho 64 0 0) r (nI s) a2 (rho 0 0 + nI x) (rho 0 0) = rho1 at *
        generalize rqM m r (nI s) a2 (rho 0 0 + nI x) (rho 0 0) = m1 at *
        have hc1 : cal rho1 (400 + r) = nI 6 := by
          unfold cal
          rw [if_neg (by omega), if_pos (by omega)]
          rfl
        have hs1 : cld rho1 (400 + r) 0 = nI s := by
          unfold cld
          rw [if_neg (by omega), if_pos (by omega), show 400 + r - 400 = r by omega]
          exact q52
        have hgo1 : Go rho1 (400 + r) := by
          unfold Go goB
          rw [if_neg (by omega), if_pos (by omega), show 400 + r - 400 = r by omega]
          exact decide_eq_true q56
        obtain ⟨m2, g2, m3, rho3, i1, i2, i3, i4, i5, i6, i7, i8⟩ := try_both (X := N0) (Y := N0) (n := 0) k1 (fun _ z => z) ho k3.symm hc1 hs1 (by omega) hs hgo1 0 (by omega) (by omega) (fun j hj => by rw [hTr] at hj; cases hj) (fun _ => ⟨0, 0, q48, q49, fun _ => ⟨rfl, rfl⟩, fun z => by omega, fun z => by omega, by omega, by omega⟩) (fun _ => Or.inr h909)
        rw [if_neg (by decide), if_neg (by decide)] at i1
        have hG := i7.toG k1.rb9
        have ho3 := hG.oe ho
        have hsc3 : 0 + 1 = sc rho3 (400 + r) := by rw [hG.sc9 ho]; exact k3.symm
        have t0 : rho3 0 0 = rho 0 0 := (hG.1 0 0 (by unfold stF; omega)).trans q0
        have t64 : rho3 64 0 = 0 := (hG.1 64 0 (by unfold stF; omega)).trans q64
        have t54 : rho3 54 r = rho 0 0 + nI x := (hG.1 54 r (by unfold stF; omega)).trans q54
        have t56 : rho3 56 r = 8 := (hG.1 56 r (by unfold stF; omega)).trans q56
        have tR : iR rho3 = r + 1 := by
          rw [← hiR]
          unfold iR
          rw [hG.1 51 0 (by unfold stF; omega)]
        have hgo3 : Go rho3 (400 + r) := by
          unfold Go goB
          rw [if_neg (by omega), if_pos (by omega), show 400 + r - 400 = r by omega]
          exact decide_eq_true t56
        have h911 : gI m3 911 (4 * (400 + r)) = 8 := stp (n := 0) i4 (fun _ z => z) ho3 hsc3 hgo3
        have i2' : f8_X8_lookAtEnds 0 (4 * (400 + r)) m3 = some (0, m3, 0) := e8_lookNone (n := 0) i4 ho3 hsc3 h911 i6
        obtain ⟨m4, g4, rho4, j1, j2, j3, j4, j5, j6⟩ := req_visit (r := r) i4 (by omega) t56 (by
          rw [t0, t54, hT.1, nI_add]
          exact nI_lt9 (by omega) (by omega))
        have hok4 : OE rho4 (400 + r) := Or.inr (Or.inl ⟨by omega, by omega⟩)
        have hsc4 : 0 < sc rho4 (400 + r) := by
          have := (j3.rb9.sce hok4).2.2 (by omega)
          omega
        have e902 : gI m4 902 (4 * (400 + r)) = nI r := by
          have := (j3.at9 (400 + r) 0 hok4 hsc4).2.2.2.2.2.2.1
          refine this.trans ?_
          unfold rqo
          rw [if_neg (by omega), if_pos (by omega), show 400 + r - 400 = r by omega]
        refine ⟨.inl (nI r), m4, 1 + (g2 + (g4 + 0) + 1 + 1) + 1, nI r, rho4, ?_, ?_, fun j hj => (by cases hj), Or.inl ⟨_, rfl, (j6 64 (Or.inr rfl)).trans t64, rfl⟩, j3, by omega⟩
        · rw [e8r]
          refine cg_r (g2 := 1 + (g2 + (g4 + 0) + 1 + 1)) ?_
          refine cb_r (g1 := 1) rfl ?_
          refine cg_r (g2 := g2 + (g4 + 0) + 1) ?_
          refine cg_r (g2 := g2 + (g4 + 0)) ?_
          refine cb_r i1 ?_
          show cb (f8_X8_goOn 0 (4 * (400 + r)) m2) _ = _
          rw [show f8_X8_goOn 0 (4 * (400 + r)) m2 = f8_X8_goOn 0 (4 * (400 + r)) m3 from go_same i2 i2']
          refine j1 (Int32 ⊕ Nat) (fun m66 => some (Sum.inl (gI m66 902 (4 * (400 + r))), m66, 0)) _ _ _ ?_
          rw [e902]
        · have e400 : (400 : Int32) + nI r = nI (400 + r) := by rw [l400, nI_add]
          unfold f9_request
          rw [e9_isService, ob_s, e9_in, ob_s, if_neg h1, if_neg h3, hR.1, if_neg (fun z => h40 (e40.mp z)), go1, ob_s, if_neg i10]
          have g51 : up2 rho 64 0 0 51 0 = nI r := hR.1
          have z1 : ∀ v, up2 (up2 (up2 (up2 rho 64 0 0) 51 0 (nI (r + 1))) 52 r (nI s)) 53 r v 0 0 = rho 0 0 := fun v => rfl
          have z2 : ∀ v u, up2 (up2 (up2 (up2 (up2 rho 64 0 0) 51 0 (nI (r + 1))) 52 r (nI s)) 53 r v) 54 r u 0 0 = rho 0 0 := fun v u => rfl
          rw [g51, nI_1, wr_s, if_pos (vq_nI hr4 (by omega)), nI_clamp (by omega), wr_s, if_pos ha2, wr_s, z1, wr_s, z2, wr_s, wr_s, e400, if_pos (vq_nI (by omega) (by omega)), nI_clamp (by omega), wr_s, e9b, show f9_tries (nI (400 + r)) 0 rho1 = some (0, rho3) from i3, ob_s, ob_s, j2, ob_s]
end QW
