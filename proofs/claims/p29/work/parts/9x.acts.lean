/-! one command of the law, and any number of them -/
section AC9
variable {rho : RH} {u : LM}
theorem m_72 (hl : LI u rho) (hR : iR rho = 0) {s c : Nat} {x7 x4 : Int32} (hs : s < 4) (hc : c < 6) (hsc : s < c) (h4 : x4 = -1 ∨ ∃ t, t < 6 ∧ s < t ∧ x4 = nI t) : OK9 rho u (bL_makes_72 x7 (nI s) (nI c) x4 u) 0 := by
  unfold bL_makes_72
  by_cases z : lowV (x7 >>> (7 &&& 31)) 2 = 0
  · rw [if_pos z]
    exact m_step hl hR hs hc hsc (Or.inr rfl) h4
  · rw [if_neg z]
    exact m_step hl hR hs hc hsc (Or.inl rfl) h4
theorem makes_ok (hl : LI u rho) (x6 x7 : Int32) : OK9 rho u (fL_makes x6 x7 u) 0 := by
  have hR0 := (INVX.rb9 hl.1).R
  have e01 : gW u 0 (1 : Int32).toNatClampNeg = nI (iR rho) := hl.2.2.1.2.1.trans hR0.1
  unfold fL_makes
  by_cases z : lowV (x6 >>> (2 &&& 31)) 3 = 0
  · rw [if_pos z, e01]
    by_cases y : nI (iR rho) = 0
    · have hR : iR rho = 0 := (nI_inj (b := 0) (by omega) (by omega)).mp y
      obtain ⟨s, hs, es⟩ := low_ix x6 (n := 4) (by omega) (by omega)
      have es' : lowV x6 4 = nI s := es
      have e5 : (5 : Int32) - nI s = nI (5 - s) := by rw [l5, nI_sb (by omega)]
      obtain ⟨b, hb, eb⟩ := low_ix x7 (n := 5 - s) (by omega) (by omega)
      obtain ⟨d, hd, ed⟩ := low_ix (x7 >>> (4 &&& 31)) (n := 5 - s) (by omega) (by omega)
      have h5 : ¬ (nI (5 - s) = 0) := fun q => by
        have := (nI_inj (b := 0) (by omega) (by omega)).mp q
        omega
      rw [if_pos y, es', e5, eb, ed, if_pos h5, nI_1, nI_add, nI_add]
      by_cases k : lowV (x7 >>> (3 &&& 31)) 2 = 0
      · rw [if_pos k]
        exact m_72 hl hR hs (by omega) (by omega) (Or.inl rfl)
      · rw [if_neg k]
        exact m_72 hl hR hs (by omega) (by omega) (Or.inr ⟨s + 1 + d, by omega, by omega, rfl⟩)
    · rw [if_neg y]
      exact m_inst hl x6 x7
  · rw [if_neg z]
    exact m_inst hl x6 x7
theorem OK9.up {o : LR} {d e : Nat} (h : OK9 rho u o d) (hd : d ≤ e) : OK9 rho u o e := by
  obtain ⟨u', rho', n, h1, h2, h3, h4⟩ := h
  exact ⟨u', rho', n, h1, h2, h3, by omega⟩
theorem OK9.lb {o : LR} {d : Nat} (h : OK9 rho u o d) : OK9 rho u (lb o fun r1 u2 => if r1 = 0 ∨ r1 = 1 then some (r1, u2, 0) else none) d := by
  obtain ⟨u', rho', n, h1, h2, h3, h4⟩ := h
  refine ⟨u', rho', n + 0, lb_g h1 ?_, h2, h3, h4⟩
  rw [if_pos (Or.inr rfl)]
theorem a_264 {m : CM} {w : RH} (hl : LI (m, w) rho) : ∃ u', u'.1 = m ∧ LI u' rho ∧ bL_acts_264 1 (m, w) = some (1, u', 0) := by
  obtain ⟨h1, h2, h3, h4, h5, h6, h7, h8⟩ := hl
  have hb := INVX.rb9 h1
  have hP := hb.P
  have c1 := List.length_filter_le (fun p => decide (rho 63 p ≠ 0)) (List.range (iP rho))
  rw [List.length_range] at c1
  have e60 : rho 60 0 = nI (nv (rho 60 0)) := by
    rw [hb.r09.2.2.2.2.2.2.2.2, nv_nI (by omega)]
  have q0 : f8_X8_repairs 0 0 m = some (rho 59 0, m, 0) := (q_repairs h1 0).trans (by rw [if_pos rfl])
  have q1 : f8_X8_repairs 0 1 m = some (rho 60 0, m, 0) := (q_repairs h1 1).trans (by rw [if_neg i10])
  refine ⟨(m, up2 (up2 w 0 4 (rho 59 0)) 0 5 (rho 60 0)), rfl, ⟨h1, h2, ⟨h3.1, h3.2.1, h3.2.2.1, h3.2.2.2.1, ⟨iP rho, hP.1, Nat.le_refl _⟩, ⟨_, e60, Nat.le_refl _⟩⟩, h4, h5, h6, h7, h8⟩, ?_⟩
  unfold bL_acts_264
  refine lk_s (u := (m, w)) (g := 0) (n := 0) q0 ?_
  rw [wr_s]
  refine lk_s (u := (m, up2 w 0 4 (rho 59 0))) (g := 0) (n := 0) q1 ?_
  rw [wr_s, if_pos (Or.inr rfl)]
  rfl
theorem a_look {o : LR} {g : Nat} (hg : g ≤ 2) (h : ∃ u', u'.1 = u.1 ∧ LI u' rho ∧ o = some (1, u', g)) : OK9 rho u (lb o fun r7 u8 => bL_acts_264 r7 u8) 0 := by
  obtain ⟨⟨m, w⟩, e1, e2, e3⟩ := h
  obtain ⟨u', f1, f2, f3⟩ := a_264 e2
  refine ⟨u', rho, g + 0, lb_g e3 f3, f2, ?_, Nat.le_refl _⟩
  have e1 : m = u.1 := e1
  rw [f1, e1]
  omega
theorem a_pass (hl : LI u rho) (ht : nv (rho 0 0) + 4 ≤ 600) (x12 : Int32) : OK9 rho u (wr (sW u 0 (2 : Int32).toNatClampNeg (((gW u 0 (2 : Int32).toNatClampNeg) + (1 + (lowV (x12) (4)))))) fun u29 => lk (fW_pass 0 ((1 + (lowV (x12) (4)))) u29.1) u29 fun r31 u32 => if r31 = (gW u32 0 (2 : Int32).toNatClampNeg) then lk (f8_X8_tick 0  u32.1) u32 fun r39 u40 => if r39 = (gW u40 0 (2 : Int32).toNatClampNeg) then some (1, u40, 0) else some (0, u40, 0) else some (0, u32, 0)) 4 := by
  obtain ⟨a, ha, ea⟩ := low_ix x12 (n := 4) (by omega) (by omega)
  have ea' : lowV x12 4 = nI a := ea
  have hb := INVX.rb9 hl.1
  have e00 : rho 0 0 = nI (nv (rho 0 0)) := hb.r09.1.eq (by omega)
  have hx : (1 : Int32) + nI a = nI (1 + a) := nI_add 1 a
  generalize hT : nv (rho 0 0) = t at e00 ht
  have e02 : gW u 0 (2 : Int32).toNatClampNeg = nI t := hl.2.2.1.2.2.1.trans e00
  have k6 := kf_f9_pass (x1 := nI (1 + a)) (G := 6) (Or.inl rfl) (KF.rf (rho := rho))
  have k51 := kf_f9_pass (x1 := nI (1 + a)) (G := 51) (Or.inr rfl) (KF.rf (rho := rho))
  obtain ⟨m9, n9, b, rho9, q, hI, hn, q1, -⟩ := cmd_go (ce := fun j => if j = 1 then some (-1000002) else if j = 2 then some (-1000003) else none) (cmd10 u.1 rho (nI (1 + a)) hl.1) (((pc_pass (x := 1 + a) (t := t) (by omega) hl.2.1 e00 (by omega)).and k6).and k51)
  obtain ⟨⟨⟨hJ, hTT, et, eb, z⟩, k6⟩, k51⟩ := q
  have hf : fW_pass 0 (nI (1 + a)) u.1 = some (nI (t + (1 + a)), m9, n9) := (q1 z).trans (by rw [eb])
  have htk : f8_X8_tick 0 m9 = some (nI (t + (1 + a)), m9, 0) := (q_tick hI).trans (by rw [et])
  refine ⟨(m9, up2 u.2 0 2 (nI (t + (1 + a)))), rho9, n9 + (0 + 0), ?_, ?_, by show n9 + (0 + 0) + pot m9 ≤ _; omega, by rw [et, nv_nI (by omega)]; omega⟩
  · have ew : gW (m9, up2 u.2 0 2 (nI (t + (1 + a)))) 0 (2 : Int32).toNatClampNeg = nI (t + (1 + a)) := by
      show up2 u.2 0 2 (nI (t + (1 + a))) 0 2 = _
      exact up2_s _ _ _ _
    rw [wr_s, ea', hx, e02, nI_add]
    refine lk_s (u := (u.1, up2 u.2 0 2 (nI (t + (1 + a))))) hf ?_
    rw [ew, if_pos rfl]
    refine lk_s (u := (m9, up2 u.2 0 2 (nI (t + (1 + a))))) htk ?_
    rw [ew, if_pos rfl]
  · refine LI_go (m := u.1) (w := u.2) hl hI hJ hTT.1 ⟨rfl, rfl, rfl, rfl, rfl, rfl, rfl, rfl⟩ (hl.2.2.1.1.trans (k6 0).symm) (hl.2.2.1.2.1.trans (k51 0).symm) (by rw [et]; exact up2_s _ _ _ _) (LV_same hl.2.2.2.1 hTT.1 (k6 0)) (fun zR s hs => ?_)
    have e : iR rho9 = iR rho := by unfold iR; rw [k51 0]
    rw [hTT.2 s]
    exact hl.2.2.2.2.1 (e.symm.trans zR) s hs
theorem rq3 {m9 : CM} {n9 : Nat} {o : CR (Int32 ⊕ Nat)} {rho9 : RH} (z3 : rho9 64 0 = 3) (h : rho9 64 0 ≠ 0 → ∃ j, (j = 0 ∨ j = 1 ∨ j = 2) ∧ rho9 64 0 = (if j = 0 then 1 else if j = 1 then 2 else 3) ∧ ∀ v, (if j = 0 then some (-1000001) else if j = 1 then some (-1000002) else if j = 2 then some (-1000003) else none) = some v → ctc (fun x => x) (fun j => if j = 0 then some (-1000001) else if j = 1 then some (-1000002) else if j = 2 then some (-1000003) else none) o = some (v, m9, n9)) : ctc (fun x => x) (fun j => if j = 0 then some (-1000001) else if j = 1 then some (-1000002) else if j = 2 then some (-1000003) else none) o = some (-1000003, m9, n9) := by
  obtain ⟨j, hj, e, hc⟩ := h (by rw [z3]; decide)
  have j2 : j = 2 := by
    rcases hj with hj | hj | hj
    · rw [z3, hj] at e
      exact absurd e (by decide)
    · rw [z3, hj] at e
      exact absurd e (by decide)
    · exact hj
  exact hc (-1000003) (by rw [j2]; rfl)
theorem a_full (hl : LI u rho) (h40 : iR rho = 40) : OK9 rho u (lk (fW_request 0 (0) (1) (1) u.1) u fun r48 u49 => if r48 = (-1000003) then some (1, u49, 0) else some (0, u49, 0)) 0 := by
  have hR0 := (INVX.rb9 hl.1).R
  have k6 := kf_f9_request (x1 := nI 0) (x2 := 1) (x3 := nI 1) (G := 6) rfl (KF.rf (rho := rho))
  obtain ⟨m9, n9, b, rho9, ⟨⟨hJ, hT, e0, q⟩, k6⟩, hI, hn, -, q2⟩ := cmd_go (ce := fun j => if j = 0 then some (-1000001) else if j = 1 then some (-1000002) else if j = 2 then some (-1000003) else none) (cmd9 u.1 rho (nI 0) 1 (nI 1) hl.1 (Or.inr rfl)) ((pc_request (s := 0) (t := 1) hl.2.1 (by omega) (Or.inr rfl) (by omega)).and k6)
  rcases q with q | ⟨-, z3⟩
  · omega
  · have h9 := (INVX.rb9 hI).R
    have h12 : iR rho9 = iR rho := by
      have := hT.1.2.2.1
      omega
    have k51 : rho9 51 0 = rho 51 0 := by rw [h9.1, hR0.1, h12]
    have k0 : rho9 0 0 = rho 0 0 := by rw [e0]
    refine fin9 ?_ (LI_same hl hI hJ hT (k6 0) k51 k0) k0 hn
    refine lk_s (rq3 z3 q2) ?_
    rw [if_pos rfl]
theorem zero_ticks {rho9 : RH} {r : Nat} (hj : JR AL9 rho9) (hr : r < iR rho9) (h0 : rho9 55 r = rho9 0 0) : (if rho9 56 r = 8 then rho9 0 0 - rho9 55 r else rho9 57 r - rho9 55 r) = 0 := by
  obtain ⟨g1, g2, g3, g4, g5, g6, -⟩ := hj r hr
  by_cases z : rho9 56 r = 8
  · rw [if_pos z, h0]
    exact Int32.sub_self _
  · obtain ⟨h1, h2, h3⟩ := g6 z
    rw [if_neg z]
    have e : rho9 57 r = rho9 55 r := by
      rw [h0] at h1 ⊢
      rw [Int32.le_iff_toInt_le] at h1 h3
      exact Int32.toInt_inj.mp (by omega)
    rw [e]
    exact Int32.sub_self _
theorem a_122 (hl : LI u rho) (h40 : iR rho < 40) {s : Nat} {x2 x12 : Int32} (hs : s < 6) (hx : x2 = 0 ∨ x2 = 1) : OK9 rho u (bL_acts_122 x12 x2 (nI s) (sW u 0 (1 : Int32).toNatClampNeg (nI (iR rho + 1)))) 0 := by
  obtain ⟨a, ha, ea⟩ := low_ix (x12 >>> (1 &&& 31)) (n := 40) (by omega) (by omega)
  have ea' : lowV (x12 >>> (1 &&& 31)) 40 = nI a := ea
  have hR0 := (INVX.rb9 hl.1).R
  have k6 := kf_f9_request (x1 := nI s) (x2 := x2) (x3 := nI (1 + a)) (G := 6) rfl (KF.rf (rho := rho))
  obtain ⟨m9, n9, b, rho9, ⟨⟨hJ, hT, e0, q⟩, k6⟩, hI, hn, q1, -⟩ := cmd_go (ce := fun j => if j = 0 then some (-1000001) else if j = 1 then some (-1000002) else if j = 2 then some (-1000003) else none) (cmd9 u.1 rho (nI s) x2 (nI (1 + a)) hl.1 hx) ((pc_request (s := s) (t := 1 + a) hl.2.1 hs hx (by omega)).and k6)
  rcases q with ⟨-, z, eb, eR, e55⟩ | ⟨q, -⟩
  · have h9 := (INVX.rb9 hI).R
    have hf : fW_request 0 (nI s) x2 (nI (1 + a)) u.1 = some (nI (iR rho), m9, n9) := (q1 z).trans (by rw [eb])
    have hq : fW_requestTicks 0 (nI (iR rho)) m9 = some (0, m9, 0) := (q_requestTicks hI (r := iR rho) (by omega)).trans (by rw [zero_ticks hJ.2.2.2.2.1 (by omega) (by rw [e55, e0])])
    refine ⟨(m9, up2 u.2 0 1 (nI (iR rho + 1))), rho9, n9 + (0 + 0), ?_, ?_, by show n9 + (0 + 0) + pot m9 ≤ _; omega, by rw [e0]; omega⟩
    · have ew : gW (m9, up2 u.2 0 1 (nI (iR rho + 1))) 0 (1 : Int32).toNatClampNeg = nI (iR rho + 1) := by
        show up2 u.2 0 1 (nI (iR rho + 1)) 0 1 = _
        exact up2_s _ _ _ _
      unfold bL_acts_122
      rw [ea', nI_1l]
      refine lk_s (u := (u.1, up2 u.2 0 1 (nI (iR rho + 1)))) hf ?_
      rw [ew, nI_pred, if_pos rfl]
      refine lk_s (u := (m9, up2 u.2 0 1 (nI (iR rho + 1)))) hq ?_
      rw [if_pos rfl]
    · refine LI_go (m := u.1) (w := u.2) hl hI hJ hT.1 ⟨rfl, rfl, rfl, rfl, rfl, rfl, rfl, rfl⟩ (hl.2.2.1.1.trans (k6 0).symm) (by rw [h9.1, eR]; exact up2_s _ _ _ _) (hl.2.2.1.2.2.1.trans (by rw [e0])) (LV_same hl.2.2.2.1 hT.1 (k6 0)) (fun zR s hs => by omega)
  · omega
theorem acts_ok (hl : LI u rho) (ht : nv (rho 0 0) + 4 ≤ 600) (x y : Int32) : OK9 rho u (fL_acts x y u) 4 := by
  have hb := INVX.rb9 hl.1
  have hR0 := hb.R
  have e01 : gW u 0 (1 : Int32).toNatClampNeg = nI (iR rho) := hl.2.2.1.2.1.trans hR0.1
  obtain ⟨kd, hkd, ekd⟩ := low_ix x (n := 12) (by omega) (by omega)
  have ekd' : lowV x 12 = nI kd := ekd
  have hmk : OK9 rho u (bL_acts_22 x y u) 4 := ((makes_ok hl (x >>> (4 &&& 31)) y).up (by omega)).lb
  unfold fL_acts
  by_cases z6 : gW u 0 (0 : Int32).toNatClampNeg < 6
  · rw [if_pos z6]
    exact hmk
  rw [if_neg z6, ekd']
  by_cases k0 : nI kd = 0
  · rw [if_pos k0]
    exact hmk
  rw [if_neg k0]
  by_cases k3 : (3 : Int32) ≤ nI kd
  · rw [if_pos k3]
    by_cases k6 : (6 : Int32) ≤ nI kd
    · rw [if_pos k6]
      by_cases k9 : (9 : Int32) ≤ nI kd
      · rw [if_pos k9]
        by_cases k : nI kd = 9
        · rw [if_pos k]
          exact (a_look (g := 1) (by omega) (are_calls hl)).up (by omega)
        rw [if_neg k]
        by_cases k' : nI kd = 10
        · rw [if_pos k']
          exact (a_look (g := 1) (by omega) (are_requests hl)).up (by omega)
        rw [if_neg k']
        exact (a_look (g := 0) (by omega) (are_loads hl)).up (by omega)
      · rw [if_neg k9]
        exact a_pass hl ht y
    · rw [if_neg k6, e01]
      by_cases k : nI (iR rho) = 40
      · rw [if_pos k]
        have h40 : iR rho = 40 := (nI_inj (b := 40) (by omega) (by omega)).mp k
        exact (a_full hl h40).up (by omega)
      · have h40 : iR rho < 40 := by
          have : iR rho ≠ 40 := fun q => k (by rw [q]; rfl)
          omega
        obtain ⟨s, hs, es⟩ := low_ix (x >>> (4 &&& 31)) (n := 6) (by omega) (by omega)
        have es' : lowV (x >>> (4 &&& 31)) 6 = nI s := es
        rw [if_neg k, wr_s, es', nI_1]
        by_cases k2 : lowV y 2 = 0
        · rw [if_pos k2]
          exact (a_122 hl h40 hs (Or.inr rfl)).up (by omega)
        · rw [if_neg k2]
          exact (a_122 hl h40 hs (Or.inl rfl)).up (by omega)
  · rw [if_neg k3]
    exact ((sets_ok hl (x >>> (4 &&& 31)) y).up (by omega)).lb
end AC9
