/-! what the law makes -/
section MK9
variable {rho : RH} {u : LM}
theorem m_134 {m9 : CM} {w : RH} {s p d : Nat} {x11 : Int32} (hs : s < 6) (hw : w 4 s = nI p) (h : x11 = nI (p + d) ∨ (x11 = -1000003 ∧ p + d = 4)) : bL_makes_134 (nI s) x11 (nI d) (gW (m9, w) 4 s) (nI s) (m9, w) = some (1, (m9, up2 w 4 s (nI (p + d))), 0) := by
  have e : gW (m9, w) 4 s = nI p := hw
  have e2 : gW (sW (m9, w) 4 s (nI (p + d))) 4 s = nI (p + d) := by
    show up2 w 4 s (nI (p + d)) 4 s = _
    exact up2_s _ _ _ _
  have hc : (nI s).toNatClampNeg = s := nI_clamp (by omega)
  unfold bL_makes_134
  rw [if_pos (vq_nI hs (by omega)), wr_s, if_pos (vq_nI hs (by omega))]
  simp only [hc, e, nI_add, e2]
  rcases h with h | ⟨h, h2⟩
  · rw [if_pos h]
    rfl
  · by_cases z : x11 = nI (p + d)
    · rw [if_pos z]
      rfl
    · rw [if_neg z, if_pos h, h2, if_pos (show nI 4 = 4 from rfl)]
      rfl
theorem m_step (hl : LI u rho) (hR : iR rho = 0) {s c : Nat} {x3 x4 : Int32} (hs : s < 4) (hc : c < 6) (hsc : s < c) (h3 : x3 = 0 ∨ x3 = 1) (h4 : x4 = -1 ∨ ∃ t, t < 6 ∧ s < t ∧ x4 = nI t) : OK9 rho u (bL_makes_96 (nI s) x4 x3 (nI c) (nI s) u) 0 := by
  have hb := INVX.rb9 hl.1
  have hs6 : s < 6 := by omega
  have k6 := kf_f9_step (x1 := nI s) (x2 := nI c) (x3 := x3) (x4 := x4) (G := 6) (Or.inl rfl) (KF.rf (rho := rho))
  have k51 := kf_f9_step (x1 := nI s) (x2 := nI c) (x3 := x3) (x4 := x4) (G := 51) (Or.inr (Or.inl rfl)) (KF.rf (rho := rho))
  have k0 := kf_f9_step (x1 := nI s) (x2 := nI c) (x3 := x3) (x4 := x4) (G := 0) (Or.inr (Or.inr rfl)) (KF.rf (rho := rho))
  obtain ⟨m9, n9, b, rho9, q, hI, hn, q1, q2⟩ := cmd_go (ce := fun j => if j = 0 then some (-1000001) else if j = 1 then some (-1000002) else if j = 2 then some (-1000003) else none) (cmd1 u.1 rho (nI s) (nI c) x3 x4 hl.1 h3) (((((pc_step hl.2.1 hs6 hc hsc h3 h4 hR).and k6).and k51).and k0))
  obtain ⟨⟨⟨⟨hJ, hT, q⟩, k6⟩, k51⟩, k0⟩ := q
  obtain ⟨p, hp, ep⟩ := ((INVX.rb9 hl.1).rs9 s hs6).1
  have ew : u.2 4 s = nI p := (hl.2.2.2.2.1 hR s hs6).trans ep
  have e4 : gW (m9, u.2) 4 s = nI p := ew
  have key : ∀ x : Int32, (∀ j, rho9 2 j = if j = s then x else rho 2 j) → LI (m9, up2 u.2 4 s x) rho9 := fun x h2 => by
    refine LI_go (m := u.1) (w := u.2) hl hI hJ hT ⟨rfl, rfl, rfl, rfl, rfl, rfl, rfl, rfl⟩ (hl.2.2.1.1.trans (k6 0).symm) (hl.2.2.1.2.1.trans (k51 0).symm) (hl.2.2.1.2.2.1.trans (k0 0).symm) (LV_same hl.2.2.2.1 hT (k6 0)) (fun _ t ht => ?_)
    show (if t = s then x else u.2 4 t) = _
    rw [h2 t, hl.2.2.2.2.1 hR t ht]
  have fin : ∀ (r1 : Int32) (d : Nat), fW_step 0 (nI s) (nI c) x3 x4 u.1 = some (r1, m9, n9) → (∀ j, rho9 2 j = if j = s then nI (p + d) else rho 2 j) → ((d = 1 ∧ r1 = nI (p + 1)) ∨ (d = 0 ∧ p = 4 ∧ r1 = -1000003)) → OK9 rho u (bL_makes_96 (nI s) x4 x3 (nI c) (nI s) u) 0 := fun r1 d hf h2 hd => by
    refine ⟨(m9, up2 u.2 4 s (nI (p + d))), rho9, n9 + 0, ?_, key _ h2, by show n9 + 0 + pot m9 ≤ _; omega, by rw [k0 0]; omega⟩
    unfold bL_makes_96
    refine lk_s hf ?_
    rw [if_pos (vq_nI hs6 (by omega)), nI_clamp (n := s) (by omega), e4]
    by_cases z : 3 ≤ p
    · rw [if_pos (show (3 : Int32) ≤ nI p from nI_le z (by omega)), ← e4]
      unfold bL_makes_123
      rcases hd with ⟨rfl, rfl⟩ | ⟨rfl, h44, rfl⟩
      · by_cases y : p = 3
        · subst y
          rw [if_pos (by rfl)]
          exact m_134 (d := 1) hs6 ew (Or.inl rfl)
        · exfalso
          have h9 := hJ.2.2.2.2.2.1.2.1 s hs6
          obtain ⟨p', hp', ep'⟩ := h9.2
          rw [h2 s, if_pos rfl] at ep'
          have := (nI_inj (by omega) (by omega)).mp ep'
          omega
      · rw [if_neg (by decide)]
        exact m_134 (d := 0) hs6 ew (Or.inr ⟨rfl, h44⟩)
    · rcases hd with ⟨rfl, rfl⟩ | ⟨-, h44, -⟩
      · rw [if_neg (show ¬ (3 : Int32) ≤ nI p from cle (b := 3) (by omega) (by omega)), if_pos (by rw [l0]; exact nI_lt9 (by omega) (by omega)), ← e4]
        exact m_134 (d := 1) hs6 ew (Or.inl rfl)
      · omega
  rcases q with ⟨p', hp', ep', z, eb, h2⟩ | ⟨ep', z, h2⟩
  · have : p' = p := (nI_inj (by omega) (by omega)).mp (ep'.symm.trans ep)
    subst this
    exact fin b 1 (q1 z) h2 (Or.inl ⟨rfl, eb⟩)
  · have h4' : p = 4 := (nI_inj (by omega) (by omega)).mp (ep.symm.trans ep')
    obtain ⟨j, hj, e, hc⟩ := q2 (by rw [z]; decide)
    have j2 : j = 2 := by
      rcases hj with hj | hj | hj
      · rw [z, hj] at e
        exact absurd e (by decide)
      · rw [z, hj] at e
        exact absurd e (by decide)
      · exact hj
    refine fin (-1000003) 0 (hc _ (by rw [j2]; rfl)) (fun j => ?_) (Or.inr ⟨rfl, h4', rfl⟩)
    rw [h2 j]
    by_cases y : j = s
    · rw [if_pos y, y, ep]
      rfl
    · rw [if_neg y]
theorem gs10 {j k : Nat} {v : Int32} : gW (sW u 1 j v) 0 k = gW u 0 k := rfl
theorem gs20 {j k : Nat} {v : Int32} : gW (sW u 2 j v) 0 k = gW u 0 k := rfl
theorem gs30 {j k : Nat} {v : Int32} : gW (sW u 3 j v) 0 k = gW u 0 k := rfl
theorem gs02 {j k : Nat} {v : Int32} : gW (sW u 0 j v) 2 k = gW u 2 k := rfl
theorem gs03 {j k : Nat} {v : Int32} : gW (sW u 0 j v) 3 k = gW u 3 k := rfl
theorem gs32 {j k : Nat} {v : Int32} : gW (sW u 3 j v) 2 k = gW u 2 k := rfl
theorem gss {y j : Nat} {v : Int32} : gW (sW u y j v) y j = v := up2_s u.2 y j v
theorem nI_1l {a : Nat} : (1 : Int32) + nI a = nI (1 + a) := nI_add 1 a
theorem sw1 {y j : Nat} {v : Int32} : (sW u y j v).1 = u.1 := rfl
def k168 (r22 : Int32) (u23 : LM) : LR :=
  if r22 = gW u23 0 (0 : Int32).toNatClampNeg - 1 then lk (fW_load 0 (gW u23 0 (0 : Int32).toNatClampNeg - 1) 0 u23.1) u23 fun r30 u31 => if r30 = 0 then some (1, u31, 0) else some (0, u31, 0) else some (0, u23, 0)
theorem i_168 {x6 x7 : Int32} {s zz wt a q v : Nat} (e00 : gW u 0 (0 : Int32).toNatClampNeg = nI (iI rho)) (h : iI rho < 12) (es : lowV x6 6 = nI s) (ea : lowV x7 3 = nI a) (eq : lowV (x7 >>> (2 &&& 31)) 3 = nI q) (ez : lowV (x7 >>> (4 &&& 31)) 3 = nI zz) (ew : lowV (x7 >>> (6 &&& 31)) 9 = nI wt) (ev : lowV (x7 >>> (10 &&& 31)) 2 = nI v) :
    bL_makes_168 x6 x7 u = lk (fW_instance 0 (nI s) (nI zz) (nI (1 + wt)) (nI (1 + a)) (nI q) (nI v) u.1) (sW (sW (sW (sW u 1 (iI rho) (nI s)) 2 (iI rho) (nI (1 + a))) 3 (iI rho) (nI q)) 0 (0 : Int32).toNatClampNeg (nI (iI rho + 1))) k168 := by
  have hc : (nI (iI rho)).toNatClampNeg = iI rho := nI_clamp (by omega)
  have hv12 : vq (nI (iI rho)) 12 := vq_nI h (by omega)
  have hz : ¬ nI (iI rho) = 12 := fun y => by
    have := (nI_inj (b := 12) (by omega) (by omega)).mp y
    omega
  unfold bL_makes_168
  rw [e00, if_neg hz, if_pos hv12, wr_s, gs10, e00, if_pos hv12, wr_s, gs20, gs10, e00, if_pos hv12, wr_s, gs30, gs20, gs10, e00, wr_s, gss, nI_1, nI_pred, if_pos hv12, hc, gs02, gs32, gss, gs03, gss, es, ea, eq, ez, ew, ev, nI_1l, nI_1l, sw1, sw1, sw1, sw1]
  rfl
theorem k_168 {m9 : CM} {w : RH} {i : Nat} (h : fW_load 0 (nI i) 0 m9 = some (0, m9, 0)) : k168 (nI i) (m9, up2 w 0 0 (nI (i + 1))) = some (1, (m9, up2 w 0 0 (nI (i + 1))), 0 + 0) := by
  have e : gW (m9, up2 w 0 0 (nI (i + 1))) 0 (0 : Int32).toNatClampNeg = nI (i + 1) := by
    show up2 w 0 0 (nI (i + 1)) 0 0 = _
    exact up2_s _ _ _ _
  unfold k168
  rw [e, nI_pred, if_pos rfl]
  refine lk_s (u := (m9, up2 w 0 0 (nI (i + 1)))) h ?_
  rw [if_pos rfl]
theorem m_inst (hl : LI u rho) (x6 x7 : Int32) : OK9 rho u (bL_makes_168 x6 x7 u) 0 := by
  have hb := INVX.rb9 hl.1
  have hI0 := hb.I
  have e00 : gW u 0 (0 : Int32).toNatClampNeg = nI (iI rho) := hl.2.2.1.1.trans hI0.1
  have k51 := fun a b c d e f => kf_f9_instance (x1 := a) (x2 := b) (x3 := c) (x4 := d) (x5 := e) (x6 := f) (G := 51) (Or.inl rfl) (KF.rf (rho := rho))
  have k0 := fun a b c d e f => kf_f9_instance (x1 := a) (x2 := b) (x3 := c) (x4 := d) (x5 := e) (x6 := f) (G := 0) (Or.inr rfl) (KF.rf (rho := rho))
  unfold bL_makes_168
  rw [e00]
  by_cases z : iI rho = 12
  · obtain ⟨m9, n9, b, rho9, q, hI, hn, q1, q2⟩ := cmd_go (ce := fun j => if j = 0 then some (-1000001) else if j = 1 then some (-1000002) else if j = 2 then some (-1000003) else none) (cmd2 u.1 rho (nI 0) (nI 0) (nI 1) (nI 1) (nI 0) (nI 0) hl.1) (((pc_inst (s := 0) (u2 := 0) (u3 := 1) (u4 := 1) (u5 := 0) (u6 := 0) hl.2.1 (by omega) (by omega) (by omega) (by omega) (by omega) (by omega) (fun y => by omega)).and (k51 _ _ _ _ _ _)).and (k0 _ _ _ _ _ _))
    obtain ⟨⟨⟨hJ, hT, q⟩, k51⟩, k0⟩ := q
    rcases q with q | ⟨-, z3⟩
    · omega
    · obtain ⟨j, hj, e, hc⟩ := q2 (by rw [z3]; decide)
      have j2 : j = 2 := by
        rcases hj with hj | hj | hj
        · rw [z3, hj] at e
          exact absurd e (by decide)
        · rw [z3, hj] at e
          exact absurd e (by decide)
        · exact hj
      have hf : fW_instance 0 0 0 1 1 0 0 u.1 = some (-1000003, m9, n9) := hc (-1000003) (by rw [j2]; rfl)
      have h9 := (INVX.rb9 hI).I
      have h12 : iI rho9 = iI rho := by
        have := hT.1.2.1
        omega
      have k6 : rho9 6 0 = rho 6 0 := by rw [h9.1, hI0.1, h12]
      refine fin9 ?_ (LI_same hl hI hJ hT k6 (k51 0) (k0 0)) (k0 0) hn
      rw [z, if_pos (show nI 12 = 12 from rfl)]
      refine lk_s hf ?_
      rw [if_pos rfl]
  · have hI12 : iI rho < 12 := by omega
    obtain ⟨s, hs, es⟩ := low_ix x6 (n := 6) (by omega) (by omega)
    obtain ⟨a, ha, ea⟩ := low_ix x7 (n := 3) (by omega) (by omega)
    obtain ⟨q, hq, eq⟩ := low_ix (x7 >>> (2 &&& 31)) (n := 3) (by omega) (by omega)
    obtain ⟨zz, hz, ez⟩ := low_ix (x7 >>> (4 &&& 31)) (n := 3) (by omega) (by omega)
    obtain ⟨wt, hw, ew⟩ := low_ix (x7 >>> (6 &&& 31)) (n := 9) (by omega) (by omega)
    obtain ⟨v, hv, ev⟩ := low_ix (x7 >>> (10 &&& 31)) (n := 2) (by omega) (by omega)
    have es' : lowV x6 6 = nI s := es
    have ea' : lowV x7 3 = nI a := ea
    have eq' : lowV (x7 >>> (2 &&& 31)) 3 = nI q := eq
    have ez' : lowV (x7 >>> (4 &&& 31)) 3 = nI zz := ez
    have ew' : lowV (x7 >>> (6 &&& 31)) 9 = nI wt := ew
    have ev' : lowV (x7 >>> (10 &&& 31)) 2 = nI v := ev
    obtain ⟨m9, n9, b, rho9, r, hI, hn, q1, q2⟩ := cmd_go (ce := fun j => if j = 0 then some (-1000001) else if j = 1 then some (-1000002) else if j = 2 then some (-1000003) else none) (cmd2 u.1 rho (nI s) (nI zz) (nI (1 + wt)) (nI (1 + a)) (nI q) (nI v) hl.1) (((pc_inst (s := s) (u2 := zz) (u3 := 1 + wt) (u4 := 1 + a) (u5 := q) (u6 := v) hl.2.1 hs (by omega) (by omega) (by omega) (by omega) (by omega) (fun y => by
      have h := (hb.rz9.2.2 (iI rho) (Nat.le_refl _) y).2.1
      exact h)).and (k51 _ _ _ _ _ _)).and (k0 _ _ _ _ _ _))
    obtain ⟨⟨⟨hJ, hT, r⟩, k51⟩, k0⟩ := r
    rcases r with ⟨-, z0, eb, eI, f7, f10, f11, f14⟩ | ⟨r, -⟩
    · have hf : fW_instance 0 (nI s) (nI zz) (nI (1 + wt)) (nI (1 + a)) (nI q) (nI v) u.1 = some (nI (iI rho), m9, n9) := (q1 z0).trans (by rw [eb])
      have hld : fW_load 0 (nI (iI rho)) 0 m9 = some (0, m9, 0) := by
        exact (q_load (i := iI rho) hI (by omega)).trans (by rw [f14])
      have hc : (nI (iI rho)).toNatClampNeg = iI rho := nI_clamp (by omega)
      have hv12 : vq (nI (iI rho)) 12 := vq_nI hI12 (by omega)
      have e00' : gW u 0 (0 : Int32).toNatClampNeg = nI (iI rho) := e00
      have e := i_168 (rho := rho) e00 hI12 es' ea' eq' ez' ew' ev'
      refine ⟨(m9, up2 (up2 (up2 (up2 u.2 1 (iI rho) (nI s)) 2 (iI rho) (nI (1 + a))) 3 (iI rho) (nI q)) 0 0 (nI (iI rho + 1))), rho9, n9 + (0 + 0), ?_, ?_, by show n9 + (0 + 0) + pot m9 ≤ _; omega, by rw [k0 0]; omega⟩
      · have e2 := e
        unfold bL_makes_168 at e2
        rw [e00'] at e2
        rw [e2]
        refine lk_s hf ?_
        exact k_168 hld
      · have hI9 := (INVX.rb9 hI).I
        refine LI_go (m := u.1) (w := u.2) hl hI hJ hT.1 ⟨rfl, rfl, rfl, rfl, rfl, rfl, rfl, rfl⟩ ?_ (hl.2.2.1.2.1.trans (k51 0).symm) (hl.2.2.1.2.2.1.trans (k0 0).symm) (fun i hi => ?_) (fun zR t ht => ?_)
        · rw [hI9.1, eI]
          rfl
        · rw [eI] at hi
          show (if i = iI rho then nI s else u.2 1 i) = rho9 7 i ∧ (if i = iI rho then nI (1 + a) else u.2 2 i) = rho9 10 i ∧ (if i = iI rho then nI q else u.2 3 i) = rho9 11 i
          by_cases y : i = iI rho
          · rw [if_pos y, if_pos y, if_pos y, y, f7, f10, f11]
            exact ⟨rfl, rfl, rfl⟩
          · have hi2 : i < iI rho := by omega
            obtain ⟨t1, t2, t3⟩ := hT.1.2.2.2.2.2.2.2.2 i hi2
            rw [if_neg y, if_neg y, if_neg y, t1, t2, t3]
            exact hl.2.2.2.1 i hi2
        · have e : iR rho9 = iR rho := by unfold iR; rw [k51 0]
          rw [hT.2 t]
          exact hl.2.2.2.2.1 (e.symm.trans zR) t ht
    · omega
end MK9
