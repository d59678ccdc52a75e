/-! repairs: how they go on -/
section QJ
variable {X Y : Nat → Prop} {m : CM} {rho : RH}
def mdR (rho : RH) (p : Nat) : RH := up2 (up2 rho 63 p 1) 60 0 (rho 60 0 + 1)
theorem md_inv {p : Nat} (h : INVX (fun x => X x ∨ x = 440 + p) Y m rho) (hp : p < iP rho) (h63 : rho 63 p = 0) : INVX (fun x => X x ∨ x = 440 + p) Y m (mdR rho p) := by
  have hP := h.rb9.P
  have e63 : ∀ j, mdR rho p 63 j = if j = p then 1 else rho 63 j := fun _ => rfl
  obtain ⟨b1, b2, b3, b4, b5, b6, b7, b8, b9, b10, b11, b12, b13, b14, b15, b16, c0, cs, ci, cp, cr, cq, ck, cw, cz⟩ := h
  refine ⟨b1, b2, b3, b4, b5, b6, b7, b8, b9, b10, b11, b12, b13, ⟨fun o n ho hn => ?_, b14.2⟩, b15, b16, ⟨c0.1, c0.2.1, c0.2.2.1, c0.2.2.2.1, c0.2.2.2.2.1, c0.2.2.2.2.2.1, c0.2.2.2.2.2.2.1, c0.2.2.2.2.2.2.2.1, ?_⟩, cs, ci, cp, cr, fun j hj => ?_, ck, cw, cz.1, fun j j1 j2 => ?_, cz.2.2⟩
  · have hh := b14.1 o n ho hn
    refine ⟨hh.1, fun z1 z2 => ?_⟩
    have z3 := hh.2 z1 z2
    have hgo : Go (mdR rho p) o ↔ Go rho o := by
      unfold Go goB
      by_cases y1 : o < 400
      · rw [if_pos y1, if_pos y1]
        exact Iff.rfl
      · rw [if_neg y1, if_neg y1]
        by_cases y2 : o < 440
        · rw [if_pos y2, if_pos y2]
          exact Iff.rfl
        · rw [if_neg y2, if_neg y2, e63, if_neg (fun y => z2 (Or.inr (by omega)))]
    rw [hgo]
    exact z3
  · show rho 60 0 + 1 = nI ((List.range (iP rho)).filter fun j => decide (mdR rho p 63 j ≠ 0)).length
    have h2 := fl_del (p := fun j => decide (mdR rho p 63 j ≠ 0)) (q := fun j => decide (rho 63 j ≠ 0)) (k := p) (by rw [e63, if_pos rfl]; decide) (by rw [h63]; decide) (fun j hj => by rw [e63, if_neg hj]) (iP rho)
    rw [if_pos hp] at h2
    rw [h2, ← nI_1]
    exact congrArg (· + 1) c0.2.2.2.2.2.2.2.2
  · have hh := cq j hj
    refine ⟨hh.1, hh.2.1, hh.2.2.1, ?_⟩
    rw [e63]
    split
    · exact Or.inr rfl
    · exact hh.2.2.2
  · have hj1 : iP rho ≤ j := j1
    rw [e63, if_neg (by omega)]
    exact cz.2.1 j hj1 j2
/-- one repair, both sides; K: what follows in the class -/
theorem rep_visit (h : INV m rho) {p : Nat} (hp : p < iP rho) (n8 : Nat) : ∃ m' g rho', (∀ r m9 g9, l8_X8_goOnWithRepairs_2 n8 0 (nI (p + 1)) m' = some (r, m9, g9) → l8_X8_goOnWithRepairs_2 (n8 + 1) 0 (nI p) m = some (r, m9, g + g9)) ∧ (if rho 63 p = 0 then f9_goesRepair (nI p) rho else some (0, rho)) = some (0, rho') ∧ INV m' rho' ∧ g + pot m' ≤ pot m ∧ S0 rho rho' := by
  have hX0 : ∀ x, ¬ N0 x := fun _ z => z
  have hb := h.rb9
  have hP := hb.P
  have hF : FU = 999 + 1 := rfl
  have hok : OE rho (440 + p) := Or.inr (Or.inr ⟨by omega, by omega⟩)
  have hsc := (hb.sce hok).2.2 (by omega)
  have cpp := nI_clamp (n := p) (by omega)
  have qp := vq_nI (k := p) (n := 100) (by omega) (by omega)
  have e440 : (440 : Int32) + nI p = nI (440 + p) := by rw [l440, nI_add]
  have e10 : l8_X8_goOnWithRepairs_2 (n8 + 1) 0 (nI p) m = cb (f8_X8_lookAtEnds 0 (4 * (440 + p)) m) fun _ m8 =>
    if (gI m8 911 (4 * (440 + p))) = 8 then
      cb (f8_X7_hasTryOut (4 * (440 + p)) ((gI m8 1024 0)) m8) fun r14 m15 =>
      if r14 = 0 then
        cb (f8_X8_tryOnce 0 (4 * (440 + p)) (0) m15) fun _ m22 =>
        cb (f8_X8_lookAtEnds 0 (4 * (440 + p)) m22) fun _ m28 =>
        l8_X8_goOnWithRepairs_2 n8 0 (nI (p + 1)) m28
      else
        l8_X8_goOnWithRepairs_2 n8 0 (nI (p + 1)) m15
    else
      l8_X8_goOnWithRepairs_2 n8 0 (nI (p + 1)) m8 := by
    rw [l8_X8_goOnWithRepairs_2, h.a09.2.2.2.2.2.2.1, od_s, h.al9.2.2.2, List.length_map, List.length_range, if_neg (cle (by omega) hp), if_pos (nI_pos (by omega)), cpp, List.getElem?_map, rg_lt hp, Option.map_some, od_s, nI_1]
  obtain ⟨c, s, hc7, hs6, hc, hs⟩ := cal_ix hb hok (show 0 < sc rho (440 + p) by omega)
  by_cases z : rho 63 p = 0
  · have hgo : Go rho (440 + p) := by
      unfold Go goB
      rw [if_neg (by omega), if_neg (by omega), show 440 + p - 440 = p by omega]
      exact decide_eq_true z
    have h911 : gI m 911 (4 * (440 + p)) = 8 := stp (n := 0) h hX0 hok hsc.symm hgo
    obtain ⟨m1, rho1, hfr, hpo, hcase⟩ := look_both (n := 0) h hok hsc.symm hc hs hc7 hs6 h911
    have ho1 := hfr.OE9 hok
    have hsc1 : 0 + 1 = sc rho1 (440 + p) := by rw [hfr.sc9]; exact hsc.symm
    have h631 : rho1 63 p = 0 := (hfr 63 p (by decide) (by decide) (by decide) (by decide) (by decide) (by decide) (by decide) (by decide)).trans z
    have hP1 : iP rho1 = iP rho := by
      unfold iP
      rw [hfr 59 0 (by decide) (by decide) (by decide) (by decide) (by decide) (by decide) (by decide) (by decide)]
    have h01 : S0 rho rho1 := fun F hF => hfr F 0 (by omega) (by omega) (by omega) (by omega) (by omega) (by omega) (by omega) (by omega)
    rw [if_pos z]
    unfold f9_goesRepair
    rw [e440]
    rcases hcase with ⟨k1, k2, k3, k4, k5⟩ | ⟨k1, k2, k3, k4, k5⟩
    · have g911 : gI m1 911 (4 * (440 + p)) = 8 := (k4 _).trans h911
      have hgo1 : Go rho1 (440 + p) := by
        unfold Go goB
        rw [if_neg (by omega), if_neg (by omega), show 440 + p - 440 = p by omega]
        exact decide_eq_true h631
      have eo : f8_X7_hasTryOut (4 * (440 + p)) (rho1 0 0) m1 = some (if otB rho1 (440 + p) 0 = true then 1 else 0, m1, 0) := e8_hasTryOut (n := 0) k3 ho1 (by omega)
      have eo9 : f9_hasOutOf (nI (440 + p)) rho1 = some (if otB rho1 (440 + p) 0 = true then 1 else 0, rho1) := e9_hasOutOf (n := 0) k3 ho1 hsc1 hgo1 g911 (fun z => z)
      rw [k1, ob_s, if_pos rfl, eo9, ob_s]
      cases ht : otB rho1 (440 + p) 0 with
      | true =>
        refine ⟨m1, 0, rho1, fun r m9 g9 hK => ?_, ?_, k3, by omega, h01⟩
        · rw [e10]
          refine cb_r k2 ?_
          show (if gI m1 911 (4 * (440 + p)) = 8 then _ else _) = _
          rw [if_pos g911, k3.now, eo, cb_s0, ht, if_pos rfl, if_neg (show ¬ (1 : Int32) = 0 by decide)]
          exact hK
        · rw [if_pos rfl, if_neg (show ¬ (1 : Int32) = 0 by decide)]
      | false =>
        have hc1 : cal rho1 (440 + p) = nI c := by rw [hfr.cal9]; exact hc
        have hs1 : cld rho1 (440 + p) 0 = nI s := by rw [hfr.cld9]; exact hs
        obtain ⟨m2, g2, m3, rho3, i1, i2, i3, i4, i5, i6, i7, i8⟩ := try_both (Y := N0) (n := 0) (k3.mono (fun _ z => z) (fun _ z => z.elim)) hX0 ho1 hsc1 hc1 hs1 hc7 hs6 hgo1 3 (by omega) (by omega) k5 (fun z => by omega) (fun z => by omega)
        rw [if_neg (by decide), if_neg (by decide)] at i1
        refine ⟨m3, g2, rho3, fun r m9 g9 hK => ?_, ?_, i4, by omega, h01.tr (fun F hF => i7.1 F 0 (by omega) (by omega) (by omega) (by omega) (by omega) (by omega) (by omega) (by omega) (by omega) (by omega) (by omega) (by omega) (by omega) (by omega) (by omega) (by omega) (by omega) (by omega))⟩
        · rw [e10, show g2 + g9 = 0 + (g2 + (0 + g9)) by omega]
          refine cb_r k2 ?_
          show (if gI m1 911 (4 * (440 + p)) = 8 then _ else _) = _
          rw [if_pos g911, k3.now, eo, cb_s0, ht, if_neg (show ¬ (false = true) by decide), if_pos rfl]
          refine cb_r i1 ?_
          refine cb_r i2 ?_
          exact hK
        · rw [if_neg (show ¬ (false = true) by decide), if_pos rfl, show f9_tries (nI (440 + p)) 3 rho1 = some (0, rho3) from i3, ob_s]
    · have hI2 := md_inv k2 (by omega) h631
      have hsc2 : 0 + 1 = sc (mdR rho1 p) (440 + p) := hsc1
      have ho2 : OE (mdR rho1 p) (440 + p) := ho1
      have g911 : gI m1 911 (4 * (440 + p)) = 3 := k3
      obtain ⟨m2, g2, rho2, j1, j2, j3, j4, j5, j6, j7⟩ := close_both (n := 0) hI2 ho2 hsc2 (by rw [k3]; decide)
      have hs2 := j5.sc9 hI2.rb9 ho2
      have h9112 : gI m2 911 (4 * (440 + p)) = 3 := (j6 (440 + p) 0 ho2 (by omega) (Bch_irr _ _)).trans k3
      have hlook : f8_X8_lookAtEnds 0 (4 * (440 + p)) m = some (0, m2, g2) := k5 _ _ m2 g2 rho2 j1 j3 hs2.2 (by rw [hs2.1]; omega) (by rw [show gI m2 911 (4 * (440 + p) + 0) = 3 from h9112]; decide)
      have hG2 := j5.toG hI2.rb9
      have h632 : rho2 63 p = 1 := by
        rw [hG2.1 63 p (by unfold stF; omega)]
        exact if_pos rfl
      refine ⟨m2, g2, rho2, fun r m9 g9 hK => ?_, ?_, j3.drop (fun n ho hn => ⟨fun z => ?_, fun _ => ?_⟩) (fun q hq h7 hqo => ?_), by omega, h01.tr (fun F hF => (hG2.1 F 0 (by unfold stF; omega)).trans (by rcases hF with rfl | rfl <;> rfl))⟩
      · rw [e10]
        refine cb_r hlook ?_
        show (if gI m2 911 (4 * (440 + p)) = 8 then _ else _) = _
        rw [h9112, if_neg (by decide)]
        exact hK
      · rw [k1, ob_s, if_neg (show ¬ (1 : Int32) = 0 by decide), if_pos qp, wr_s, wr_s, cpp]
        show (ob (f9_turnsOff (nI (440 + p)) (mdR rho1 p)) _) = _
        rw [j2, ob_s]
      · unfold Go goB at z
        rw [if_neg (by omega), if_neg (by omega), show 440 + p - 440 = p by omega, h632] at z
        exact absurd z (by decide)
      · have : n = 0 := by
          have := (j3.rb9.sce ho).2.2 (by omega)
          omega
        rw [this]
        exact ⟨by rw [show gI m2 911 (4 * (440 + p) + 0) = 3 from h9112]; decide, fun _ => h9112⟩
      · have hN := (j3.rb9.rk9 q hq).2.2.2.2.1
        rw [hqo, hs2.1, ← hsc2] at hN
        unfold sid
        rw [hqo, show iN rho2 q = 0 by omega]
        rw [show gI m2 911 (4 * (440 + p) + 0) = 3 from h9112]
        decide
  · have hgo : ¬ Go rho (440 + p) := by
      unfold Go goB
      rw [if_neg (by omega), if_neg (by omega), show 440 + p - 440 = p by omega]
      exact fun y => z (of_decide_eq_true y)
    have h3 : gI m 911 (4 * (440 + p)) = 3 := (((h.ax9.1 (440 + p) 0 hok (by omega)).2 hsc.symm (fun z => z)).2 hgo).2 (by omega)
    have hlk : f8_X8_lookAtEnds 0 (4 * (440 + p)) m = some (0, m, 0) := by
      have := e8_lookE (n := 0) h hok (by omega) (j := 0) (q := 999) (Or.inl (by rw [show gI m 911 (4 * (440 + p) + 0) = 3 from h3]; decide)) (by omega)
      exact this
    refine ⟨m, 0, rho, fun r m9 g9 hK => ?_, by rw [if_neg z], h, by omega, S0.rf _⟩
    rw [e10, hlk, cb_s0, h3, if_neg (by decide), Nat.zero_add]
    exact hK
theorem reps_loop : ∀ (d p : Nat) (m : CM) (rho : RH) (n8 n9 : Nat), p + d = 100 → INV m rho → d < n8 → d < n9 → ∃ m' g rho', l8_X8_goOnWithRepairs_2 n8 0 (nI p) m = some (0, m', g) ∧ l9_passes_297 n9 (nI p) rho = l9_passes_327 FU 0 rho' ∧ INV m' rho' ∧ g + pot m' ≤ pot m ∧ S0 rho rho' := by
  intro d
  induction d with
  | zero =>
    intro p m rho n8 n9 hj h h8 h9
    obtain ⟨n8, rfl⟩ : ∃ n', n8 = n' + 1 := ⟨n8 - 1, by omega⟩
    obtain ⟨n9, rfl⟩ : ∃ n', n9 = n' + 1 := ⟨n9 - 1, by omega⟩
    have hP := h.rb9.P
    refine ⟨m, 0, rho, ?_, ?_, h, by omega, S0.rf _⟩
    · rw [l8_X8_goOnWithRepairs_2, h.a09.2.2.2.2.2.2.1, od_s, h.al9.2.2.2, List.length_map, List.length_range, if_pos (nI_le (by omega) (by omega))]
    · rw [l9_passes_297, hP.1, if_pos (nI_le (by omega) (by omega))]
  | succ d ih =>
    intro p m rho n8 n9 hj h h8 h9
    obtain ⟨n8, rfl⟩ : ∃ n', n8 = n' + 1 := ⟨n8 - 1, by omega⟩
    obtain ⟨n9, rfl⟩ : ∃ n', n9 = n' + 1 := ⟨n9 - 1, by omega⟩
    have hP := h.rb9.P
    by_cases he : iP rho ≤ p
    · refine ⟨m, 0, rho, ?_, ?_, h, by omega, S0.rf _⟩
      · rw [l8_X8_goOnWithRepairs_2, h.a09.2.2.2.2.2.2.1, od_s, h.al9.2.2.2, List.length_map, List.length_range, if_pos (nI_le (by omega) (by omega))]
      · rw [l9_passes_297, hP.1, if_pos (nI_le (by omega) (by omega))]
    · obtain ⟨m1, g1, r1, k1, k2, k3, k4, k5⟩ := rep_visit h (show p < iP rho by omega) n8
      obtain ⟨m2, g2, r2, i1, i2, i3, i4, i5⟩ := ih (p + 1) m1 r1 n8 n9 (by omega) k3 (by omega) (by omega)
      refine ⟨m2, g1 + g2, r2, k1 _ _ _ i1, ?_, i3, by omega, k5.tr i5⟩
      rw [l9_passes_297, hP.1, if_neg (cle (by omega) (by omega)), if_pos (vq_nI (by omega) (by omega)), nI_clamp (by omega), nI_1]
      by_cases z : rho 63 p = 0
      · rw [if_pos z] at k2 ⊢
        rw [k2, ob_s]
        exact i2
      · rw [if_neg z] at k2 ⊢
        have : rho = r1 := congrArg Prod.snd (Option.some.inj k2)
        rw [this]
        exact i2
theorem reps_both (h : INV m rho) : ∃ m' g rho', f8_X8_goOnWithRepairs 0 m = some (0, m', g) ∧ l9_passes_297 FU 0 rho = l9_passes_327 FU 0 rho' ∧ INV m' rho' ∧ g + pot m' ≤ pot m ∧ S0 rho rho' := by
  have hF : FU = 1000 := rfl
  exact reps_loop 100 0 m rho FU FU (by omega) h (by omega) (by omega)
end QJ
