/-! a call goes on -/
section QE
variable {X Y : Nat → Prop} {m : CM} {rho : RH}
/-- what a whole pass over something leaves as it was -/
def FrC (rho rho' : RH) : Prop := (∀ F j, stF F → rho' F j = rho F j) ∧ (∀ F j, j < iC rho → (F = 32 ∨ F = 33 ∨ F = 34 ∨ F = 35 ∨ F = 36 ∨ F = 38 ∨ F = 40) → rho' F j = rho F j) ∧ iC rho ≤ iC rho' ∧ iP rho ≤ iP rho' ∧ (∀ j, j < iC rho → rho' 37 j = rho 37 j ∨ ¬ rho' 37 j ≤ 2)
theorem FrC.rf (rho : RH) : FrC rho rho := ⟨fun _ _ _ => rfl, fun _ _ _ _ => rfl, Nat.le_refl _, Nat.le_refl _, fun _ _ => Or.inl rfl⟩
theorem FrC.tr {r1 r2 r3 : RH} (h : FrC r1 r2) (g : FrC r2 r3) : FrC r1 r3 := by
  have h4 := h.2.2.1
  refine ⟨fun F j a => (g.1 F j a).trans (h.1 F j a), fun F j a b => (g.2.1 F j (by omega) b).trans (h.2.1 F j a b), Nat.le_trans h4 g.2.2.1, Nat.le_trans h.2.2.2.1 g.2.2.2.1, fun j hj => ?_⟩
  rcases g.2.2.2.2 j (by omega) with z | z
  · rcases h.2.2.2.2 j hj with y | y
    · exact Or.inl (z.trans y)
    · exact Or.inr (by rw [z]; exact y)
  · exact Or.inr z
theorem FrG.toC {r1 r2 : RH} (h : FrG r1 r2) : FrC r1 r2 := ⟨h.1, h.2.1, h.2.2.2.1, h.2.2.2.2.1, h.2.2.2.2.2.2⟩
theorem FrC.S {r1 r2 : RH} (h : FrC r1 r2) {k : Nat} (hk : k < iC r1) : iS r2 k = iS r1 k := by
  unfold iS
  rw [h.2.1 34 k hk (by omega)]
theorem begins_both {k : Nat} (h : INVX (fun x => X x ∨ x = k) Y m rho) (hX : ∀ x, ¬ X x) (hk : k < iC rho) (h37 : rho 37 k = 2) (hq : sc rho k < nv (rho 2 (iS rho k))) (hlast : ∀ n, n + 1 = sc rho k → gI m 911 (4 * k + n) ≠ 8) (hdead : ∀ j, j < iC rho → iO rho j = k → ¬ rho 37 j ≤ 2) :
    ∃ m1 g m' rho', f8_X8_beginStep 0 k (nI (sc rho k)) m = some (some (4 * k + sc rho k), m1, g) ∧ f8_X8_lookAtEnds 0 (4 * k + sc rho k) m1 = some (0, m', 0) ∧ f8_X8_lookAtEnds 0 (4 * k + sc rho k) m' = some (0, m', 0) ∧ f9_begins (nI k) rho = some (0, rho') ∧ INVX X Y m' rho' ∧ g + pot m' ≤ pot m ∧ FrC rho rho' ∧ sc rho' k = sc rho k + 1 ∧ rho' 37 k = 2 := by
  have hb := h.rb9
  have hC := hb.C
  have hS := hb.S hk
  have hk4 : k < 400 := by omega
  have hok : OE rho k := Or.inl hk
  have hss := hb.sce hok
  have hp4 := (hb.rs9 _ hS.2).1.lt (by omega)
  have hak := h.ak9 k hk
  have hXx := hb.Xi hk
  have hai := h.ai9 _ hXx.2
  have hrk := hb.rk9 k hk
  have ht := h.at9 _ _ hrk.2.1 hrk.2.2.2.2.1
  have ha := h.a09
  have hz := ha.2.2.2.2.2.2.2.2.2 _ hS.2
  have has := h.as9 _ hS.2
  have hpl := (hb.rs9 _ hS.2).2.2 (sc rho k) hq
  obtain ⟨hI, hpot, hsc⟩ := bs_inv h hk h37 hq hlast hdead
  have hat := bs_at m k (sc rho k) (rho 34 k) (rho 3 (4 * iS rho k + sc rho k)) (rho 4 (4 * iS rho k + sc rho k)) (rho 5 (4 * iS rho k + sc rho k)) (rho 8 (iX rho k)) (rho 40 k) (rho 38 k)
  have hfree := h.af9.2.2.2 k (sc rho k) (by omega) (by omega) (fun z => by have := z.2; omega)
  have hids : sid rho k ≠ 4 * k + sc rho k := by
    have := (hb.N hk).2
    have := hrk.2.2.1
    have := hb.E hrk.2.1
    unfold sid
    by_cases z : iO rho k < 400
    · have := (hrk.2.2.1 z).1
      omega
    · omega
  have has4 := has.2.2.2.2.2 (sc rho k) (by omega)
  have e1 : gI m 897 (sid rho k) = rho 34 k := ht.2.1.trans hrk.2.2.2.2.2.2.2.2.1.symm
  have e902 : gI m 902 (sid rho k) = rho 40 k := ht.2.2.2.2.2.2.1.trans hrk.2.2.2.2.2.2.2.2.2.2.1.symm
  have e514 : gI m 514 (iX rho k) = rho 8 (iX rho k) := hai.2.2.2.2.2.2.1
  have hstep : f8_X8_stepOf k (iS rho k) (nI (sc rho k)) m = some (some (4 * k + sc rho k), sI (sI (sI (sR (sI (nsM (sN m 7 (4 * k + sc rho k)) (4 * k + sc rho k) (rho 34 k) (rho 3 (4 * iS rho k + sc rho k)) (rho 4 (4 * iS rho k + sc rho k))) 899 (4 * k + sc rho k) (rho 5 (4 * iS rho k + sc rho k))) 904 (4 * k + sc rho k) (some k)) 900 (4 * k + sc rho k) (rho 8 (iX rho k))) 902 (4 * k + sc rho k) (rho 40 k)) 901 (4 * k + sc rho k) (rho 38 k), 1 + 1) := by
    have hns := ns_out m (4 * k + sc rho k) (rho 34 k) (rho 3 (4 * iS rho k + sc rho k)) (rho 4 (4 * iS rho k + sc rho k))
    have q4 := vq_nI (k := sc rho k) (n := 4) (by omega) (by omega)
    have c4 := nI_clamp (n := sc rho k) (by omega)
    unfold f8_X8_stepOf
    simp only [if_pos q4]
    rw [c4, if_pos hfree.1, wr_s]
    have a1 : gR (sN m 7 (4 * k + sc rho k)) 129 k = some (sid rho k) := by rw [gR_sN, if_neg (by omega)]; exact hak.2.1
    have a2 : gR (sN m 7 (4 * k + sc rho k)) 770 (iS rho k) = some (iS rho k) := by rw [gR_sN, if_neg (by omega)]; exact hz.2.1
    have a3 : gR (sN m 7 (4 * k + sc rho k)) 772 (iS rho k) = some (iS rho k) := by rw [gR_sN, if_neg (by omega)]; exact hz.2.2.2.1
    have a4 : gI (sN m 7 (4 * k + sc rho k)) 897 (sid rho k) = rho 34 k := by rw [gI_sN, if_neg (fun z => hids z.2)]; exact e1
    have a5 : gA (sN m 7 (4 * k + sc rho k)) 32 (iS rho k) (sc rho k) = rho 3 (4 * iS rho k + sc rho k) := has4.1
    have a6 : gA (sN m 7 (4 * k + sc rho k)) 34 (iS rho k) (sc rho k) = rho 4 (4 * iS rho k + sc rho k) := has4.2.1
    rw [a1, od_s, a2, od_s, a3, od_s, a4, a5, a6, e8_X7init (m := sN m 7 (4 * k + sc rho k)) (by rw [gV_sN, if_neg (by decide)]; exact hfree.2) hpl.2.1]
    generalize hn0 : nsM (sN m 7 (4 * k + sc rho k)) (4 * k + sc rho k) (rho 34 k) (rho 3 (4 * iS rho k + sc rho k)) (rho 4 (4 * iS rho k + sc rho k)) = n0 at *
    refine cg_r (g2 := 1) ?_
    have r1 : ∀ f j, f / 128 ≠ 7 → gR n0 f j = gR m f j := fun f j z => hns.2.1 f j (fun y => z y.1)
    have i1 : ∀ f j, j ≠ 4 * k + sc rho k → gI n0 f j = gI m f j := fun f j z => hns.1 f j (fun y => z y.2)
    have i2 : ∀ f j, f / 128 ≠ 7 → gI n0 f j = gI m f j := fun f j z => hns.1 f j (fun y => z y.1)
    refine cb_r (g2 := 0) rfl ?_
    show (od (gR n0 771 (iS rho k)) _) = _
    rw [r1 771 _ (by decide), hz.2.2.1, od_s, wr_s, wr_s]
    rw [show gA n0 33 (iS rho k) (sc rho k) = rho 5 (4 * iS rho k + sc rho k) by rw [hns.2.2.1]; exact has4.2.2]
    rw [show ∀ u, gR (sR (sI n0 899 (4 * k + sc rho k) u) 904 (4 * k + sc rho k) (some k)) 130 k = some (iX rho k) from fun u => by rw [gR_sR, if_neg (by decide), gR_sI, r1 130 _ (by decide)]; exact hak.2.2.1, od_s]
    rw [show ∀ u, gI (sR (sI n0 899 (4 * k + sc rho k) u) 904 (4 * k + sc rho k) (some k)) 514 (iX rho k) = rho 8 (iX rho k) from fun u => by rw [gI_sR, gI_sI, if_neg (by decide), i2 514 _ (by decide)]; exact e514, wr_s]
    rw [show ∀ u z, gR (sI (sR (sI n0 899 (4 * k + sc rho k) u) 904 (4 * k + sc rho k) (some k)) 900 (4 * k + sc rho k) z) 129 k = some (sid rho k) from fun u z => by rw [gR_sI, gR_sR, if_neg (by decide), gR_sI, r1 129 _ (by decide)]; exact hak.2.1, od_s]
    rw [show ∀ u z, gI (sI (sR (sI n0 899 (4 * k + sc rho k) u) 904 (4 * k + sc rho k) (some k)) 900 (4 * k + sc rho k) z) 902 (sid rho k) = rho 40 k from fun u z => by rw [gI_sI, if_neg (by decide), gI_sR, gI_sI, if_neg (by decide), i1 902 _ hids]; exact e902, wr_s]
    rw [show ∀ u z v, gI (sI (sI (sR (sI n0 899 (4 * k + sc rho k) u) 904 (4 * k + sc rho k) (some k)) 900 (4 * k + sc rho k) z) 902 (4 * k + sc rho k) v) 131 k = rho 38 k from fun u z v => by rw [gI_sI, if_neg (by decide), gI_sI, if_neg (by decide), gI_sR, gI_sI, if_neg (by decide), i2 131 _ (by decide)]; exact hak.2.2.2.1, wr_s]
  -- the try
  have hb2 := hI.rb9
  have hok2 : OE (bsR rho k) k := hok
  have hT2 : TR (bsR rho k) k (sc rho k) = [] := by
    rw [List.eq_nil_iff_forall_not_mem]
    intro j hj
    have hj2 := TR_mem.mp hj
    have hjC : j < iC rho := hj2.1
    have hjo : iO rho j = k := hj2.2.1
    have hjn : iN rho j = sc rho k := hj2.2.2
    have := (hb.rk9 j hjC).2.2.2.2.1
    rw [hjo, hjn] at this
    omega
  obtain ⟨c, s, hc7, hs6, hc, hs⟩ := cal_ix hb2 hok2 (show sc rho k < sc (bsR rho k) k by omega)
  have hgo2 : Go (bsR rho k) k := by
    unfold Go goB
    rw [if_pos hk4]
    exact decide_eq_true h37
  obtain ⟨m1, g1, m', rho', k1, k2, k3, k4, k5, k6, k7, k8⟩ := try_both hI hX hok2 hsc.symm hc hs hc7 hs6 hgo2 0 (by omega) (by omega) (fun j hj => by rw [hT2] at hj; cases hj) (fun _ => ⟨0, 0, (if_pos rfl : (if k = k then (0 : Int32) else rho 48 k) = 0), (if_pos rfl : (if k = k then (0 : Int32) else rho 49 k) = 0), fun _ => ⟨rfl, rfl⟩, fun z => by omega, fun z => by omega, by omega, by omega⟩) (fun _ => Or.inr hat.1.2.2.2.2.2.2.2.2.2.2.2.2)
  rw [if_neg (by decide), if_neg (by decide)] at k1
  have k3' : f9_tries (nI k) 0 (bsR rho k) = some (0, rho') := k3
  have hG := k7.toG hb2
  have esc : sc rho' k = sc rho k + 1 := by rw [hG.sc9 hok2]; exact hsc
  have e37 : rho' 37 k = 2 := by
    have := k7.2.1 37 k (by decide) (by decide) (by decide) (by omega) (Or.inl (by show k ≠ iC rho; omega))
    rw [this]
    exact h37
  have hgo' : Go rho' k := by
    unfold Go goB
    rw [if_pos hk4]
    exact decide_eq_true e37
  have hok' := hG.oe hok2
  have h911' := stp k4 hX hok' (show sc rho k + 1 = sc rho' k from esc.symm) hgo'
  refine ⟨m1, 1 + 1 + (g1 + 0 + 1), m', rho', ?_, k2, e8_lookNone k4 hok' esc.symm h911' k6, ?_, k4, by omega, ?_, esc, e37⟩
  · unfold f8_X8_beginStep
    rw [ha.2.1, od_s, hak.2.1, od_s, e1, hS.1, if_pos (vq_nI hS.2 (by omega)), nI_clamp (by omega), hz.1, od_s]
    refine cb_r hstep ?_
    have hlen : (gL m 56 k).length = sc rho k := by rw [hak.2.2.2.2.2, List.length_map, List.length_range]
    have r132 : ∀ u z v w, gR (sI (sI (sI (sR (sI (nsM (sN m 7 (4 * k + sc rho k)) (4 * k + sc rho k) (rho 34 k) (rho 3 (4 * iS rho k + sc rho k)) (rho 4 (4 * iS rho k + sc rho k))) 899 (4 * k + sc rho k) u) 904 (4 * k + sc rho k) (some k)) 900 (4 * k + sc rho k) z) 902 (4 * k + sc rho k) v) 901 (4 * k + sc rho k) w) 132 k = some k := fun u z v w => by
      rw [gR_sI, gR_sI, gR_sI, gR_sR, if_neg (by decide), gR_sI, (ns_out m (4 * k + sc rho k) _ _ _).2.1 132 k (by omega)]
      exact hak.2.2.2.2.1
    have l56 : ∀ u z v w, gL (sI (sI (sI (sR (sI (nsM (sN m 7 (4 * k + sc rho k)) (4 * k + sc rho k) (rho 34 k) (rho 3 (4 * iS rho k + sc rho k)) (rho 4 (4 * iS rho k + sc rho k))) 899 (4 * k + sc rho k) u) 904 (4 * k + sc rho k) (some k)) 900 (4 * k + sc rho k) z) 902 (4 * k + sc rho k) v) 901 (4 * k + sc rho k) w) 56 k = gL m 56 k := fun u z v w => ns_L m (4 * k + sc rho k) (rho 34 k) (rho 3 (4 * iS rho k + sc rho k)) (rho 4 (4 * iS rho k + sc rho k)) (by omega)
    rw [r132, od_s, od_s, l56, if_pos (by omega), wr_s]
    refine cg_r (g2 := g1 + 0) ?_
    exact cb_r (k := fun _ m24 => some (some (4 * k + sc rho k), m24, 0)) k1 rfl
  · unfold f9_begins
    have qk := vq_nI (k := k) (n := 540) (by omega) (by omega)
    have ck := nI_clamp (n := k) (by omega)
    rw [if_pos qk, ck, wr_s, wr_s, wr_s]
    show (ob (f9_tries (nI k) 0 (bsR rho k)) _) = _
    rw [k3', ob_s]
  · refine FrC.tr ?_ hG.toC
    refine ⟨fun F j a => ?_, fun F j _ b => ?_, Nat.le_refl _, Nat.le_refl _, fun j _ => Or.inl rfl⟩
    · unfold bsR
      rw [up2_f _ _ _ _ (by unfold stF at a; omega), up2_f _ _ _ _ (by unfold stF at a; omega), up2_f _ _ _ _ (by unfold stF at a; omega)]
    · unfold bsR
      rw [up2_f _ _ _ _ (by omega), up2_f _ _ _ _ (by omega), up2_f _ _ _ _ (by omega)]
end QE
