/-! a step goes on: the theorem -/
section QC
variable {X Y : Nat → Prop} {m : CM} {rho : RH}
theorem Bch_irr (rho : RH) (o : Nat) : ¬ Bch rho o o := fun z => by
  have := z.2 z.1
  omega
theorem go_both (h : INVX X Y m rho) (hX : ∀ x, ¬ X x) (hY : ∀ x, ¬ Y x) {o n : Nat} (ho4 : o < 440) (ho : OE rho o) (hn : n + 1 = sc rho o) (hgo : Go rho o) :
    ∃ how m' g rho', f8_X8_goOn 0 (4 * o + n) m = some (0, m', g) ∧ f9_goesStep (nI o) rho = some (how, rho') ∧ ((how = 0 ∧ INVX X Y m' rho') ∨ (how = 1 ∧ INVX (fun x => X x ∨ x = o) Y m' rho' ∧ gI m' 911 (4 * o + n) = 3 ∧ ∀ x, x ∈ TR rho' o n → ¬ rho' 37 x ≤ 2) ∨ (how = 2 ∧ INVX (fun x => X x ∨ x = o) Y m' rho' ∧ gI m' 911 (4 * o + n) = 4)) ∧ g + pot m' ≤ pot m ∧ FrG rho rho' ∧ (o < 400 → rho' 37 o = rho 37 o) := by
  have hb := h.rb9
  obtain ⟨c, s, hc7, hs6, hc, hs⟩ := cal_ix hb ho (show n < sc rho o by omega)
  have h911 := stp h hX ho hn hgo
  have hF : FU = 1000 := rfl
  have h9s : f9_goesStep (nI o) rho = l9_goesStep_12 FU (nI o) (nI c) (nI s) rho := by
    unfold f9_goesStep
    rw [e9_callerOf hb ho, ob_s, e9_calledBy hb ho hn, ob_s, hc, hs]
  obtain ⟨m1, rho1, hfr, hp, hcase⟩ := look_both h ho hn hc hs hc7 hs6 h911
  have ho1 := hfr.OE9 ho
  have hn1 : n + 1 = sc rho1 o := by rw [hfr.sc9]; exact hn
  have hc1 : cal rho1 o = nI c := by rw [hfr.cal9]; exact hc
  have hs1 : cld rho1 o n = nI s := by rw [hfr.cld9]; exact hs
  have e37 : rho1 37 o = rho 37 o := hfr 37 o (by decide) (by decide) (by decide) (by decide) (by decide) (by decide) (by decide) (by decide)
  have hG1 := hfr.toG
  rcases hcase with ⟨k1, k2, k3, k4, k5⟩ | ⟨k1, k2, k3, k4, k5⟩
  · obtain ⟨Rr, hR3, hpol⟩ := pol_r k3.rb9 hc7 hs6
    obtain ⟨a, b, z1, z2, z3, z4, z5⟩ := (k3.ae9 o n ho1 ho4 hn1).2.2.1
    obtain ⟨how, m', g, rho', i1, i2, i3, i4, i5, i6⟩ := go_loop hX hY ho4 hc7 hs6 hR3 Rr 0 b m1 rho1 FU FU k3 ho1 hn1 hc1 hs1 ((hG1.go9 (fun _ => e37)).mpr hgo) k5 hpol z2 z5 (by omega) (by omega) (Or.inl rfl) (by omega) (by omega)
    refine ⟨how, m', 0 + (0 + g), rho', ?_, ?_, ?_, by omega, hG1.tr i5, fun z => (i6 z).trans e37⟩
    · unfold f8_X8_goOn
      have e1 : f8_X8_policyOf 0 (4 * o + n) 1 m1 = some (pol rho1 c s 1, m1, 0) := e8_policyOf (p := 1) k3 ho1 (by omega) hc1 hs1 hc7 hs6 (by omega)
      rw [hpol] at e1
      exact cb_r k2 (cb_r e1 i1)
    · rw [h9s]
      rw [hF] at i2 ⊢
      rw [l9_goesStep_12, e9_looksNone k3.rb9 ho1 hn1 k5, ob_s] at i2
      rw [l9_goesStep_12, k1, ob_s]
      exact i2
    · rcases i3 with i3 | i3
      · exact Or.inl i3
      · exact Or.inr (Or.inr i3)
  · obtain ⟨m2, g2, rho2, j1, j2, j3, j4, j5, j6, j7⟩ := close_both k2 ho1 hn1 (by rw [k3]; decide)
    have hs2 := j5.sc9 k2.rb9 ho1
    have g911 : gI m2 911 (4 * o + n) = 3 := by
      rw [j6 o n ho1 (by omega) (Bch_irr rho1 o)]
      exact k3
    have hlook := k5 _ _ m2 g2 rho2 j1 j3 hs2.2 (by rw [hs2.1]; omega) (by rw [g911]; decide)
    have hG2 := j5.toG k2.rb9
    have hc2 : cal rho2 o = nI c := by rw [hG2.cal9 k2.rb9 ho1]; exact hc1
    have hs22 : cld rho2 o n = nI s := by rw [hG2.cld9 k2.rb9 ho1]; exact hs1
    obtain ⟨Rr, hR3, hpol⟩ := pol_r j3.rb9 hc7 hs6
    refine ⟨1, m2, g2 + (0 + 0), rho2, ?_, ?_, Or.inr (Or.inl ⟨rfl, j3, g911, fun x hx => j7 x (by rw [← j5.T]; exact hx)⟩), by omega, hG1.tr hG2, fun z => ((j5.2.2.2.2.2.2 o (Bch_irr rho1 o)).1).trans e37⟩
    · unfold f8_X8_goOn
      have e1 : f8_X8_policyOf 0 (4 * o + n) 1 m2 = some (pol rho2 c s 1, m2, 0) := e8_policyOf (p := 1) j3 hs2.2 (by rw [hs2.1]; omega) hc2 hs22 hc7 hs6 (by omega)
      exact cb_r hlook (cb_r e1 (go_end j3 hs2.2 (by rw [hs2.1]; exact hn1) hc2 hs22 hc7 hs6 (by rw [g911]; decide) _ _ _))
    · rw [h9s, hF, l9_goesStep_12, k1, ob_s, if_neg (show ¬ (1 : Int32) = 0 by decide), j2, ob_s]
/-- a look at the step just after a try comes to the same -/
theorem go_same {s : Nat} {m1 m' : CM} (h1 : f8_X8_lookAtEnds 0 s m1 = some (0, m', 0)) (h2 : f8_X8_lookAtEnds 0 s m' = some (0, m', 0)) : f8_X8_goOn 0 s m1 = f8_X8_goOn 0 s m' := by
  unfold f8_X8_goOn
  rw [h1, h2]
end QC
