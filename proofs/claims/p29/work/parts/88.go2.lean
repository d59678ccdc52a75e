/-! a step goes on: both sides -/
section QB
variable {X Y : Nat → Prop} {m : CM} {rho : RH}
theorem e9_looksNone (hb : RB rho) {o n : Nat} (ho : OE rho o) (hn : n + 1 = sc rho o) (hL : LKd rho o n) : f9_looks (nI o) rho = some (0, rho) := by
  have hC := hb.C
  have : ∀ (d j q : Nat), j + d = iC rho → d < q → l9_looks_2 q (nI o) (nI j) rho = some (0, rho) := by
    intro d
    induction d with
    | zero =>
      intro j q hj hq
      obtain ⟨q, rfl⟩ : ∃ q', q = q' + 1 := ⟨q - 1, by omega⟩
      rw [l9_looks_2, hC.1, if_pos (nI_le (by omega) (by omega))]
    | succ d ih =>
      intro j q hj hq
      obtain ⟨q, rfl⟩ : ∃ q', q = q' + 1 := ⟨q - 1, by omega⟩
      rw [e9_looks_no hb ho hn (by omega) (fun z => by
        have := hL j (TR_mem.mpr ⟨by omega, z.1, z.2.1⟩) z.2.2.1
        rw [this] at z
        exact absurd z.2.2.2 (by decide))]
      exact ih (j + 1) q (by omega) (by omega)
  exact this (iC rho) 0 FU (by omega) (by have : FU = 1000 := rfl; omega)
theorem go_end {o n c s : Nat} (h : INVX X Y m rho) (ho : OE rho o) (hn : n + 1 = sc rho o) (hc : cal rho o = nI c) (hs : cld rho o n = nI s) (hc7 : c < 7) (hs6 : s < 6) (h911 : gI m 911 (4 * o + n) ≠ 8) (x2 x3 : Int32) (q : Nat) : l8_X8_goOn_14 (q + 1) 0 (4 * o + n) x2 x3 m = some (0, m, 0) := by
  have e := e8_noHedge h ho (by omega) hc hs hc7 hs6 h911
  rw [l8_X8_goOn_14, e, cb_s0, if_pos rfl, if_neg h911]
  split <;> rfl
/-- one round of the loop; what follows a retry is given -/
theorem go_step {o n c s Rr t j b : Nat} {m : CM} {rho : RH} {n8 n9 : Nat} (hX : ∀ x, ¬ X x) (hY : ∀ x, ¬ Y x) (ho4 : o < 440) (hc7 : c < 7) (hs6 : s < 6) (hR3 : Rr ≤ 3) (h : INVX X Y m rho) (ho : OE rho o) (hn : n + 1 = sc rho o) (hc : cal rho o = nI c) (hs : cld rho o n = nI s) (hgo : Go rho o) (hL : LKd rho o n) (hpol : pol rho c s 1 = nI Rr) (h49 : rho 49 o = nI b) (hb3 : b ≤ 3) (hR : Rr ≤ b + t) (hj : j ≤ b) (hjR : j = 0 ∨ b ≤ Rr) (h8 : t + 1 < n8) (h9 : t < n9)
    (ih : ∀ (j b : Nat) (m : CM) (rho : RH) (n8 n9 : Nat), 0 < t → INVX X Y m rho → OE rho o → n + 1 = sc rho o → cal rho o = nI c → cld rho o n = nI s → Go rho o → LKd rho o n → pol rho c s 1 = nI Rr → rho 49 o = nI b → b ≤ 3 → Rr ≤ b + (t - 1) → j ≤ b → (j = 0 ∨ b ≤ Rr) → t < n8 → t - 1 < n9 →
      ∃ how m' g rho', l8_X8_goOn_14 n8 0 (4 * o + n) (nI Rr) (nI j) m = some (0, m', g) ∧ l9_goesStep_12 n9 (nI o) (nI c) (nI s) rho = some (how, rho') ∧ ((how = 0 ∧ INVX X Y m' rho') ∨ (how = 2 ∧ INVX (fun x => X x ∨ x = o) Y m' rho' ∧ gI m' 911 (4 * o + n) = 4)) ∧ g + pot m' ≤ pot m ∧ FrG rho rho' ∧ (o < 400 → rho' 37 o = rho 37 o)) :
    ∃ how m' g rho', l8_X8_goOn_14 n8 0 (4 * o + n) (nI Rr) (nI j) m = some (0, m', g) ∧ l9_goesStep_12 n9 (nI o) (nI c) (nI s) rho = some (how, rho') ∧ ((how = 0 ∧ INVX X Y m' rho') ∨ (how = 2 ∧ INVX (fun x => X x ∨ x = o) Y m' rho' ∧ gI m' 911 (4 * o + n) = 4)) ∧ g + pot m' ≤ pot m ∧ FrG rho rho' ∧ (o < 400 → rho' 37 o = rho 37 o) := by
  obtain ⟨n8, rfl⟩ : ∃ n', n8 = n' + 1 := ⟨n8 - 1, by omega⟩
  obtain ⟨n9, rfl⟩ : ∃ n', n9 = n' + 1 := ⟨n9 - 1, by omega⟩
  have hb := h.rb9
  have hE := hb.E ho
  have h911 := stp h hX ho hn hgo
  have ht := h.at9 o n ho (by omega)
  have hae := h.ae9 o n ho ho4 hn
  obtain ⟨a, b', z1, z2, z3, z4, z5⟩ := hae.2.2.1
  have hbb : b' = b := by
    have : nI b' = nI b := z2.symm.trans h49
    rw [nI_eq (by omega) (by omega)] at this
    exact this
  have ha1 : 1 ≤ a := z3.resolve_left (hY o)
  have h48 : rho 48 o ≠ 0 := by rw [z1]; exact nI_ne0 (by omega) (by omega)
  have hlast := ((hae.2.2.2 h48).2).resolve_left (hY o)
  have hY2 : INVX X (fun x => Y x ∨ x = o) m rho := h.mono (fun _ z => z) (fun _ z => Or.inl z)
  have ho5 : o < 540 := by omega
  have qo := vq_nI (k := o) (n := 540) ho5 (by omega)
  have co := nI_clamp (n := o) (by omega)
  have qc := vq_nI (k := c) (n := 7) hc7 (by omega)
  have cc := nI_clamp (n := c) (by omega)
  have hlt : ¬ nI Rr < nI j := nI_nlt (by omega) (by omega)
  have hJ : gI m 909 (4 * o + n) = rho 50 o ∨ gI m 909 (4 * o + n) = -1 := hlast.imp id (fun z => z.1)
  rw [l8_X8_goOn_14, if_neg hlt, if_pos h911, h.now, e8_hasTryOut h ho (by omega), cb_s0, l9_goesStep_12, e9_looksNone hb ho hn hL, ob_s, if_pos rfl, e9_hasOutOf h ho hn hgo h911 (hX o), ob_s]
  cases hout : otB rho o n with
  | true =>
    -- some try is out: a hedge, if it is due
    have e2 : f9_policyOf (nI c) (nI s) 2 rho = some (pol rho c s 2, rho) := e9_policyOf (p := 2) hc7 hs6 (by omega)
    have h9e : (ob (f9_policyOf (nI c) (nI s) 2 rho) fun r29 rho30 => ob (f9_isSafeOf (nI o) rho30) fun r32 rho33 => if r32 = 0 then some (0, rho33) else if r29 ≤ 0 then some (0, rho33) else if vq (nI o) 540 then if ((rho33 0 0) - (rho33 47 (nI o).toNatClampNeg)) < r29 then some (0, rho33) else if (rho33 48 (nI o).toNatClampNeg) = 1 then if vq (nI c) 7 then if (rho33 17 (nI c).toNatClampNeg) < 100 then some (0, rho33) else ob (f9_tries (nI o) (2) rho33) fun _ rho43 => some ((0 : Int32), rho43) else none else some (0, rho33) else none) = if hdB rho o n c s = true then (ob (f9_tries (nI o) 2 rho) fun _ rho43 => some (0, rho43)) else some (0, rho) := by
      rw [e2, ob_s, e9_isSafeOf hb ho hn, ob_s]
      simp only [if_pos qo, if_pos qc]
      simp only [co, cc]
      unfold hdB
      by_cases h1 : saf rho o n = 0
      · simp [h1]
      · by_cases h2 : pol rho c s 2 ≤ 0
        · simp [h2]
        · by_cases h3 : rho 48 o = 1
          · by_cases h4 : rho 0 0 - rho 47 o < pol rho c s 2
            · simp [h4]
            · by_cases h5 : rho 17 c < 100
              · simp [h5]
              · simp [h1, h2, h3, h4, h5]
          · simp [h3]
    rw [if_pos rfl, if_neg (show ¬ (1 : Int32) = 0 by decide), if_neg (show ¬ (1 : Int32) = 0 by decide), h9e, e8_hedge h ho hn hc hs hc7 hs6 h911 ho4 h48, cb_s0]
    cases hhd : hdB rho o n c s with
    | false =>
      exact ⟨0, m, 0, rho, by rw [if_neg (show ¬ false = true by decide), if_pos rfl], by rw [if_neg (show ¬ false = true by decide)], Or.inl ⟨rfl, h⟩, by omega, FrG.rf rho, fun _ => rfl⟩
    | true =>
      have h3 := of_decide_eq_true hhd
      have ha1' : a = 1 := by
        have := h3.2.2.1
        rw [z1, l1, nI_eq (by omega) (by omega)] at this
        exact this
      obtain ⟨m1, g1, m', rho', k1, k2, k3, k4, k5, k6, k7, k8⟩ := try_both hY2 hX ho hn hc hs hc7 hs6 hgo 2 (by omega) (by omega) hL (fun _ => ⟨a, b, z1, h49, fun z => by omega, fun z => by omega, fun _ => ha1', by omega, hb3⟩) (fun _ => hJ)
      rw [if_pos (by decide), if_neg (by decide)] at k1
      have k3' : f9_tries (nI o) 2 rho = some (0, rho') := k3
      refine ⟨0, m', g1 + (0 + 0), rho', ?_, ?_, Or.inl ⟨rfl, k4⟩, by omega, k7.toG hb, fun z => k7.2.1 37 o (by decide) (by decide) (by decide) (by omega) (by omega)⟩
      · rw [if_pos rfl, if_neg (show ¬ (1 : Int32) = 0 by decide)]
        exact cb_r k1 (cb_r (k := fun _ m102 => some (0, m102, 0)) k2 rfl)
      · rw [if_pos rfl, k3', ob_s]
  | false =>
    -- none is out: a retry, or the step fails
    have h909 : gI m 909 (4 * o + n) = rho 50 o := by
      rcases hlast with y | ⟨-, k, y1, y2⟩
      · exact y
      · exfalso
        have hkn := hL k y1 y2
        have : otB rho o n = true := by
          unfold otB
          rw [List.any_eq_true]
          exact ⟨k, y1, by rw [hkn]; rfl⟩
        rw [hout] at this
        exact absurd this (by decide)
    have e1 : f9_policyOf (nI c) (nI s) 1 rho = some (nI Rr, rho) := by rw [← hpol]; exact e9_policyOf (p := 1) hc7 hs6 (by omega)
    have hX4 : INVX (fun x => X x ∨ x = o) Y (sI m 911 (4 * o + n) 4) rho := s911_inv (h.mono (fun _ z => Or.inl z) (fun _ z => z)) ho hn (Or.inr rfl) (by decide)
    have g4 : gI (sI m 911 (4 * o + n) 4) 911 (4 * o + n) = 4 := by rw [gI_sI, if_pos rfl, if_pos rfl]
    have hfail : l8_X8_goOn_14 n8 0 (4 * o + n) (nI Rr) (nI j + 1) (sI m 911 (4 * o + n) 4) = some (0, sI m 911 (4 * o + n) 4, 0) := by
      obtain ⟨q, rfl⟩ : ∃ q, n8 = q + 1 := ⟨n8 - 1, by omega⟩
      exact go_end hX4 ho hn hc hs hc7 hs6 (by rw [g4]; decide) _ _ _
    rw [if_neg (show ¬ false = true by decide), if_pos rfl, if_pos rfl, h909, ht.2.2.1, hae.2.1, h49, if_pos qo, e1, ob_s, co, h49]
    have hRb : nI Rr ≤ nI b ↔ Rr ≤ b := nI_leI (by omega) (by omega)
    have fail : ∀ (A : CR Int32) (B : Option (Int32 × RH)), A = some (0, sI m 911 (4 * o + n) 4, 0) → B = some (2, rho) → ∃ how m' g rho', A = some (0, m', g) ∧ B = some (how, rho') ∧ ((how = 0 ∧ INVX X Y m' rho') ∨ (how = 2 ∧ INVX (fun x => X x ∨ x = o) Y m' rho' ∧ gI m' 911 (4 * o + n) = 4)) ∧ g + pot m' ≤ pot m ∧ FrG rho rho' ∧ (o < 400 → rho' 37 o = rho 37 o) := fun A B hA hB => ⟨2, sI m 911 (4 * o + n) 4, 0, rho, hA, hB, Or.inr ⟨rfl, hX4, g4⟩, by show 0 + pot m ≤ pot m; omega, FrG.rf rho, fun _ => rfl⟩
    have retry : b < Rr → ∀ (A : CR Int32) (B : Option (Int32 × RH)), A = (wr (sI m 907 (4 * o + n) (nI b + 1)) fun m42 => cb (f8_X8_tryOnce 0 (4 * o + n) 1 m42) fun _ m45 => cb (f8_X8_lookAtEnds 0 (4 * o + n) m45) fun _ m51 => l8_X8_goOn_14 n8 0 (4 * o + n) (nI Rr) (nI j + 1) m51) → B = (ob (f9_tries (nI o) 1 rho) fun _ rho18 => l9_goesStep_12 n9 (nI o) (nI c) (nI s) rho18) → ∃ how m' g rho', A = some (0, m', g) ∧ B = some (how, rho') ∧ ((how = 0 ∧ INVX X Y m' rho') ∨ (how = 2 ∧ INVX (fun x => X x ∨ x = o) Y m' rho' ∧ gI m' 911 (4 * o + n) = 4)) ∧ g + pot m' ≤ pot m ∧ FrG rho rho' ∧ (o < 400 → rho' 37 o = rho 37 o) := fun hbR A B hA hB => by
      obtain ⟨m1, g1, m', rho', k1, k2, k3, k4, k5, k6, k7, k8⟩ := try_both hY2 hX ho hn hc hs hc7 hs6 hgo 1 (by omega) (by omega) hL (fun _ => ⟨a, b, z1, h49, fun z => by omega, fun z => ⟨ha1, by omega⟩, fun z => by omega, by omega, hb3⟩) (fun _ => hJ)
      rw [if_pos (by decide), if_pos rfl, hae.2.1, h49] at k1
      have k3' : f9_tries (nI o) 1 rho = some (0, rho') := k3
      have hG := k7.toG hb
      have h37 : o < 400 → rho' 37 o = rho 37 o := fun z => k7.2.1 37 o (by decide) (by decide) (by decide) (by omega) (by omega)
      have e49 : rho' 49 o = nI (b + 1) := by
        rw [k8, h49]
        exact nI_1 b
      obtain ⟨how, m2, g2, r2, i1, i2, i3, i4, i5, i6⟩ := ih (j + 1) (b + 1) m' rho' n8 n9 (by omega) k4 (hG.oe ho) (by rw [hG.sc9 ho]; exact hn) (by rw [hG.cal9 hb ho]; exact hc) (by rw [hG.cld9 hb ho]; exact hs) ((hG.go9 h37).mpr hgo) k6 (by rw [hG.pol9]; exact hpol) e49 (by omega) (by omega) (by omega) (Or.inr (by omega)) (by omega) (by omega)
      refine ⟨how, m2, g1 + (0 + g2), r2, ?_, ?_, i3, by omega, hG.tr i5, fun z => (i6 z).trans (h37 z)⟩
      · rw [hA, wr_s, nI_1 j]
        exact cb_r k1 (cb_r k2 i1)
      · rw [hB, k3', ob_s]
        exact i2
    by_cases hRle : Rr ≤ b
    · -- no more retries
      refine fail _ _ ?_ (by rw [if_pos (hRb.mpr hRle)])
      by_cases h6 : rho 50 o = 6
      · rw [if_pos h6, if_pos (hRb.mpr hRle), wr_s]
        exact hfail
      · rw [if_neg h6]
        by_cases h1 : saf rho o n = 0
        · rw [if_pos h1, if_pos (hRb.mpr hRle), wr_s]
          exact hfail
        · rw [if_neg h1, if_pos (hRb.mpr hRle), wr_s]
          exact hfail
    · have hRn : ¬ nI Rr ≤ nI b := fun z => hRle (hRb.mp z)
      rw [if_neg hRn]
      have ecp := e8_canPay h ho (show n < sc rho o by omega) hc hc7
      by_cases h6 : rho 50 o = 6
      · rw [if_pos h6, if_pos h6, if_neg hRn, ecp, cb_s0, if_pos qc, cc]
        by_cases h5 : rho 17 c < 100
        · rw [if_pos h5, if_pos h5, if_pos rfl, wr_s]
          exact fail _ _ hfail rfl
        · rw [if_neg h5, if_neg h5, if_neg (show ¬ (1 : Int32) = 0 by decide), hae.2.1, h49]
          exact retry (by omega) _ _ rfl rfl
      · rw [if_neg h6, if_neg h6, e9_isSafeOf hb ho hn, ob_s]
        by_cases h1 : saf rho o n = 0
        · rw [if_pos h1, if_pos h1, if_neg hRn, wr_s]
          exact fail _ _ hfail (by rw [if_neg hRn])
        · rw [if_neg h1, if_neg h1, if_neg hRn, ecp, cb_s0, if_pos qc, cc]
          by_cases h5 : rho 17 c < 100
          · rw [if_pos h5, if_pos h5, if_pos rfl, wr_s]
            exact fail _ _ hfail rfl
          · rw [if_neg h5, if_neg h5, if_neg (show ¬ (1 : Int32) = 0 by decide), hae.2.1, h49]
            exact retry (by omega) _ _ rfl rfl
theorem go_loop {o n c s Rr : Nat} (hX : ∀ x, ¬ X x) (hY : ∀ x, ¬ Y x) (ho4 : o < 440) (hc7 : c < 7) (hs6 : s < 6) (hR3 : Rr ≤ 3) : ∀ (t j b : Nat) (m : CM) (rho : RH) (n8 n9 : Nat), INVX X Y m rho → OE rho o → n + 1 = sc rho o → cal rho o = nI c → cld rho o n = nI s → Go rho o → LKd rho o n → pol rho c s 1 = nI Rr → rho 49 o = nI b → b ≤ 3 → Rr ≤ b + t → j ≤ b → (j = 0 ∨ b ≤ Rr) → t + 1 < n8 → t < n9 →
    ∃ how m' g rho', l8_X8_goOn_14 n8 0 (4 * o + n) (nI Rr) (nI j) m = some (0, m', g) ∧ l9_goesStep_12 n9 (nI o) (nI c) (nI s) rho = some (how, rho') ∧ ((how = 0 ∧ INVX X Y m' rho') ∨ (how = 2 ∧ INVX (fun x => X x ∨ x = o) Y m' rho' ∧ gI m' 911 (4 * o + n) = 4)) ∧ g + pot m' ≤ pot m ∧ FrG rho rho' ∧ (o < 400 → rho' 37 o = rho 37 o) := by
  intro t
  induction t with
  | zero =>
    intro j b m rho n8 n9 h ho hn hc hs hgo hL hpol h49 hb3 hR hj hjR h8 h9
    exact go_step hX hY ho4 hc7 hs6 hR3 h ho hn hc hs hgo hL hpol h49 hb3 hR hj hjR h8 h9 (fun _ _ _ _ _ _ z => by omega)
  | succ t ih =>
    intro j b m rho n8 n9 h ho hn hc hs hgo hL hpol h49 hb3 hR hj hjR h8 h9
    exact go_step hX hY ho4 hc7 hs6 hR3 h ho hn hc hs hgo hL hpol h49 hb3 hR hj hjR h8 h9 (fun j b m rho n8 n9 z => ih j b m rho n8 n9)
end QB
