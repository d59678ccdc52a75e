/-! ticks that pass -/
section QL
variable {m : CM} {rho : RH}
theorem tick_both (h : INV m rho) (hT : nv (rho 0 0) + 1 ≤ 600) (n : Nat) (x1 x2 : Int32) (h12 : ¬ x1 ≤ x2) : ∃ m' g rho', (∀ r m9 g9, l8_X8_pass_32 n 0 x1 (x2 + 1) m' = some (r, m9, g9) → l8_X8_pass_32 (n + 1) 0 x1 x2 m = some (r, m9, g + g9)) ∧ f9_passes rho = some (0, rho') ∧ INV m' rho' ∧ g + pot m' ≤ pot m ∧ rho' 0 0 = rho 0 0 + 1 ∧ rho' 64 0 = rho 64 0 := by
  have hF : FU = 1000 := rfl
  have h1 := tick_inv h hT
  have h2 := ho_inv h1
  have e2 := e8_ho h1
  have z2 : hoP (up2 rho 0 0 (rho 0 0 + 1)) 0 = up2 rho 0 0 (rho 0 0 + 1) := by
    funext F j
    unfold hoP
    rw [if_neg (fun z => absurd z.2 (by omega))]
  have e9 := e9_ho (rho := up2 rho 0 0 (rho 0 0 + 1)) 84 0 FU (by omega) (by omega)
  rw [z2] at e9
  have p2 : pot (hoM (sI m 1024 0 (gI m 1024 0 + 1)) (up2 rho 0 0 (rho 0 0 + 1)) (7 * iI (up2 rho 0 0 (rho 0 0 + 1)))) = pot m := rfl
  have t2 : hoP (up2 rho 0 0 (rho 0 0 + 1)) 84 0 0 = rho 0 0 + 1 := rfl
  have t3 : hoP (up2 rho 0 0 (rho 0 0 + 1)) 84 64 0 = rho 64 0 := rfl
  generalize hoM (sI m 1024 0 (gI m 1024 0 + 1)) (up2 rho 0 0 (rho 0 0 + 1)) (7 * iI (up2 rho 0 0 (rho 0 0 + 1))) = m2 at *
  generalize hoP (up2 rho 0 0 (rho 0 0 + 1)) 84 = rho2 at *
  have hC2 := INVX.rb9 h2
  have hC := hC2.C
  obtain ⟨m3, g3, rho3, a1, a2, a3, a4, a5, a6⟩ := late_loop (iC rho2) 0 m2 rho2 FU FU (by omega) h2 (by omega) (by omega)
  have hC3 := (INVX.rb9 a3).C
  obtain ⟨m4, g4, rho4, b1, b2, b3, b4, b5, b6⟩ := work_loop (iC rho3) 0 m3 rho3 FU FU (by omega) a3 (by omega) (by omega)
  obtain ⟨m5, g5, rho5, c1, c2, c3, c4, c5⟩ := calls_both b3
  obtain ⟨m6, g6, rho6, d1, d2, d3, d4, d5⟩ := reqs_both c3
  obtain ⟨m7, g7, rho7, f1, f2, f3, f4, f5⟩ := reps_both d3
  obtain ⟨m8, rho8, i1, i2, i3, i4, i5⟩ := runs_both f3
  obtain ⟨m9, rho9, j1, j2, j3, j4, j5⟩ := tell_both i3
  refine ⟨m9, g3 + (g4 + (g5 + (g6 + g7))), rho9, fun r m10 g10 hK => ?_, ?_, j3, by omega, ?_, ?_⟩
  · rw [l8_X8_pass_32, if_neg h12, wr_s, show g3 + (g4 + (g5 + (g6 + g7))) + g10 = 0 + (g3 + (g4 + (g5 + (g6 + (g7 + (0 + g10)))))) by omega]
    refine cb_r e2 ?_
    refine cb_r (a := 0) (m1 := m3) (g1 := g3) a1 ?_
    refine cb_r (a := 0) (m1 := m4) (g1 := g4) b1 ?_
    refine cb_r c1 ?_
    refine cb_r d1 ?_
    refine cb_r f1 ?_
    refine cb_r i1 ?_
    show (if (gI m8 1024 0 - gI m8 1024 0 / 5 * 5) = 0 then (cb (f8_X8_tellLoads 0 m8) fun _ m48 => l8_X8_pass_32 n 0 x1 (x2 + 1) m48) else l8_X8_pass_32 n 0 x1 (x2 + 1) m8) = _
    by_cases z : (gI m8 1024 0 - gI m8 1024 0 / 5 * 5) = 0
    · rw [if_pos z] at j1 ⊢
      rw [j1, cb_s0]
      exact hK
    · rw [if_neg z] at j1 ⊢
      have : m8 = m9 := congrArg (fun q => q.2.1) (Option.some.inj j1)
      rw [this]
      exact hK
  · unfold f9_passes
    rw [wr_s]
    exact e9.trans (a2.trans (b2.trans (c2.trans (d2.trans (f2.trans (i2.trans j2))))))
  · rw [j5 0 (Or.inl rfl), i5 0 (Or.inl rfl), f5 0 (Or.inl rfl), d5 0 (Or.inl rfl), c5 0 0 (by unfold stF; omega) (by decide), b6 0 0 (by unfold stF; omega), a5.1 0 0 (by unfold stF; omega), t2]
  · rw [j5 64 (Or.inr rfl), i5 64 (Or.inr rfl), f5 64 (Or.inr rfl), d5 64 (Or.inr rfl), c5 64 0 (by unfold stF; omega) (by decide), b6 64 0 (by unfold stF; omega), a5.1 64 0 (by unfold stF; omega), t3]
theorem pass_loop {x : Nat} (hx : x ≤ 50) : ∀ (d j : Nat) (m : CM) (rho : RH) (n8 n9 : Nat), j + d = x → INV m rho → nv (rho 0 0) + d ≤ 600 → d < n8 → d < n9 → ∃ (m' : CM) (g : Nat) (b : Int32) (rho' : RH), l8_X8_pass_32 n8 0 (nI x) (nI j) m = some (.inl b, m', g) ∧ l9_pass_36 n9 (nI x) (nI j) rho = some (b, rho') ∧ INV m' rho' ∧ g + pot m' ≤ pot m ∧ rho' 64 0 = rho 64 0 := by
  intro d
  induction d with
  | zero =>
    intro j m rho n8 n9 hj h hT h8 h9
    obtain ⟨n8, rfl⟩ : ∃ n', n8 = n' + 1 := ⟨n8 - 1, by omega⟩
    obtain ⟨n9, rfl⟩ : ∃ n', n9 = n' + 1 := ⟨n9 - 1, by omega⟩
    refine ⟨m, 0, rho 0 0, rho, ?_, ?_, h, by omega, rfl⟩
    · rw [l8_X8_pass_32, if_pos (nI_le (by omega) (by omega)), INVX.now h]
    · rw [l9_pass_36, if_pos (nI_le (by omega) (by omega))]
  | succ d ih =>
    intro j m rho n8 n9 hj h hT h8 h9
    obtain ⟨n8, rfl⟩ : ∃ n', n8 = n' + 1 := ⟨n8 - 1, by omega⟩
    obtain ⟨n9, rfl⟩ : ∃ n', n9 = n' + 1 := ⟨n9 - 1, by omega⟩
    have hlt : ¬ nI x ≤ nI j := cle (by omega) (by omega)
    obtain ⟨m1, g1, r1, k1, k2, k3, k4, k5, k6⟩ := tick_both h (by omega) n8 (nI x) (nI j) hlt
    have hT0 := (INVX.rb9 h).T
    have e1 : nv (r1 0 0) = nv (rho 0 0) + 1 := by
      rw [k5, hT0.1, nI_1, nv_nI (by omega), nv_nI (by omega)]
    obtain ⟨m2, g2, b, r2, i1, i2, i3, i4, i5⟩ := ih (j + 1) m1 r1 n8 n9 (by omega) k3 (by omega) (by omega) (by omega)
    refine ⟨m2, g1 + g2, b, r2, k1 _ _ _ (by rw [nI_1]; exact i1), ?_, i3, by omega, ?_⟩
    · rw [l9_pass_36, if_neg hlt, k2, ob_s, nI_1]
      exact i2
    · rw [i5, k6]
theorem pass_x {a1 : Int32} (h1 : ¬ (a1 < 1 ∨ 50 < a1)) : ∃ x, x ≤ 50 ∧ a1 = nI x := by
  obtain ⟨x, hx, e⟩ := ix_cases (x := a1) (n := 50) (by omega) (fun z => h1 (Or.inl (by
        rw [Int32.lt_iff_toInt_lt] at z ⊢
        have e0 : (0 : Int32).toInt = 0 := by decide
        have e1 : (1 : Int32).toInt = 1 := by decide
        omega))) (fun z => h1 (Or.inr (by rw [l50]; exact z)))
  exact ⟨x, by omega, e⟩
theorem pass_t {v : Int32} {t x : Nat} (hv : v = nI t) (ht : t ≤ 600) (hx : x ≤ 50) : 600 < v + nI x ↔ 600 < t + x := by
  rw [hv, nI_add, l600]
  constructor
  · intro z
    apply Nat.lt_of_not_le
    intro y
    exact nI_nlt y (by omega) z
  · intro z
    rw [← not_le32]
    exact cle (by omega) z
theorem e8_pass (a1 : Int32) (m : CM) : f8_X8_pass 0 a1 m = if a1 < 1 ∨ 50 < a1 then some (.inr 1, m, 1) else if 600 < gI m 1024 0 + a1 then some (.inr 2, m, 1) else l8_X8_pass_32 FU 0 a1 0 m := by
  unfold f8_X8_pass
  rw [e8_within, cb_s0]
  by_cases h1 : a1 < 1 ∨ 50 < a1
  · rw [if_pos h1, if_pos h1, if_pos rfl]
  · rw [if_neg h1, if_neg h1, if_neg (show ¬ (1 : Int32) = 0 by decide)]
theorem e9_pass (a1 : Int32) (rho : RH) : f9_pass a1 rho = if a1 < 1 ∨ 50 < a1 then some (0, up2 rho 64 0 1) else if 600 < rho 0 0 + a1 then some (0, up2 rho 64 0 2) else l9_pass_36 FU a1 0 (up2 rho 64 0 0) := by
  unfold f9_pass
  rw [e9_in, ob_s, e9_goes, ob_s, e9_goes, ob_s]
  by_cases h1 : a1 < 1 ∨ 50 < a1
  · rw [if_pos h1, if_pos h1]
    split <;> rfl
  · rw [if_neg h1, if_neg h1]
    by_cases h2 : 600 < rho 0 0 + a1
    · rw [if_pos h2, if_pos h2]
      rfl
    · rw [if_neg h2, if_neg h2]
      rfl
theorem cmd10 : CMD10 INV pot := by
  intro m rho a1 hI
  rw [e8_pass, e9_pass, INVX.now hI]
  by_cases h1 : a1 < 1 ∨ 50 < a1
  · rw [if_pos h1, if_pos h1]
    refine ⟨.inr 1, m, 1, 0, up2 rho 64 0 1, rfl, rfl, fun j hj => ?_, Or.inr ⟨1, rfl, up2_s _ _ _ _, by decide⟩, th_X hI, by omega⟩
    cases hj
    exact Or.inl rfl
  · rw [if_neg h1, if_neg h1]
    obtain ⟨x, hx, rfl⟩ := pass_x h1
    by_cases h2 : 600 < rho 0 0 + nI x
    · rw [if_pos h2, if_pos h2]
      refine ⟨.inr 2, m, 1, 0, up2 rho 64 0 2, rfl, rfl, fun j hj => ?_, Or.inr ⟨2, rfl, up2_s _ _ _ _, by decide⟩, th_X hI, by omega⟩
      cases hj
      exact Or.inr rfl
    · rw [if_neg h2, if_neg h2]
      have hT := (INVX.rb9 hI).T
      have hF : FU = 1000 := rfl
      have h3 : nv (rho 0 0) + x ≤ 600 := Nat.le_of_not_lt (fun y => h2 ((pass_t hT.1 hT.2 hx).mpr y))
      obtain ⟨m', g, b, rho', k1, k2, k3, k4, k5⟩ := pass_loop (x := x) hx x 0 m (up2 rho 64 0 0) FU FU (Nat.zero_add x) (th_X hI) h3 (by omega) (by omega)
      refine ⟨.inl b, m', g, b, rho', k1, k2, fun j hj => ?_, Or.inl ⟨_, rfl, k5.trans (up2_s _ _ _ _), rfl⟩, k3, Nat.le_trans k4 (Nat.le_add_right _ _)⟩
      cases hj
end QL
