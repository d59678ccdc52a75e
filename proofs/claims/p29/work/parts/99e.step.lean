/-! steps of a plan -/
section QS
variable {m : CM} {rho : RH}
def spM (m : CM) (s p : Nat) (x2 x3 x4 : Int32) : CM := sI (sA (sA (sA m 32 s p x2) 34 s p x3) 33 s p x4) 769 s (nI (p + 1))
def spR (rho : RH) (s p : Nat) (x2 x3 x4 : Int32) : RH := up2 (up2 (up2 (up2 rho 3 (4 * s + p) x2) 4 (4 * s + p) x3) 5 (4 * s + p) x4) 2 s (nI (p + 1))
theorem noOE (hb : RB rho) (hR : iR rho = 0) (o : Nat) : ¬ OE rho o := by
  intro h
  have h0 := hb.r09.2.2.2.2.2.1
  have : ¬ (0 < iC rho ∨ 0 < iP rho) := fun z => by
    have := h0 z
    omega
  rcases h with z | z | z
  · exact this (Or.inl (by omega))
  · omega
  · exact this (Or.inr (by omega))
theorem sp_inv (h : INV m rho) (hR : iR rho = 0) {s p : Nat} {x2 x3 x4 : Int32} (hs : s < 6) (hp : p < 4) (hpl : rho 2 s = nI p) (h2 : ∃ c, s < c ∧ c < 6 ∧ x2 = nI c) (h3 : x3 = 0 ∨ x3 = 1) (h4 : x4 = -1 ∨ Ix x4 6) : INV (spM m s p x2 x3 x4) (spR rho s p x2 x3 x4) := by
  have hno := noOE (INVX.rb9 h) hR
  have hC : iC rho = 0 := Nat.eq_zero_of_not_pos fun z => hno 0 (Or.inl z)
  have e2 : ∀ j, spR rho s p x2 x3 x4 2 j = if j = s then nI (p + 1) else rho 2 j := fun j => rfl
  have e3 : ∀ j, spR rho s p x2 x3 x4 3 j = if j = 4 * s + p then x2 else rho 3 j := fun j => rfl
  have e4 : ∀ j, spR rho s p x2 x3 x4 4 j = if j = 4 * s + p then x3 else rho 4 j := fun j => rfl
  have e5 : ∀ j, spR rho s p x2 x3 x4 5 j = if j = 4 * s + p then x4 else rho 5 j := fun j => rfl
  have g769 : ∀ j, gI (spM m s p x2 x3 x4) 769 j = if j = s then nI (p + 1) else gI m 769 j := fun j => rfl
  have g32 : ∀ j n, gA (spM m s p x2 x3 x4) 32 j n = if j = s then (if n = p then x2 else gA m 32 j n) else gA m 32 j n := fun j n => rfl
  have g34 : ∀ j n, gA (spM m s p x2 x3 x4) 34 j n = if j = s then (if n = p then x3 else gA m 34 j n) else gA m 34 j n := fun j n => rfl
  have g33 : ∀ j n, gA (spM m s p x2 x3 x4) 33 j n = if j = s then (if n = p then x4 else gA m 33 j n) else gA m 33 j n := fun j n => rfl
  obtain ⟨b1, b2, b3, b4, b5, b6, b7, b8, b9, b10, b11, b12, b13, b14, b15, b16, c0, cs, ci, cp, cr, cq, ck, cw, cz⟩ := h
  refine ⟨b1, b2, b3, fun j hj => ?_, b5, b6, b7, b8, b9, b10, b11, fun o n ho _ => absurd ho (hno o), b13, b14, b15, b16, c0, fun j hj => ?_, ci, cp, cr, cq, fun k hk => absurd (show k < iC rho from hk) (by omega), fun k hk => absurd (show k < iC rho from hk) (by omega), cz⟩
  · have hh := b4 j hj
    refine ⟨hh.1, ?_, hh.2.2.1, hh.2.2.2.1, hh.2.2.2.2.1, fun n hn => ?_⟩
    · rw [g769, e2, hh.2.1]
    · have hq := hh.2.2.2.2.2 n hn
      rw [g32, g34, g33, e3, e4, e5, hq.1, hq.2.1, hq.2.2]
      by_cases z : j = s
      · by_cases y : n = p
        · rw [if_pos z, if_pos y, if_pos z, if_pos y, if_pos z, if_pos y, if_pos (by omega), if_pos (by omega), if_pos (by omega)]
          exact ⟨rfl, rfl, rfl⟩
        · rw [if_pos z, if_neg y, if_pos z, if_neg y, if_pos z, if_neg y, if_neg (by omega), if_neg (by omega), if_neg (by omega)]
          exact ⟨rfl, rfl, rfl⟩
      · rw [if_neg z, if_neg z, if_neg z, if_neg (by omega), if_neg (by omega), if_neg (by omega)]
        exact ⟨rfl, rfl, rfl⟩
  · have hh := cs j hj
    rw [e2]
    by_cases z : j = s
    · rw [if_pos z]
      refine ⟨⟨p + 1, by omega, rfl⟩, hh.2.1, fun n hn => ?_⟩
      rw [nv_nI (by omega)] at hn
      rw [e3, e4, e5]
      by_cases y : n = p
      · rw [if_pos (by omega), if_pos (by omega), if_pos (by omega), z]
        exact ⟨h2, h3, h4⟩
      · rw [if_neg (by omega), if_neg (by omega), if_neg (by omega)]
        exact hh.2.2 n (by rw [z, hpl, nv_nI (by omega)]; omega)
    · rw [if_neg z]
      refine ⟨hh.1, hh.2.1, fun n hn => ?_⟩
      have hn4 := hh.1.lt (by omega)
      rw [e3, e4, e5, if_neg (by omega), if_neg (by omega), if_neg (by omega)]
      exact hh.2.2 n hn
theorem s87_0 (x1 x2 x3 x4 s2 s3 : Int32) (rho : RH) : b9_step_87 x1 x2 x3 x4 0 s2 s3 rho = some (0, up2 rho 64 0 1) := by
  unfold b9_step_87
  rw [go0, ob_s, if_pos rfl]
theorem s87_1 (x1 x2 x3 x4 s3 : Int32) (rho : RH) : b9_step_87 x1 x2 x3 x4 1 0 s3 rho = some (0, up2 rho 64 0 2) := by
  unfold b9_step_87
  rw [go10, ob_s, if_pos rfl]
theorem go11 (rho : RH) : f9_goes 1 1 0 rho = some (0, up2 rho 64 0 3) := by
  rw [e9_goes, if_pos (Or.inr (Or.inr rfl)), if_neg (by decide), if_neg (by decide), if_pos rfl]
theorem s87_2 (x1 x2 x3 x4 : Int32) (rho : RH) : b9_step_87 x1 x2 x3 x4 1 1 0 rho = some (0, up2 rho 64 0 3) := by
  unfold b9_step_87
  rw [go11, ob_s, if_pos rfl]
theorem s60_0 (x1 x2 x3 x4 s1 s2 : Int32) (rho : RH) : b9_step_60 x1 x2 x3 x4 0 s1 s2 rho = b9_step_87 x1 x2 x3 x4 s1 s2 0 rho := by
  unfold b9_step_60
  rw [if_pos rfl]
theorem s33_0 (x1 x2 x3 x4 : Int32) (rho : RH) : b9_step_33 x1 x2 x3 x4 0 rho = some (0, up2 rho 64 0 1) := by
  simp only [b9_step_33, s60_0, s87_0, ite_self]
theorem e8_step (x1 x2 x3 x4 : Int32) (m : CM) : f8_X8_step 0 x1 x2 x3 x4 m = if (x1 < 0 ∨ 5 < x1) ∨ (x2 < 0 ∨ 5 < x2) ∨ (x4 < -1 ∨ 5 < x4) then some (.inr 0, m, 1) else b8_X8_step_33 0 x1 x2 x3 x4 1 m := by
  have e0 : b8_X8_step_33 0 x1 x2 x3 x4 0 m = some (.inr 0, m, 1) := by
    unfold b8_X8_step_33
    rw [if_pos rfl]
  unfold f8_X8_step
  rw [e8_within, cb_s0]
  by_cases h1 : x1 < 0 ∨ 5 < x1
  · rw [if_pos h1, if_pos rfl, e0, if_pos (Or.inl h1)]
  · rw [if_neg h1, if_neg i10, e8_within, cb_s0]
    by_cases h2 : x2 < 0 ∨ 5 < x2
    · rw [if_pos h2, if_pos rfl, e0, if_pos (Or.inr (Or.inl h2))]
    · rw [if_neg h2, if_neg i10, e8_within, cb_s0]
      by_cases h4 : x4 < -1 ∨ 5 < x4
      · rw [if_pos h4, if_pos rfl, e0, if_pos (Or.inr (Or.inr h4))]
      · rw [if_neg h4, if_neg i10, if_neg (by rintro (z | z | z); exact h1 z; exact h2 z; exact h4 z)]
theorem e9_step (x1 x2 x3 x4 : Int32) (rho : RH) : f9_step x1 x2 x3 x4 rho = if (x1 < 0 ∨ 5 < x1) ∨ (x2 < 0 ∨ 5 < x2) ∨ (x4 < -1 ∨ 5 < x4) then some (0, up2 rho 64 0 1) else b9_step_33 x1 x2 x3 x4 1 rho := by
  unfold f9_step
  rw [e9_isService, ob_s]
  by_cases h1 : x1 < 0 ∨ 5 < x1
  · rw [if_pos h1, if_pos rfl, s33_0, if_pos (Or.inl h1)]
  · rw [if_neg h1, if_neg i10, e9_isService, ob_s]
    by_cases h2 : x2 < 0 ∨ 5 < x2
    · rw [if_pos h2, if_pos rfl, s33_0, if_pos (Or.inr (Or.inl h2))]
    · rw [if_neg h2, if_neg i10]
      by_cases z : x4 = -1
      · rw [if_pos z, if_neg (by rintro (y | y | y); exact h1 y; exact h2 y; rw [z] at y; exact absurd y (by decide))]
      · rw [if_neg z, e9_isService, ob_s]
        by_cases h4 : x4 < 0 ∨ 5 < x4
        · rw [if_pos h4, if_pos rfl, s33_0, if_pos (Or.inr (Or.inr (h4.imp (fun y => m1_lt.mpr ⟨y, z⟩) id)))]
        · rw [if_neg h4, if_neg i10, if_neg (by rintro (y | y | y); exact h1 y; exact h2 y; exact h4 (y.imp (fun x => (m1_lt.mp x).1) id))]
theorem cmd1 : CMD1 INV pot := by
  intro m rho a1 a2 a3 a4 hI ha3
  have ha := INVX.a09 hI
  have hb := INVX.rb9 hI
  have hR := hb.R
  rw [e8_step, e9_step]
  by_cases hB : (a1 < 0 ∨ 5 < a1) ∨ (a2 < 0 ∨ 5 < a2) ∨ (a4 < -1 ∨ 5 < a4)
  · rw [if_pos hB, if_pos hB]
    exact ⟨.inr 0, m, 1, 0, up2 rho 64 0 1, rfl, rfl, fun j hj => by cases hj; exact Or.inl rfl, Or.inr ⟨0, rfl, up2_s _ _ _ _, by decide⟩, th_X hI, by omega⟩
  · rw [if_neg hB, if_neg hB]
    obtain ⟨s, hs, rfl⟩ := sv_x (x := a1) (fun z => hB (Or.inl z))
    obtain ⟨c, hc, rfl⟩ := sv_x (x := a2) (fun z => hB (Or.inr (Or.inl z)))
    have h4 : ¬ (a4 < -1 ∨ 5 < a4) := fun z => hB (Or.inr (Or.inr z))
    have h4' : a4 = -1 ∨ Ix a4 6 := by
      by_cases z : a4 = -1
      · exact Or.inl z
      · exact Or.inr (ix_cases (n := 5) (by omega) (fun y => h4 (Or.inl (m1_lt.mpr ⟨y, z⟩))) (fun y => h4 (Or.inr (by rw [l5]; exact y))))
    have qs := vq_nI (k := s) (n := 6) hs (by omega)
    have cs := nI_clamp (n := s) (by omega)
    have hz := ha.2.2.2.2.2.2.2.2.2 s hs
    have has := INVX.as9 hI s hs
    have hpl := (hb.rs9 s hs).1.eq (by omega)
    have hpl4 := (hb.rs9 s hs).1.lt (by omega)
    generalize nv (rho 2 s) = p at hpl hpl4
    have bad1 : ∃ (r : Int32 ⊕ Nat) (m9 : CM) (n9 : Nat) (b : Int32) (rho9 : RH), (some (.inr 1, m, 1) : CR (Int32 ⊕ Nat)) = some (r, m9, n9) ∧ (some (0, up2 rho 64 0 2) : Option (Int32 × RH)) = some (b, rho9) ∧ (∀ j, r = .inr j → j = 0 ∨ j = 1 ∨ j = 2) ∧ AG r (fun x => x.toInt64) (fun j => if j = 0 then 1 else if j = 1 then 2 else 3) b.toInt64 (rho9 64 0) ∧ INV m9 rho9 ∧ n9 + pot m9 ≤ pot m + 2 := ⟨.inr 1, m, 1, 0, up2 rho 64 0 2, rfl, rfl, fun j hj => by cases hj; exact Or.inr (Or.inl rfl), Or.inr ⟨1, rfl, up2_s _ _ _ _, by decide⟩, th_X hI, by omega⟩
    have bad2 : ∃ (r : Int32 ⊕ Nat) (m9 : CM) (n9 : Nat) (b : Int32) (rho9 : RH), (some (.inr 2, m, 1) : CR (Int32 ⊕ Nat)) = some (r, m9, n9) ∧ (some (0, up2 rho 64 0 3) : Option (Int32 × RH)) = some (b, rho9) ∧ (∀ j, r = .inr j → j = 0 ∨ j = 1 ∨ j = 2) ∧ AG r (fun x => x.toInt64) (fun j => if j = 0 then 1 else if j = 1 then 2 else 3) b.toInt64 (rho9 64 0) ∧ INV m9 rho9 ∧ n9 + pot m9 ≤ pot m + 2 := ⟨.inr 2, m, 1, 0, up2 rho 64 0 3, rfl, rfl, fun j hj => by cases hj; exact Or.inr (Or.inr rfl), Or.inr ⟨2, rfl, up2_s _ _ _ _, by decide⟩, th_X hI, by omega⟩
    have e58 : b8_X8_step_58 0 (nI s) (nI c) a3 a4 0 m = some (.inr 1, m, 1) := by
      unfold b8_X8_step_58
      rw [if_pos rfl]
    have e60 : b9_step_60 (nI s) (nI c) a3 a4 1 1 0 rho = some (0, up2 rho 64 0 2) := by
      unfold b9_step_60
      rw [if_neg i10, if_pos qs, s87_1, s87_1, ite_self, ite_self]
    unfold b8_X8_step_33 b9_step_33
    rw [if_neg i10, e58, e60]
    by_cases h2 : nI c ≤ nI s
    · rw [if_pos h2, if_pos h2]
      exact bad1
    · have hsc : s < c := Nat.lt_of_not_le (fun y => h2 (nI_le y (by omega)))
      rw [if_neg h2, if_neg h2]
      have main : ∃ (r : Int32 ⊕ Nat) (m9 : CM) (n9 : Nat) (b : Int32) (rho9 : RH), b8_X8_step_58 0 (nI s) (nI c) a3 a4 1 m = some (r, m9, n9) ∧ b9_step_60 (nI s) (nI c) a3 a4 1 1 1 rho = some (b, rho9) ∧ (∀ j, r = .inr j → j = 0 ∨ j = 1 ∨ j = 2) ∧ AG r (fun x => x.toInt64) (fun j => if j = 0 then 1 else if j = 1 then 2 else 3) b.toInt64 (rho9 64 0) ∧ INV m9 rho9 ∧ n9 + pot m9 ≤ pot m + 2 := by
        have e93 : b8_X8_step_93 0 (nI c) a3 a4 s 0 m = some (.inr 2, m, 1) := by
          unfold b8_X8_step_93
          rw [if_pos rfl]
        unfold b8_X8_step_58 b9_step_60
        rw [if_neg i10, if_neg i10, ha.2.1, od_s, if_pos qs, if_pos qs, cs, hz.1, od_s, has.2.1, hpl, ha.2.2.2.2.1, od_s, INV.len51 hI, hR.1, e93, s87_2]
        by_cases z4 : (4 : Int32) ≤ nI p
        · rw [if_pos z4, if_pos z4]
          exact bad2
        · rw [if_neg z4, if_neg z4]
          have hp : p < 4 := Nat.lt_of_not_le (fun y => z4 (by rw [l4]; exact nI_le y (by omega)))
          by_cases zR : nI (iR rho) = 0
          · have hR0 : iR rho = 0 := by
              rw [l0] at zR
              exact (nI_eq (by omega) (by omega)).mp zR
            rw [if_pos zR, if_neg i10, if_pos zR]
            have q4 := vq_nI (k := p) (n := 4) hp (by omega)
            have cp := nI_clamp (n := p) (by omega)
            have e4s : (4 : Int32) * nI s + nI p = nI (4 * s + p) := by rw [l4, pk_mul, nI_add]
            have hpl' : up2 rho 64 0 0 2 s = nI p := hpl
            have hp8 : f8_X6_plan s (nI c) a3 a4 m = some (0, spM m s p (nI c) a3 a4, 0) := by
              have g0 : gI m 769 s = nI p := has.2.1.trans hpl
              have g1 : ∀ v, gI (sA m 32 s p v) 769 s = nI p := fun v => g0
              have g2 : ∀ v w, gI (sA (sA m 32 s p v) 34 s p w) 769 s = nI p := fun v w => g0
              have g3 : ∀ v w u, gI (sA (sA (sA m 32 s p v) 34 s p w) 33 s p u) 769 s = nI p := fun v w u => g0
              have r1 : ∀ v, gR (sA m 32 s p v) 772 s = some s := fun v => hz.2.2.2.1
              have r2 : ∀ v w, gR (sA (sA m 32 s p v) 34 s p w) 771 s = some s := fun v w => hz.2.2.1
              unfold f8_X6_plan
              rw [g0, if_neg z4, hz.2.1, od_s, if_pos q4, cp, wr_s, r1, od_s, g1, if_pos q4, cp, if_pos ha3, wr_s, r2, od_s, g2, if_pos q4, cp, wr_s, g3, wr_s, nI_1]
              rfl
            refine ⟨.inl (nI (p + 1)), spM m s p (nI c) a3 a4, 0, nI (p + 1), spR (up2 rho 64 0 0) s p (nI c) a3 a4, ?_, ?_, fun j hj => (by cases hj), Or.inl ⟨_, rfl, rfl, rfl⟩, sp_inv (th_X hI) hR0 hs hp hpl ⟨c, hsc, hc, rfl⟩ ha3 h4', ?_⟩
            · unfold b8_X8_step_93
              rw [if_neg i10, hp8, cb_s0, show gI (spM m s p (nI c) a3 a4) 769 s = nI (p + 1) from if_pos rfl]
            · unfold b9_step_87
              have t1 : ∀ v, up2 (up2 rho 64 0 0) 3 (4 * s + p) v 2 s = nI p := fun v => hpl
              have t3 : ∀ v w u, up2 (up2 (up2 (up2 rho 64 0 0) 3 (4 * s + p) v) 4 (4 * s + p) w) 5 (4 * s + p) u 2 s = nI p := fun v w u => hpl
              rw [go1, ob_s, if_neg i10, if_pos qs, cs, hpl', e4s, if_pos (vq_nI (by omega) (by omega)), nI_clamp (by omega), wr_s, if_pos ha3, wr_s, wr_s, t3, wr_s, nI_1, up2_s]
              rfl
            · show 0 + pot m ≤ _
              omega
          · rw [if_neg zR, if_pos rfl, if_neg zR]
            exact bad2
      by_cases z1 : a4 = -1
      · rw [if_pos z1, if_pos z1]
        exact main
      · rw [if_neg z1, if_neg z1]
        by_cases z2 : a4 ≤ nI s
        · rw [if_pos z2, if_pos z2]
          exact bad1
        · rw [if_neg z2, if_neg z2]
          exact main
end QS
