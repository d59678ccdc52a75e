/-! policies -/
section QR
variable {m : CM} {rho : RH}
def Pl (x y : Nat) : Prop := (x = 0 ∧ y = 48) ∨ (∃ s, s < 6 ∧ x = 1 + s ∧ y = 42 + s) ∨ ∃ c s, c < 7 ∧ s < 6 ∧ x = 7 + c * 6 + s ∧ y = 6 * c + s
theorem Pl.inj {x y x' y' : Nat} (h : Pl x y) (g : Pl x' y') : x = x' ↔ y = y' := by
  rcases h with ⟨h1, h2⟩ | ⟨s, h0, h1, h2⟩ | ⟨c, s, h9, h0, h1, h2⟩ <;> rcases g with ⟨g1, g2⟩ | ⟨s', g0, g1, g2⟩ | ⟨c', s', g9, g0, g1, g2⟩ <;> omega
theorem Pl.lt {x y : Nat} (h : Pl x y) : x < 49 ∧ y < 49 := by
  rcases h with ⟨h1, h2⟩ | ⟨s, h0, h1, h2⟩ | ⟨c, s, h9, h0, h1, h2⟩ <;> omega
theorem AP_iff : AP m rho ↔ ∀ p, p < 3 → ∀ x y, Pl x y → gA m 37 p x = rho 15 (3 * y + p) := by
  constructor
  · intro h p hp x y hxy
    have hh := h p hp
    rcases hxy with ⟨rfl, rfl⟩ | ⟨s, h0, rfl, rfl⟩ | ⟨c, s, h9, h0, rfl, rfl⟩
    · exact hh.1
    · exact hh.2.1 s h0
    · exact hh.2.2 c h9 s h0
  · intro h p hp
    exact ⟨h p hp 0 48 (Or.inl ⟨rfl, rfl⟩), fun s hs => h p hp _ _ (Or.inr (Or.inl ⟨s, hs, rfl, rfl⟩)), fun c hc s hs => h p hp _ _ (Or.inr (Or.inr ⟨c, s, hc, hs, rfl, rfl⟩))⟩
theorem po_inv (h : INV m rho) {p x y : Nat} {v : Int32} (hp : p < 3) (hxy : Pl x y) (h0 : p = 0 → Ix v 101) (h1 : p = 1 → Ix v 4) : INV (sA m 37 p x v) (up2 rho 15 (3 * y + p) v) := by
  have e15 : ∀ j, up2 rho 15 (3 * y + p) v 15 j = if j = 3 * y + p then v else rho 15 j := fun j => rfl
  have e37 : ∀ j w', gA (sA m 37 p x v) 37 j w' = if j = p then (if w' = x then v else gA m 37 j w') else gA m 37 j w' := fun j w' => by
    rw [gA_sA, if_pos rfl]
  obtain ⟨b1, b2, b3, b4, b5, b6, b7, b8, b9, b10, b11, b12, b13, b14, b15, b16, c0, cs, ci, cp, cr, cq, ck, cw, cz⟩ := h
  refine ⟨b1, b2, AP_iff.mpr (fun p' hp' x' y' hxy' => ?_), b4, b5, b6, b7, b8, b9, b10, b11, b12, b13, b14, b15, b16, c0, cs, ci, fun j hj => ?_, cr, cq, ck, cw, cz⟩
  · rw [e15, e37, AP_iff.mp b3 p' hp' x' y' hxy']
    have hi := hxy'.inj hxy
    by_cases z : p' = p
    · rw [if_pos z]
      by_cases w : x' = x
      · rw [if_pos w, if_pos (by have := hi.mp w; omega)]
      · rw [if_neg w, if_neg (fun q => w (hi.mpr (by omega)))]
    · rw [if_neg z, if_neg (by omega)]
  · have hh := cp j hj
    rw [e15, e15]
    constructor
    · by_cases z : 3 * j = 3 * y + p
      · rw [if_pos z]
        exact Or.inr (h0 (by omega))
      · rw [if_neg z]
        exact hh.1
    · by_cases z : 3 * j + 1 = 3 * y + p
      · rw [if_pos z]
        exact Or.inr (h1 (by omega))
      · rw [if_neg z]
        exact hh.2
theorem p92_0 (x1 x2 x3 x4 s0 : Int32) (rho : RH) : b9_policy_92 x1 x2 x3 x4 0 s0 rho = some (0, up2 rho 64 0 1) := by
  unfold b9_policy_92
  rw [go0, ob_s, if_pos rfl]
theorem p92_1 (x1 x2 x3 x4 : Int32) (rho : RH) : b9_policy_92 x1 x2 x3 x4 1 0 rho = some (0, up2 rho 64 0 2) := by
  unfold b9_policy_92
  rw [go10, ob_s, if_pos rfl]
theorem p61_0 (x1 x2 x3 x4 s0 s1 : Int32) (rho : RH) : b9_policy_61 x1 x2 x3 x4 0 s0 s1 rho = some (0, up2 rho 64 0 1) := by
  simp only [b9_policy_61, e9_in, ob_s, p92_0, ite_self]
theorem p41_0 (x1 x2 x3 x4 : Int32) (rho : RH) : b9_policy_41 x1 x2 x3 x4 0 rho = some (0, up2 rho 64 0 1) := by
  simp only [b9_policy_41, e9_in, ob_s, p92_0, p61_0, ite_self]
theorem p29_0 (x1 x2 x3 x4 : Int32) (rho : RH) : b9_policy_29 x1 x2 x3 x4 0 rho = some (0, up2 rho 64 0 1) := by
  simp only [b9_policy_29, p92_0, p41_0, ite_self]
theorem m1_lt {x : Int32} : x < -1 ↔ x < 0 ∧ x ≠ -1 := by
  have e1 : (-1 : Int32).toInt = -1 := by decide
  have e0 : (0 : Int32).toInt = 0 := by decide
  rw [Int32.lt_iff_toInt_lt, Int32.lt_iff_toInt_lt, e1, e0, ne_eq, ← Int32.toInt_inj, e1]
  omega
theorem e8_policy (x1 x2 x3 x4 : Int32) (m : CM) : f8_X8_policy 0 x1 x2 x3 x4 m = if (x1 < -1 ∨ 6 < x1) ∨ (x2 < -1 ∨ 5 < x2) then some (.inr 0, m, 1) else b8_X8_policy_24 0 x1 x2 x3 x4 1 m := by
  have e0 : b8_X8_policy_24 0 x1 x2 x3 x4 0 m = some (.inr 0, m, 1) := by
    unfold b8_X8_policy_24
    rw [if_pos rfl]
  unfold f8_X8_policy
  rw [e8_within, cb_s0]
  by_cases h1 : x1 < -1 ∨ 6 < x1
  · rw [if_pos h1, if_pos rfl, e0, if_pos (Or.inl h1)]
  · rw [if_neg h1, if_neg i10, e8_within, cb_s0]
    by_cases h2 : x2 < -1 ∨ 5 < x2
    · rw [if_pos h2, if_pos rfl, e0, if_pos (Or.inr h2)]
    · rw [if_neg h2, if_neg i10, if_neg (by rintro (z | z); exact h1 z; exact h2 z)]
theorem e9_policy (x1 x2 x3 x4 : Int32) (rho : RH) : f9_policy x1 x2 x3 x4 rho = if (x1 < -1 ∨ 6 < x1) ∨ (x2 < -1 ∨ 5 < x2) then some (0, up2 rho 64 0 1) else b9_policy_29 x1 x2 x3 x4 1 rho := by
  have e12 : b9_policy_12 x1 x2 x3 x4 rho = if x2 < -1 ∨ 5 < x2 then some (0, up2 rho 64 0 1) else b9_policy_29 x1 x2 x3 x4 1 rho := by
    unfold b9_policy_12
    by_cases h : x2 = -1
    · rw [if_pos h, if_neg (by rw [h]; decide)]
    · rw [if_neg h, e9_isService, ob_s]
      by_cases h2 : x2 < 0 ∨ 5 < x2
      · rw [if_pos h2, if_pos rfl, p29_0, if_pos (h2.imp (fun z => m1_lt.mpr ⟨z, h⟩) id)]
      · rw [if_neg h2, if_neg i10, if_neg (fun z => h2 (z.imp (fun y => (m1_lt.mp y).1) id))]
  unfold f9_policy
  by_cases h : x1 = -1
  · rw [if_pos h, e12]
    have : ¬ (x1 < -1 ∨ 6 < x1) := by rw [h]; decide
    by_cases h2 : x2 < -1 ∨ 5 < x2
    · rw [if_pos h2, if_pos (Or.inr h2)]
    · rw [if_neg h2, if_neg (by rintro (z | z); exact this z; exact h2 z)]
  · rw [if_neg h, e9_isCaller, ob_s]
    by_cases h2 : x1 < 0 ∨ 6 < x1
    · rw [if_pos h2, if_pos rfl, p29_0, if_pos (Or.inl (h2.imp (fun z => m1_lt.mpr ⟨z, h⟩) id))]
    · have h3 : ¬ (x1 < -1 ∨ 6 < x1) := fun z => h2 (z.imp (fun y => (m1_lt.mp y).1) id)
      rw [if_neg h2, if_neg i10, e12]
      by_cases h4 : x2 < -1 ∨ 5 < x2
      · rw [if_pos h4, if_pos (Or.inr h4)]
      · rw [if_neg h4, if_neg (by rintro (z | z); exact h3 z; exact h4 z)]
def lo9 (p : Nat) : Int32 := if p = 0 then 1 else 0
def hi9 (p : Nat) : Int32 := if p = 0 then 100 else if p = 1 then 3 else 50
theorem polV_lo {p : Nat} (hp : p < 3) : polV 1 p = lo9 p ∧ polV 2 p = hi9 p := by
  have : p = 0 ∨ p = 1 ∨ p = 2 := by omega
  rcases this with rfl | rfl | rfl <;> exact ⟨rfl, rfl⟩
theorem e9_41 (x1 x2 x4 : Int32) {p : Nat} (hp : p < 3) (rho : RH) : b9_policy_41 x1 x2 (nI p) x4 1 rho = if x4 < lo9 p ∨ hi9 p < x4 then some (0, up2 rho 64 0 2) else b9_policy_92 x1 x2 (nI p) x4 1 1 rho := by
  have hin : ¬ (nI p < 0 ∨ 2 < nI p) := by
    have : p = 0 ∨ p = 1 ∨ p = 2 := by omega
    rcases this with rfl | rfl | rfl <;> decide
  unfold b9_policy_41
  rw [e9_in, ob_s, if_neg hin, if_neg i10]
  have : p = 0 ∨ p = 1 ∨ p = 2 := by omega
  rcases this with rfl | rfl | rfl
  · rw [if_pos (by decide)]
    unfold b9_policy_61
    rw [if_pos (by decide), e9_in, ob_s]
    show (if (if x4 < 1 ∨ 100 < x4 then (0 : Int32) else 1) = 0 then _ else _) = if x4 < 1 ∨ 100 < x4 then _ else _
    by_cases z : x4 < 1 ∨ 100 < x4
    · rw [if_pos z, if_pos z, if_pos rfl, p92_1]
    · rw [if_neg z, if_neg z, if_neg i10]
  · rw [if_neg (by decide)]
    unfold b9_policy_61
    rw [if_neg (by decide), if_pos (by decide), e9_in, ob_s]
    show (if (if x4 < 0 ∨ 3 < x4 then (0 : Int32) else 1) = 0 then _ else _) = if x4 < 0 ∨ 3 < x4 then _ else _
    by_cases z : x4 < 0 ∨ 3 < x4
    · rw [if_pos z, if_pos z, if_pos rfl, p92_1]
    · rw [if_neg z, if_neg z, if_neg i10]
  · rw [if_neg (by decide)]
    unfold b9_policy_61
    rw [if_neg (by decide), if_neg (by decide), e9_in, ob_s]
    show (if (if x4 < 0 ∨ 50 < x4 then (0 : Int32) else 1) = 0 then _ else _) = if x4 < 0 ∨ 50 < x4 then _ else _
    by_cases z : x4 < 0 ∨ 50 < x4
    · rw [if_pos z, if_pos z, if_pos rfl, p92_1]
    · rw [if_neg z, if_neg z, if_neg i10]
/-- where a policy stands -/
theorem place_both' {x1 x2 : Int32} (h1 : ¬ (x1 < -1 ∨ 6 < x1)) (h2 : ¬ (x2 < -1 ∨ 5 < x2)) (h3 : x1 = -1 ∨ x2 ≠ -1) (m : CM) (rho : RH) : ∃ x y, Pl x y ∧ f8_X8_policyPlace x1 x2 m = some (nI x, m, 0) ∧ f9_policyPlace x1 x2 rho = some (nI y, rho) := by
  unfold f8_X8_policyPlace f9_policyPlace
  by_cases z2 : x2 = -1
  · have z1 : x1 = -1 := h3.resolve_right (fun y => y z2)
    exact ⟨0, 48, Or.inl ⟨rfl, rfl⟩, by rw [if_pos z2]; rfl, by rw [if_pos z1, if_pos z2]; rfl⟩
  · obtain ⟨s, hs, rfl⟩ := sv_x (x := x2) (fun z => h2 (z.imp (fun y => m1_lt.mpr ⟨y, z2⟩) id))
    by_cases z1 : x1 = -1
    · refine ⟨1 + s, 42 + s, Or.inr (Or.inl ⟨s, hs, rfl, rfl⟩), ?_, ?_⟩
      · rw [if_neg z2, if_pos z1, l1, nI_add]
      · rw [if_pos z1, if_neg z2, l42, nI_add]
    · obtain ⟨c, hc, rfl⟩ := ca_x (x := x1) (fun z => h1 (z.imp (fun y => m1_lt.mpr ⟨y, z1⟩) id))
      refine ⟨7 + c * 6 + s, 6 * c + s, Or.inr (Or.inr ⟨c, s, hc, hs, rfl, rfl⟩), ?_, ?_⟩
      · rw [if_neg z2, if_neg z1, l6, l7, pk_mul, nI_add, nI_add]
      · rw [if_neg z1, l6, pk_mul, nI_add]
theorem cmd4 : CMD4 INV pot := by
  intro m rho a1 a2 a3 a4 hI
  have ha := INVX.a09 hI
  rw [e8_policy, e9_policy]
  by_cases h12 : (a1 < -1 ∨ 6 < a1) ∨ (a2 < -1 ∨ 5 < a2)
  · rw [if_pos h12, if_pos h12]
    exact ⟨.inr 0, m, 1, 0, up2 rho 64 0 1, rfl, rfl, fun j hj => by cases hj; exact Or.inl rfl, Or.inr ⟨0, rfl, up2_s _ _ _ _, by decide⟩, th_X hI, by omega⟩
  · have bad : ∃ (r : Int32 ⊕ Nat) (m9 : CM) (n9 : Nat) (b : Int32) (rho9 : RH), (some (.inr 1, m, 1) : CR (Int32 ⊕ Nat)) = some (r, m9, n9) ∧ (some (0, up2 rho 64 0 2) : Option (Int32 × RH)) = some (b, rho9) ∧ (∀ j, r = .inr j → j = 0 ∨ j = 1) ∧ AG r (fun x => x.toInt64) (fun j => if j = 0 then 1 else 2) b.toInt64 (rho9 64 0) ∧ INV m9 rho9 ∧ n9 + pot m9 ≤ pot m + 2 := ⟨.inr 1, m, 1, 0, up2 rho 64 0 2, rfl, rfl, fun j hj => by cases hj; exact Or.inr rfl, Or.inr ⟨1, rfl, up2_s _ _ _ _, by decide⟩, th_X hI, by omega⟩
    have h1 : ¬ (a1 < -1 ∨ 6 < a1) := fun z => h12 (Or.inl z)
    have h2 : ¬ (a2 < -1 ∨ 5 < a2) := fun z => h12 (Or.inr z)
    rw [if_neg h12, if_neg h12]
    by_cases h3 : a1 = -1 ∨ a2 ≠ -1
    · have e24 : b8_X8_policy_24 0 a1 a2 a3 a4 1 m = b8_X8_policy_42 0 a1 a2 a3 a4 1 m := by
        unfold b8_X8_policy_24
        rw [if_neg i10]
        rcases h3 with z | z
        · rw [if_pos z]
        · rw [if_neg z, ite_self]
      have e29 : b9_policy_29 a1 a2 a3 a4 1 rho = b9_policy_41 a1 a2 a3 a4 1 rho := by
        unfold b9_policy_29
        rcases h3 with z | z
        · rw [if_pos z]
        · rw [if_neg z, ite_self]
      rw [e24, e29]
      unfold b8_X8_policy_42
      rw [if_neg i10, e8_within, cb_s0]
      by_cases h4 : a3 < 0 ∨ 2 < a3
      · have e41 : b9_policy_41 a1 a2 a3 a4 1 rho = some (0, up2 rho 64 0 2) := by
          unfold b9_policy_41
          rw [e9_in, ob_s, if_pos h4, if_pos rfl, p92_1]
        rw [if_pos h4, if_pos rfl, e41]
        exact bad
      · obtain ⟨p, hp2, rfl⟩ := w0_x (n := 2) (by omega) (fun z => h4 (z.imp id (fun y => by rw [l2]; exact y)))
        have hp : p < 3 := by omega
        have cp := nI_clamp (n := p) (by omega)
        rw [if_neg h4, if_neg i10, if_pos (vq_nI hp (by omega)), cp, (polV_lo hp).1, (polV_lo hp).2, e8_within, cb_s0, e9_41 _ _ _ hp]
        by_cases h5 : a4 < lo9 p ∨ hi9 p < a4
        · rw [if_pos h5, if_pos rfl, if_pos h5]
          exact bad
        · obtain ⟨x, y, hxy, k1, k2⟩ := place_both' h1 h2 h3 m (up2 rho 64 0 0)
          have hl := hxy.lt
          have e3 : (3 : Int32) * nI y + nI p = nI (3 * y + p) := by rw [l3, pk_mul, nI_add]
          rw [if_neg h5, if_neg i10, if_neg h5, k1, cb_s0, ha.1, od_s, ha.2.2.2.2.2.2.2.1 p hp, od_s, if_pos (vq_nI hl.1 (by omega)), nI_clamp (by omega), wr_s]
          unfold b9_policy_92
          rw [go1, ob_s, if_neg i10, k2, ob_s, e3, if_pos (vq_nI (by omega) (by omega)), nI_clamp (by omega), wr_s]
          refine ⟨.inl (gA m 37 p x), sA m 37 p x a4, 0, rho 15 (3 * y + p), up2 (up2 rho 64 0 0) 15 (3 * y + p) a4, rfl, rfl, fun j hj => (by cases hj), Or.inl ⟨_, rfl, rfl, congrArg Int32.toInt64 (AP_iff.mp (INVX.ap9 hI) p hp x y hxy)⟩, po_inv (th_X hI) hp hxy (fun z => ?_) (fun z => ?_), ?_⟩
          · subst z
            obtain ⟨u, -, hu, e⟩ := w1_x (a1 := a4) (n := 100) (by omega) (fun z => h5 (z.imp id (fun y => by rw [← l100] at y; exact y)))
            exact ⟨u, by omega, e⟩
          · subst z
            obtain ⟨u, hu, e⟩ := w0_x (a1 := a4) (n := 3) (by omega) (fun z => h5 (z.imp id (fun y => by rw [← l3] at y; exact y)))
            exact ⟨u, by omega, e⟩
          · show 0 + pot m ≤ _
            omega
    · have z1 : ¬ a1 = -1 := fun z => h3 (Or.inl z)
      have z2 : a2 = -1 := Classical.byContradiction fun z => h3 (Or.inr z)
      have e24 : b8_X8_policy_24 0 a1 a2 a3 a4 1 m = some (.inr 1, m, 1) := by
        unfold b8_X8_policy_24
        rw [if_neg i10, if_neg z1, if_pos z2]
        unfold b8_X8_policy_42
        rw [if_pos rfl]
      have e29 : b9_policy_29 a1 a2 a3 a4 1 rho = some (0, up2 rho 64 0 2) := by
        unfold b9_policy_29
        rw [if_neg z1, if_pos z2, p92_1]
      rw [e24, e29]
      exact bad
end QR
