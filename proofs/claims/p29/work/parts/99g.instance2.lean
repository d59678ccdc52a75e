/-! a new instance: the command -/
section QU
variable {m : CM} {rho : RH}
def inBad (x2 x3 x4 x5 x6 : Int32) : Prop := (x2 < 0 ∨ 2 < x2) ∨ (x3 < 1 ∨ 9 < x3) ∨ (x4 < 1 ∨ 9 < x4) ∨ (x5 < 0 ∨ 9 < x5) ∨ (x6 < 0 ∨ 1 < x6)
theorem e8_inst {x1 x2 x3 x4 x5 x6 : Int32} (m : CM) (h1 : ¬ (x1 < 0 ∨ 5 < x1)) : (inBad x2 x3 x4 x5 x6 → f8_X8_instance 0 x1 x2 x3 x4 x5 x6 m = some (.inr 1, m, 1)) ∧ (¬ inBad x2 x3 x4 x5 x6 → f8_X8_instance 0 x1 x2 x3 x4 x5 x6 m = b8_X8_instance_73 0 x1 x2 x3 x4 x5 x6 1 m) := by
  have e44 : b8_X8_instance_44 0 x1 x2 x3 x4 x5 x6 0 m = some (.inr 1, m, 1) := by
    unfold b8_X8_instance_44
    rw [if_pos rfl]
  have e73 : b8_X8_instance_73 0 x1 x2 x3 x4 x5 x6 0 m = some (.inr 1, m, 1) := by
    unfold b8_X8_instance_73
    rw [if_pos rfl]
  unfold f8_X8_instance
  rw [e8_within, cb_s0, if_neg h1, if_neg i10, e8_within, cb_s0]
  by_cases h2 : x2 < 0 ∨ 2 < x2
  · rw [if_pos h2, if_pos rfl, e44]
    exact ⟨fun _ => rfl, fun z => absurd (Or.inl h2) z⟩
  · rw [if_neg h2, if_neg i10, e8_within, cb_s0]
    by_cases h3 : x3 < 1 ∨ 9 < x3
    · rw [if_pos h3, if_pos rfl, e44]
      exact ⟨fun _ => rfl, fun z => absurd (Or.inr (Or.inl h3)) z⟩
    · rw [if_neg h3, if_neg i10, e8_within, cb_s0]
      by_cases h4 : x4 < 1 ∨ 9 < x4
      · rw [if_pos h4, if_pos rfl, e44]
        exact ⟨fun _ => rfl, fun z => absurd (Or.inr (Or.inr (Or.inl h4))) z⟩
      · rw [if_neg h4, if_neg i10]
        unfold b8_X8_instance_44
        rw [if_neg i10, e8_within, cb_s0]
        by_cases h5 : x5 < 0 ∨ 9 < x5
        · rw [if_pos h5, if_pos rfl, e73]
          exact ⟨fun _ => rfl, fun z => absurd (Or.inr (Or.inr (Or.inr (Or.inl h5)))) z⟩
        · rw [if_neg h5, if_neg i10, e8_within, cb_s0]
          by_cases h6 : x6 < 0 ∨ 1 < x6
          · rw [if_pos h6, if_pos rfl, e73]
            exact ⟨fun _ => rfl, fun z => absurd (Or.inr (Or.inr (Or.inr (Or.inr h6)))) z⟩
          · rw [if_neg h6, if_neg i10]
            refine ⟨fun z => ?_, fun _ => rfl⟩
            rcases z with z | z | z | z | z
            · exact absurd z h2
            · exact absurd z h3
            · exact absurd z h4
            · exact absurd z h5
            · exact absurd z h6
theorem e9_inst (x1 x2 x3 x4 x5 x6 : Int32) (rho : RH) : (inBad x2 x3 x4 x5 x6 → f9_instance x1 x2 x3 x4 x5 x6 rho = b9_instance_56 x1 x2 x3 x4 x5 x6 0 rho) ∧ (¬ inBad x2 x3 x4 x5 x6 → f9_instance x1 x2 x3 x4 x5 x6 rho = b9_instance_56 x1 x2 x3 x4 x5 x6 1 rho) := by
  unfold f9_instance
  rw [e9_in, ob_s]
  by_cases h2 : x2 < 0 ∨ 2 < x2
  · rw [if_pos h2, if_pos rfl]
    exact ⟨fun _ => rfl, fun z => absurd (Or.inl h2) z⟩
  · rw [if_neg h2, if_neg i10, e9_in, ob_s]
    by_cases h3 : x3 < 1 ∨ 9 < x3
    · rw [if_pos h3, if_pos rfl]
      exact ⟨fun _ => rfl, fun z => absurd (Or.inr (Or.inl h3)) z⟩
    · rw [if_neg h3, if_neg i10, e9_in, ob_s]
      by_cases h4 : x4 < 1 ∨ 9 < x4
      · rw [if_pos h4, if_pos rfl]
        exact ⟨fun _ => rfl, fun z => absurd (Or.inr (Or.inr (Or.inl h4))) z⟩
      · rw [if_neg h4, if_neg i10, e9_in, ob_s]
        by_cases h5 : x5 < 0 ∨ 9 < x5
        · rw [if_pos h5, if_pos rfl]
          exact ⟨fun _ => rfl, fun z => absurd (Or.inr (Or.inr (Or.inr (Or.inl h5)))) z⟩
        · rw [if_neg h5, if_neg i10, e9_in, ob_s]
          by_cases h6 : x6 < 0 ∨ 1 < x6
          · rw [if_pos h6, if_pos rfl]
            exact ⟨fun _ => rfl, fun z => absurd (Or.inr (Or.inr (Or.inr (Or.inr h6)))) z⟩
          · rw [if_neg h6, if_neg i10]
            refine ⟨fun z => ?_, fun _ => rfl⟩
            rcases z with z | z | z | z | z
            · exact absurd z h2
            · exact absurd z h3
            · exact absurd z h4
            · exact absurd z h5
            · exact absurd z h6
theorem j79_0 (x1 x2 x3 x4 x5 x6 s2 s3 : Int32) (rho : RH) : b9_instance_79 x1 x2 x3 x4 x5 x6 0 s2 s3 rho = some (0, up2 rho 64 0 1) := by
  unfold b9_instance_79
  rw [go0, ob_s, if_pos rfl]
theorem j79_1 (x1 x2 x3 x4 x5 x6 s3 : Int32) (rho : RH) : b9_instance_79 x1 x2 x3 x4 x5 x6 1 0 s3 rho = some (0, up2 rho 64 0 2) := by
  unfold b9_instance_79
  rw [go10, ob_s, if_pos rfl]
theorem j79_2 (x1 x2 x3 x4 x5 x6 : Int32) (rho : RH) : b9_instance_79 x1 x2 x3 x4 x5 x6 1 1 0 rho = some (0, up2 rho 64 0 3) := by
  unfold b9_instance_79
  rw [go11, ob_s, if_pos rfl]
theorem j79_3 (x1 x2 x3 x4 x5 x6 : Int32) (rho : RH) {I : Nat} (h6 : rho 6 0 = nI I) (hI : I < 12) : b9_instance_79 x1 x2 x3 x4 x5 x6 1 1 1 rho = some (nI I, inR (up2 rho 64 0 0) I x1 x2 x3 x4 x5 x6) := by
  have q := vq_nI (k := I) (n := 12) hI (by omega)
  have c := nI_clamp (n := I) (by omega)
  have f : ∀ (M : RH) (F : Nat) (v : Int32), F ≠ 6 → M 6 0 = nI I → up2 M F I v 6 0 = nI I := fun M F v z y => (up2_f _ _ _ _ (Ne.symm z)).trans y
  have g0 : up2 rho 64 0 0 6 0 = nI I := h6
  have g1 := f _ 7 x1 (by decide) g0
  have g2 := f _ 8 x2 (by decide) g1
  have g3 := f _ 9 x3 (by decide) g2
  have g4 := f _ 10 x4 (by decide) g3
  have g5 := f _ 11 x5 (by decide) g4
  have g6 := f _ 12 x6 (by decide) g5
  unfold b9_instance_79
  rw [go1, ob_s, if_neg i10, g0, if_pos q, wr_s, c, g1, if_pos q, wr_s, c, g2, if_pos q, wr_s, c, g3, if_pos q, wr_s, c, g4, if_pos q, wr_s, c, g5, if_pos q, wr_s, c, g6, wr_s, up2_s, nI_1, nI_pred]
  rfl
theorem cmd2 : CMD2 INV pot := by
  intro m rho a1 a2 a3 a4 a5 a6 hI
  have ha := INVX.a09 hI
  have hb := INVX.rb9 hI
  have hI0 := hb.I
  have bad0 : ∃ (r : Int32 ⊕ Nat) (m9 : CM) (n9 : Nat) (b : Int32) (rho9 : RH), (some (.inr 0, m, 1) : CR (Int32 ⊕ Nat)) = some (r, m9, n9) ∧ (some (0, up2 rho 64 0 1) : Option (Int32 × RH)) = some (b, rho9) ∧ (∀ j, r = .inr j → j = 0 ∨ j = 1 ∨ j = 2) ∧ AG r (fun x => x.toInt64) (fun j => if j = 0 then 1 else if j = 1 then 2 else 3) b.toInt64 (rho9 64 0) ∧ INV m9 rho9 ∧ n9 + pot m9 ≤ pot m + 2 := ⟨.inr 0, m, 1, 0, up2 rho 64 0 1, rfl, rfl, fun j hj => by cases hj; exact Or.inl rfl, Or.inr ⟨0, rfl, up2_s _ _ _ _, by decide⟩, th_X hI, by omega⟩
  have bad1 : ∃ (r : Int32 ⊕ Nat) (m9 : CM) (n9 : Nat) (b : Int32) (rho9 : RH), (some (.inr 1, m, 1) : CR (Int32 ⊕ Nat)) = some (r, m9, n9) ∧ (some (0, up2 rho 64 0 2) : Option (Int32 × RH)) = some (b, rho9) ∧ (∀ j, r = .inr j → j = 0 ∨ j = 1 ∨ j = 2) ∧ AG r (fun x => x.toInt64) (fun j => if j = 0 then 1 else if j = 1 then 2 else 3) b.toInt64 (rho9 64 0) ∧ INV m9 rho9 ∧ n9 + pot m9 ≤ pot m + 2 := ⟨.inr 1, m, 1, 0, up2 rho 64 0 2, rfl, rfl, fun j hj => by cases hj; exact Or.inr (Or.inl rfl), Or.inr ⟨1, rfl, up2_s _ _ _ _, by decide⟩, th_X hI, by omega⟩
  have bad2 : ∃ (r : Int32 ⊕ Nat) (m9 : CM) (n9 : Nat) (b : Int32) (rho9 : RH), (some (.inr 2, m, 1) : CR (Int32 ⊕ Nat)) = some (r, m9, n9) ∧ (some (0, up2 rho 64 0 3) : Option (Int32 × RH)) = some (b, rho9) ∧ (∀ j, r = .inr j → j = 0 ∨ j = 1 ∨ j = 2) ∧ AG r (fun x => x.toInt64) (fun j => if j = 0 then 1 else if j = 1 then 2 else 3) b.toInt64 (rho9 64 0) ∧ INV m9 rho9 ∧ n9 + pot m9 ≤ pot m + 2 := ⟨.inr 2, m, 1, 0, up2 rho 64 0 3, rfl, rfl, fun j hj => by cases hj; exact Or.inr (Or.inr rfl), Or.inr ⟨2, rfl, up2_s _ _ _ _, by decide⟩, th_X hI, by omega⟩
  by_cases h1 : a1 < 0 ∨ 5 < a1
  · have e8 : f8_X8_instance 0 a1 a2 a3 a4 a5 a6 m = some (.inr 0, m, 1) := by
      unfold f8_X8_instance
      rw [e8_within, cb_s0, if_pos h1, if_pos rfl]
    have e9 : f9_instance a1 a2 a3 a4 a5 a6 rho = some (0, up2 rho 64 0 1) := by
      have e56 : ∀ s0, b9_instance_56 a1 a2 a3 a4 a5 a6 s0 rho = some (0, up2 rho 64 0 1) := fun s0 => by
        unfold b9_instance_56
        rw [e9_isService, ob_s, if_pos h1, j79_0, j79_0, ite_self]
      by_cases z : inBad a2 a3 a4 a5 a6
      · rw [(e9_inst a1 a2 a3 a4 a5 a6 rho).1 z, e56]
      · rw [(e9_inst a1 a2 a3 a4 a5 a6 rho).2 z, e56]
    rw [e8, e9]
    exact bad0
  · by_cases z : inBad a2 a3 a4 a5 a6
    · have e9 : b9_instance_56 a1 a2 a3 a4 a5 a6 0 rho = some (0, up2 rho 64 0 2) := by
        unfold b9_instance_56
        rw [e9_isService, ob_s, if_neg h1, j79_1, j79_1, ite_self]
      rw [(e8_inst m h1).1 z, (e9_inst a1 a2 a3 a4 a5 a6 rho).1 z, e9]
      exact bad1
    · rw [(e8_inst m h1).2 z, (e9_inst a1 a2 a3 a4 a5 a6 rho).2 z]
      unfold b8_X8_instance_73 b9_instance_56
      rw [if_neg i10, ha.2.2.2.1, od_s, INV.len50 hI, e9_isService, ob_s, if_neg h1, hI0.1]
      have e93 : b8_X8_instance_93 0 a1 a2 a3 a4 a5 a6 0 m = some (.inr 2, m, 1) := by
        unfold b8_X8_instance_93
        rw [if_pos rfl]
      by_cases z12 : (12 : Int32) ≤ nI (iI rho)
      · rw [if_pos z12, if_pos z12, e93, j79_2]
        exact bad2
      · have hlt : iI rho < 12 := Nat.lt_of_not_le (fun y => z12 (by rw [l12]; exact nI_le y (by omega)))
        rw [if_neg z12, if_neg z12, j79_3 a1 a2 a3 a4 a5 a6 rho hI0.1 hlt]
        obtain ⟨s, hs, e1⟩ := sv_x h1
        obtain ⟨u2, hu2, e2⟩ := w0_x (a1 := a2) (n := 2) (by omega) (fun y => z (Or.inl (y.imp id (fun y => by rw [l2]; exact y))))
        obtain ⟨u3, hu3, hu3', e3⟩ := w1_x (a1 := a3) (n := 9) (by omega) (fun y => z (Or.inr (Or.inl (y.imp id (fun y => by rw [l9]; exact y)))))
        obtain ⟨u4, hu4, hu4', e4⟩ := w1_x (a1 := a4) (n := 9) (by omega) (fun y => z (Or.inr (Or.inr (Or.inl (y.imp id (fun y => by rw [l9]; exact y))))))
        obtain ⟨u5, hu5, e5⟩ := w0_x (a1 := a5) (n := 9) (by omega) (fun y => z (Or.inr (Or.inr (Or.inr (Or.inl (y.imp id (fun y => by rw [l9]; exact y)))))))
        obtain ⟨u6, hu6, e6⟩ := w0_x (a1 := a6) (n := 1) (by omega) (fun y => z (Or.inr (Or.inr (Or.inr (Or.inr (y.imp id (fun y => by rw [l1]; exact y)))))))
        obtain ⟨M, k1, k2, k3⟩ := in_both (rho := up2 rho 64 0 0) (x1 := a1) (x2 := a2) (x3 := a3) (x4 := a4) (x5 := a5) (x6 := a6) (th_X hI) hlt ⟨s, hs, e1⟩ ⟨u2, by omega, e2⟩ ⟨⟨u3, by omega, e3⟩, by rw [e3]; exact nI_ne0 (by omega) (by omega)⟩ ⟨u4, by omega, e4⟩ ⟨u5, by omega, e5⟩ ⟨u6, by omega, e6⟩
        exact ⟨.inl (nI (iI rho)), M, 13, nI (iI rho), _, k1, rfl, fun j hj => (by cases hj), Or.inl ⟨_, rfl, rfl, rfl⟩, k2, by omega⟩
end QU
