/-! evaluation of the small functions; the reference's fields that the relation does not see -/
section PQ
theorem cb_s0 {α β : Type} (a : α) (m : CM) (k : α → CM → CR β) : cb (some (a, m, 0)) k = k a m := cb_0 rfl
theorem ob_s {α β : Type} (a : Int32) (m : α) (k : Int32 → α → Option β) : ob (some (a, m)) k = k a m := rfl
theorem wr_s {α β : Type} (m : α) (k : α → β) : wr m k = k m := rfl
theorem e8_within (x a b : Int32) (m : CM) : f8_X8_isWithin x a b m = some (if x < a ∨ b < x then 0 else 1, m, 0) := by
  unfold f8_X8_isWithin
  by_cases h1 : x < a
  · rw [if_pos h1, if_pos (Or.inl h1)]
  · by_cases h2 : b < x
    · rw [if_neg h1, if_pos h2, if_pos (Or.inr h2)]
    · rw [if_neg h1, if_neg h2, if_neg (fun h => h.elim h1 h2)]
theorem e9_in (x a b : Int32) (rho : RH) : f9_in x a b rho = some (if x < a ∨ b < x then 0 else 1, rho) := by
  unfold f9_in
  by_cases h1 : x < a
  · rw [if_pos h1, if_pos (Or.inl h1)]
  · by_cases h2 : b < x
    · rw [if_neg h1, if_pos h2, if_pos (Or.inr h2)]
    · rw [if_neg h1, if_neg h2, if_neg (fun h => h.elim h1 h2)]
theorem ite01 (c : Prop) [Decidable c] : (if c then (0 : Int32) else 1) = 0 ∨ (if c then (0 : Int32) else 1) = 1 := by
  by_cases h : c
  · rw [if_pos h]; exact Or.inl rfl
  · rw [if_neg h]; exact Or.inr rfl
theorem e9_isService (x : Int32) (rho : RH) : f9_isService x rho = some (if x < 0 ∨ 5 < x then 0 else 1, rho) := by
  unfold f9_isService
  rw [e9_in, ob_s, if_pos (ite01 _)]
theorem e9_isCaller (x : Int32) (rho : RH) : f9_isCaller x rho = some (if x < 0 ∨ 6 < x then 0 else 1, rho) := by
  unfold f9_isCaller
  rw [e9_in, ob_s, if_pos (ite01 _)]
theorem e9_isInstance (x : Int32) (rho : RH) : f9_isInstance x rho = some (if x < 0 ∨ rho 6 0 - 1 < x then 0 else 1, rho) := by
  unfold f9_isInstance
  rw [e9_in, ob_s, if_pos (ite01 _)]
theorem e9_isRequest (x : Int32) (rho : RH) : f9_isRequest x rho = some (if x < 0 ∨ rho 51 0 - 1 < x then 0 else 1, rho) := by
  unfold f9_isRequest
  rw [e9_in, ob_s, if_pos (ite01 _)]
theorem e9_goes (a b c : Int32) (rho : RH) : f9_goes a b c rho = some (if a = 0 ∨ b = 0 ∨ c = 0 then 0 else 1, up2 rho 64 0 (if a = 0 then 1 else if b = 0 then 2 else if c = 0 then 3 else 0)) := by
  unfold f9_goes
  by_cases h1 : a = 0
  · simp [h1, wr_s, up2_s]
  · by_cases h2 : b = 0
    · simp [h1, h2, wr_s, up2_s]
    · by_cases h3 : c = 0
      · simp [h1, h2, h3, wr_s, up2_s]
      · simp [h1, h2, h3, wr_s, up2_s]
theorem ix_last {x : Int32} {v : Int32} {n : Nat} (hv : Ix v n) (hn : n ≤ 1000000) (h0 : ¬ x < 0) (h1 : ¬ v - 1 < x) : ∃ j, j < nv v ∧ x = nI j := by
  have hl := hv.lt hn
  rw [hv.eq hn] at h1
  by_cases hz : nv v = 0
  · exfalso
    rw [hz] at h1
    apply h1
    rw [Int32.lt_iff_toInt_lt, show (nI 0 - 1 : Int32).toInt = -1 by decide]
    rw [Int32.lt_iff_toInt_lt, Int32.toInt_zero] at h0
    omega
  · obtain ⟨q, hq⟩ : ∃ q, nv v = q + 1 := ⟨nv v - 1, by omega⟩
    rw [hq, nI_pred] at h1
    obtain ⟨j, h2, h3⟩ := ix_cases (n := q) (by omega) h0 h1
    exact ⟨j, by omega, h3⟩
theorem th_X {X Y : Nat → Prop} {m : CM} {rho : RH} {v : Int32} (h : INVX X Y m rho) : INVX X Y m (up2 rho 64 0 v) := by
  exact h
theorem th_45 {X Y : Nat → Prop} {m : CM} {rho : RH} {j : Nat} {v : Int32} (h : INVX X Y m rho) : INVX X Y m (up2 rho 45 j v) := by
  exact h
theorem th_44 {X Y : Nat → Prop} {m : CM} {rho : RH} {j : Nat} {v : Int32} (h : INVX X Y m rho) : INVX X Y m (up2 rho 44 j v) := by
  exact h
theorem cmd0 : CMD0 INV pot := by
  intro m rho a1 a2 hI
  by_cases h1 : a1 < 0 ∨ 5 < a1
  · refine ⟨.inr 0, m, 1, 0, up2 rho 64 0 1, ?_, ?_, fun j hj => ?_, Or.inr ⟨0, rfl, up2_s _ _ _ _, by decide⟩, th_X hI, by omega⟩
    · simp [f8_X8_work, e8_within, cb_s0, if_pos h1]
    · simp [f9_work, e9_isService, e9_in, e9_goes, ob_s, if_pos h1]
    · cases hj; exact Or.inl rfl
  · by_cases h2 : a2 < 0 ∨ 50 < a2
    · refine ⟨.inr 1, m, 1, 0, up2 rho 64 0 2, ?_, ?_, fun j hj => ?_, Or.inr ⟨1, rfl, up2_s _ _ _ _, by decide⟩, th_X hI, by omega⟩
      · simp [f8_X8_work, e8_within, cb_s0, if_neg h1, if_pos h2]
      · simp [f9_work, e9_isService, e9_in, e9_goes, ob_s, if_neg h1, if_pos h2]
      · cases hj; exact Or.inr rfl
    · obtain ⟨s, hs, rfl⟩ := ix_cases (x := a1) (n := 5) (by omega) (fun z => h1 (Or.inl z)) (fun z => h1 (Or.inr z))
      obtain ⟨b1, b2, b3, b4, b5, b6, b7, b8, b9, b10, b11, b12, b13, b14, b15, b16, b17⟩ := hI
      have hc := nI_clamp (n := s) (by omega)
      have hq := vq_nI (k := s) (n := 6) hs (by omega)
      have h8 := (b1.2.2.2.2.2.2.2.2.2 s hs).1
      refine ⟨.inl (gI m 768 s), sI m 768 s a2, 0, rho 1 s, up2 (up2 rho 64 0 0) 1 s a2, ?_, ?_, fun j hj => ?_, Or.inl ⟨_, rfl, ?_, ?_⟩, ⟨b1, b2, b3, fun s' hs' => ?_, b5, b6, b7, b8, b9, b10, b11, b12, b13, b14, b15, b16, b17⟩, ?_⟩
      · simp only [f8_X8_work, e8_within, cb_s0, if_neg h1, if_neg h2, b1.2.1, od_s, if_pos hq, hc, h8, wr_s]
        rfl
      · simp only [f9_work, e9_isService, e9_in, e9_goes, ob_s, if_neg h1, if_neg h2, if_pos hq, hc, wr_s]
        rfl
      · cases hj
      · rfl
      · show (gI m 768 s).toInt64 = _
        rw [(b4 s hs).1]
      · have hh := b4 s' hs'
        refine ⟨?_, hh.2⟩
        show (if (768 : Nat) = 768 then (if s' = s then a2 else gI m 768 s') else gI m 768 s') = (if (1 : Nat) = 1 then (if s' = s then a2 else rho 1 s') else rho 1 s')
        rw [if_pos rfl, if_pos rfl, hh.1]
      · show 0 + pot m ≤ _
        omega
end PQ
