/-! what is asked -/
section QM
variable {m : CM} {rho : RH}
theorem go0 (b c : Int32) (rho : RH) : f9_goes 0 b c rho = some (0, up2 rho 64 0 1) := by
  rw [e9_goes, if_pos (Or.inl rfl), if_pos rfl]
theorem go1 (rho : RH) : f9_goes 1 1 1 rho = some (1, up2 rho 64 0 0) := by
  rw [e9_goes, if_neg (by decide), if_neg (by decide), if_neg (by decide), if_neg (by decide)]
theorem go10 (c : Int32) (rho : RH) : f9_goes 1 0 c rho = some (0, up2 rho 64 0 2) := by
  rw [e9_goes, if_pos (Or.inr (Or.inl rfl)), if_neg (by decide), if_pos rfl]
theorem i10 : ¬ (1 : Int32) = 0 := by decide
theorem rq_x (hb : RB rho) {x : Int32} (h : ¬ (x < 0 ∨ nI (iR rho) - 1 < x)) : ∃ r, r < iR rho ∧ x = nI r := ix_last hb.r09.2.2.2.1 (by omega) (fun z => h (Or.inl z)) (fun z => h (Or.inr (by rw [← hb.R.1]; exact z)))
theorem in_x (hb : RB rho) {x : Int32} (h : ¬ (x < 0 ∨ nI (iI rho) - 1 < x)) : ∃ r, r < iI rho ∧ x = nI r := ix_last hb.r09.2.1 (by omega) (fun z => h (Or.inl z)) (fun z => h (Or.inr (by rw [← hb.I.1]; exact z)))
theorem cl_x (hb : RB rho) {x : Int32} (h : ¬ (x < 0 ∨ nI (iC rho) - 1 < x)) : ∃ r, r < iC rho ∧ x = nI r := ix_last hb.r09.2.2.1 (by omega) (fun z => h (Or.inl z)) (fun z => h (Or.inr (by rw [← hb.C.1]; exact z)))
theorem sv_x {x : Int32} (h : ¬ (x < 0 ∨ 5 < x)) : ∃ r, r < 6 ∧ x = nI r := ix_cases (n := 5) (by omega) (fun z => h (Or.inl z)) (fun z => h (Or.inr (by rw [l5]; exact z)))
theorem ca_x {x : Int32} (h : ¬ (x < 0 ∨ 6 < x)) : ∃ r, r < 7 ∧ x = nI r := ix_cases (n := 6) (by omega) (fun z => h (Or.inl z)) (fun z => h (Or.inr (by rw [l6]; exact z)))
theorem INV.len51 (h : INV m rho) : nI (gL m 51 0).length = nI (iR rho) := by rw [(INVX.al9 h).2.1, List.length_range]
theorem INV.len50 (h : INV m rho) : nI (gL m 50 0).length = nI (iI rho) := by rw [(INVX.al9 h).1, List.length_range]
theorem INV.len52 (h : INV m rho) : nI (gL m 52 0).length = nI (iC rho) := by rw [(INVX.al9 h).2.2.1, List.length_range]
theorem INV.at51 (h : INV m rho) {r : Nat} (hr : r < iR rho) : (gL m 51 0)[r]? = some r := by rw [(INVX.al9 h).2.1]; exact rg_lt hr
theorem INV.at50 (h : INV m rho) {r : Nat} (hr : r < iI rho) : (gL m 50 0)[r]? = some r := by rw [(INVX.al9 h).1]; exact rg_lt hr
theorem INV.at52 (h : INV m rho) {r : Nat} (hr : r < iC rho) : (gL m 52 0)[r]? = some r := by rw [(INVX.al9 h).2.2.1]; exact rg_lt hr
theorem cmd11 : CMD11 INV pot := by
  intro m rho hI
  exact ⟨gI m 1024 0, m, 0, rho 0 0, up2 rho 64 0 0, rfl, rfl, INVX.now hI, th_X hI, by omega⟩
theorem cmd16 : CMD16 INV pot := by
  intro m rho hI
  have ha := INVX.a09 hI
  refine ⟨nI (gL m 52 0).length, m, 0, rho 31 0, up2 rho 64 0 0, ?_, rfl, ?_, th_X hI, by omega⟩
  · unfold f8_X8_calls
    rw [ha.2.2.2.2.2.1, od_s]
  · rw [INV.len52 hI, (INVX.rb9 hI).C.1]
theorem cmd18 : CMD18 INV pot := by
  intro m rho a1 hI
  have ha := INVX.a09 hI
  by_cases h1 : a1 < 0 ∨ 6 < a1
  · refine ⟨.inr 0, m, 1, 0, up2 rho 64 0 1, ?_, ?_, fun j hj => by cases hj; rfl, Or.inr ⟨0, rfl, up2_s _ _ _ _, by decide⟩, th_X hI, by omega⟩
    · unfold f8_X8_budget
      rw [e8_within, cb_s0, if_pos h1, if_pos rfl]
    · unfold f9_budget
      rw [e9_isCaller, ob_s, if_pos h1, go0, ob_s, if_pos rfl]
  · obtain ⟨c, hc, rfl⟩ := ca_x h1
    refine ⟨.inl (gI m 256 c), m, 0, rho 17 c, up2 rho 64 0 0, ?_, ?_, fun j hj => (by cases hj), Or.inl ⟨_, rfl, up2_s _ _ _ _, ?_⟩, th_X hI, by omega⟩
    · unfold f8_X8_budget
      rw [e8_within, cb_s0, if_neg h1, if_neg i10, ha.2.2.1, od_s, if_pos (vq_nI hc (by omega)), nI_clamp (by omega), ha.2.2.2.2.2.2.2.2.1 c hc, od_s]
    · unfold f9_budget
      rw [e9_isCaller, ob_s, if_neg h1, go1, ob_s, if_neg i10, if_pos (vq_nI hc (by omega)), nI_clamp (by omega)]
      rfl
    · exact congrArg Int32.toInt64 (((INVX.ac9 hI) c hc).1)
theorem cmd24 : CMD24 INV pot := by
  intro m rho a1 hI
  have ha := INVX.a09 hI
  by_cases h1 : a1 < 0 ∨ 6 < a1
  · refine ⟨.inr 0, m, 1, 0, up2 rho 64 0 1, ?_, ?_, fun j hj => by cases hj; rfl, Or.inr ⟨0, rfl, up2_s _ _ _ _, by decide⟩, th_X hI, by omega⟩
    · unfold f8_X8_extra
      rw [e8_within, cb_s0, if_pos h1, if_pos rfl]
    · unfold f9_extra
      rw [e9_isCaller, ob_s, if_pos h1, go0, ob_s, if_pos rfl]
  · obtain ⟨c, hc, rfl⟩ := ca_x h1
    refine ⟨.inl (gI m 259 c), m, 0, rho 19 c, up2 rho 64 0 0, ?_, ?_, fun j hj => (by cases hj), Or.inl ⟨_, rfl, up2_s _ _ _ _, ?_⟩, th_X hI, by omega⟩
    · unfold f8_X8_extra
      rw [e8_within, cb_s0, if_neg h1, if_neg i10, ha.2.2.1, od_s, if_pos (vq_nI hc (by omega)), nI_clamp (by omega), ha.2.2.2.2.2.2.2.2.1 c hc, od_s]
    · unfold f9_extra
      rw [e9_isCaller, ob_s, if_neg h1, go1, ob_s, if_neg i10, if_pos (vq_nI hc (by omega)), nI_clamp (by omega)]
      rfl
    · exact congrArg Int32.toInt64 (((INVX.ac9 hI) c hc).2.2.2)
theorem cmd25 : CMD25 INV pot := by
  intro m rho a1 hI
  have ha := INVX.a09 hI
  by_cases h1 : a1 < 0 ∨ 6 < a1
  · refine ⟨.inr 0, m, 1, 0, up2 rho 64 0 1, ?_, ?_, fun j hj => by cases hj; rfl, Or.inr ⟨0, rfl, up2_s _ _ _ _, by decide⟩, th_X hI, by omega⟩
    · unfold f8_X8_first
      rw [e8_within, cb_s0, if_pos h1, if_pos rfl]
    · unfold f9_first
      rw [e9_isCaller, ob_s, if_pos h1, go0, ob_s, if_pos rfl]
  · obtain ⟨c, hc, rfl⟩ := ca_x h1
    refine ⟨.inl (gI m 258 c), m, 0, rho 18 c, up2 rho 64 0 0, ?_, ?_, fun j hj => (by cases hj), Or.inl ⟨_, rfl, up2_s _ _ _ _, ?_⟩, th_X hI, by omega⟩
    · unfold f8_X8_first
      rw [e8_within, cb_s0, if_neg h1, if_neg i10, ha.2.2.1, od_s, if_pos (vq_nI hc (by omega)), nI_clamp (by omega), ha.2.2.2.2.2.2.2.2.1 c hc, od_s]
    · unfold f9_first
      rw [e9_isCaller, ob_s, if_neg h1, go1, ob_s, if_neg i10, if_pos (vq_nI hc (by omega)), nI_clamp (by omega)]
      rfl
    · exact congrArg Int32.toInt64 (((INVX.ac9 hI) c hc).2.2.1)
theorem cmd22 : CMD22 INV pot := by
  intro m rho a1 hI
  have ha := INVX.a09 hI
  by_cases h1 : a1 < 0 ∨ 5 < a1
  · refine ⟨.inr 0, m, 1, 0, up2 rho 64 0 1, ?_, ?_, fun j hj => by cases hj; rfl, Or.inr ⟨0, rfl, up2_s _ _ _ _, by decide⟩, th_X hI, by omega⟩
    · unfold f8_X8_canaryShare
      rw [e8_within, cb_s0, if_pos h1, if_pos rfl]
    · unfold f9_canaryShare
      rw [e9_isService, ob_s, if_pos h1, go0, ob_s, if_pos rfl]
  · obtain ⟨c, hc, rfl⟩ := sv_x h1
    have hz := ha.2.2.2.2.2.2.2.2.2 c hc
    refine ⟨.inl (gI m 384 c), m, 0, rho 25 c, up2 rho 64 0 0, ?_, ?_, fun j hj => (by cases hj), Or.inl ⟨_, rfl, up2_s _ _ _ _, ?_⟩, th_X hI, by omega⟩
    · unfold f8_X8_canaryShare
      rw [e8_within, cb_s0, if_neg h1, if_neg i10, ha.2.1, od_s, if_pos (vq_nI hc (by omega)), nI_clamp (by omega), hz.1, od_s, hz.2.2.2.2.1, od_s]
    · unfold f9_canaryShare
      rw [e9_isService, ob_s, if_neg h1, go1, ob_s, if_neg i10, if_pos (vq_nI hc (by omega)), nI_clamp (by omega)]
      rfl
    · exact congrArg Int32.toInt64 (((INVX.as9 hI) c hc).2.2.1)
theorem cmd12 : CMD12 INV pot := by
  intro m rho a1 hI
  have ha := INVX.a09 hI
  have hb := INVX.rb9 hI
  have hR := hb.R
  by_cases h1 : a1 < 0 ∨ nI (iR rho) - 1 < a1
  · refine ⟨.inr 0, m, 1, 0, up2 rho 64 0 1, ?_, ?_, fun j hj => by cases hj; rfl, Or.inr ⟨0, rfl, up2_s _ _ _ _, by decide⟩, th_X hI, by omega⟩
    · unfold f8_X8_requestState
      rw [ha.2.2.2.2.1, od_s, INV.len51 hI, e8_within, cb_s0, if_pos h1, if_pos rfl]
    · unfold f9_requestState
      rw [e9_isRequest, ob_s, hR.1, if_pos h1, go0, ob_s, if_pos rfl]
  · obtain ⟨r, hr, rfl⟩ := rq_x hb h1
    have har := INVX.ar9 hI r hr
    have q := vq_nI (k := r) (n := 40) (by omega) (by omega)
    have c := nI_clamp (n := r) (by omega)
    refine ⟨.inl (gI m 642 r), m, 0, rho 56 r, up2 rho 64 0 0, ?_, ?_, fun j hj => (by cases hj), Or.inl ⟨_, rfl, up2_s _ _ _ _, ?_⟩, th_X hI, by omega⟩
    · unfold f8_X8_requestState
      rw [ha.2.2.2.2.1, od_s, INV.len51 hI, e8_within, cb_s0, if_neg h1, if_neg i10, ha.2.2.2.2.1, od_s, if_pos (nI_pos (by omega)), c, INV.at51 hI hr, od_s]
    · unfold f9_requestState
      rw [e9_isRequest, ob_s, hR.1, if_neg h1, go1, ob_s, if_neg i10, if_pos q, c]
      rfl
    · exact congrArg Int32.toInt64 har.2.2.1
theorem cmd13 : CMD13 INV pot := by
  intro m rho a1 hI
  have ha := INVX.a09 hI
  have hb := INVX.rb9 hI
  have hR := hb.R
  by_cases h1 : a1 < 0 ∨ nI (iR rho) - 1 < a1
  · refine ⟨.inr 0, m, 1, 0, up2 rho 64 0 1, ?_, ?_, fun j hj => by cases hj; rfl, Or.inr ⟨0, rfl, up2_s _ _ _ _, by decide⟩, th_X hI, by omega⟩
    · unfold f8_X8_requestTicks
      rw [ha.2.2.2.2.1, od_s, INV.len51 hI, e8_within, cb_s0, if_pos h1, if_pos rfl]
    · unfold f9_requestTicks
      rw [e9_isRequest, ob_s, hR.1, if_pos h1, go0, ob_s, if_pos rfl]
  · obtain ⟨r, hr, rfl⟩ := rq_x hb h1
    have har := INVX.ar9 hI r hr
    have q := vq_nI (k := r) (n := 40) (by omega) (by omega)
    have c := nI_clamp (n := r) (by omega)
    refine ⟨.inl (if rho 56 r = 8 then rho 0 0 - rho 55 r else rho 57 r - rho 55 r), m, 0, if rho 56 r = 8 then rho 0 0 - rho 55 r else rho 57 r - rho 55 r, up2 rho 64 0 0, ?_, ?_, fun j hj => (by cases hj), Or.inl ⟨_, rfl, up2_s _ _ _ _, ?_⟩, th_X hI, by omega⟩
    · unfold f8_X8_requestTicks
      rw [ha.2.2.2.2.1, od_s, INV.len51 hI, e8_within, cb_s0, if_neg h1, if_neg i10, ha.2.2.2.2.1, od_s, if_pos (nI_pos (by omega)), c, INV.at51 hI hr, od_s, har.2.2.1, har.2.1, INVX.now hI]
      by_cases z : rho 56 r = 8
      · rw [if_pos z, if_pos z]
      · rw [if_neg z, if_neg z, (har.2.2.2 z).1]
    · unfold f9_requestTicks
      rw [e9_isRequest, ob_s, hR.1, if_neg h1, go1, ob_s, if_neg i10, if_pos q, c]
      show (if rho 56 r = 8 then some (rho 0 0 - rho 55 r, up2 rho 64 0 0) else some (rho 57 r - rho 55 r, up2 rho 64 0 0)) = _
      split <;> rfl
    · rfl
theorem cmd14 : CMD14 INV pot := by
  intro m rho a1 hI
  have ha := INVX.a09 hI
  have hb := INVX.rb9 hI
  have hR := hb.R
  by_cases h1 : a1 < 0 ∨ nI (iR rho) - 1 < a1
  · refine ⟨.inr 0, m, 1, 0, up2 rho 64 0 1, ?_, ?_, fun j hj => by cases hj; rfl, Or.inr ⟨0, rfl, up2_s _ _ _ _, by decide⟩, th_X hI, by omega⟩
    · unfold f8_X8_isKept
      rw [ha.2.2.2.2.1, od_s, INV.len51 hI, e8_within, cb_s0, if_pos h1, if_pos rfl]
    · unfold f9_isKept
      rw [e9_isRequest, ob_s, hR.1, if_pos h1, go0, ob_s, if_pos rfl]
  · obtain ⟨r, hr, rfl⟩ := rq_x hb h1
    have har := INVX.ar9 hI r hr
    have q := vq_nI (k := r) (n := 40) (by omega) (by omega)
    have c := nI_clamp (n := r) (by omega)
    have hne : ¬ rho 29 0 = 0 := by
      have h0 := hb.r09
      rw [h0.2.2.2.2.2.2.1.eq (by omega)]
      have h29 := h0.2.2.2.2.2.2.1.lt (by omega)
      have h29' := h0.2.2.2.2.2.2.2.1
      exact nI_ne0 (by omega) (by omega)
    refine ⟨.inl (if rho 56 r = 8 then (if (nI r - nI r / rho 29 0 * rho 29 0) = 0 then 1 else 0) else rho 58 r), m, 0, if rho 56 r = 8 then (if (nI r - nI r / rho 29 0 * rho 29 0) = 0 then 1 else 0) else (if rho 58 r = 0 then 0 else 1), up2 rho 64 0 0, ?_, ?_, fun j hj => (by cases hj), Or.inl ⟨_, rfl, up2_s _ _ _ _, ?_⟩, th_X hI, by omega⟩
    · unfold f8_X8_isKept
      rw [ha.2.2.2.2.1, od_s, INV.len51 hI, e8_within, cb_s0, if_neg h1, if_neg i10, ha.2.2.2.2.1, od_s, if_pos (nI_pos (by omega)), c, INV.at51 hI hr, od_s, har.2.2.1]
      by_cases z : rho 56 r = 8
      · rw [if_pos z, if_pos z, e8_kept hI hr rfl rfl rfl, cb_s0, if_pos (by split; exact Or.inr rfl; exact Or.inl rfl)]
      · rw [if_neg z, if_neg z, (har.2.2.2 z).2.1, if_pos (har.2.2.2 z).2.2]
    · unfold f9_isKept
      rw [e9_isRequest, ob_s, hR.1, if_neg h1, go1, ob_s, if_neg i10, if_pos q, c]
      show (if rho 56 r = 8 then (if ¬ rho 29 0 = 0 then (if (nI r - nI r / rho 29 0 * rho 29 0) = 0 then some (1, up2 rho 64 0 0) else some (0, up2 rho 64 0 0)) else none) else (if rho 58 r = 0 then some (0, up2 rho 64 0 0) else some (1, up2 rho 64 0 0))) = _
      rw [if_pos hne]
      split
      · split <;> rfl
      · split <;> rfl
    · by_cases z : rho 56 r = 8
      · rw [if_pos z, if_pos z]
      · rw [if_neg z, if_neg z]
        rcases (har.2.2.2 z).2.2 with y | y
        · rw [y]
          rfl
        · rw [y]
          rfl
theorem cmd23 : CMD23 INV pot := by
  intro m rho a1 hI ha1
  have ha := INVX.a09 hI
  have hb := INVX.rb9 hI
  have hP := hb.P
  have hF : FU = 1000 := rfl
  have e53 := (INVX.al9 hI).2.2.2
  by_cases h1 : a1 = 0
  · refine ⟨nI (gL m 53 0).length, m, 0, rho 59 0, up2 rho 64 0 0, ?_, ?_, ?_, th_X hI, by omega⟩
    · unfold f8_X8_repairs
      rw [if_pos h1, ha.2.2.2.2.2.2.1, od_s]
    · unfold f9_repairs
      rw [wr_s, if_pos h1]
      rfl
    · rw [e53, List.length_map, List.length_range, hP.1]
  · refine ⟨rho 60 0, m, 0, rho 60 0, up2 rho 64 0 0, ?_, ?_, rfl, th_X hI, by omega⟩
    · unfold f8_X8_repairs
      rw [if_neg h1]
      have := cntL (F := fun q b j => l8_X8_repairs_16 q 0 b j m) (fin := fun b => some (b, m, 0)) (xs := List.range (iP rho)) (p := fun p => decide (rho 63 p ≠ 0)) (fun q j x b hx => by
        obtain ⟨hj, rfl⟩ := rg_at hx
        have hok : OE rho (440 + x) := Or.inr (Or.inr ⟨by omega, by omega⟩)
        have hsc := (hb.sce hok).2.2 (by omega)
        have hax := ((INVX.ax9 hI).1 (440 + x) 0 hok (by omega)).2 hsc.symm (fun z => z)
        show l8_X8_repairs_16 (q + 1) 0 b (nI x) m = l8_X8_repairs_16 q 0 (if decide (rho 63 x ≠ 0) = true then b + 1 else b) (nI (x + 1)) m
        rw [l8_X8_repairs_16, ha.2.2.2.2.2.2.1, od_s, e53, List.length_map, List.length_range, if_neg (cle (by omega) hj), if_pos (nI_pos (by omega)), nI_clamp (by omega), List.getElem?_map, rg_lt hj, Option.map_some, od_s, nI_1]
        by_cases z : rho 63 x = 0
        · have hgo : Go rho (440 + x) := by
            unfold Go goB
            rw [if_neg (by omega), if_neg (by omega), show 440 + x - 440 = x by omega]
            exact decide_eq_true z
          have g8 : gI m 911 (4 * (440 + x)) = 8 := hax.1 hgo
          rw [g8, if_neg (by decide), if_neg (by simp [z])]
        · have hgo : ¬ Go rho (440 + x) := by
            unfold Go goB
            rw [if_neg (by omega), if_neg (by omega), show 440 + x - 440 = x by omega]
            exact fun y => z (of_decide_eq_true y)
          have g3 : gI m 911 (4 * (440 + x)) = 3 := (hax.2 hgo).2 (by omega)
          rw [g3, if_pos rfl, if_pos (by simp [z])]) (fun q b => by
        show l8_X8_repairs_16 (q + 1) 0 b (nI (List.range (iP rho)).length) m = some (b, m, 0)
        rw [l8_X8_repairs_16, ha.2.2.2.2.2.2.1, od_s, e53, List.length_map, if_pos (nI_le (Nat.le_refl _) (by rw [List.length_range]; omega))]) (iP rho) 0 FU 0 (by rw [List.length_range]; omega) (by omega)
      rw [List.drop_zero, Nat.zero_add, ← hb.r09.2.2.2.2.2.2.2.2] at this
      exact this
    · unfold f9_repairs
      rw [wr_s, if_neg h1]
      rfl
end QM
