/-! the law's methods that catch what the class throws -/
section LW9
variable {out : Int64} {w : RH}
def fW_breaker (i0 : Nat) (x1 x2 : Int32) (m : CM) : CR Int32 := ctc (fun x => x) (fun j => if j = 0 then some (-1000001) else none) (f8_X8_breaker i0 x1 x2 m)
theorem okL_breaker : MIokW mL_breaker 3 := ⟨cd_L_breaker, in_L, by decide +kernel, by decide⟩
theorem wL_breaker {r : Int32} {m9 : CM} {i0 : Nat} {x1 x2 : Int32} {m : CM} {n9 : Nat} (h9 : fW_breaker i0 x1 x2 m = some (r, m9, n9)) : SpecW mL_breaker 10 n9 [vR 8 i0, vI x1, vI x2] (cM m out w) (PW out r (m9, w)) NX := by
  obtain ⟨v9, h, hi, hr⟩ := ctc_e h9
  have hjs : ∀ (j : Nat) {v : Int32}, (if j = 0 then some (-1000001) else none) = some v → j = 0 := fun j v hv => by
    by_cases z0 : j = 0
    · exact z0
    · rw [if_neg z0] at hv; cases hv
  refine specW_of (by decide) rfl (by simp [catS, cat1]) (Nat.le_of_ble_eq_true rfl) ?_
  show WP mL_breaker 10 n9 0 [some (vR 8 i0), some (vI x1), some (vI x2), none] [] (cM m out w) _ NX
  refine wp_aload_n dL_breaker_0 rfl ?_
  refine wp_iload_n dL_breaker_1 rfl ?_
  refine wp_iload_n dL_breaker_2 rfl ?_
  refine wp_callVH (k1 := n9) (k2 := 0) (As := [vI x1, vI x2]) (rest := []) rfl (w8_X8_breaker h) okX8_breaker ivX8_breaker rfl (by decide) ml_L_81 dL_breaker_3 (by decide) (Nat.le_refl _) rfl (Nat.le_of_ble_eq_true rfl) (fun E S' z => ?_) (fun r' S' z => ?_)
  · obtain ⟨⟨j, hj, hj3, rfl⟩, rfl⟩ := z
    obtain ⟨v, hv, rfl⟩ := hr j hj
    rcases hjs j hv with rfl
    · refine ⟨0, 3, [], [], (0, 6, 7, 16), by decide, rfl, rfl, (fun z hz => by cases hz), rfl, by decide, by decide, Nat.le_of_ble_eq_true rfl, Or.inr ⟨3, rfl, dL_breaker_7, ?_⟩⟩
      show WP mL_breaker 10 0 8 [some (vR 8 i0), some (vI x1), some (vI x2), none] [] (cM m9 out w) _ _
      refine wp_ldc ct_L_18 dL_breaker_8 ?_
      refine wp_ireturn rfl dL_breaker_10 ⟨?_, rfl⟩
      exact congrArg (fun x => some (vI x)) (Option.some.inj hv)
  · obtain ⟨⟨x, hx, rfl⟩, rfl⟩ := z
    exact wp_ireturn rfl dL_breaker_6 ⟨by rw [hi x hx], rfl⟩
def fW_budget (i0 : Nat) (x1 : Int32) (m : CM) : CR Int32 := ctc (fun x => x) (fun j => if j = 0 then some (-1000001) else none) (f8_X8_budget i0 x1 m)
theorem okL_budget : MIokW mL_budget 2 := ⟨cd_L_budget, in_L, by decide +kernel, by decide⟩
theorem wL_budget {r : Int32} {m9 : CM} {i0 : Nat} {x1 : Int32} {m : CM} {n9 : Nat} (h9 : fW_budget i0 x1 m = some (r, m9, n9)) : SpecW mL_budget 10 n9 [vR 8 i0, vI x1] (cM m out w) (PW out r (m9, w)) NX := by
  obtain ⟨v9, h, hi, hr⟩ := ctc_e h9
  have hjs : ∀ (j : Nat) {v : Int32}, (if j = 0 then some (-1000001) else none) = some v → j = 0 := fun j v hv => by
    by_cases z0 : j = 0
    · exact z0
    · rw [if_neg z0] at hv; cases hv
  refine specW_of (by decide) rfl (by simp [catS, cat1]) (Nat.le_of_ble_eq_true rfl) ?_
  show WP mL_budget 10 n9 0 [some (vR 8 i0), some (vI x1), none] [] (cM m out w) _ NX
  refine wp_aload_n dL_budget_0 rfl ?_
  refine wp_iload_n dL_budget_1 rfl ?_
  refine wp_callVH (k1 := n9) (k2 := 0) (As := [vI x1]) (rest := []) rfl (w8_X8_budget h) okX8_budget ivX8_budget rfl (by decide) ml_L_78 dL_budget_2 (by decide) (Nat.le_refl _) rfl (Nat.le_of_ble_eq_true rfl) (fun E S' z => ?_) (fun r' S' z => ?_)
  · obtain ⟨⟨j, hj, hj3, rfl⟩, rfl⟩ := z
    obtain ⟨v, hv, rfl⟩ := hr j hj
    rcases hjs j hv with rfl
    · refine ⟨0, 2, [], [], (0, 5, 6, 16), by decide, rfl, rfl, (fun z hz => by cases hz), rfl, by decide, by decide, Nat.le_of_ble_eq_true rfl, Or.inr ⟨2, rfl, dL_budget_6, ?_⟩⟩
      show WP mL_budget 10 0 7 [some (vR 8 i0), some (vI x1), none] [] (cM m9 out w) _ _
      refine wp_ldc ct_L_18 dL_budget_7 ?_
      refine wp_ireturn rfl dL_budget_9 ⟨?_, rfl⟩
      exact congrArg (fun x => some (vI x)) (Option.some.inj hv)
  · obtain ⟨⟨x, hx, rfl⟩, rfl⟩ := z
    exact wp_ireturn rfl dL_budget_5 ⟨by rw [hi x hx], rfl⟩
def fW_call (i0 : Nat) (x1 x2 : Int32) (m : CM) : CR Int32 := ctc (fun x => x) (fun j => if j = 0 then some (-1000001) else if j = 1 then some (-1000002) else none) (f8_X8_call i0 x1 x2 m)
theorem okL_call : MIokW mL_call 3 := ⟨cd_L_call, in_L, by decide +kernel, by decide⟩
theorem wL_call {r : Int32} {m9 : CM} {i0 : Nat} {x1 x2 : Int32} {m : CM} {n9 : Nat} (h9 : fW_call i0 x1 x2 m = some (r, m9, n9)) : SpecW mL_call 10 n9 [vR 8 i0, vI x1, vI x2] (cM m out w) (PW out r (m9, w)) NX := by
  obtain ⟨v9, h, hi, hr⟩ := ctc_e h9
  have hjs : ∀ (j : Nat) {v : Int32}, (if j = 0 then some (-1000001) else if j = 1 then some (-1000002) else none) = some v → j = 0 ∨ j = 1 := fun j v hv => by
    by_cases z0 : j = 0
    · exact Or.inl z0
    by_cases z1 : j = 1
    · exact Or.inr (z1)
    · rw [if_neg z0] at hv; rw [if_neg z1] at hv; cases hv
  refine specW_of (by decide) rfl (by simp [catS, cat1]) (Nat.le_of_ble_eq_true rfl) ?_
  show WP mL_call 10 n9 0 [some (vR 8 i0), some (vI x1), some (vI x2), none] [] (cM m out w) _ NX
  refine wp_aload_n dL_call_0 rfl ?_
  refine wp_iload_n dL_call_1 rfl ?_
  refine wp_iload_n dL_call_2 rfl ?_
  refine wp_callVH (k1 := n9) (k2 := 0) (As := [vI x1, vI x2]) (rest := []) rfl (w8_X8_call h) okX8_call ivX8_call rfl (by decide) ml_L_75 dL_call_3 (by decide) (Nat.le_refl _) rfl (Nat.le_of_ble_eq_true rfl) (fun E S' z => ?_) (fun r' S' z => ?_)
  · obtain ⟨⟨j, hj, hj3, rfl⟩, rfl⟩ := z
    obtain ⟨v, hv, rfl⟩ := hr j hj
    rcases hjs j hv with rfl | rfl
    · refine ⟨0, 3, [], [(0, 6, 11, 19)], (0, 6, 7, 16), by decide, rfl, rfl, (fun z hz => by cases hz), rfl, by decide, by decide, Nat.le_of_ble_eq_true rfl, Or.inr ⟨3, rfl, dL_call_7, ?_⟩⟩
      show WP mL_call 10 0 8 [some (vR 8 i0), some (vI x1), some (vI x2), none] [] (cM m9 out w) _ _
      refine wp_ldc ct_L_18 dL_call_8 ?_
      refine wp_ireturn rfl dL_call_10 ⟨?_, rfl⟩
      exact congrArg (fun x => some (vI x)) (Option.some.inj hv)
    · refine ⟨1, 3, [(0, 6, 7, 16)], [], (0, 6, 11, 19), by decide, rfl, rfl, (fun z hz => by
        simp only [List.mem_cons, List.not_mem_nil, or_false] at hz
        subst hz
        exact ⟨0, by decide, by decide, rfl⟩), rfl, by decide, by decide, Nat.le_of_ble_eq_true rfl, Or.inr ⟨3, rfl, dL_call_11, ?_⟩⟩
      show WP mL_call 10 0 12 [some (vR 8 i0), some (vI x1), some (vI x2), none] [] (cM m9 out w) _ _
      refine wp_ldc ct_L_21 dL_call_12 ?_
      refine wp_ireturn rfl dL_call_14 ⟨?_, rfl⟩
      exact congrArg (fun x => some (vI x)) (Option.some.inj hv)
  · obtain ⟨⟨x, hx, rfl⟩, rfl⟩ := z
    exact wp_ireturn rfl dL_call_6 ⟨by rw [hi x hx], rfl⟩
def fW_callsOf (i0 : Nat) (x1 : Int32) (m : CM) : CR Int32 := ctc (fun x => x) (fun j => if j = 0 then some (-1000001) else none) (f8_X8_callsOf i0 x1 m)
theorem okL_callsOf : MIokW mL_callsOf 2 := ⟨cd_L_callsOf, in_L, by decide +kernel, by decide⟩
theorem wL_callsOf {r : Int32} {m9 : CM} {i0 : Nat} {x1 : Int32} {m : CM} {n9 : Nat} (h9 : fW_callsOf i0 x1 m = some (r, m9, n9)) : SpecW mL_callsOf 10 n9 [vR 8 i0, vI x1] (cM m out w) (PW out r (m9, w)) NX := by
  obtain ⟨v9, h, hi, hr⟩ := ctc_e h9
  have hjs : ∀ (j : Nat) {v : Int32}, (if j = 0 then some (-1000001) else none) = some v → j = 0 := fun j v hv => by
    by_cases z0 : j = 0
    · exact z0
    · rw [if_neg z0] at hv; cases hv
  refine specW_of (by decide) rfl (by simp [catS, cat1]) (Nat.le_of_ble_eq_true rfl) ?_
  show WP mL_callsOf 10 n9 0 [some (vR 8 i0), some (vI x1), none] [] (cM m out w) _ NX
  refine wp_aload_n dL_callsOf_0 rfl ?_
  refine wp_iload_n dL_callsOf_1 rfl ?_
  refine wp_callVH (k1 := n9) (k2 := 0) (As := [vI x1]) (rest := []) rfl (w8_X8_callsOf h) okX8_callsOf ivX8_callsOf rfl (by decide) ml_L_72 dL_callsOf_2 (by decide) (Nat.le_refl _) rfl (Nat.le_of_ble_eq_true rfl) (fun E S' z => ?_) (fun r' S' z => ?_)
  · obtain ⟨⟨j, hj, hj3, rfl⟩, rfl⟩ := z
    obtain ⟨v, hv, rfl⟩ := hr j hj
    rcases hjs j hv with rfl
    · refine ⟨0, 2, [], [], (0, 5, 6, 16), by decide, rfl, rfl, (fun z hz => by cases hz), rfl, by decide, by decide, Nat.le_of_ble_eq_true rfl, Or.inr ⟨2, rfl, dL_callsOf_6, ?_⟩⟩
      show WP mL_callsOf 10 0 7 [some (vR 8 i0), some (vI x1), none] [] (cM m9 out w) _ _
      refine wp_ldc ct_L_18 dL_callsOf_7 ?_
      refine wp_ireturn rfl dL_callsOf_9 ⟨?_, rfl⟩
      exact congrArg (fun x => some (vI x)) (Option.some.inj hv)
  · obtain ⟨⟨x, hx, rfl⟩, rfl⟩ := z
    exact wp_ireturn rfl dL_callsOf_5 ⟨by rw [hi x hx], rfl⟩
def fW_canary (i0 : Nat) (x1 x2 : Int32) (m : CM) : CR Int32 := ctc (fun x => x) (fun j => if j = 0 then some (-1000001) else if j = 1 then some (-1000002) else none) (f8_X8_canary i0 x1 x2 m)
theorem okL_canary : MIokW mL_canary 3 := ⟨cd_L_canary, in_L, by decide +kernel, by decide⟩
theorem wL_canary {r : Int32} {m9 : CM} {i0 : Nat} {x1 x2 : Int32} {m : CM} {n9 : Nat} (h9 : fW_canary i0 x1 x2 m = some (r, m9, n9)) : SpecW mL_canary 10 n9 [vR 8 i0, vI x1, vI x2] (cM m out w) (PW out r (m9, w)) NX := by
  obtain ⟨v9, h, hi, hr⟩ := ctc_e h9
  have hjs : ∀ (j : Nat) {v : Int32}, (if j = 0 then some (-1000001) else if j = 1 then some (-1000002) else none) = some v → j = 0 ∨ j = 1 := fun j v hv => by
    by_cases z0 : j = 0
    · exact Or.inl z0
    by_cases z1 : j = 1
    · exact Or.inr (z1)
    · rw [if_neg z0] at hv; rw [if_neg z1] at hv; cases hv
  refine specW_of (by decide) rfl (by simp [catS, cat1]) (Nat.le_of_ble_eq_true rfl) ?_
  show WP mL_canary 10 n9 0 [some (vR 8 i0), some (vI x1), some (vI x2), none] [] (cM m out w) _ NX
  refine wp_aload_n dL_canary_0 rfl ?_
  refine wp_iload_n dL_canary_1 rfl ?_
  refine wp_iload_n dL_canary_2 rfl ?_
  refine wp_callVH (k1 := n9) (k2 := 0) (As := [vI x1, vI x2]) (rest := []) rfl (w8_X8_canary h) okX8_canary ivX8_canary rfl (by decide) ml_L_48 dL_canary_3 (by decide) (Nat.le_refl _) rfl (Nat.le_of_ble_eq_true rfl) (fun E S' z => ?_) (fun r' S' z => ?_)
  · obtain ⟨⟨j, hj, hj3, rfl⟩, rfl⟩ := z
    obtain ⟨v, hv, rfl⟩ := hr j hj
    rcases hjs j hv with rfl | rfl
    · refine ⟨0, 3, [], [(0, 6, 11, 19)], (0, 6, 7, 16), by decide, rfl, rfl, (fun z hz => by cases hz), rfl, by decide, by decide, Nat.le_of_ble_eq_true rfl, Or.inr ⟨3, rfl, dL_canary_7, ?_⟩⟩
      show WP mL_canary 10 0 8 [some (vR 8 i0), some (vI x1), some (vI x2), none] [] (cM m9 out w) _ _
      refine wp_ldc ct_L_18 dL_canary_8 ?_
      refine wp_ireturn rfl dL_canary_10 ⟨?_, rfl⟩
      exact congrArg (fun x => some (vI x)) (Option.some.inj hv)
    · refine ⟨1, 3, [(0, 6, 7, 16)], [], (0, 6, 11, 19), by decide, rfl, rfl, (fun z hz => by
        simp only [List.mem_cons, List.not_mem_nil, or_false] at hz
        subst hz
        exact ⟨0, by decide, by decide, rfl⟩), rfl, by decide, by decide, Nat.le_of_ble_eq_true rfl, Or.inr ⟨3, rfl, dL_canary_11, ?_⟩⟩
      show WP mL_canary 10 0 12 [some (vR 8 i0), some (vI x1), some (vI x2), none] [] (cM m9 out w) _ _
      refine wp_ldc ct_L_21 dL_canary_12 ?_
      refine wp_ireturn rfl dL_canary_14 ⟨?_, rfl⟩
      exact congrArg (fun x => some (vI x)) (Option.some.inj hv)
  · obtain ⟨⟨x, hx, rfl⟩, rfl⟩ := z
    exact wp_ireturn rfl dL_canary_6 ⟨by rw [hi x hx], rfl⟩
def fW_canaryShare (i0 : Nat) (x1 : Int32) (m : CM) : CR Int32 := ctc (fun x => x) (fun j => if j = 0 then some (-1000001) else none) (f8_X8_canaryShare i0 x1 m)
theorem okL_canaryShare : MIokW mL_canaryShare 2 := ⟨cd_L_canaryShare, in_L, by decide +kernel, by decide⟩
theorem wL_canaryShare {r : Int32} {m9 : CM} {i0 : Nat} {x1 : Int32} {m : CM} {n9 : Nat} (h9 : fW_canaryShare i0 x1 m = some (r, m9, n9)) : SpecW mL_canaryShare 10 n9 [vR 8 i0, vI x1] (cM m out w) (PW out r (m9, w)) NX := by
  obtain ⟨v9, h, hi, hr⟩ := ctc_e h9
  have hjs : ∀ (j : Nat) {v : Int32}, (if j = 0 then some (-1000001) else none) = some v → j = 0 := fun j v hv => by
    by_cases z0 : j = 0
    · exact z0
    · rw [if_neg z0] at hv; cases hv
  refine specW_of (by decide) rfl (by simp [catS, cat1]) (Nat.le_of_ble_eq_true rfl) ?_
  show WP mL_canaryShare 10 n9 0 [some (vR 8 i0), some (vI x1), none] [] (cM m out w) _ NX
  refine wp_aload_n dL_canaryShare_0 rfl ?_
  refine wp_iload_n dL_canaryShare_1 rfl ?_
  refine wp_callVH (k1 := n9) (k2 := 0) (As := [vI x1]) (rest := []) rfl (w8_X8_canaryShare h) okX8_canaryShare ivX8_canaryShare rfl (by decide) ml_L_91 dL_canaryShare_2 (by decide) (Nat.le_refl _) rfl (Nat.le_of_ble_eq_true rfl) (fun E S' z => ?_) (fun r' S' z => ?_)
  · obtain ⟨⟨j, hj, hj3, rfl⟩, rfl⟩ := z
    obtain ⟨v, hv, rfl⟩ := hr j hj
    rcases hjs j hv with rfl
    · refine ⟨0, 2, [], [], (0, 5, 6, 16), by decide, rfl, rfl, (fun z hz => by cases hz), rfl, by decide, by decide, Nat.le_of_ble_eq_true rfl, Or.inr ⟨2, rfl, dL_canaryShare_6, ?_⟩⟩
      show WP mL_canaryShare 10 0 7 [some (vR 8 i0), some (vI x1), none] [] (cM m9 out w) _ _
      refine wp_ldc ct_L_18 dL_canaryShare_7 ?_
      refine wp_ireturn rfl dL_canaryShare_9 ⟨?_, rfl⟩
      exact congrArg (fun x => some (vI x)) (Option.some.inj hv)
  · obtain ⟨⟨x, hx, rfl⟩, rfl⟩ := z
    exact wp_ireturn rfl dL_canaryShare_5 ⟨by rw [hi x hx], rfl⟩
def fW_extra (i0 : Nat) (x1 : Int32) (m : CM) : CR Int32 := ctc (fun x => x) (fun j => if j = 0 then some (-1000001) else none) (f8_X8_extra i0 x1 m)
theorem okL_extra : MIokW mL_extra 2 := ⟨cd_L_extra, in_L, by decide +kernel, by decide⟩
theorem wL_extra {r : Int32} {m9 : CM} {i0 : Nat} {x1 : Int32} {m : CM} {n9 : Nat} (h9 : fW_extra i0 x1 m = some (r, m9, n9)) : SpecW mL_extra 10 n9 [vR 8 i0, vI x1] (cM m out w) (PW out r (m9, w)) NX := by
  obtain ⟨v9, h, hi, hr⟩ := ctc_e h9
  have hjs : ∀ (j : Nat) {v : Int32}, (if j = 0 then some (-1000001) else none) = some v → j = 0 := fun j v hv => by
    by_cases z0 : j = 0
    · exact z0
    · rw [if_neg z0] at hv; cases hv
  refine specW_of (by decide) rfl (by simp [catS, cat1]) (Nat.le_of_ble_eq_true rfl) ?_
  show WP mL_extra 10 n9 0 [some (vR 8 i0), some (vI x1), none] [] (cM m out w) _ NX
  refine wp_aload_n dL_extra_0 rfl ?_
  refine wp_iload_n dL_extra_1 rfl ?_
  refine wp_callVH (k1 := n9) (k2 := 0) (As := [vI x1]) (rest := []) rfl (w8_X8_extra h) okX8_extra ivX8_extra rfl (by decide) ml_L_94 dL_extra_2 (by decide) (Nat.le_refl _) rfl (Nat.le_of_ble_eq_true rfl) (fun E S' z => ?_) (fun r' S' z => ?_)
  · obtain ⟨⟨j, hj, hj3, rfl⟩, rfl⟩ := z
    obtain ⟨v, hv, rfl⟩ := hr j hj
    rcases hjs j hv with rfl
    · refine ⟨0, 2, [], [], (0, 5, 6, 16), by decide, rfl, rfl, (fun z hz => by cases hz), rfl, by decide, by decide, Nat.le_of_ble_eq_true rfl, Or.inr ⟨2, rfl, dL_extra_6, ?_⟩⟩
      show WP mL_extra 10 0 7 [some (vR 8 i0), some (vI x1), none] [] (cM m9 out w) _ _
      refine wp_ldc ct_L_18 dL_extra_7 ?_
      refine wp_ireturn rfl dL_extra_9 ⟨?_, rfl⟩
      exact congrArg (fun x => some (vI x)) (Option.some.inj hv)
  · obtain ⟨⟨x, hx, rfl⟩, rfl⟩ := z
    exact wp_ireturn rfl dL_extra_5 ⟨by rw [hi x hx], rfl⟩
def fW_eyes (i0 : Nat) (x1 : Int32) (m : CM) : CR Int32 := ctc (fun x => x) (fun j => if j = 1 then some (-1000002) else none) (f8_X8_eyes i0 x1 m)
theorem okL_eyes : MIokW mL_eyes 2 := ⟨cd_L_eyes, in_L, by decide +kernel, by decide⟩
theorem wL_eyes {r : Int32} {m9 : CM} {i0 : Nat} {x1 : Int32} {m : CM} {n9 : Nat} (h9 : fW_eyes i0 x1 m = some (r, m9, n9)) : SpecW mL_eyes 10 n9 [vR 8 i0, vI x1] (cM m out w) (PW out r (m9, w)) NX := by
  obtain ⟨v9, h, hi, hr⟩ := ctc_e h9
  have hjs : ∀ (j : Nat) {v : Int32}, (if j = 1 then some (-1000002) else none) = some v → j = 1 := fun j v hv => by
    by_cases z1 : j = 1
    · exact z1
    · rw [if_neg z1] at hv; cases hv
  refine specW_of (by decide) rfl (by simp [catS, cat1]) (Nat.le_of_ble_eq_true rfl) ?_
  show WP mL_eyes 10 n9 0 [some (vR 8 i0), some (vI x1), none] [] (cM m out w) _ NX
  refine wp_aload_n dL_eyes_0 rfl ?_
  refine wp_iload_n dL_eyes_1 rfl ?_
  refine wp_callVH (k1 := n9) (k2 := 0) (As := [vI x1]) (rest := []) rfl (w8_X8_eyes h) okX8_eyes ivX8_eyes rfl (by decide) ml_L_44 dL_eyes_2 (by decide) (Nat.le_refl _) rfl (Nat.le_of_ble_eq_true rfl) (fun E S' z => ?_) (fun r' S' z => ?_)
  · obtain ⟨⟨j, hj, hj3, rfl⟩, rfl⟩ := z
    obtain ⟨v, hv, rfl⟩ := hr j hj
    rcases hjs j hv with rfl
    · refine ⟨1, 2, [], [], (0, 5, 6, 19), by decide, rfl, rfl, (fun z hz => by cases hz), rfl, by decide, by decide, Nat.le_of_ble_eq_true rfl, Or.inr ⟨2, rfl, dL_eyes_6, ?_⟩⟩
      show WP mL_eyes 10 0 7 [some (vR 8 i0), some (vI x1), none] [] (cM m9 out w) _ _
      refine wp_ldc ct_L_21 dL_eyes_7 ?_
      refine wp_ireturn rfl dL_eyes_9 ⟨?_, rfl⟩
      exact congrArg (fun x => some (vI x)) (Option.some.inj hv)
  · obtain ⟨⟨x, hx, rfl⟩, rfl⟩ := z
    exact wp_ireturn rfl dL_eyes_5 ⟨by rw [hi x hx], rfl⟩
def fW_fault (i0 : Nat) (x1 x2 x3 : Int32) (m : CM) : CR Int32 := ctc (fun x => x) (fun j => if j = 0 then some (-1000001) else if j = 1 then some (-1000002) else none) (f8_X8_fault i0 x1 x2 x3 m)
theorem okL_fault : MIokW mL_fault 4 := ⟨cd_L_fault, in_L, by decide +kernel, by decide⟩
theorem wL_fault {r : Int32} {m9 : CM} {i0 : Nat} {x1 x2 x3 : Int32} {m : CM} {n9 : Nat} (h9 : fW_fault i0 x1 x2 x3 m = some (r, m9, n9)) : SpecW mL_fault 10 n9 [vR 8 i0, vI x1, vI x2, vI x3] (cM m out w) (PW out r (m9, w)) NX := by
  obtain ⟨v9, h, hi, hr⟩ := ctc_e h9
  have hjs : ∀ (j : Nat) {v : Int32}, (if j = 0 then some (-1000001) else if j = 1 then some (-1000002) else none) = some v → j = 0 ∨ j = 1 := fun j v hv => by
    by_cases z0 : j = 0
    · exact Or.inl z0
    by_cases z1 : j = 1
    · exact Or.inr (z1)
    · rw [if_neg z0] at hv; rw [if_neg z1] at hv; cases hv
  refine specW_of (by decide) rfl (by simp [catS, cat1]) (Nat.le_of_ble_eq_true rfl) ?_
  show WP mL_fault 10 n9 0 [some (vR 8 i0), some (vI x1), some (vI x2), some (vI x3), none] [] (cM m out w) _ NX
  refine wp_aload_n dL_fault_0 rfl ?_
  refine wp_iload_n dL_fault_1 rfl ?_
  refine wp_iload_n dL_fault_2 rfl ?_
  refine wp_iload_n dL_fault_3 rfl ?_
  refine wp_callVH (k1 := n9) (k2 := 0) (As := [vI x1, vI x2, vI x3]) (rest := []) rfl (w8_X8_fault h) okX8_fault ivX8_fault rfl (by decide) ml_L_33 dL_fault_4 (by decide) (Nat.le_refl _) rfl (Nat.le_of_ble_eq_true rfl) (fun E S' z => ?_) (fun r' S' z => ?_)
  · obtain ⟨⟨j, hj, hj3, rfl⟩, rfl⟩ := z
    obtain ⟨v, hv, rfl⟩ := hr j hj
    rcases hjs j hv with rfl | rfl
    · refine ⟨0, 4, [], [(0, 7, 13, 19)], (0, 7, 8, 16), by decide, rfl, rfl, (fun z hz => by cases hz), rfl, by decide, by decide, Nat.le_of_ble_eq_true rfl, Or.inl ⟨dL_fault_8, ?_⟩⟩
      show WP mL_fault 10 0 10 [some (vR 8 i0), some (vI x1), some (vI x2), some (vI x3), none] [] (cM m9 out w) _ _
      refine wp_ldc ct_L_18 dL_fault_10 ?_
      refine wp_ireturn rfl dL_fault_12 ⟨?_, rfl⟩
      exact congrArg (fun x => some (vI x)) (Option.some.inj hv)
    · refine ⟨1, 4, [(0, 7, 8, 16)], [], (0, 7, 13, 19), by decide, rfl, rfl, (fun z hz => by
        simp only [List.mem_cons, List.not_mem_nil, or_false] at hz
        subst hz
        exact ⟨0, by decide, by decide, rfl⟩), rfl, by decide, by decide, Nat.le_of_ble_eq_true rfl, Or.inl ⟨dL_fault_13, ?_⟩⟩
      show WP mL_fault 10 0 15 [some (vR 8 i0), some (vI x1), some (vI x2), some (vI x3), none] [] (cM m9 out w) _ _
      refine wp_ldc ct_L_21 dL_fault_15 ?_
      refine wp_ireturn rfl dL_fault_17 ⟨?_, rfl⟩
      exact congrArg (fun x => some (vI x)) (Option.some.inj hv)
  · obtain ⟨⟨x, hx, rfl⟩, rfl⟩ := z
    exact wp_ireturn rfl dL_fault_7 ⟨by rw [hi x hx], rfl⟩
def fW_first (i0 : Nat) (x1 : Int32) (m : CM) : CR Int32 := ctc (fun x => x) (fun j => if j = 0 then some (-1000001) else none) (f8_X8_first i0 x1 m)
theorem okL_first : MIokW mL_first 2 := ⟨cd_L_first, in_L, by decide +kernel, by decide⟩
theorem wL_first {r : Int32} {m9 : CM} {i0 : Nat} {x1 : Int32} {m : CM} {n9 : Nat} (h9 : fW_first i0 x1 m = some (r, m9, n9)) : SpecW mL_first 10 n9 [vR 8 i0, vI x1] (cM m out w) (PW out r (m9, w)) NX := by
  obtain ⟨v9, h, hi, hr⟩ := ctc_e h9
  have hjs : ∀ (j : Nat) {v : Int32}, (if j = 0 then some (-1000001) else none) = some v → j = 0 := fun j v hv => by
    by_cases z0 : j = 0
    · exact z0
    · rw [if_neg z0] at hv; cases hv
  refine specW_of (by decide) rfl (by simp [catS, cat1]) (Nat.le_of_ble_eq_true rfl) ?_
  show WP mL_first 10 n9 0 [some (vR 8 i0), some (vI x1), none] [] (cM m out w) _ NX
  refine wp_aload_n dL_first_0 rfl ?_
  refine wp_iload_n dL_first_1 rfl ?_
  refine wp_callVH (k1 := n9) (k2 := 0) (As := [vI x1]) (rest := []) rfl (w8_X8_first h) okX8_first ivX8_first rfl (by decide) ml_L_97 dL_first_2 (by decide) (Nat.le_refl _) rfl (Nat.le_of_ble_eq_true rfl) (fun E S' z => ?_) (fun r' S' z => ?_)
  · obtain ⟨⟨j, hj, hj3, rfl⟩, rfl⟩ := z
    obtain ⟨v, hv, rfl⟩ := hr j hj
    rcases hjs j hv with rfl
    · refine ⟨0, 2, [], [], (0, 5, 6, 16), by decide, rfl, rfl, (fun z hz => by cases hz), rfl, by decide, by decide, Nat.le_of_ble_eq_true rfl, Or.inr ⟨2, rfl, dL_first_6, ?_⟩⟩
      show WP mL_first 10 0 7 [some (vR 8 i0), some (vI x1), none] [] (cM m9 out w) _ _
      refine wp_ldc ct_L_18 dL_first_7 ?_
      refine wp_ireturn rfl dL_first_9 ⟨?_, rfl⟩
      exact congrArg (fun x => some (vI x)) (Option.some.inj hv)
  · obtain ⟨⟨x, hx, rfl⟩, rfl⟩ := z
    exact wp_ireturn rfl dL_first_5 ⟨by rw [hi x hx], rfl⟩
def fW_instance (i0 : Nat) (x1 x2 x3 x4 x5 x6 : Int32) (m : CM) : CR Int32 := ctc (fun x => x) (fun j => if j = 0 then some (-1000001) else if j = 1 then some (-1000002) else if j = 2 then some (-1000003) else none) (f8_X8_instance i0 x1 x2 x3 x4 x5 x6 m)
theorem okL_instance : MIokW mL_instance 7 := ⟨cd_L_instance, in_L, by decide +kernel, by decide⟩
theorem wL_instance {r : Int32} {m9 : CM} {i0 : Nat} {x1 x2 x3 x4 x5 x6 : Int32} {m : CM} {n9 : Nat} (h9 : fW_instance i0 x1 x2 x3 x4 x5 x6 m = some (r, m9, n9)) : SpecW mL_instance 10 n9 [vR 8 i0, vI x1, vI x2, vI x3, vI x4, vI x5, vI x6] (cM m out w) (PW out r (m9, w)) NX := by
  obtain ⟨v9, h, hi, hr⟩ := ctc_e h9
  have hjs : ∀ (j : Nat) {v : Int32}, (if j = 0 then some (-1000001) else if j = 1 then some (-1000002) else if j = 2 then some (-1000003) else none) = some v → j = 0 ∨ j = 1 ∨ j = 2 := fun j v hv => by
    by_cases z0 : j = 0
    · exact Or.inl z0
    by_cases z1 : j = 1
    · exact Or.inr (Or.inl z1)
    by_cases z2 : j = 2
    · exact Or.inr (Or.inr (z2))
    · rw [if_neg z0] at hv; rw [if_neg z1] at hv; rw [if_neg z2] at hv; cases hv
  refine specW_of (by decide) rfl (by simp [catS, cat1]) (Nat.le_of_ble_eq_true rfl) ?_
  show WP mL_instance 10 n9 0 [some (vR 8 i0), some (vI x1), some (vI x2), some (vI x3), some (vI x4), some (vI x5), some (vI x6), none] [] (cM m out w) _ NX
  refine wp_aload_n dL_instance_0 rfl ?_
  refine wp_iload_n dL_instance_1 rfl ?_
  refine wp_iload_n dL_instance_2 rfl ?_
  refine wp_iload_n dL_instance_3 rfl ?_
  refine wp_iload dL_instance_4 rfl ?_
  refine wp_iload dL_instance_6 rfl ?_
  refine wp_iload dL_instance_8 rfl ?_
  refine wp_callVH (k1 := n9) (k2 := 0) (As := [vI x1, vI x2, vI x3, vI x4, vI x5, vI x6]) (rest := []) rfl (w8_X8_instance h) okX8_instance ivX8_instance rfl (by decide) ml_L_29 dL_instance_10 (by decide) (Nat.le_refl _) rfl (Nat.le_of_ble_eq_true rfl) (fun E S' z => ?_) (fun r' S' z => ?_)
  · obtain ⟨⟨j, hj, hj3, rfl⟩, rfl⟩ := z
    obtain ⟨v, hv, rfl⟩ := hr j hj
    rcases hjs j hv with rfl | rfl | rfl
    · refine ⟨0, 7, [], [(0, 13, 19, 19), (0, 13, 24, 26)], (0, 13, 14, 16), by decide, rfl, rfl, (fun z hz => by cases hz), rfl, by decide, by decide, Nat.le_of_ble_eq_true rfl, Or.inl ⟨dL_instance_14, ?_⟩⟩
      show WP mL_instance 10 0 16 [some (vR 8 i0), some (vI x1), some (vI x2), some (vI x3), some (vI x4), some (vI x5), some (vI x6), none] [] (cM m9 out w) _ _
      refine wp_ldc ct_L_18 dL_instance_16 ?_
      refine wp_ireturn rfl dL_instance_18 ⟨?_, rfl⟩
      exact congrArg (fun x => some (vI x)) (Option.some.inj hv)
    · refine ⟨1, 7, [(0, 13, 14, 16)], [(0, 13, 24, 26)], (0, 13, 19, 19), by decide, rfl, rfl, (fun z hz => by
        simp only [List.mem_cons, List.not_mem_nil, or_false] at hz
        subst hz
        exact ⟨0, by decide, by decide, rfl⟩), rfl, by decide, by decide, Nat.le_of_ble_eq_true rfl, Or.inl ⟨dL_instance_19, ?_⟩⟩
      show WP mL_instance 10 0 21 [some (vR 8 i0), some (vI x1), some (vI x2), some (vI x3), some (vI x4), some (vI x5), some (vI x6), none] [] (cM m9 out w) _ _
      refine wp_ldc ct_L_21 dL_instance_21 ?_
      refine wp_ireturn rfl dL_instance_23 ⟨?_, rfl⟩
      exact congrArg (fun x => some (vI x)) (Option.some.inj hv)
    · refine ⟨2, 7, [(0, 13, 14, 16), (0, 13, 19, 19)], [], (0, 13, 24, 26), by decide, rfl, rfl, (fun z hz => by
        simp only [List.mem_cons, List.not_mem_nil, or_false] at hz
        rcases hz with rfl | rfl
        · exact ⟨0, by decide, by decide, rfl⟩
        · exact ⟨1, by decide, by decide, rfl⟩), rfl, by decide, by decide, Nat.le_of_ble_eq_true rfl, Or.inl ⟨dL_instance_24, ?_⟩⟩
      show WP mL_instance 10 0 26 [some (vR 8 i0), some (vI x1), some (vI x2), some (vI x3), some (vI x4), some (vI x5), some (vI x6), none] [] (cM m9 out w) _ _
      refine wp_ldc ct_L_28 dL_instance_26 ?_
      refine wp_ireturn rfl dL_instance_28 ⟨?_, rfl⟩
      exact congrArg (fun x => some (vI x)) (Option.some.inj hv)
  · obtain ⟨⟨x, hx, rfl⟩, rfl⟩ := z
    exact wp_ireturn rfl dL_instance_13 ⟨by rw [hi x hx], rfl⟩
def fW_isKept (i0 : Nat) (x1 : Int32) (m : CM) : CR Int32 := ctc (fun x => if x = 0 then 0 else 1) (fun j => if j = 0 then some (-1000001) else none) (f8_X8_isKept i0 x1 m)
theorem okL_isKept : MIokW mL_isKept 2 := ⟨cd_L_isKept, in_L, by decide +kernel, by decide⟩
theorem wL_isKept {r : Int32} {m9 : CM} {i0 : Nat} {x1 : Int32} {m : CM} {n9 : Nat} (h9 : fW_isKept i0 x1 m = some (r, m9, n9)) : SpecW mL_isKept 10 n9 [vR 8 i0, vI x1] (cM m out w) (PW out r (m9, w)) NX := by
  obtain ⟨v9, h, hi, hr⟩ := ctc_e h9
  have hjs : ∀ (j : Nat) {v : Int32}, (if j = 0 then some (-1000001) else none) = some v → j = 0 := fun j v hv => by
    by_cases z0 : j = 0
    · exact z0
    · rw [if_neg z0] at hv; cases hv
  refine specW_of (by decide) rfl (by simp [catS, cat1]) (Nat.le_of_ble_eq_true rfl) ?_
  show WP mL_isKept 10 n9 0 [some (vR 8 i0), some (vI x1), none] [] (cM m out w) _ NX
  refine wp_aload_n dL_isKept_0 rfl ?_
  refine wp_iload_n dL_isKept_1 rfl ?_
  refine wp_callVH (k1 := n9) (k2 := 0) (As := [vI x1]) (rest := []) rfl (w8_X8_isKept h) okX8_isKept ivX8_isKept rfl (by decide) ml_L_68 dL_isKept_2 (by decide) (Nat.le_refl _) rfl (Nat.le_of_ble_eq_true rfl) (fun E S' z => ?_) (fun r' S' z => ?_)
  · obtain ⟨⟨j, hj, hj3, rfl⟩, rfl⟩ := z
    obtain ⟨v, hv, rfl⟩ := hr j hj
    rcases hjs j hv with rfl
    · refine ⟨0, 2, [], [], (0, 13, 14, 16), by decide, rfl, rfl, (fun z hz => by cases hz), rfl, by decide, by decide, Nat.le_of_ble_eq_true rfl, Or.inr ⟨2, rfl, dL_isKept_14, ?_⟩⟩
      show WP mL_isKept 10 0 15 [some (vR 8 i0), some (vI x1), none] [] (cM m9 out w) _ _
      refine wp_ldc ct_L_18 dL_isKept_15 ?_
      refine wp_ireturn rfl dL_isKept_17 ⟨?_, rfl⟩
      exact congrArg (fun x => some (vI x)) (Option.some.inj hv)
  · obtain ⟨⟨x, hx, rfl⟩, rfl⟩ := z
    show WP mL_isKept 10 0 5 [some (vR 8 i0), some (vI x1), none] [vI x] (cM m9 out w) _ _
    refine wp_if_eq (tgt := 12) dL_isKept_5 (by decide) (fun c1 => ?_) (fun c1 => ?_)
    · refine wp_iconst (v := 0) dL_isKept_12 (by decide) ?_
      exact wp_ireturn rfl dL_isKept_13 ⟨by rw [hi x hx, if_pos c1], rfl⟩
    · refine wp_iconst (v := 1) dL_isKept_8 (by decide) ?_
      refine wp_goto (tgt := 13) dL_isKept_9 (by decide) ?_
      exact wp_ireturn rfl dL_isKept_13 ⟨by rw [hi x hx, if_neg c1], rfl⟩
def fW_isShunned (i0 : Nat) (x1 : Int32) (m : CM) : CR Int32 := ctc (fun x => if x = 0 then 0 else 1) (fun j => if j = 0 then some (-1000001) else none) (f8_X8_isShunned i0 x1 m)
theorem okL_isShunned : MIokW mL_isShunned 2 := ⟨cd_L_isShunned, in_L, by decide +kernel, by decide⟩
theorem wL_isShunned {r : Int32} {m9 : CM} {i0 : Nat} {x1 : Int32} {m : CM} {n9 : Nat} (h9 : fW_isShunned i0 x1 m = some (r, m9, n9)) : SpecW mL_isShunned 10 n9 [vR 8 i0, vI x1] (cM m out w) (PW out r (m9, w)) NX := by
  obtain ⟨v9, h, hi, hr⟩ := ctc_e h9
  have hjs : ∀ (j : Nat) {v : Int32}, (if j = 0 then some (-1000001) else none) = some v → j = 0 := fun j v hv => by
    by_cases z0 : j = 0
    · exact z0
    · rw [if_neg z0] at hv; cases hv
  refine specW_of (by decide) rfl (by simp [catS, cat1]) (Nat.le_of_ble_eq_true rfl) ?_
  show WP mL_isShunned 10 n9 0 [some (vR 8 i0), some (vI x1), none] [] (cM m out w) _ NX
  refine wp_aload_n dL_isShunned_0 rfl ?_
  refine wp_iload_n dL_isShunned_1 rfl ?_
  refine wp_callVH (k1 := n9) (k2 := 0) (As := [vI x1]) (rest := []) rfl (w8_X8_isShunned h) okX8_isShunned ivX8_isShunned rfl (by decide) ml_L_84 dL_isShunned_2 (by decide) (Nat.le_refl _) rfl (Nat.le_of_ble_eq_true rfl) (fun E S' z => ?_) (fun r' S' z => ?_)
  · obtain ⟨⟨j, hj, hj3, rfl⟩, rfl⟩ := z
    obtain ⟨v, hv, rfl⟩ := hr j hj
    rcases hjs j hv with rfl
    · refine ⟨0, 2, [], [], (0, 13, 14, 16), by decide, rfl, rfl, (fun z hz => by cases hz), rfl, by decide, by decide, Nat.le_of_ble_eq_true rfl, Or.inr ⟨2, rfl, dL_isShunned_14, ?_⟩⟩
      show WP mL_isShunned 10 0 15 [some (vR 8 i0), some (vI x1), none] [] (cM m9 out w) _ _
      refine wp_ldc ct_L_18 dL_isShunned_15 ?_
      refine wp_ireturn rfl dL_isShunned_17 ⟨?_, rfl⟩
      exact congrArg (fun x => some (vI x)) (Option.some.inj hv)
  · obtain ⟨⟨x, hx, rfl⟩, rfl⟩ := z
    show WP mL_isShunned 10 0 5 [some (vR 8 i0), some (vI x1), none] [vI x] (cM m9 out w) _ _
    refine wp_if_eq (tgt := 12) dL_isShunned_5 (by decide) (fun c1 => ?_) (fun c1 => ?_)
    · refine wp_iconst (v := 0) dL_isShunned_12 (by decide) ?_
      exact wp_ireturn rfl dL_isShunned_13 ⟨by rw [hi x hx, if_pos c1], rfl⟩
    · refine wp_iconst (v := 1) dL_isShunned_8 (by decide) ?_
      refine wp_goto (tgt := 13) dL_isShunned_9 (by decide) ?_
      exact wp_ireturn rfl dL_isShunned_13 ⟨by rw [hi x hx, if_neg c1], rfl⟩
def fW_load (i0 : Nat) (x1 x2 : Int32) (m : CM) : CR Int32 := ctc (fun x => x) (fun j => if j = 0 then some (-1000001) else none) (f8_X8_load i0 x1 x2 m)
theorem okL_load : MIokW mL_load 3 := ⟨cd_L_load, in_L, by decide +kernel, by decide⟩
theorem wL_load {r : Int32} {m9 : CM} {i0 : Nat} {x1 x2 : Int32} {m : CM} {n9 : Nat} (h9 : fW_load i0 x1 x2 m = some (r, m9, n9)) : SpecW mL_load 10 n9 [vR 8 i0, vI x1, vI x2] (cM m out w) (PW out r (m9, w)) NX := by
  obtain ⟨v9, h, hi, hr⟩ := ctc_e h9
  have hjs : ∀ (j : Nat) {v : Int32}, (if j = 0 then some (-1000001) else none) = some v → j = 0 := fun j v hv => by
    by_cases z0 : j = 0
    · exact z0
    · rw [if_neg z0] at hv; cases hv
  refine specW_of (by decide) rfl (by simp [catS, cat1]) (Nat.le_of_ble_eq_true rfl) ?_
  show WP mL_load 10 n9 0 [some (vR 8 i0), some (vI x1), some (vI x2), none] [] (cM m out w) _ NX
  refine wp_aload_n dL_load_0 rfl ?_
  refine wp_iload_n dL_load_1 rfl ?_
  refine wp_iload_n dL_load_2 rfl ?_
  refine wp_callVH (k1 := n9) (k2 := 0) (As := [vI x1, vI x2]) (rest := []) rfl (w8_X8_load h) okX8_load ivX8_load rfl (by decide) ml_L_87 dL_load_3 (by decide) (Nat.le_refl _) rfl (Nat.le_of_ble_eq_true rfl) (fun E S' z => ?_) (fun r' S' z => ?_)
  · obtain ⟨⟨j, hj, hj3, rfl⟩, rfl⟩ := z
    obtain ⟨v, hv, rfl⟩ := hr j hj
    rcases hjs j hv with rfl
    · refine ⟨0, 3, [], [], (0, 6, 7, 16), by decide, rfl, rfl, (fun z hz => by cases hz), rfl, by decide, by decide, Nat.le_of_ble_eq_true rfl, Or.inr ⟨3, rfl, dL_load_7, ?_⟩⟩
      show WP mL_load 10 0 8 [some (vR 8 i0), some (vI x1), some (vI x2), none] [] (cM m9 out w) _ _
      refine wp_ldc ct_L_18 dL_load_8 ?_
      refine wp_ireturn rfl dL_load_10 ⟨?_, rfl⟩
      exact congrArg (fun x => some (vI x)) (Option.some.inj hv)
  · obtain ⟨⟨x, hx, rfl⟩, rfl⟩ := z
    exact wp_ireturn rfl dL_load_6 ⟨by rw [hi x hx], rfl⟩
def fW_pass (i0 : Nat) (x1 : Int32) (m : CM) : CR Int32 := ctc (fun x => x) (fun j => if j = 1 then some (-1000002) else if j = 2 then some (-1000003) else none) (f8_X8_pass i0 x1 m)
theorem okL_pass : MIokW mL_pass 2 := ⟨cd_L_pass, in_L, by decide +kernel, by decide⟩
theorem wL_pass {r : Int32} {m9 : CM} {i0 : Nat} {x1 : Int32} {m : CM} {n9 : Nat} (h9 : fW_pass i0 x1 m = some (r, m9, n9)) : SpecW mL_pass 42 n9 [vR 8 i0, vI x1] (cM m out w) (PW out r (m9, w)) NX := by
  obtain ⟨v9, h, hi, hr⟩ := ctc_e h9
  have hjs : ∀ (j : Nat) {v : Int32}, (if j = 1 then some (-1000002) else if j = 2 then some (-1000003) else none) = some v → j = 1 ∨ j = 2 := fun j v hv => by
    by_cases z1 : j = 1
    · exact Or.inl z1
    by_cases z2 : j = 2
    · exact Or.inr (z2)
    · rw [if_neg z1] at hv; rw [if_neg z2] at hv; cases hv
  refine specW_of (by decide) rfl (by simp [catS, cat1]) (Nat.le_of_ble_eq_true rfl) ?_
  show WP mL_pass 42 n9 0 [some (vR 8 i0), some (vI x1), none] [] (cM m out w) _ NX
  refine wp_aload_n dL_pass_0 rfl ?_
  refine wp_iload_n dL_pass_1 rfl ?_
  refine wp_callVH (k1 := n9) (k2 := 0) (As := [vI x1]) (rest := []) rfl (w8_X8_pass h) okX8_pass ivX8_pass rfl (by decide) ml_L_59 dL_pass_2 (by decide) (Nat.le_refl _) rfl (Nat.le_of_ble_eq_true rfl) (fun E S' z => ?_) (fun r' S' z => ?_)
  · obtain ⟨⟨j, hj, hj3, rfl⟩, rfl⟩ := z
    obtain ⟨v, hv, rfl⟩ := hr j hj
    rcases hjs j hv with rfl | rfl
    · refine ⟨1, 2, [], [(0, 5, 10, 26)], (0, 5, 6, 19), by decide, rfl, rfl, (fun z hz => by cases hz), rfl, by decide, by decide, Nat.le_of_ble_eq_true rfl, Or.inr ⟨2, rfl, dL_pass_6, ?_⟩⟩
      show WP mL_pass 42 0 7 [some (vR 8 i0), some (vI x1), none] [] (cM m9 out w) _ _
      refine wp_ldc ct_L_21 dL_pass_7 ?_
      refine wp_ireturn rfl dL_pass_9 ⟨?_, rfl⟩
      exact congrArg (fun x => some (vI x)) (Option.some.inj hv)
    · refine ⟨2, 2, [(0, 5, 6, 19)], [], (0, 5, 10, 26), by decide, rfl, rfl, (fun z hz => by
        simp only [List.mem_cons, List.not_mem_nil, or_false] at hz
        subst hz
        exact ⟨1, by decide, by decide, rfl⟩), rfl, by decide, by decide, Nat.le_of_ble_eq_true rfl, Or.inr ⟨2, rfl, dL_pass_10, ?_⟩⟩
      show WP mL_pass 42 0 11 [some (vR 8 i0), some (vI x1), none] [] (cM m9 out w) _ _
      refine wp_ldc ct_L_28 dL_pass_11 ?_
      refine wp_ireturn rfl dL_pass_13 ⟨?_, rfl⟩
      exact congrArg (fun x => some (vI x)) (Option.some.inj hv)
  · obtain ⟨⟨x, hx, rfl⟩, rfl⟩ := z
    exact wp_ireturn rfl dL_pass_5 ⟨by rw [hi x hx], rfl⟩
def fW_policy (i0 : Nat) (x1 x2 x3 x4 : Int32) (m : CM) : CR Int32 := ctc (fun x => x) (fun j => if j = 0 then some (-1000001) else if j = 1 then some (-1000002) else none) (f8_X8_policy i0 x1 x2 x3 x4 m)
theorem okL_policy : MIokW mL_policy 5 := ⟨cd_L_policy, in_L, by decide +kernel, by decide⟩
theorem wL_policy {r : Int32} {m9 : CM} {i0 : Nat} {x1 x2 x3 x4 : Int32} {m : CM} {n9 : Nat} (h9 : fW_policy i0 x1 x2 x3 x4 m = some (r, m9, n9)) : SpecW mL_policy 10 n9 [vR 8 i0, vI x1, vI x2, vI x3, vI x4] (cM m out w) (PW out r (m9, w)) NX := by
  obtain ⟨v9, h, hi, hr⟩ := ctc_e h9
  have hjs : ∀ (j : Nat) {v : Int32}, (if j = 0 then some (-1000001) else if j = 1 then some (-1000002) else none) = some v → j = 0 ∨ j = 1 := fun j v hv => by
    by_cases z0 : j = 0
    · exact Or.inl z0
    by_cases z1 : j = 1
    · exact Or.inr (z1)
    · rw [if_neg z0] at hv; rw [if_neg z1] at hv; cases hv
  refine specW_of (by decide) rfl (by simp [catS, cat1]) (Nat.le_of_ble_eq_true rfl) ?_
  show WP mL_policy 10 n9 0 [some (vR 8 i0), some (vI x1), some (vI x2), some (vI x3), some (vI x4), none] [] (cM m out w) _ NX
  refine wp_aload_n dL_policy_0 rfl ?_
  refine wp_iload_n dL_policy_1 rfl ?_
  refine wp_iload_n dL_policy_2 rfl ?_
  refine wp_iload_n dL_policy_3 rfl ?_
  refine wp_iload dL_policy_4 rfl ?_
  refine wp_callVH (k1 := n9) (k2 := 0) (As := [vI x1, vI x2, vI x3, vI x4]) (rest := []) rfl (w8_X8_policy h) okX8_policy ivX8_policy rfl (by decide) ml_L_37 dL_policy_6 (by decide) (Nat.le_refl _) rfl (Nat.le_of_ble_eq_true rfl) (fun E S' z => ?_) (fun r' S' z => ?_)
  · obtain ⟨⟨j, hj, hj3, rfl⟩, rfl⟩ := z
    obtain ⟨v, hv, rfl⟩ := hr j hj
    rcases hjs j hv with rfl | rfl
    · refine ⟨0, 5, [], [(0, 9, 15, 19)], (0, 9, 10, 16), by decide, rfl, rfl, (fun z hz => by cases hz), rfl, by decide, by decide, Nat.le_of_ble_eq_true rfl, Or.inl ⟨dL_policy_10, ?_⟩⟩
      show WP mL_policy 10 0 12 [some (vR 8 i0), some (vI x1), some (vI x2), some (vI x3), some (vI x4), none] [] (cM m9 out w) _ _
      refine wp_ldc ct_L_18 dL_policy_12 ?_
      refine wp_ireturn rfl dL_policy_14 ⟨?_, rfl⟩
      exact congrArg (fun x => some (vI x)) (Option.some.inj hv)
    · refine ⟨1, 5, [(0, 9, 10, 16)], [], (0, 9, 15, 19), by decide, rfl, rfl, (fun z hz => by
        simp only [List.mem_cons, List.not_mem_nil, or_false] at hz
        subst hz
        exact ⟨0, by decide, by decide, rfl⟩), rfl, by decide, by decide, Nat.le_of_ble_eq_true rfl, Or.inl ⟨dL_policy_15, ?_⟩⟩
      show WP mL_policy 10 0 17 [some (vR 8 i0), some (vI x1), some (vI x2), some (vI x3), some (vI x4), none] [] (cM m9 out w) _ _
      refine wp_ldc ct_L_21 dL_policy_17 ?_
      refine wp_ireturn rfl dL_policy_19 ⟨?_, rfl⟩
      exact congrArg (fun x => some (vI x)) (Option.some.inj hv)
  · obtain ⟨⟨x, hx, rfl⟩, rfl⟩ := z
    exact wp_ireturn rfl dL_policy_9 ⟨by rw [hi x hx], rfl⟩
def fW_request (i0 : Nat) (x1 x2 x3 : Int32) (m : CM) : CR Int32 := ctc (fun x => x) (fun j => if j = 0 then some (-1000001) else if j = 1 then some (-1000002) else if j = 2 then some (-1000003) else none) (f8_X8_request i0 x1 x2 x3 m)
theorem okL_request : MIokW mL_request 4 := ⟨cd_L_request, in_L, by decide +kernel, by decide⟩
theorem wL_request {r : Int32} {m9 : CM} {i0 : Nat} {x1 x2 x3 : Int32} {m : CM} {n9 : Nat} (h9 : fW_request i0 x1 x2 x3 m = some (r, m9, n9)) : SpecW mL_request 41 n9 [vR 8 i0, vI x1, vI x2, vI x3] (cM m out w) (PW out r (m9, w)) NX := by
  obtain ⟨v9, h, hi, hr⟩ := ctc_e h9
  have hjs : ∀ (j : Nat) {v : Int32}, (if j = 0 then some (-1000001) else if j = 1 then some (-1000002) else if j = 2 then some (-1000003) else none) = some v → j = 0 ∨ j = 1 ∨ j = 2 := fun j v hv => by
    by_cases z0 : j = 0
    · exact Or.inl z0
    by_cases z1 : j = 1
    · exact Or.inr (Or.inl z1)
    by_cases z2 : j = 2
    · exact Or.inr (Or.inr (z2))
    · rw [if_neg z0] at hv; rw [if_neg z1] at hv; rw [if_neg z2] at hv; cases hv
  refine specW_of (by decide) rfl (by simp [catS, cat1]) (Nat.le_of_ble_eq_true rfl) ?_
  show WP mL_request 41 n9 0 [some (vR 8 i0), some (vI x1), some (vI x2), some (vI x3), none] [] (cM m out w) _ NX
  refine wp_aload_n dL_request_0 rfl ?_
  refine wp_iload_n dL_request_1 rfl ?_
  refine wp_iload_n dL_request_2 rfl ?_
  refine wp_iload_n dL_request_3 rfl ?_
  refine wp_callVH (k1 := n9) (k2 := 0) (As := [vI x1, vI x2, vI x3]) (rest := []) rfl (w8_X8_request h) okX8_request ivX8_request rfl (by decide) ml_L_55 dL_request_4 (by decide) (Nat.le_refl _) rfl (Nat.le_of_ble_eq_true rfl) (fun E S' z => ?_) (fun r' S' z => ?_)
  · obtain ⟨⟨j, hj, hj3, rfl⟩, rfl⟩ := z
    obtain ⟨v, hv, rfl⟩ := hr j hj
    rcases hjs j hv with rfl | rfl | rfl
    · refine ⟨0, 4, [], [(0, 7, 13, 19), (0, 7, 18, 26)], (0, 7, 8, 16), by decide, rfl, rfl, (fun z hz => by cases hz), rfl, by decide, by decide, Nat.le_of_ble_eq_true rfl, Or.inl ⟨dL_request_8, ?_⟩⟩
      show WP mL_request 41 0 10 [some (vR 8 i0), some (vI x1), some (vI x2), some (vI x3), none] [] (cM m9 out w) _ _
      refine wp_ldc ct_L_18 dL_request_10 ?_
      refine wp_ireturn rfl dL_request_12 ⟨?_, rfl⟩
      exact congrArg (fun x => some (vI x)) (Option.some.inj hv)
    · refine ⟨1, 4, [(0, 7, 8, 16)], [(0, 7, 18, 26)], (0, 7, 13, 19), by decide, rfl, rfl, (fun z hz => by
        simp only [List.mem_cons, List.not_mem_nil, or_false] at hz
        subst hz
        exact ⟨0, by decide, by decide, rfl⟩), rfl, by decide, by decide, Nat.le_of_ble_eq_true rfl, Or.inl ⟨dL_request_13, ?_⟩⟩
      show WP mL_request 41 0 15 [some (vR 8 i0), some (vI x1), some (vI x2), some (vI x3), none] [] (cM m9 out w) _ _
      refine wp_ldc ct_L_21 dL_request_15 ?_
      refine wp_ireturn rfl dL_request_17 ⟨?_, rfl⟩
      exact congrArg (fun x => some (vI x)) (Option.some.inj hv)
    · refine ⟨2, 4, [(0, 7, 8, 16), (0, 7, 13, 19)], [], (0, 7, 18, 26), by decide, rfl, rfl, (fun z hz => by
        simp only [List.mem_cons, List.not_mem_nil, or_false] at hz
        rcases hz with rfl | rfl
        · exact ⟨0, by decide, by decide, rfl⟩
        · exact ⟨1, by decide, by decide, rfl⟩), rfl, by decide, by decide, Nat.le_of_ble_eq_true rfl, Or.inl ⟨dL_request_18, ?_⟩⟩
      show WP mL_request 41 0 20 [some (vR 8 i0), some (vI x1), some (vI x2), some (vI x3), none] [] (cM m9 out w) _ _
      refine wp_ldc ct_L_28 dL_request_20 ?_
      refine wp_ireturn rfl dL_request_22 ⟨?_, rfl⟩
      exact congrArg (fun x => some (vI x)) (Option.some.inj hv)
  · obtain ⟨⟨x, hx, rfl⟩, rfl⟩ := z
    exact wp_ireturn rfl dL_request_7 ⟨by rw [hi x hx], rfl⟩
def fW_requestState (i0 : Nat) (x1 : Int32) (m : CM) : CR Int32 := ctc (fun x => x) (fun j => if j = 0 then some (-1000001) else none) (f8_X8_requestState i0 x1 m)
theorem okL_requestState : MIokW mL_requestState 2 := ⟨cd_L_requestState, in_L, by decide +kernel, by decide⟩
theorem wL_requestState {r : Int32} {m9 : CM} {i0 : Nat} {x1 : Int32} {m : CM} {n9 : Nat} (h9 : fW_requestState i0 x1 m = some (r, m9, n9)) : SpecW mL_requestState 10 n9 [vR 8 i0, vI x1] (cM m out w) (PW out r (m9, w)) NX := by
  obtain ⟨v9, h, hi, hr⟩ := ctc_e h9
  have hjs : ∀ (j : Nat) {v : Int32}, (if j = 0 then some (-1000001) else none) = some v → j = 0 := fun j v hv => by
    by_cases z0 : j = 0
    · exact z0
    · rw [if_neg z0] at hv; cases hv
  refine specW_of (by decide) rfl (by simp [catS, cat1]) (Nat.le_of_ble_eq_true rfl) ?_
  show WP mL_requestState 10 n9 0 [some (vR 8 i0), some (vI x1), none] [] (cM m out w) _ NX
  refine wp_aload_n dL_requestState_0 rfl ?_
  refine wp_iload_n dL_requestState_1 rfl ?_
  refine wp_callVH (k1 := n9) (k2 := 0) (As := [vI x1]) (rest := []) rfl (w8_X8_requestState h) okX8_requestState ivX8_requestState rfl (by decide) ml_L_62 dL_requestState_2 (by decide) (Nat.le_refl _) rfl (Nat.le_of_ble_eq_true rfl) (fun E S' z => ?_) (fun r' S' z => ?_)
  · obtain ⟨⟨j, hj, hj3, rfl⟩, rfl⟩ := z
    obtain ⟨v, hv, rfl⟩ := hr j hj
    rcases hjs j hv with rfl
    · refine ⟨0, 2, [], [], (0, 5, 6, 16), by decide, rfl, rfl, (fun z hz => by cases hz), rfl, by decide, by decide, Nat.le_of_ble_eq_true rfl, Or.inr ⟨2, rfl, dL_requestState_6, ?_⟩⟩
      show WP mL_requestState 10 0 7 [some (vR 8 i0), some (vI x1), none] [] (cM m9 out w) _ _
      refine wp_ldc ct_L_18 dL_requestState_7 ?_
      refine wp_ireturn rfl dL_requestState_9 ⟨?_, rfl⟩
      exact congrArg (fun x => some (vI x)) (Option.some.inj hv)
  · obtain ⟨⟨x, hx, rfl⟩, rfl⟩ := z
    exact wp_ireturn rfl dL_requestState_5 ⟨by rw [hi x hx], rfl⟩
def fW_requestTicks (i0 : Nat) (x1 : Int32) (m : CM) : CR Int32 := ctc (fun x => x) (fun j => if j = 0 then some (-1000001) else none) (f8_X8_requestTicks i0 x1 m)
theorem okL_requestTicks : MIokW mL_requestTicks 2 := ⟨cd_L_requestTicks, in_L, by decide +kernel, by decide⟩
theorem wL_requestTicks {r : Int32} {m9 : CM} {i0 : Nat} {x1 : Int32} {m : CM} {n9 : Nat} (h9 : fW_requestTicks i0 x1 m = some (r, m9, n9)) : SpecW mL_requestTicks 10 n9 [vR 8 i0, vI x1] (cM m out w) (PW out r (m9, w)) NX := by
  obtain ⟨v9, h, hi, hr⟩ := ctc_e h9
  have hjs : ∀ (j : Nat) {v : Int32}, (if j = 0 then some (-1000001) else none) = some v → j = 0 := fun j v hv => by
    by_cases z0 : j = 0
    · exact z0
    · rw [if_neg z0] at hv; cases hv
  refine specW_of (by decide) rfl (by simp [catS, cat1]) (Nat.le_of_ble_eq_true rfl) ?_
  show WP mL_requestTicks 10 n9 0 [some (vR 8 i0), some (vI x1), none] [] (cM m out w) _ NX
  refine wp_aload_n dL_requestTicks_0 rfl ?_
  refine wp_iload_n dL_requestTicks_1 rfl ?_
  refine wp_callVH (k1 := n9) (k2 := 0) (As := [vI x1]) (rest := []) rfl (w8_X8_requestTicks h) okX8_requestTicks ivX8_requestTicks rfl (by decide) ml_L_65 dL_requestTicks_2 (by decide) (Nat.le_refl _) rfl (Nat.le_of_ble_eq_true rfl) (fun E S' z => ?_) (fun r' S' z => ?_)
  · obtain ⟨⟨j, hj, hj3, rfl⟩, rfl⟩ := z
    obtain ⟨v, hv, rfl⟩ := hr j hj
    rcases hjs j hv with rfl
    · refine ⟨0, 2, [], [], (0, 5, 6, 16), by decide, rfl, rfl, (fun z hz => by cases hz), rfl, by decide, by decide, Nat.le_of_ble_eq_true rfl, Or.inr ⟨2, rfl, dL_requestTicks_6, ?_⟩⟩
      show WP mL_requestTicks 10 0 7 [some (vR 8 i0), some (vI x1), none] [] (cM m9 out w) _ _
      refine wp_ldc ct_L_18 dL_requestTicks_7 ?_
      refine wp_ireturn rfl dL_requestTicks_9 ⟨?_, rfl⟩
      exact congrArg (fun x => some (vI x)) (Option.some.inj hv)
  · obtain ⟨⟨x, hx, rfl⟩, rfl⟩ := z
    exact wp_ireturn rfl dL_requestTicks_5 ⟨by rw [hi x hx], rfl⟩
def fW_share (i0 : Nat) (x1 x2 : Int32) (m : CM) : CR Int32 := ctc (fun x => x) (fun j => if j = 0 then some (-1000001) else if j = 1 then some (-1000002) else none) (f8_X8_share i0 x1 x2 m)
theorem okL_share : MIokW mL_share 3 := ⟨cd_L_share, in_L, by decide +kernel, by decide⟩
theorem wL_share {r : Int32} {m9 : CM} {i0 : Nat} {x1 x2 : Int32} {m : CM} {n9 : Nat} (h9 : fW_share i0 x1 x2 m = some (r, m9, n9)) : SpecW mL_share 10 n9 [vR 8 i0, vI x1, vI x2] (cM m out w) (PW out r (m9, w)) NX := by
  obtain ⟨v9, h, hi, hr⟩ := ctc_e h9
  have hjs : ∀ (j : Nat) {v : Int32}, (if j = 0 then some (-1000001) else if j = 1 then some (-1000002) else none) = some v → j = 0 ∨ j = 1 := fun j v hv => by
    by_cases z0 : j = 0
    · exact Or.inl z0
    by_cases z1 : j = 1
    · exact Or.inr (z1)
    · rw [if_neg z0] at hv; rw [if_neg z1] at hv; cases hv
  refine specW_of (by decide) rfl (by simp [catS, cat1]) (Nat.le_of_ble_eq_true rfl) ?_
  show WP mL_share 10 n9 0 [some (vR 8 i0), some (vI x1), some (vI x2), none] [] (cM m out w) _ NX
  refine wp_aload_n dL_share_0 rfl ?_
  refine wp_iload_n dL_share_1 rfl ?_
  refine wp_iload_n dL_share_2 rfl ?_
  refine wp_callVH (k1 := n9) (k2 := 0) (As := [vI x1, vI x2]) (rest := []) rfl (w8_X8_share h) okX8_share ivX8_share rfl (by decide) ml_L_41 dL_share_3 (by decide) (Nat.le_refl _) rfl (Nat.le_of_ble_eq_true rfl) (fun E S' z => ?_) (fun r' S' z => ?_)
  · obtain ⟨⟨j, hj, hj3, rfl⟩, rfl⟩ := z
    obtain ⟨v, hv, rfl⟩ := hr j hj
    rcases hjs j hv with rfl | rfl
    · refine ⟨0, 3, [], [(0, 6, 11, 19)], (0, 6, 7, 16), by decide, rfl, rfl, (fun z hz => by cases hz), rfl, by decide, by decide, Nat.le_of_ble_eq_true rfl, Or.inr ⟨3, rfl, dL_share_7, ?_⟩⟩
      show WP mL_share 10 0 8 [some (vR 8 i0), some (vI x1), some (vI x2), none] [] (cM m9 out w) _ _
      refine wp_ldc ct_L_18 dL_share_8 ?_
      refine wp_ireturn rfl dL_share_10 ⟨?_, rfl⟩
      exact congrArg (fun x => some (vI x)) (Option.some.inj hv)
    · refine ⟨1, 3, [(0, 6, 7, 16)], [], (0, 6, 11, 19), by decide, rfl, rfl, (fun z hz => by
        simp only [List.mem_cons, List.not_mem_nil, or_false] at hz
        subst hz
        exact ⟨0, by decide, by decide, rfl⟩), rfl, by decide, by decide, Nat.le_of_ble_eq_true rfl, Or.inr ⟨3, rfl, dL_share_11, ?_⟩⟩
      show WP mL_share 10 0 12 [some (vR 8 i0), some (vI x1), some (vI x2), none] [] (cM m9 out w) _ _
      refine wp_ldc ct_L_21 dL_share_12 ?_
      refine wp_ireturn rfl dL_share_14 ⟨?_, rfl⟩
      exact congrArg (fun x => some (vI x)) (Option.some.inj hv)
  · obtain ⟨⟨x, hx, rfl⟩, rfl⟩ := z
    exact wp_ireturn rfl dL_share_6 ⟨by rw [hi x hx], rfl⟩
def fW_step (i0 : Nat) (x1 x2 x3 x4 : Int32) (m : CM) : CR Int32 := ctc (fun x => x) (fun j => if j = 0 then some (-1000001) else if j = 1 then some (-1000002) else if j = 2 then some (-1000003) else none) (f8_X8_step i0 x1 x2 x3 x4 m)
theorem okL_step : MIokW mL_step 5 := ⟨cd_L_step, in_L, by decide +kernel, by decide⟩
theorem wL_step {r : Int32} {m9 : CM} {i0 : Nat} {x1 x2 x3 x4 : Int32} {m : CM} {n9 : Nat} (h9 : fW_step i0 x1 x2 x3 x4 m = some (r, m9, n9)) : SpecW mL_step 10 n9 [vR 8 i0, vI x1, vI x2, vI x3, vI x4] (cM m out w) (PW out r (m9, w)) NX := by
  obtain ⟨v9, h, hi, hr⟩ := ctc_e h9
  have hjs : ∀ (j : Nat) {v : Int32}, (if j = 0 then some (-1000001) else if j = 1 then some (-1000002) else if j = 2 then some (-1000003) else none) = some v → j = 0 ∨ j = 1 ∨ j = 2 := fun j v hv => by
    by_cases z0 : j = 0
    · exact Or.inl z0
    by_cases z1 : j = 1
    · exact Or.inr (Or.inl z1)
    by_cases z2 : j = 2
    · exact Or.inr (Or.inr (z2))
    · rw [if_neg z0] at hv; rw [if_neg z1] at hv; rw [if_neg z2] at hv; cases hv
  refine specW_of (by decide) rfl (by simp [catS, cat1]) (Nat.le_of_ble_eq_true rfl) ?_
  show WP mL_step 10 n9 0 [some (vR 8 i0), some (vI x1), some (vI x2), some (vI x3), some (vI x4), none] [] (cM m out w) _ NX
  refine wp_aload_n dL_step_0 rfl ?_
  refine wp_iload_n dL_step_1 rfl ?_
  refine wp_iload_n dL_step_2 rfl ?_
  refine wp_iload_n dL_step_3 rfl ?_
  refine wp_iload dL_step_4 rfl ?_
  refine wp_callVH (k1 := n9) (k2 := 0) (As := [vI x1, vI x2, vI x3, vI x4]) (rest := []) rfl (w8_X8_step h) okX8_step ivX8_step rfl (by decide) ml_L_22 dL_step_6 (by decide) (Nat.le_refl _) rfl (Nat.le_of_ble_eq_true rfl) (fun E S' z => ?_) (fun r' S' z => ?_)
  · obtain ⟨⟨j, hj, hj3, rfl⟩, rfl⟩ := z
    obtain ⟨v, hv, rfl⟩ := hr j hj
    rcases hjs j hv with rfl | rfl | rfl
    · refine ⟨0, 5, [], [(0, 9, 15, 19), (0, 9, 20, 26)], (0, 9, 10, 16), by decide, rfl, rfl, (fun z hz => by cases hz), rfl, by decide, by decide, Nat.le_of_ble_eq_true rfl, Or.inl ⟨dL_step_10, ?_⟩⟩
      show WP mL_step 10 0 12 [some (vR 8 i0), some (vI x1), some (vI x2), some (vI x3), some (vI x4), none] [] (cM m9 out w) _ _
      refine wp_ldc ct_L_18 dL_step_12 ?_
      refine wp_ireturn rfl dL_step_14 ⟨?_, rfl⟩
      exact congrArg (fun x => some (vI x)) (Option.some.inj hv)
    · refine ⟨1, 5, [(0, 9, 10, 16)], [(0, 9, 20, 26)], (0, 9, 15, 19), by decide, rfl, rfl, (fun z hz => by
        simp only [List.mem_cons, List.not_mem_nil, or_false] at hz
        subst hz
        exact ⟨0, by decide, by decide, rfl⟩), rfl, by decide, by decide, Nat.le_of_ble_eq_true rfl, Or.inl ⟨dL_step_15, ?_⟩⟩
      show WP mL_step 10 0 17 [some (vR 8 i0), some (vI x1), some (vI x2), some (vI x3), some (vI x4), none] [] (cM m9 out w) _ _
      refine wp_ldc ct_L_21 dL_step_17 ?_
      refine wp_ireturn rfl dL_step_19 ⟨?_, rfl⟩
      exact congrArg (fun x => some (vI x)) (Option.some.inj hv)
    · refine ⟨2, 5, [(0, 9, 10, 16), (0, 9, 15, 19)], [], (0, 9, 20, 26), by decide, rfl, rfl, (fun z hz => by
        simp only [List.mem_cons, List.not_mem_nil, or_false] at hz
        rcases hz with rfl | rfl
        · exact ⟨0, by decide, by decide, rfl⟩
        · exact ⟨1, by decide, by decide, rfl⟩), rfl, by decide, by decide, Nat.le_of_ble_eq_true rfl, Or.inl ⟨dL_step_20, ?_⟩⟩
      show WP mL_step 10 0 22 [some (vR 8 i0), some (vI x1), some (vI x2), some (vI x3), some (vI x4), none] [] (cM m9 out w) _ _
      refine wp_ldc ct_L_28 dL_step_22 ?_
      refine wp_ireturn rfl dL_step_24 ⟨?_, rfl⟩
      exact congrArg (fun x => some (vI x)) (Option.some.inj hv)
  · obtain ⟨⟨x, hx, rfl⟩, rfl⟩ := z
    exact wp_ireturn rfl dL_step_9 ⟨by rw [hi x hx], rfl⟩
def fW_work (i0 : Nat) (x1 x2 : Int32) (m : CM) : CR Int32 := ctc (fun x => x) (fun j => if j = 0 then some (-1000001) else if j = 1 then some (-1000002) else none) (f8_X8_work i0 x1 x2 m)
theorem okL_work : MIokW mL_work 3 := ⟨cd_L_work, in_L, by decide +kernel, by decide⟩
theorem wL_work {r : Int32} {m9 : CM} {i0 : Nat} {x1 x2 : Int32} {m : CM} {n9 : Nat} (h9 : fW_work i0 x1 x2 m = some (r, m9, n9)) : SpecW mL_work 10 n9 [vR 8 i0, vI x1, vI x2] (cM m out w) (PW out r (m9, w)) NX := by
  obtain ⟨v9, h, hi, hr⟩ := ctc_e h9
  have hjs : ∀ (j : Nat) {v : Int32}, (if j = 0 then some (-1000001) else if j = 1 then some (-1000002) else none) = some v → j = 0 ∨ j = 1 := fun j v hv => by
    by_cases z0 : j = 0
    · exact Or.inl z0
    by_cases z1 : j = 1
    · exact Or.inr (z1)
    · rw [if_neg z0] at hv; rw [if_neg z1] at hv; cases hv
  refine specW_of (by decide) rfl (by simp [catS, cat1]) (Nat.le_of_ble_eq_true rfl) ?_
  show WP mL_work 10 n9 0 [some (vR 8 i0), some (vI x1), some (vI x2), none] [] (cM m out w) _ NX
  refine wp_aload_n dL_work_0 rfl ?_
  refine wp_iload_n dL_work_1 rfl ?_
  refine wp_iload_n dL_work_2 rfl ?_
  refine wp_callVH (k1 := n9) (k2 := 0) (As := [vI x1, vI x2]) (rest := []) rfl (w8_X8_work h) okX8_work ivX8_work rfl (by decide) ml_L_10 dL_work_3 (by decide) (Nat.le_refl _) rfl (Nat.le_of_ble_eq_true rfl) (fun E S' z => ?_) (fun r' S' z => ?_)
  · obtain ⟨⟨j, hj, hj3, rfl⟩, rfl⟩ := z
    obtain ⟨v, hv, rfl⟩ := hr j hj
    rcases hjs j hv with rfl | rfl
    · refine ⟨0, 3, [], [(0, 6, 11, 19)], (0, 6, 7, 16), by decide, rfl, rfl, (fun z hz => by cases hz), rfl, by decide, by decide, Nat.le_of_ble_eq_true rfl, Or.inr ⟨3, rfl, dL_work_7, ?_⟩⟩
      show WP mL_work 10 0 8 [some (vR 8 i0), some (vI x1), some (vI x2), none] [] (cM m9 out w) _ _
      refine wp_ldc ct_L_18 dL_work_8 ?_
      refine wp_ireturn rfl dL_work_10 ⟨?_, rfl⟩
      exact congrArg (fun x => some (vI x)) (Option.some.inj hv)
    · refine ⟨1, 3, [(0, 6, 7, 16)], [], (0, 6, 11, 19), by decide, rfl, rfl, (fun z hz => by
        simp only [List.mem_cons, List.not_mem_nil, or_false] at hz
        subst hz
        exact ⟨0, by decide, by decide, rfl⟩), rfl, by decide, by decide, Nat.le_of_ble_eq_true rfl, Or.inr ⟨3, rfl, dL_work_11, ?_⟩⟩
      show WP mL_work 10 0 12 [some (vR 8 i0), some (vI x1), some (vI x2), none] [] (cM m9 out w) _ _
      refine wp_ldc ct_L_21 dL_work_12 ?_
      refine wp_ireturn rfl dL_work_14 ⟨?_, rfl⟩
      exact congrArg (fun x => some (vI x)) (Option.some.inj hv)
  · obtain ⟨⟨x, hx, rfl⟩, rfl⟩ := z
    exact wp_ireturn rfl dL_work_6 ⟨by rw [hi x hx], rfl⟩
end LW9
