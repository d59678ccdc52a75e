section LW9
/-- what the law's own methods answer: 0, or which exception -/
def PL (out : Int64) (rho : RH) (r : Int32 ⊕ Nat) (ov : Int32 → Int64) (cd : Nat → Int32) (m9 : CM) : Option sV → OM → Prop := fun r' S' => (∃ x, r = .inl x ∧ r' = some (vI 0) ∧ S' = cM m9 (ov x) rho) ∨ (∃ j, r = .inr j ∧ r' = some (vI (cd j)) ∧ S' = cM m9 out rho)
theorem cp_lastore {mi : MI} {d k pc : Nat} {L : List (Option sV)} {st : List sV} {Q : Option sV → OM → Prop} {QX : String → OM → Prop} {m : CM} {out : Int64} {rho : RH} {j : Int32} {x : Int64} (hj : j = 0) (hd : decode mi.2.1 pc = .ok (.lastore, 1))
    (h : WP mi d k (pc + 1) L st (cM m x rho) Q QX) : WP mi d k pc L (vL x :: vI j :: vR 70 0 :: st) (cM m out rho) Q QX := wp_lastore hj hd h
variable {out : Int64} {rho : RH}
theorem wL_breaker {r : Int32 ⊕ Nat} {m9 : CM} {i0 : Nat} {x1 x2 : Int32} {m : CM} {n9 : Nat} (hr : ∀ j, r = .inr j → j = 0) (h : f8_X8_breaker i0 x1 x2 m = some (r, m9, n9)) : SpecW mL_breaker 10 n9 [vR 8 i0, vI x1, vI x2, vR 70 0] (cM m out rho) (PL out rho r (fun x => x.toInt64) (fun j => 1) m9) NX := by
  refine specW_of (by decide) rfl (by simp [catS, cat1]) (Nat.le_of_ble_eq_true rfl) ?_
  show WP mL_breaker 10 n9 0 [some (vR 8 i0), some (vI x1), some (vI x2), some (vR 70 0), none] [] (cM m out rho) _ NX
  refine wp_aload_n dL_breaker_0 rfl ?_
  refine wp_iconst (v := 0) dL_breaker_1 (by decide) ?_
  refine wp_aload_n dL_breaker_2 rfl ?_
  refine wp_iload_n dL_breaker_3 rfl ?_
  refine wp_iload_n dL_breaker_4 rfl ?_
  refine wp_callVH (k1 := n9) (k2 := 0) (As := [vI x1, vI x2]) (rest := [vI 0, vR 70 0]) rfl (w8_X8_breaker h) okX8_breaker ivX8_breaker rfl (by decide) ml_L_75 dL_breaker_5 (by decide) (Nat.le_refl _) rfl (Nat.le_of_ble_eq_true rfl) (fun E S' z => ?_) (fun r' S' z => ?_)
  · obtain ⟨⟨j, hj, hj3, rfl⟩, rfl⟩ := z
    rcases hr j hj with rfl
    · refine ⟨0, 4, [], [], (0, 10, 13, 13), by decide, rfl, rfl, (fun z hz => by cases hz), rfl, by decide, by decide, Nat.le_of_ble_eq_true rfl, Or.inl ⟨dL_breaker_13, ?_⟩⟩
      show WP mL_breaker 10 0 15 [some (vR 8 i0), some (vI x1), some (vI x2), some (vR 70 0), none] [] (cM m9 out rho) _ _
      refine wp_iconst (v := 1) dL_breaker_15 (by decide) ?_
      exact wp_ireturn rfl dL_breaker_16 (Or.inr ⟨0, hj, rfl, rfl⟩)
  · obtain ⟨⟨x, hx, rfl⟩, rfl⟩ := z
    show WP mL_breaker 10 0 8 [some (vR 8 i0), some (vI x1), some (vI x2), some (vR 70 0), none] [vI x, vI 0, vR 70 0] (cM m9 out rho) _ _
    refine wp_i2l dL_breaker_8 ?_
    refine cp_lastore rfl dL_breaker_9 ?_
    refine wp_goto (tgt := 17) dL_breaker_10 (by decide) ?_
    refine wp_iconst (v := 0) dL_breaker_17 (by decide) ?_
    exact wp_ireturn rfl dL_breaker_18 (Or.inl ⟨x, hx, rfl, rfl⟩)
theorem wL_budget {r : Int32 ⊕ Nat} {m9 : CM} {i0 : Nat} {x1 : Int32} {m : CM} {n9 : Nat} (hr : ∀ j, r = .inr j → j = 0) (h : f8_X8_budget i0 x1 m = some (r, m9, n9)) : SpecW mL_budget 10 n9 [vR 8 i0, vI x1, vR 70 0] (cM m out rho) (PL out rho r (fun x => x.toInt64) (fun j => 1) m9) NX := by
  refine specW_of (by decide) rfl (by simp [catS, cat1]) (Nat.le_of_ble_eq_true rfl) ?_
  show WP mL_budget 10 n9 0 [some (vR 8 i0), some (vI x1), some (vR 70 0), none] [] (cM m out rho) _ NX
  refine wp_aload_n dL_budget_0 rfl ?_
  refine wp_iconst (v := 0) dL_budget_1 (by decide) ?_
  refine wp_aload_n dL_budget_2 rfl ?_
  refine wp_iload_n dL_budget_3 rfl ?_
  refine wp_callVH (k1 := n9) (k2 := 0) (As := [vI x1]) (rest := [vI 0, vR 70 0]) rfl (w8_X8_budget h) okX8_budget ivX8_budget rfl (by decide) ml_L_72 dL_budget_4 (by decide) (Nat.le_refl _) rfl (Nat.le_of_ble_eq_true rfl) (fun E S' z => ?_) (fun r' S' z => ?_)
  · obtain ⟨⟨j, hj, hj3, rfl⟩, rfl⟩ := z
    rcases hr j hj with rfl
    · refine ⟨0, 3, [], [], (0, 9, 12, 13), by decide, rfl, rfl, (fun z hz => by cases hz), rfl, by decide, by decide, Nat.le_of_ble_eq_true rfl, Or.inr ⟨3, rfl, dL_budget_12, ?_⟩⟩
      show WP mL_budget 10 0 13 [some (vR 8 i0), some (vI x1), some (vR 70 0), none] [] (cM m9 out rho) _ _
      refine wp_iconst (v := 1) dL_budget_13 (by decide) ?_
      exact wp_ireturn rfl dL_budget_14 (Or.inr ⟨0, hj, rfl, rfl⟩)
  · obtain ⟨⟨x, hx, rfl⟩, rfl⟩ := z
    show WP mL_budget 10 0 7 [some (vR 8 i0), some (vI x1), some (vR 70 0), none] [vI x, vI 0, vR 70 0] (cM m9 out rho) _ _
    refine wp_i2l dL_budget_7 ?_
    refine cp_lastore rfl dL_budget_8 ?_
    refine wp_goto (tgt := 15) dL_budget_9 (by decide) ?_
    refine wp_iconst (v := 0) dL_budget_15 (by decide) ?_
    exact wp_ireturn rfl dL_budget_16 (Or.inl ⟨x, hx, rfl, rfl⟩)
theorem wL_call {r : Int32 ⊕ Nat} {m9 : CM} {i0 : Nat} {x1 x2 : Int32} {m : CM} {n9 : Nat} (hr : ∀ j, r = .inr j → j = 0 ∨ j = 1) (h : f8_X8_call i0 x1 x2 m = some (r, m9, n9)) : SpecW mL_call 10 n9 [vR 8 i0, vI x1, vI x2, vR 70 0] (cM m out rho) (PL out rho r (fun x => x.toInt64) (fun j => if j = 0 then 1 else 2) m9) NX := by
  refine specW_of (by decide) rfl (by simp [catS, cat1]) (Nat.le_of_ble_eq_true rfl) ?_
  show WP mL_call 10 n9 0 [some (vR 8 i0), some (vI x1), some (vI x2), some (vR 70 0), none] [] (cM m out rho) _ NX
  refine wp_aload_n dL_call_0 rfl ?_
  refine wp_iconst (v := 0) dL_call_1 (by decide) ?_
  refine wp_aload_n dL_call_2 rfl ?_
  refine wp_iload_n dL_call_3 rfl ?_
  refine wp_iload_n dL_call_4 rfl ?_
  refine wp_callVH (k1 := n9) (k2 := 0) (As := [vI x1, vI x2]) (rest := [vI 0, vR 70 0]) rfl (w8_X8_call h) okX8_call ivX8_call rfl (by decide) ml_L_69 dL_call_5 (by decide) (Nat.le_refl _) rfl (Nat.le_of_ble_eq_true rfl) (fun E S' z => ?_) (fun r' S' z => ?_)
  · obtain ⟨⟨j, hj, hj3, rfl⟩, rfl⟩ := z
    rcases hr j hj with rfl | rfl
    · refine ⟨0, 4, [], [(0, 10, 17, 15)], (0, 10, 13, 13), by decide, rfl, rfl, (fun z hz => by cases hz), rfl, by decide, by decide, Nat.le_of_ble_eq_true rfl, Or.inl ⟨dL_call_13, ?_⟩⟩
      show WP mL_call 10 0 15 [some (vR 8 i0), some (vI x1), some (vI x2), some (vR 70 0), none] [] (cM m9 out rho) _ _
      refine wp_iconst (v := 1) dL_call_15 (by decide) ?_
      exact wp_ireturn rfl dL_call_16 (Or.inr ⟨0, hj, rfl, rfl⟩)
    · refine ⟨1, 4, [(0, 10, 13, 13)], [], (0, 10, 17, 15), by decide, rfl, rfl, (fun z hz => by
        simp only [List.mem_cons, List.not_mem_nil, or_false] at hz
        subst hz
        exact ⟨0, by decide, by decide, rfl⟩), rfl, by decide, by decide, Nat.le_of_ble_eq_true rfl, Or.inl ⟨dL_call_17, ?_⟩⟩
      show WP mL_call 10 0 19 [some (vR 8 i0), some (vI x1), some (vI x2), some (vR 70 0), none] [] (cM m9 out rho) _ _
      refine wp_iconst (v := 2) dL_call_19 (by decide) ?_
      exact wp_ireturn rfl dL_call_20 (Or.inr ⟨1, hj, rfl, rfl⟩)
  · obtain ⟨⟨x, hx, rfl⟩, rfl⟩ := z
    show WP mL_call 10 0 8 [some (vR 8 i0), some (vI x1), some (vI x2), some (vR 70 0), none] [vI x, vI 0, vR 70 0] (cM m9 out rho) _ _
    refine wp_i2l dL_call_8 ?_
    refine cp_lastore rfl dL_call_9 ?_
    refine wp_goto (tgt := 21) dL_call_10 (by decide) ?_
    refine wp_iconst (v := 0) dL_call_21 (by decide) ?_
    exact wp_ireturn rfl dL_call_22 (Or.inl ⟨x, hx, rfl, rfl⟩)
theorem wL_callsOf {r : Int32 ⊕ Nat} {m9 : CM} {i0 : Nat} {x1 : Int32} {m : CM} {n9 : Nat} (hr : ∀ j, r = .inr j → j = 0) (h : f8_X8_callsOf i0 x1 m = some (r, m9, n9)) : SpecW mL_callsOf 10 n9 [vR 8 i0, vI x1, vR 70 0] (cM m out rho) (PL out rho r (fun x => x.toInt64) (fun j => 1) m9) NX := by
  refine specW_of (by decide) rfl (by simp [catS, cat1]) (Nat.le_of_ble_eq_true rfl) ?_
  show WP mL_callsOf 10 n9 0 [some (vR 8 i0), some (vI x1), some (vR 70 0), none] [] (cM m out rho) _ NX
  refine wp_aload_n dL_callsOf_0 rfl ?_
  refine wp_iconst (v := 0) dL_callsOf_1 (by decide) ?_
  refine wp_aload_n dL_callsOf_2 rfl ?_
  refine wp_iload_n dL_callsOf_3 rfl ?_
  refine wp_callVH (k1 := n9) (k2 := 0) (As := [vI x1]) (rest := [vI 0, vR 70 0]) rfl (w8_X8_callsOf h) okX8_callsOf ivX8_callsOf rfl (by decide) ml_L_66 dL_callsOf_4 (by decide) (Nat.le_refl _) rfl (Nat.le_of_ble_eq_true rfl) (fun E S' z => ?_) (fun r' S' z => ?_)
  · obtain ⟨⟨j, hj, hj3, rfl⟩, rfl⟩ := z
    rcases hr j hj with rfl
    · refine ⟨0, 3, [], [], (0, 9, 12, 13), by decide, rfl, rfl, (fun z hz => by cases hz), rfl, by decide, by decide, Nat.le_of_ble_eq_true rfl, Or.inr ⟨3, rfl, dL_callsOf_12, ?_⟩⟩
      show WP mL_callsOf 10 0 13 [some (vR 8 i0), some (vI x1), some (vR 70 0), none] [] (cM m9 out rho) _ _
      refine wp_iconst (v := 1) dL_callsOf_13 (by decide) ?_
      exact wp_ireturn rfl dL_callsOf_14 (Or.inr ⟨0, hj, rfl, rfl⟩)
  · obtain ⟨⟨x, hx, rfl⟩, rfl⟩ := z
    show WP mL_callsOf 10 0 7 [some (vR 8 i0), some (vI x1), some (vR 70 0), none] [vI x, vI 0, vR 70 0] (cM m9 out rho) _ _
    refine wp_i2l dL_callsOf_7 ?_
    refine cp_lastore rfl dL_callsOf_8 ?_
    refine wp_goto (tgt := 15) dL_callsOf_9 (by decide) ?_
    refine wp_iconst (v := 0) dL_callsOf_15 (by decide) ?_
    exact wp_ireturn rfl dL_callsOf_16 (Or.inl ⟨x, hx, rfl, rfl⟩)
theorem wL_canary {r : Int32 ⊕ Nat} {m9 : CM} {i0 : Nat} {x1 x2 : Int32} {m : CM} {n9 : Nat} (hr : ∀ j, r = .inr j → j = 0 ∨ j = 1) (h : f8_X8_canary i0 x1 x2 m = some (r, m9, n9)) : SpecW mL_canary 10 n9 [vR 8 i0, vI x1, vI x2, vR 70 0] (cM m out rho) (PL out rho r (fun x => x.toInt64) (fun j => if j = 0 then 1 else 2) m9) NX := by
  refine specW_of (by decide) rfl (by simp [catS, cat1]) (Nat.le_of_ble_eq_true rfl) ?_
  show WP mL_canary 10 n9 0 [some (vR 8 i0), some (vI x1), some (vI x2), some (vR 70 0), none] [] (cM m out rho) _ NX
  refine wp_aload_n dL_canary_0 rfl ?_
  refine wp_iconst (v := 0) dL_canary_1 (by decide) ?_
  refine wp_aload_n dL_canary_2 rfl ?_
  refine wp_iload_n dL_canary_3 rfl ?_
  refine wp_iload_n dL_canary_4 rfl ?_
  refine wp_callVH (k1 := n9) (k2 := 0) (As := [vI x1, vI x2]) (rest := [vI 0, vR 70 0]) rfl (w8_X8_canary h) okX8_canary ivX8_canary rfl (by decide) ml_L_42 dL_canary_5 (by decide) (Nat.le_refl _) rfl (Nat.le_of_ble_eq_true rfl) (fun E S' z => ?_) (fun r' S' z => ?_)
  · obtain ⟨⟨j, hj, hj3, rfl⟩, rfl⟩ := z
    rcases hr j hj with rfl | rfl
    · refine ⟨0, 4, [], [(0, 10, 17, 15)], (0, 10, 13, 13), by decide, rfl, rfl, (fun z hz => by cases hz), rfl, by decide, by decide, Nat.le_of_ble_eq_true rfl, Or.inl ⟨dL_canary_13, ?_⟩⟩
      show WP mL_canary 10 0 15 [some (vR 8 i0), some (vI x1), some (vI x2), some (vR 70 0), none] [] (cM m9 out rho) _ _
      refine wp_iconst (v := 1) dL_canary_15 (by decide) ?_
      exact wp_ireturn rfl dL_canary_16 (Or.inr ⟨0, hj, rfl, rfl⟩)
    · refine ⟨1, 4, [(0, 10, 13, 13)], [], (0, 10, 17, 15), by decide, rfl, rfl, (fun z hz => by
        simp only [List.mem_cons, List.not_mem_nil, or_false] at hz
        subst hz
        exact ⟨0, by decide, by decide, rfl⟩), rfl, by decide, by decide, Nat.le_of_ble_eq_true rfl, Or.inl ⟨dL_canary_17, ?_⟩⟩
      show WP mL_canary 10 0 19 [some (vR 8 i0), some (vI x1), some (vI x2), some (vR 70 0), none] [] (cM m9 out rho) _ _
      refine wp_iconst (v := 2) dL_canary_19 (by decide) ?_
      exact wp_ireturn rfl dL_canary_20 (Or.inr ⟨1, hj, rfl, rfl⟩)
  · obtain ⟨⟨x, hx, rfl⟩, rfl⟩ := z
    show WP mL_canary 10 0 8 [some (vR 8 i0), some (vI x1), some (vI x2), some (vR 70 0), none] [vI x, vI 0, vR 70 0] (cM m9 out rho) _ _
    refine wp_i2l dL_canary_8 ?_
    refine cp_lastore rfl dL_canary_9 ?_
    refine wp_goto (tgt := 21) dL_canary_10 (by decide) ?_
    refine wp_iconst (v := 0) dL_canary_21 (by decide) ?_
    exact wp_ireturn rfl dL_canary_22 (Or.inl ⟨x, hx, rfl, rfl⟩)
theorem wL_canaryShare {r : Int32 ⊕ Nat} {m9 : CM} {i0 : Nat} {x1 : Int32} {m : CM} {n9 : Nat} (hr : ∀ j, r = .inr j → j = 0) (h : f8_X8_canaryShare i0 x1 m = some (r, m9, n9)) : SpecW mL_canaryShare 10 n9 [vR 8 i0, vI x1, vR 70 0] (cM m out rho) (PL out rho r (fun x => x.toInt64) (fun j => 1) m9) NX := by
  refine specW_of (by decide) rfl (by simp [catS, cat1]) (Nat.le_of_ble_eq_true rfl) ?_
  show WP mL_canaryShare 10 n9 0 [some (vR 8 i0), some (vI x1), some (vR 70 0), none] [] (cM m out rho) _ NX
  refine wp_aload_n dL_canaryShare_0 rfl ?_
  refine wp_iconst (v := 0) dL_canaryShare_1 (by decide) ?_
  refine wp_aload_n dL_canaryShare_2 rfl ?_
  refine wp_iload_n dL_canaryShare_3 rfl ?_
  refine wp_callVH (k1 := n9) (k2 := 0) (As := [vI x1]) (rest := [vI 0, vR 70 0]) rfl (w8_X8_canaryShare h) okX8_canaryShare ivX8_canaryShare rfl (by decide) ml_L_85 dL_canaryShare_4 (by decide) (Nat.le_refl _) rfl (Nat.le_of_ble_eq_true rfl) (fun E S' z => ?_) (fun r' S' z => ?_)
  · obtain ⟨⟨j, hj, hj3, rfl⟩, rfl⟩ := z
    rcases hr j hj with rfl
    · refine ⟨0, 3, [], [], (0, 9, 12, 13), by decide, rfl, rfl, (fun z hz => by cases hz), rfl, by decide, by decide, Nat.le_of_ble_eq_true rfl, Or.inr ⟨3, rfl, dL_canaryShare_12, ?_⟩⟩
      show WP mL_canaryShare 10 0 13 [some (vR 8 i0), some (vI x1), some (vR 70 0), none] [] (cM m9 out rho) _ _
      refine wp_iconst (v := 1) dL_canaryShare_13 (by decide) ?_
      exact wp_ireturn rfl dL_canaryShare_14 (Or.inr ⟨0, hj, rfl, rfl⟩)
  · obtain ⟨⟨x, hx, rfl⟩, rfl⟩ := z
    show WP mL_canaryShare 10 0 7 [some (vR 8 i0), some (vI x1), some (vR 70 0), none] [vI x, vI 0, vR 70 0] (cM m9 out rho) _ _
    refine wp_i2l dL_canaryShare_7 ?_
    refine cp_lastore rfl dL_canaryShare_8 ?_
    refine wp_goto (tgt := 15) dL_canaryShare_9 (by decide) ?_
    refine wp_iconst (v := 0) dL_canaryShare_15 (by decide) ?_
    exact wp_ireturn rfl dL_canaryShare_16 (Or.inl ⟨x, hx, rfl, rfl⟩)
theorem wL_extra {r : Int32 ⊕ Nat} {m9 : CM} {i0 : Nat} {x1 : Int32} {m : CM} {n9 : Nat} (hr : ∀ j, r = .inr j → j = 0) (h : f8_X8_extra i0 x1 m = some (r, m9, n9)) : SpecW mL_extra 10 n9 [vR 8 i0, vI x1, vR 70 0] (cM m out rho) (PL out rho r (fun x => x.toInt64) (fun j => 1) m9) NX := by
  refine specW_of (by decide) rfl (by simp [catS, cat1]) (Nat.le_of_ble_eq_true rfl) ?_
  show WP mL_extra 10 n9 0 [some (vR 8 i0), some (vI x1), some (vR 70 0), none] [] (cM m out rho) _ NX
  refine wp_aload_n dL_extra_0 rfl ?_
  refine wp_iconst (v := 0) dL_extra_1 (by decide) ?_
  refine wp_aload_n dL_extra_2 rfl ?_
  refine wp_iload_n dL_extra_3 rfl ?_
  refine wp_callVH (k1 := n9) (k2 := 0) (As := [vI x1]) (rest := [vI 0, vR 70 0]) rfl (w8_X8_extra h) okX8_extra ivX8_extra rfl (by decide) ml_L_88 dL_extra_4 (by decide) (Nat.le_refl _) rfl (Nat.le_of_ble_eq_true rfl) (fun E S' z => ?_) (fun r' S' z => ?_)
  · obtain ⟨⟨j, hj, hj3, rfl⟩, rfl⟩ := z
    rcases hr j hj with rfl
    · refine ⟨0, 3, [], [], (0, 9, 12, 13), by decide, rfl, rfl, (fun z hz => by cases hz), rfl, by decide, by decide, Nat.le_of_ble_eq_true rfl, Or.inr ⟨3, rfl, dL_extra_12, ?_⟩⟩
      show WP mL_extra 10 0 13 [some (vR 8 i0), some (vI x1), some (vR 70 0), none] [] (cM m9 out rho) _ _
      refine wp_iconst (v := 1) dL_extra_13 (by decide) ?_
      exact wp_ireturn rfl dL_extra_14 (Or.inr ⟨0, hj, rfl, rfl⟩)
  · obtain ⟨⟨x, hx, rfl⟩, rfl⟩ := z
    show WP mL_extra 10 0 7 [some (vR 8 i0), some (vI x1), some (vR 70 0), none] [vI x, vI 0, vR 70 0] (cM m9 out rho) _ _
    refine wp_i2l dL_extra_7 ?_
    refine cp_lastore rfl dL_extra_8 ?_
    refine wp_goto (tgt := 15) dL_extra_9 (by decide) ?_
    refine wp_iconst (v := 0) dL_extra_15 (by decide) ?_
    exact wp_ireturn rfl dL_extra_16 (Or.inl ⟨x, hx, rfl, rfl⟩)
theorem wL_eyes {r : Int32 ⊕ Nat} {m9 : CM} {i0 : Nat} {x1 : Int32} {m : CM} {n9 : Nat} (hr : ∀ j, r = .inr j → j = 1) (h : f8_X8_eyes i0 x1 m = some (r, m9, n9)) : SpecW mL_eyes 10 n9 [vR 8 i0, vI x1, vR 70 0] (cM m out rho) (PL out rho r (fun x => x.toInt64) (fun j => 1) m9) NX := by
  refine specW_of (by decide) rfl (by simp [catS, cat1]) (Nat.le_of_ble_eq_true rfl) ?_
  show WP mL_eyes 10 n9 0 [some (vR 8 i0), some (vI x1), some (vR 70 0), none] [] (cM m out rho) _ NX
  refine wp_aload_n dL_eyes_0 rfl ?_
  refine wp_iconst (v := 0) dL_eyes_1 (by decide) ?_
  refine wp_aload_n dL_eyes_2 rfl ?_
  refine wp_iload_n dL_eyes_3 rfl ?_
  refine wp_callVH (k1 := n9) (k2 := 0) (As := [vI x1]) (rest := [vI 0, vR 70 0]) rfl (w8_X8_eyes h) okX8_eyes ivX8_eyes rfl (by decide) ml_L_38 dL_eyes_4 (by decide) (Nat.le_refl _) rfl (Nat.le_of_ble_eq_true rfl) (fun E S' z => ?_) (fun r' S' z => ?_)
  · obtain ⟨⟨j, hj, hj3, rfl⟩, rfl⟩ := z
    rcases hr j hj with rfl
    · refine ⟨1, 3, [], [], (0, 9, 12, 15), by decide, rfl, rfl, (fun z hz => by cases hz), rfl, by decide, by decide, Nat.le_of_ble_eq_true rfl, Or.inr ⟨3, rfl, dL_eyes_12, ?_⟩⟩
      show WP mL_eyes 10 0 13 [some (vR 8 i0), some (vI x1), some (vR 70 0), none] [] (cM m9 out rho) _ _
      refine wp_iconst (v := 1) dL_eyes_13 (by decide) ?_
      exact wp_ireturn rfl dL_eyes_14 (Or.inr ⟨1, hj, rfl, rfl⟩)
  · obtain ⟨⟨x, hx, rfl⟩, rfl⟩ := z
    show WP mL_eyes 10 0 7 [some (vR 8 i0), some (vI x1), some (vR 70 0), none] [vI x, vI 0, vR 70 0] (cM m9 out rho) _ _
    refine wp_i2l dL_eyes_7 ?_
    refine cp_lastore rfl dL_eyes_8 ?_
    refine wp_goto (tgt := 15) dL_eyes_9 (by decide) ?_
    refine wp_iconst (v := 0) dL_eyes_15 (by decide) ?_
    exact wp_ireturn rfl dL_eyes_16 (Or.inl ⟨x, hx, rfl, rfl⟩)
theorem wL_fault {r : Int32 ⊕ Nat} {m9 : CM} {i0 : Nat} {x1 x2 x3 : Int32} {m : CM} {n9 : Nat} (hr : ∀ j, r = .inr j → j = 0 ∨ j = 1) (h : f8_X8_fault i0 x1 x2 x3 m = some (r, m9, n9)) : SpecW mL_fault 10 n9 [vR 8 i0, vI x1, vI x2, vI x3, vR 70 0] (cM m out rho) (PL out rho r (fun x => x.toInt64) (fun j => if j = 0 then 1 else 2) m9) NX := by
  refine specW_of (by decide) rfl (by simp [catS, cat1]) (Nat.le_of_ble_eq_true rfl) ?_
  show WP mL_fault 10 n9 0 [some (vR 8 i0), some (vI x1), some (vI x2), some (vI x3), some (vR 70 0), none] [] (cM m out rho) _ NX
  refine wp_aload dL_fault_0 rfl ?_
  refine wp_iconst (v := 0) dL_fault_2 (by decide) ?_
  refine wp_aload_n dL_fault_3 rfl ?_
  refine wp_iload_n dL_fault_4 rfl ?_
  refine wp_iload_n dL_fault_5 rfl ?_
  refine wp_iload_n dL_fault_6 rfl ?_
  refine wp_callVH (k1 := n9) (k2 := 0) (As := [vI x1, vI x2, vI x3]) (rest := [vI 0, vR 70 0]) rfl (w8_X8_fault h) okX8_fault ivX8_fault rfl (by decide) ml_L_27 dL_fault_7 (by decide) (Nat.le_refl _) rfl (Nat.le_of_ble_eq_true rfl) (fun E S' z => ?_) (fun r' S' z => ?_)
  · obtain ⟨⟨j, hj, hj3, rfl⟩, rfl⟩ := z
    rcases hr j hj with rfl | rfl
    · refine ⟨0, 5, [], [(0, 12, 19, 15)], (0, 12, 15, 13), by decide, rfl, rfl, (fun z hz => by cases hz), rfl, by decide, by decide, Nat.le_of_ble_eq_true rfl, Or.inl ⟨dL_fault_15, ?_⟩⟩
      show WP mL_fault 10 0 17 [some (vR 8 i0), some (vI x1), some (vI x2), some (vI x3), some (vR 70 0), none] [] (cM m9 out rho) _ _
      refine wp_iconst (v := 1) dL_fault_17 (by decide) ?_
      exact wp_ireturn rfl dL_fault_18 (Or.inr ⟨0, hj, rfl, rfl⟩)
    · refine ⟨1, 5, [(0, 12, 15, 13)], [], (0, 12, 19, 15), by decide, rfl, rfl, (fun z hz => by
        simp only [List.mem_cons, List.not_mem_nil, or_false] at hz
        subst hz
        exact ⟨0, by decide, by decide, rfl⟩), rfl, by decide, by decide, Nat.le_of_ble_eq_true rfl, Or.inl ⟨dL_fault_19, ?_⟩⟩
      show WP mL_fault 10 0 21 [some (vR 8 i0), some (vI x1), some (vI x2), some (vI x3), some (vR 70 0), none] [] (cM m9 out rho) _ _
      refine wp_iconst (v := 2) dL_fault_21 (by decide) ?_
      exact wp_ireturn rfl dL_fault_22 (Or.inr ⟨1, hj, rfl, rfl⟩)
  · obtain ⟨⟨x, hx, rfl⟩, rfl⟩ := z
    show WP mL_fault 10 0 10 [some (vR 8 i0), some (vI x1), some (vI x2), some (vI x3), some (vR 70 0), none] [vI x, vI 0, vR 70 0] (cM m9 out rho) _ _
    refine wp_i2l dL_fault_10 ?_
    refine cp_lastore rfl dL_fault_11 ?_
    refine wp_goto (tgt := 23) dL_fault_12 (by decide) ?_
    refine wp_iconst (v := 0) dL_fault_23 (by decide) ?_
    exact wp_ireturn rfl dL_fault_24 (Or.inl ⟨x, hx, rfl, rfl⟩)
theorem wL_first {r : Int32 ⊕ Nat} {m9 : CM} {i0 : Nat} {x1 : Int32} {m : CM} {n9 : Nat} (hr : ∀ j, r = .inr j → j = 0) (h : f8_X8_first i0 x1 m = some (r, m9, n9)) : SpecW mL_first 10 n9 [vR 8 i0, vI x1, vR 70 0] (cM m out rho) (PL out rho r (fun x => x.toInt64) (fun j => 1) m9) NX := by
  refine specW_of (by decide) rfl (by simp [catS, cat1]) (Nat.le_of_ble_eq_true rfl) ?_
  show WP mL_first 10 n9 0 [some (vR 8 i0), some (vI x1), some (vR 70 0), none] [] (cM m out rho) _ NX
  refine wp_aload_n dL_first_0 rfl ?_
  refine wp_iconst (v := 0) dL_first_1 (by decide) ?_
  refine wp_aload_n dL_first_2 rfl ?_
  refine wp_iload_n dL_first_3 rfl ?_
  refine wp_callVH (k1 := n9) (k2 := 0) (As := [vI x1]) (rest := [vI 0, vR 70 0]) rfl (w8_X8_first h) okX8_first ivX8_first rfl (by decide) ml_L_91 dL_first_4 (by decide) (Nat.le_refl _) rfl (Nat.le_of_ble_eq_true rfl) (fun E S' z => ?_) (fun r' S' z => ?_)
  · obtain ⟨⟨j, hj, hj3, rfl⟩, rfl⟩ := z
    rcases hr j hj with rfl
    · refine ⟨0, 3, [], [], (0, 9, 12, 13), by decide, rfl, rfl, (fun z hz => by cases hz), rfl, by decide, by decide, Nat.le_of_ble_eq_true rfl, Or.inr ⟨3, rfl, dL_first_12, ?_⟩⟩
      show WP mL_first 10 0 13 [some (vR 8 i0), some (vI x1), some (vR 70 0), none] [] (cM m9 out rho) _ _
      refine wp_iconst (v := 1) dL_first_13 (by decide) ?_
      exact wp_ireturn rfl dL_first_14 (Or.inr ⟨0, hj, rfl, rfl⟩)
  · obtain ⟨⟨x, hx, rfl⟩, rfl⟩ := z
    show WP mL_first 10 0 7 [some (vR 8 i0), some (vI x1), some (vR 70 0), none] [vI x, vI 0, vR 70 0] (cM m9 out rho) _ _
    refine wp_i2l dL_first_7 ?_
    refine cp_lastore rfl dL_first_8 ?_
    refine wp_goto (tgt := 15) dL_first_9 (by decide) ?_
    refine wp_iconst (v := 0) dL_first_15 (by decide) ?_
    exact wp_ireturn rfl dL_first_16 (Or.inl ⟨x, hx, rfl, rfl⟩)
theorem wL_instance {r : Int32 ⊕ Nat} {m9 : CM} {i0 : Nat} {x1 x2 x3 x4 x5 x6 : Int32} {m : CM} {n9 : Nat} (hr : ∀ j, r = .inr j → j = 0 ∨ j = 1 ∨ j = 2) (h : f8_X8_instance i0 x1 x2 x3 x4 x5 x6 m = some (r, m9, n9)) : SpecW mL_instance 10 n9 [vR 8 i0, vI x1, vI x2, vI x3, vI x4, vI x5, vI x6, vR 70 0] (cM m out rho) (PL out rho r (fun x => x.toInt64) (fun j => if j = 0 then 1 else if j = 1 then 2 else 3) m9) NX := by
  refine specW_of (by decide) rfl (by simp [catS, cat1]) (Nat.le_of_ble_eq_true rfl) ?_
  show WP mL_instance 10 n9 0 [some (vR 8 i0), some (vI x1), some (vI x2), some (vI x3), some (vI x4), some (vI x5), some (vI x6), some (vR 70 0), none] [] (cM m out rho) _ NX
  refine wp_aload dL_instance_0 rfl ?_
  refine wp_iconst (v := 0) dL_instance_2 (by decide) ?_
  refine wp_aload_n dL_instance_3 rfl ?_
  refine wp_iload_n dL_instance_4 rfl ?_
  refine wp_iload_n dL_instance_5 rfl ?_
  refine wp_iload_n dL_instance_6 rfl ?_
  refine wp_iload dL_instance_7 rfl ?_
  refine wp_iload dL_instance_9 rfl ?_
  refine wp_iload dL_instance_11 rfl ?_
  refine wp_callVH (k1 := n9) (k2 := 0) (As := [vI x1, vI x2, vI x3, vI x4, vI x5, vI x6]) (rest := [vI 0, vR 70 0]) rfl (w8_X8_instance h) okX8_instance ivX8_instance rfl (by decide) ml_L_23 dL_instance_13 (by decide) (Nat.le_refl _) rfl (Nat.le_of_ble_eq_true rfl) (fun E S' z => ?_) (fun r' S' z => ?_)
  · obtain ⟨⟨j, hj, hj3, rfl⟩, rfl⟩ := z
    rcases hr j hj with rfl | rfl | rfl
    · refine ⟨0, 8, [], [(0, 18, 25, 15), (0, 18, 29, 21)], (0, 18, 21, 13), by decide, rfl, rfl, (fun z hz => by cases hz), rfl, by decide, by decide, Nat.le_of_ble_eq_true rfl, Or.inl ⟨dL_instance_21, ?_⟩⟩
      show WP mL_instance 10 0 23 [some (vR 8 i0), some (vI x1), some (vI x2), some (vI x3), some (vI x4), some (vI x5), some (vI x6), some (vR 70 0), none] [] (cM m9 out rho) _ _
      refine wp_iconst (v := 1) dL_instance_23 (by decide) ?_
      exact wp_ireturn rfl dL_instance_24 (Or.inr ⟨0, hj, rfl, rfl⟩)
    · refine ⟨1, 8, [(0, 18, 21, 13)], [(0, 18, 29, 21)], (0, 18, 25, 15), by decide, rfl, rfl, (fun z hz => by
        simp only [List.mem_cons, List.not_mem_nil, or_false] at hz
        subst hz
        exact ⟨0, by decide, by decide, rfl⟩), rfl, by decide, by decide, Nat.le_of_ble_eq_true rfl, Or.inl ⟨dL_instance_25, ?_⟩⟩
      show WP mL_instance 10 0 27 [some (vR 8 i0), some (vI x1), some (vI x2), some (vI x3), some (vI x4), some (vI x5), some (vI x6), some (vR 70 0), none] [] (cM m9 out rho) _ _
      refine wp_iconst (v := 2) dL_instance_27 (by decide) ?_
      exact wp_ireturn rfl dL_instance_28 (Or.inr ⟨1, hj, rfl, rfl⟩)
    · refine ⟨2, 8, [(0, 18, 21, 13), (0, 18, 25, 15)], [], (0, 18, 29, 21), by decide, rfl, rfl, (fun z hz => by
        simp only [List.mem_cons, List.not_mem_nil, or_false] at hz
        rcases hz with rfl | rfl
        · exact ⟨0, by decide, by decide, rfl⟩
        · exact ⟨1, by decide, by decide, rfl⟩), rfl, by decide, by decide, Nat.le_of_ble_eq_true rfl, Or.inl ⟨dL_instance_29, ?_⟩⟩
      show WP mL_instance 10 0 31 [some (vR 8 i0), some (vI x1), some (vI x2), some (vI x3), some (vI x4), some (vI x5), some (vI x6), some (vR 70 0), none] [] (cM m9 out rho) _ _
      refine wp_iconst (v := 3) dL_instance_31 (by decide) ?_
      exact wp_ireturn rfl dL_instance_32 (Or.inr ⟨2, hj, rfl, rfl⟩)
  · obtain ⟨⟨x, hx, rfl⟩, rfl⟩ := z
    show WP mL_instance 10 0 16 [some (vR 8 i0), some (vI x1), some (vI x2), some (vI x3), some (vI x4), some (vI x5), some (vI x6), some (vR 70 0), none] [vI x, vI 0, vR 70 0] (cM m9 out rho) _ _
    refine wp_i2l dL_instance_16 ?_
    refine cp_lastore rfl dL_instance_17 ?_
    refine wp_goto (tgt := 33) dL_instance_18 (by decide) ?_
    refine wp_iconst (v := 0) dL_instance_33 (by decide) ?_
    exact wp_ireturn rfl dL_instance_34 (Or.inl ⟨x, hx, rfl, rfl⟩)
theorem wL_isKept {r : Int32 ⊕ Nat} {m9 : CM} {i0 : Nat} {x1 : Int32} {m : CM} {n9 : Nat} (hr : ∀ j, r = .inr j → j = 0) (h : f8_X8_isKept i0 x1 m = some (r, m9, n9)) : SpecW mL_isKept 10 n9 [vR 8 i0, vI x1, vR 70 0] (cM m out rho) (PL out rho r (fun x => if x = 0 then 0 else 1) (fun j => 1) m9) NX := by
  refine specW_of (by decide) rfl (by simp [catS, cat1]) (Nat.le_of_ble_eq_true rfl) ?_
  show WP mL_isKept 10 n9 0 [some (vR 8 i0), some (vI x1), some (vR 70 0), none] [] (cM m out rho) _ NX
  refine wp_aload_n dL_isKept_0 rfl ?_
  refine wp_iconst (v := 0) dL_isKept_1 (by decide) ?_
  refine wp_aload_n dL_isKept_2 rfl ?_
  refine wp_iload_n dL_isKept_3 rfl ?_
  refine wp_callVH (k1 := n9) (k2 := 0) (As := [vI x1]) (rest := [vI 0, vR 70 0]) rfl (w8_X8_isKept h) okX8_isKept ivX8_isKept rfl (by decide) ml_L_62 dL_isKept_4 (by decide) (Nat.le_refl _) rfl (Nat.le_of_ble_eq_true rfl) (fun E S' z => ?_) (fun r' S' z => ?_)
  · obtain ⟨⟨j, hj, hj3, rfl⟩, rfl⟩ := z
    rcases hr j hj with rfl
    · refine ⟨0, 3, [], [], (0, 16, 19, 13), by decide, rfl, rfl, (fun z hz => by cases hz), rfl, by decide, by decide, Nat.le_of_ble_eq_true rfl, Or.inr ⟨3, rfl, dL_isKept_19, ?_⟩⟩
      show WP mL_isKept 10 0 20 [some (vR 8 i0), some (vI x1), some (vR 70 0), none] [] (cM m9 out rho) _ _
      refine wp_iconst (v := 1) dL_isKept_20 (by decide) ?_
      exact wp_ireturn rfl dL_isKept_21 (Or.inr ⟨0, hj, rfl, rfl⟩)
  · obtain ⟨⟨x, hx, rfl⟩, rfl⟩ := z
    show WP mL_isKept 10 0 7 [some (vR 8 i0), some (vI x1), some (vR 70 0), none] [vI x, vI 0, vR 70 0] (cM m9 out rho) _ _
    refine wp_if_eq (tgt := 14) dL_isKept_7 (by decide) (fun c1 => ?_) (fun c1 => ?_)
    · refine wp_lconst (v := 0) dL_isKept_14 (by decide) ?_
      refine cp_lastore rfl dL_isKept_15 ?_
      refine wp_goto (tgt := 22) dL_isKept_16 (by decide) ?_
      refine wp_iconst (v := 0) dL_isKept_22 (by decide) ?_
      exact wp_ireturn rfl dL_isKept_23 (Or.inl ⟨x, hx, rfl, by show _ = cM m9 (if x = 0 then 0 else 1) rho; rw [if_pos c1]⟩)
    · refine wp_lconst (v := 1) dL_isKept_10 (by decide) ?_
      refine wp_goto (tgt := 15) dL_isKept_11 (by decide) ?_
      refine cp_lastore rfl dL_isKept_15 ?_
      refine wp_goto (tgt := 22) dL_isKept_16 (by decide) ?_
      refine wp_iconst (v := 0) dL_isKept_22 (by decide) ?_
      exact wp_ireturn rfl dL_isKept_23 (Or.inl ⟨x, hx, rfl, by show _ = cM m9 (if x = 0 then 0 else 1) rho; rw [if_neg c1]⟩)
theorem wL_isShunned {r : Int32 ⊕ Nat} {m9 : CM} {i0 : Nat} {x1 : Int32} {m : CM} {n9 : Nat} (hr : ∀ j, r = .inr j → j = 0) (h : f8_X8_isShunned i0 x1 m = some (r, m9, n9)) : SpecW mL_isShunned 10 n9 [vR 8 i0, vI x1, vR 70 0] (cM m out rho) (PL out rho r (fun x => if x = 0 then 0 else 1) (fun j => 1) m9) NX := by
  refine specW_of (by decide) rfl (by simp [catS, cat1]) (Nat.le_of_ble_eq_true rfl) ?_
  show WP mL_isShunned 10 n9 0 [some (vR 8 i0), some (vI x1), some (vR 70 0), none] [] (cM m out rho) _ NX
  refine wp_aload_n dL_isShunned_0 rfl ?_
  refine wp_iconst (v := 0) dL_isShunned_1 (by decide) ?_
  refine wp_aload_n dL_isShunned_2 rfl ?_
  refine wp_iload_n dL_isShunned_3 rfl ?_
  refine wp_callVH (k1 := n9) (k2 := 0) (As := [vI x1]) (rest := [vI 0, vR 70 0]) rfl (w8_X8_isShunned h) okX8_isShunned ivX8_isShunned rfl (by decide) ml_L_78 dL_isShunned_4 (by decide) (Nat.le_refl _) rfl (Nat.le_of_ble_eq_true rfl) (fun E S' z => ?_) (fun r' S' z => ?_)
  · obtain ⟨⟨j, hj, hj3, rfl⟩, rfl⟩ := z
    rcases hr j hj with rfl
    · refine ⟨0, 3, [], [], (0, 16, 19, 13), by decide, rfl, rfl, (fun z hz => by cases hz), rfl, by decide, by decide, Nat.le_of_ble_eq_true rfl, Or.inr ⟨3, rfl, dL_isShunned_19, ?_⟩⟩
      show WP mL_isShunned 10 0 20 [some (vR 8 i0), some (vI x1), some (vR 70 0), none] [] (cM m9 out rho) _ _
      refine wp_iconst (v := 1) dL_isShunned_20 (by decide) ?_
      exact wp_ireturn rfl dL_isShunned_21 (Or.inr ⟨0, hj, rfl, rfl⟩)
  · obtain ⟨⟨x, hx, rfl⟩, rfl⟩ := z
    show WP mL_isShunned 10 0 7 [some (vR 8 i0), some (vI x1), some (vR 70 0), none] [vI x, vI 0, vR 70 0] (cM m9 out rho) _ _
    refine wp_if_eq (tgt := 14) dL_isShunned_7 (by decide) (fun c1 => ?_) (fun c1 => ?_)
    · refine wp_lconst (v := 0) dL_isShunned_14 (by decide) ?_
      refine cp_lastore rfl dL_isShunned_15 ?_
      refine wp_goto (tgt := 22) dL_isShunned_16 (by decide) ?_
      refine wp_iconst (v := 0) dL_isShunned_22 (by decide) ?_
      exact wp_ireturn rfl dL_isShunned_23 (Or.inl ⟨x, hx, rfl, by show _ = cM m9 (if x = 0 then 0 else 1) rho; rw [if_pos c1]⟩)
    · refine wp_lconst (v := 1) dL_isShunned_10 (by decide) ?_
      refine wp_goto (tgt := 15) dL_isShunned_11 (by decide) ?_
      refine cp_lastore rfl dL_isShunned_15 ?_
      refine wp_goto (tgt := 22) dL_isShunned_16 (by decide) ?_
      refine wp_iconst (v := 0) dL_isShunned_22 (by decide) ?_
      exact wp_ireturn rfl dL_isShunned_23 (Or.inl ⟨x, hx, rfl, by show _ = cM m9 (if x = 0 then 0 else 1) rho; rw [if_neg c1]⟩)
theorem wL_load {r : Int32 ⊕ Nat} {m9 : CM} {i0 : Nat} {x1 x2 : Int32} {m : CM} {n9 : Nat} (hr : ∀ j, r = .inr j → j = 0) (h : f8_X8_load i0 x1 x2 m = some (r, m9, n9)) : SpecW mL_load 10 n9 [vR 8 i0, vI x1, vI x2, vR 70 0] (cM m out rho) (PL out rho r (fun x => x.toInt64) (fun j => 1) m9) NX := by
  refine specW_of (by decide) rfl (by simp [catS, cat1]) (Nat.le_of_ble_eq_true rfl) ?_
  show WP mL_load 10 n9 0 [some (vR 8 i0), some (vI x1), some (vI x2), some (vR 70 0), none] [] (cM m out rho) _ NX
  refine wp_aload_n dL_load_0 rfl ?_
  refine wp_iconst (v := 0) dL_load_1 (by decide) ?_
  refine wp_aload_n dL_load_2 rfl ?_
  refine wp_iload_n dL_load_3 rfl ?_
  refine wp_iload_n dL_load_4 rfl ?_
  refine wp_callVH (k1 := n9) (k2 := 0) (As := [vI x1, vI x2]) (rest := [vI 0, vR 70 0]) rfl (w8_X8_load h) okX8_load ivX8_load rfl (by decide) ml_L_81 dL_load_5 (by decide) (Nat.le_refl _) rfl (Nat.le_of_ble_eq_true rfl) (fun E S' z => ?_) (fun r' S' z => ?_)
  · obtain ⟨⟨j, hj, hj3, rfl⟩, rfl⟩ := z
    rcases hr j hj with rfl
    · refine ⟨0, 4, [], [], (0, 10, 13, 13), by decide, rfl, rfl, (fun z hz => by cases hz), rfl, by decide, by decide, Nat.le_of_ble_eq_true rfl, Or.inl ⟨dL_load_13, ?_⟩⟩
      show WP mL_load 10 0 15 [some (vR 8 i0), some (vI x1), some (vI x2), some (vR 70 0), none] [] (cM m9 out rho) _ _
      refine wp_iconst (v := 1) dL_load_15 (by decide) ?_
      exact wp_ireturn rfl dL_load_16 (Or.inr ⟨0, hj, rfl, rfl⟩)
  · obtain ⟨⟨x, hx, rfl⟩, rfl⟩ := z
    show WP mL_load 10 0 8 [some (vR 8 i0), some (vI x1), some (vI x2), some (vR 70 0), none] [vI x, vI 0, vR 70 0] (cM m9 out rho) _ _
    refine wp_i2l dL_load_8 ?_
    refine cp_lastore rfl dL_load_9 ?_
    refine wp_goto (tgt := 17) dL_load_10 (by decide) ?_
    refine wp_iconst (v := 0) dL_load_17 (by decide) ?_
    exact wp_ireturn rfl dL_load_18 (Or.inl ⟨x, hx, rfl, rfl⟩)
theorem wL_pass {r : Int32 ⊕ Nat} {m9 : CM} {i0 : Nat} {x1 : Int32} {m : CM} {n9 : Nat} (hr : ∀ j, r = .inr j → j = 1 ∨ j = 2) (h : f8_X8_pass i0 x1 m = some (r, m9, n9)) : SpecW mL_pass 42 n9 [vR 8 i0, vI x1, vR 70 0] (cM m out rho) (PL out rho r (fun x => x.toInt64) (fun j => if j = 1 then 1 else 2) m9) NX := by
  refine specW_of (by decide) rfl (by simp [catS, cat1]) (Nat.le_of_ble_eq_true rfl) ?_
  show WP mL_pass 42 n9 0 [some (vR 8 i0), some (vI x1), some (vR 70 0), none] [] (cM m out rho) _ NX
  refine wp_aload_n dL_pass_0 rfl ?_
  refine wp_iconst (v := 0) dL_pass_1 (by decide) ?_
  refine wp_aload_n dL_pass_2 rfl ?_
  refine wp_iload_n dL_pass_3 rfl ?_
  refine wp_callVH (k1 := n9) (k2 := 0) (As := [vI x1]) (rest := [vI 0, vR 70 0]) rfl (w8_X8_pass h) okX8_pass ivX8_pass rfl (by decide) ml_L_53 dL_pass_4 (by decide) (Nat.le_refl _) rfl (Nat.le_of_ble_eq_true rfl) (fun E S' z => ?_) (fun r' S' z => ?_)
  · obtain ⟨⟨j, hj, hj3, rfl⟩, rfl⟩ := z
    rcases hr j hj with rfl | rfl
    · refine ⟨1, 3, [], [(0, 9, 15, 21)], (0, 9, 12, 15), by decide, rfl, rfl, (fun z hz => by cases hz), rfl, by decide, by decide, Nat.le_of_ble_eq_true rfl, Or.inr ⟨3, rfl, dL_pass_12, ?_⟩⟩
      show WP mL_pass 42 0 13 [some (vR 8 i0), some (vI x1), some (vR 70 0), none] [] (cM m9 out rho) _ _
      refine wp_iconst (v := 1) dL_pass_13 (by decide) ?_
      exact wp_ireturn rfl dL_pass_14 (Or.inr ⟨1, hj, rfl, rfl⟩)
    · refine ⟨2, 3, [(0, 9, 12, 15)], [], (0, 9, 15, 21), by decide, rfl, rfl, (fun z hz => by
        simp only [List.mem_cons, List.not_mem_nil, or_false] at hz
        subst hz
        exact ⟨1, by decide, by decide, rfl⟩), rfl, by decide, by decide, Nat.le_of_ble_eq_true rfl, Or.inr ⟨3, rfl, dL_pass_15, ?_⟩⟩
      show WP mL_pass 42 0 16 [some (vR 8 i0), some (vI x1), some (vR 70 0), none] [] (cM m9 out rho) _ _
      refine wp_iconst (v := 2) dL_pass_16 (by decide) ?_
      exact wp_ireturn rfl dL_pass_17 (Or.inr ⟨2, hj, rfl, rfl⟩)
  · obtain ⟨⟨x, hx, rfl⟩, rfl⟩ := z
    show WP mL_pass 42 0 7 [some (vR 8 i0), some (vI x1), some (vR 70 0), none] [vI x, vI 0, vR 70 0] (cM m9 out rho) _ _
    refine wp_i2l dL_pass_7 ?_
    refine cp_lastore rfl dL_pass_8 ?_
    refine wp_goto (tgt := 18) dL_pass_9 (by decide) ?_
    refine wp_iconst (v := 0) dL_pass_18 (by decide) ?_
    exact wp_ireturn rfl dL_pass_19 (Or.inl ⟨x, hx, rfl, rfl⟩)
theorem wL_policy {r : Int32 ⊕ Nat} {m9 : CM} {i0 : Nat} {x1 x2 x3 x4 : Int32} {m : CM} {n9 : Nat} (hr : ∀ j, r = .inr j → j = 0 ∨ j = 1) (h : f8_X8_policy i0 x1 x2 x3 x4 m = some (r, m9, n9)) : SpecW mL_policy 10 n9 [vR 8 i0, vI x1, vI x2, vI x3, vI x4, vR 70 0] (cM m out rho) (PL out rho r (fun x => x.toInt64) (fun j => if j = 0 then 1 else 2) m9) NX := by
  refine specW_of (by decide) rfl (by simp [catS, cat1]) (Nat.le_of_ble_eq_true rfl) ?_
  show WP mL_policy 10 n9 0 [some (vR 8 i0), some (vI x1), some (vI x2), some (vI x3), some (vI x4), some (vR 70 0), none] [] (cM m out rho) _ NX
  refine wp_aload dL_policy_0 rfl ?_
  refine wp_iconst (v := 0) dL_policy_2 (by decide) ?_
  refine wp_aload_n dL_policy_3 rfl ?_
  refine wp_iload_n dL_policy_4 rfl ?_
  refine wp_iload_n dL_policy_5 rfl ?_
  refine wp_iload_n dL_policy_6 rfl ?_
  refine wp_iload dL_policy_7 rfl ?_
  refine wp_callVH (k1 := n9) (k2 := 0) (As := [vI x1, vI x2, vI x3, vI x4]) (rest := [vI 0, vR 70 0]) rfl (w8_X8_policy h) okX8_policy ivX8_policy rfl (by decide) ml_L_31 dL_policy_9 (by decide) (Nat.le_refl _) rfl (Nat.le_of_ble_eq_true rfl) (fun E S' z => ?_) (fun r' S' z => ?_)
  · obtain ⟨⟨j, hj, hj3, rfl⟩, rfl⟩ := z
    rcases hr j hj with rfl | rfl
    · refine ⟨0, 6, [], [(0, 14, 21, 15)], (0, 14, 17, 13), by decide, rfl, rfl, (fun z hz => by cases hz), rfl, by decide, by decide, Nat.le_of_ble_eq_true rfl, Or.inl ⟨dL_policy_17, ?_⟩⟩
      show WP mL_policy 10 0 19 [some (vR 8 i0), some (vI x1), some (vI x2), some (vI x3), some (vI x4), some (vR 70 0), none] [] (cM m9 out rho) _ _
      refine wp_iconst (v := 1) dL_policy_19 (by decide) ?_
      exact wp_ireturn rfl dL_policy_20 (Or.inr ⟨0, hj, rfl, rfl⟩)
    · refine ⟨1, 6, [(0, 14, 17, 13)], [], (0, 14, 21, 15), by decide, rfl, rfl, (fun z hz => by
        simp only [List.mem_cons, List.not_mem_nil, or_false] at hz
        subst hz
        exact ⟨0, by decide, by decide, rfl⟩), rfl, by decide, by decide, Nat.le_of_ble_eq_true rfl, Or.inl ⟨dL_policy_21, ?_⟩⟩
      show WP mL_policy 10 0 23 [some (vR 8 i0), some (vI x1), some (vI x2), some (vI x3), some (vI x4), some (vR 70 0), none] [] (cM m9 out rho) _ _
      refine wp_iconst (v := 2) dL_policy_23 (by decide) ?_
      exact wp_ireturn rfl dL_policy_24 (Or.inr ⟨1, hj, rfl, rfl⟩)
  · obtain ⟨⟨x, hx, rfl⟩, rfl⟩ := z
    show WP mL_policy 10 0 12 [some (vR 8 i0), some (vI x1), some (vI x2), some (vI x3), some (vI x4), some (vR 70 0), none] [vI x, vI 0, vR 70 0] (cM m9 out rho) _ _
    refine wp_i2l dL_policy_12 ?_
    refine cp_lastore rfl dL_policy_13 ?_
    refine wp_goto (tgt := 25) dL_policy_14 (by decide) ?_
    refine wp_iconst (v := 0) dL_policy_25 (by decide) ?_
    exact wp_ireturn rfl dL_policy_26 (Or.inl ⟨x, hx, rfl, rfl⟩)
theorem wL_request {r : Int32 ⊕ Nat} {m9 : CM} {i0 : Nat} {x1 x2 x3 : Int32} {m : CM} {n9 : Nat} (hr : ∀ j, r = .inr j → j = 0 ∨ j = 1 ∨ j = 2) (h : f8_X8_request i0 x1 x2 x3 m = some (r, m9, n9)) : SpecW mL_request 41 n9 [vR 8 i0, vI x1, vI x2, vI x3, vR 70 0] (cM m out rho) (PL out rho r (fun x => x.toInt64) (fun j => if j = 0 then 1 else if j = 1 then 2 else 3) m9) NX := by
  refine specW_of (by decide) rfl (by simp [catS, cat1]) (Nat.le_of_ble_eq_true rfl) ?_
  show WP mL_request 41 n9 0 [some (vR 8 i0), some (vI x1), some (vI x2), some (vI x3), some (vR 70 0), none] [] (cM m out rho) _ NX
  refine wp_aload dL_request_0 rfl ?_
  refine wp_iconst (v := 0) dL_request_2 (by decide) ?_
  refine wp_aload_n dL_request_3 rfl ?_
  refine wp_iload_n dL_request_4 rfl ?_
  refine wp_iload_n dL_request_5 rfl ?_
  refine wp_iload_n dL_request_6 rfl ?_
  refine wp_callVH (k1 := n9) (k2 := 0) (As := [vI x1, vI x2, vI x3]) (rest := [vI 0, vR 70 0]) rfl (w8_X8_request h) okX8_request ivX8_request rfl (by decide) ml_L_49 dL_request_7 (by decide) (Nat.le_refl _) rfl (Nat.le_of_ble_eq_true rfl) (fun E S' z => ?_) (fun r' S' z => ?_)
  · obtain ⟨⟨j, hj, hj3, rfl⟩, rfl⟩ := z
    rcases hr j hj with rfl | rfl | rfl
    · refine ⟨0, 5, [], [(0, 12, 19, 15), (0, 12, 23, 21)], (0, 12, 15, 13), by decide, rfl, rfl, (fun z hz => by cases hz), rfl, by decide, by decide, Nat.le_of_ble_eq_true rfl, Or.inl ⟨dL_request_15, ?_⟩⟩
      show WP mL_request 41 0 17 [some (vR 8 i0), some (vI x1), some (vI x2), some (vI x3), some (vR 70 0), none] [] (cM m9 out rho) _ _
      refine wp_iconst (v := 1) dL_request_17 (by decide) ?_
      exact wp_ireturn rfl dL_request_18 (Or.inr ⟨0, hj, rfl, rfl⟩)
    · refine ⟨1, 5, [(0, 12, 15, 13)], [(0, 12, 23, 21)], (0, 12, 19, 15), by decide, rfl, rfl, (fun z hz => by
        simp only [List.mem_cons, List.not_mem_nil, or_false] at hz
        subst hz
        exact ⟨0, by decide, by decide, rfl⟩), rfl, by decide, by decide, Nat.le_of_ble_eq_true rfl, Or.inl ⟨dL_request_19, ?_⟩⟩
      show WP mL_request 41 0 21 [some (vR 8 i0), some (vI x1), some (vI x2), some (vI x3), some (vR 70 0), none] [] (cM m9 out rho) _ _
      refine wp_iconst (v := 2) dL_request_21 (by decide) ?_
      exact wp_ireturn rfl dL_request_22 (Or.inr ⟨1, hj, rfl, rfl⟩)
    · refine ⟨2, 5, [(0, 12, 15, 13), (0, 12, 19, 15)], [], (0, 12, 23, 21), by decide, rfl, rfl, (fun z hz => by
        simp only [List.mem_cons, List.not_mem_nil, or_false] at hz
        rcases hz with rfl | rfl
        · exact ⟨0, by decide, by decide, rfl⟩
        · exact ⟨1, by decide, by decide, rfl⟩), rfl, by decide, by decide, Nat.le_of_ble_eq_true rfl, Or.inl ⟨dL_request_23, ?_⟩⟩
      show WP mL_request 41 0 25 [some (vR 8 i0), some (vI x1), some (vI x2), some (vI x3), some (vR 70 0), none] [] (cM m9 out rho) _ _
      refine wp_iconst (v := 3) dL_request_25 (by decide) ?_
      exact wp_ireturn rfl dL_request_26 (Or.inr ⟨2, hj, rfl, rfl⟩)
  · obtain ⟨⟨x, hx, rfl⟩, rfl⟩ := z
    show WP mL_request 41 0 10 [some (vR 8 i0), some (vI x1), some (vI x2), some (vI x3), some (vR 70 0), none] [vI x, vI 0, vR 70 0] (cM m9 out rho) _ _
    refine wp_i2l dL_request_10 ?_
    refine cp_lastore rfl dL_request_11 ?_
    refine wp_goto (tgt := 27) dL_request_12 (by decide) ?_
    refine wp_iconst (v := 0) dL_request_27 (by decide) ?_
    exact wp_ireturn rfl dL_request_28 (Or.inl ⟨x, hx, rfl, rfl⟩)
theorem wL_requestState {r : Int32 ⊕ Nat} {m9 : CM} {i0 : Nat} {x1 : Int32} {m : CM} {n9 : Nat} (hr : ∀ j, r = .inr j → j = 0) (h : f8_X8_requestState i0 x1 m = some (r, m9, n9)) : SpecW mL_requestState 10 n9 [vR 8 i0, vI x1, vR 70 0] (cM m out rho) (PL out rho r (fun x => x.toInt64) (fun j => 1) m9) NX := by
  refine specW_of (by decide) rfl (by simp [catS, cat1]) (Nat.le_of_ble_eq_true rfl) ?_
  show WP mL_requestState 10 n9 0 [some (vR 8 i0), some (vI x1), some (vR 70 0), none] [] (cM m out rho) _ NX
  refine wp_aload_n dL_requestState_0 rfl ?_
  refine wp_iconst (v := 0) dL_requestState_1 (by decide) ?_
  refine wp_aload_n dL_requestState_2 rfl ?_
  refine wp_iload_n dL_requestState_3 rfl ?_
  refine wp_callVH (k1 := n9) (k2 := 0) (As := [vI x1]) (rest := [vI 0, vR 70 0]) rfl (w8_X8_requestState h) okX8_requestState ivX8_requestState rfl (by decide) ml_L_56 dL_requestState_4 (by decide) (Nat.le_refl _) rfl (Nat.le_of_ble_eq_true rfl) (fun E S' z => ?_) (fun r' S' z => ?_)
  · obtain ⟨⟨j, hj, hj3, rfl⟩, rfl⟩ := z
    rcases hr j hj with rfl
    · refine ⟨0, 3, [], [], (0, 9, 12, 13), by decide, rfl, rfl, (fun z hz => by cases hz), rfl, by decide, by decide, Nat.le_of_ble_eq_true rfl, Or.inr ⟨3, rfl, dL_requestState_12, ?_⟩⟩
      show WP mL_requestState 10 0 13 [some (vR 8 i0), some (vI x1), some (vR 70 0), none] [] (cM m9 out rho) _ _
      refine wp_iconst (v := 1) dL_requestState_13 (by decide) ?_
      exact wp_ireturn rfl dL_requestState_14 (Or.inr ⟨0, hj, rfl, rfl⟩)
  · obtain ⟨⟨x, hx, rfl⟩, rfl⟩ := z
    show WP mL_requestState 10 0 7 [some (vR 8 i0), some (vI x1), some (vR 70 0), none] [vI x, vI 0, vR 70 0] (cM m9 out rho) _ _
    refine wp_i2l dL_requestState_7 ?_
    refine cp_lastore rfl dL_requestState_8 ?_
    refine wp_goto (tgt := 15) dL_requestState_9 (by decide) ?_
    refine wp_iconst (v := 0) dL_requestState_15 (by decide) ?_
    exact wp_ireturn rfl dL_requestState_16 (Or.inl ⟨x, hx, rfl, rfl⟩)
theorem wL_requestTicks {r : Int32 ⊕ Nat} {m9 : CM} {i0 : Nat} {x1 : Int32} {m : CM} {n9 : Nat} (hr : ∀ j, r = .inr j → j = 0) (h : f8_X8_requestTicks i0 x1 m = some (r, m9, n9)) : SpecW mL_requestTicks 10 n9 [vR 8 i0, vI x1, vR 70 0] (cM m out rho) (PL out rho r (fun x => x.toInt64) (fun j => 1) m9) NX := by
  refine specW_of (by decide) rfl (by simp [catS, cat1]) (Nat.le_of_ble_eq_true rfl) ?_
  show WP mL_requestTicks 10 n9 0 [some (vR 8 i0), some (vI x1), some (vR 70 0), none] [] (cM m out rho) _ NX
  refine wp_aload_n dL_requestTicks_0 rfl ?_
  refine wp_iconst (v := 0) dL_requestTicks_1 (by decide) ?_
  refine wp_aload_n dL_requestTicks_2 rfl ?_
  refine wp_iload_n dL_requestTicks_3 rfl ?_
  refine wp_callVH (k1 := n9) (k2 := 0) (As := [vI x1]) (rest := [vI 0, vR 70 0]) rfl (w8_X8_requestTicks h) okX8_requestTicks ivX8_requestTicks rfl (by decide) ml_L_59 dL_requestTicks_4 (by decide) (Nat.le_refl _) rfl (Nat.le_of_ble_eq_true rfl) (fun E S' z => ?_) (fun r' S' z => ?_)
  · obtain ⟨⟨j, hj, hj3, rfl⟩, rfl⟩ := z
    rcases hr j hj with rfl
    · refine ⟨0, 3, [], [], (0, 9, 12, 13), by decide, rfl, rfl, (fun z hz => by cases hz), rfl, by decide, by decide, Nat.le_of_ble_eq_true rfl, Or.inr ⟨3, rfl, dL_requestTicks_12, ?_⟩⟩
      show WP mL_requestTicks 10 0 13 [some (vR 8 i0), some (vI x1), some (vR 70 0), none] [] (cM m9 out rho) _ _
      refine wp_iconst (v := 1) dL_requestTicks_13 (by decide) ?_
      exact wp_ireturn rfl dL_requestTicks_14 (Or.inr ⟨0, hj, rfl, rfl⟩)
  · obtain ⟨⟨x, hx, rfl⟩, rfl⟩ := z
    show WP mL_requestTicks 10 0 7 [some (vR 8 i0), some (vI x1), some (vR 70 0), none] [vI x, vI 0, vR 70 0] (cM m9 out rho) _ _
    refine wp_i2l dL_requestTicks_7 ?_
    refine cp_lastore rfl dL_requestTicks_8 ?_
    refine wp_goto (tgt := 15) dL_requestTicks_9 (by decide) ?_
    refine wp_iconst (v := 0) dL_requestTicks_15 (by decide) ?_
    exact wp_ireturn rfl dL_requestTicks_16 (Or.inl ⟨x, hx, rfl, rfl⟩)
theorem wL_share {r : Int32 ⊕ Nat} {m9 : CM} {i0 : Nat} {x1 x2 : Int32} {m : CM} {n9 : Nat} (hr : ∀ j, r = .inr j → j = 0 ∨ j = 1) (h : f8_X8_share i0 x1 x2 m = some (r, m9, n9)) : SpecW mL_share 10 n9 [vR 8 i0, vI x1, vI x2, vR 70 0] (cM m out rho) (PL out rho r (fun x => x.toInt64) (fun j => if j = 0 then 1 else 2) m9) NX := by
  refine specW_of (by decide) rfl (by simp [catS, cat1]) (Nat.le_of_ble_eq_true rfl) ?_
  show WP mL_share 10 n9 0 [some (vR 8 i0), some (vI x1), some (vI x2), some (vR 70 0), none] [] (cM m out rho) _ NX
  refine wp_aload_n dL_share_0 rfl ?_
  refine wp_iconst (v := 0) dL_share_1 (by decide) ?_
  refine wp_aload_n dL_share_2 rfl ?_
  refine wp_iload_n dL_share_3 rfl ?_
  refine wp_iload_n dL_share_4 rfl ?_
  refine wp_callVH (k1 := n9) (k2 := 0) (As := [vI x1, vI x2]) (rest := [vI 0, vR 70 0]) rfl (w8_X8_share h) okX8_share ivX8_share rfl (by decide) ml_L_35 dL_share_5 (by decide) (Nat.le_refl _) rfl (Nat.le_of_ble_eq_true rfl) (fun E S' z => ?_) (fun r' S' z => ?_)
  · obtain ⟨⟨j, hj, hj3, rfl⟩, rfl⟩ := z
    rcases hr j hj with rfl | rfl
    · refine ⟨0, 4, [], [(0, 10, 17, 15)], (0, 10, 13, 13), by decide, rfl, rfl, (fun z hz => by cases hz), rfl, by decide, by decide, Nat.le_of_ble_eq_true rfl, Or.inl ⟨dL_share_13, ?_⟩⟩
      show WP mL_share 10 0 15 [some (vR 8 i0), some (vI x1), some (vI x2), some (vR 70 0), none] [] (cM m9 out rho) _ _
      refine wp_iconst (v := 1) dL_share_15 (by decide) ?_
      exact wp_ireturn rfl dL_share_16 (Or.inr ⟨0, hj, rfl, rfl⟩)
    · refine ⟨1, 4, [(0, 10, 13, 13)], [], (0, 10, 17, 15), by decide, rfl, rfl, (fun z hz => by
        simp only [List.mem_cons, List.not_mem_nil, or_false] at hz
        subst hz
        exact ⟨0, by decide, by decide, rfl⟩), rfl, by decide, by decide, Nat.le_of_ble_eq_true rfl, Or.inl ⟨dL_share_17, ?_⟩⟩
      show WP mL_share 10 0 19 [some (vR 8 i0), some (vI x1), some (vI x2), some (vR 70 0), none] [] (cM m9 out rho) _ _
      refine wp_iconst (v := 2) dL_share_19 (by decide) ?_
      exact wp_ireturn rfl dL_share_20 (Or.inr ⟨1, hj, rfl, rfl⟩)
  · obtain ⟨⟨x, hx, rfl⟩, rfl⟩ := z
    show WP mL_share 10 0 8 [some (vR 8 i0), some (vI x1), some (vI x2), some (vR 70 0), none] [vI x, vI 0, vR 70 0] (cM m9 out rho) _ _
    refine wp_i2l dL_share_8 ?_
    refine cp_lastore rfl dL_share_9 ?_
    refine wp_goto (tgt := 21) dL_share_10 (by decide) ?_
    refine wp_iconst (v := 0) dL_share_21 (by decide) ?_
    exact wp_ireturn rfl dL_share_22 (Or.inl ⟨x, hx, rfl, rfl⟩)
theorem wL_step {r : Int32 ⊕ Nat} {m9 : CM} {i0 : Nat} {x1 x2 x3 x4 : Int32} {m : CM} {n9 : Nat} (hr : ∀ j, r = .inr j → j = 0 ∨ j = 1 ∨ j = 2) (h : f8_X8_step i0 x1 x2 x3 x4 m = some (r, m9, n9)) : SpecW mL_step 10 n9 [vR 8 i0, vI x1, vI x2, vI x3, vI x4, vR 70 0] (cM m out rho) (PL out rho r (fun x => x.toInt64) (fun j => if j = 0 then 1 else if j = 1 then 2 else 3) m9) NX := by
  refine specW_of (by decide) rfl (by simp [catS, cat1]) (Nat.le_of_ble_eq_true rfl) ?_
  show WP mL_step 10 n9 0 [some (vR 8 i0), some (vI x1), some (vI x2), some (vI x3), some (vI x4), some (vR 70 0), none] [] (cM m out rho) _ NX
  refine wp_aload dL_step_0 rfl ?_
  refine wp_iconst (v := 0) dL_step_2 (by decide) ?_
  refine wp_aload_n dL_step_3 rfl ?_
  refine wp_iload_n dL_step_4 rfl ?_
  refine wp_iload_n dL_step_5 rfl ?_
  refine wp_iload_n dL_step_6 rfl ?_
  refine wp_iload dL_step_7 rfl ?_
  refine wp_callVH (k1 := n9) (k2 := 0) (As := [vI x1, vI x2, vI x3, vI x4]) (rest := [vI 0, vR 70 0]) rfl (w8_X8_step h) okX8_step ivX8_step rfl (by decide) ml_L_17 dL_step_9 (by decide) (Nat.le_refl _) rfl (Nat.le_of_ble_eq_true rfl) (fun E S' z => ?_) (fun r' S' z => ?_)
  · obtain ⟨⟨j, hj, hj3, rfl⟩, rfl⟩ := z
    rcases hr j hj with rfl | rfl | rfl
    · refine ⟨0, 6, [], [(0, 14, 21, 15), (0, 14, 25, 21)], (0, 14, 17, 13), by decide, rfl, rfl, (fun z hz => by cases hz), rfl, by decide, by decide, Nat.le_of_ble_eq_true rfl, Or.inl ⟨dL_step_17, ?_⟩⟩
      show WP mL_step 10 0 19 [some (vR 8 i0), some (vI x1), some (vI x2), some (vI x3), some (vI x4), some (vR 70 0), none] [] (cM m9 out rho) _ _
      refine wp_iconst (v := 1) dL_step_19 (by decide) ?_
      exact wp_ireturn rfl dL_step_20 (Or.inr ⟨0, hj, rfl, rfl⟩)
    · refine ⟨1, 6, [(0, 14, 17, 13)], [(0, 14, 25, 21)], (0, 14, 21, 15), by decide, rfl, rfl, (fun z hz => by
        simp only [List.mem_cons, List.not_mem_nil, or_false] at hz
        subst hz
        exact ⟨0, by decide, by decide, rfl⟩), rfl, by decide, by decide, Nat.le_of_ble_eq_true rfl, Or.inl ⟨dL_step_21, ?_⟩⟩
      show WP mL_step 10 0 23 [some (vR 8 i0), some (vI x1), some (vI x2), some (vI x3), some (vI x4), some (vR 70 0), none] [] (cM m9 out rho) _ _
      refine wp_iconst (v := 2) dL_step_23 (by decide) ?_
      exact wp_ireturn rfl dL_step_24 (Or.inr ⟨1, hj, rfl, rfl⟩)
    · refine ⟨2, 6, [(0, 14, 17, 13), (0, 14, 21, 15)], [], (0, 14, 25, 21), by decide, rfl, rfl, (fun z hz => by
        simp only [List.mem_cons, List.not_mem_nil, or_false] at hz
        rcases hz with rfl | rfl
        · exact ⟨0, by decide, by decide, rfl⟩
        · exact ⟨1, by decide, by decide, rfl⟩), rfl, by decide, by decide, Nat.le_of_ble_eq_true rfl, Or.inl ⟨dL_step_25, ?_⟩⟩
      show WP mL_step 10 0 27 [some (vR 8 i0), some (vI x1), some (vI x2), some (vI x3), some (vI x4), some (vR 70 0), none] [] (cM m9 out rho) _ _
      refine wp_iconst (v := 3) dL_step_27 (by decide) ?_
      exact wp_ireturn rfl dL_step_28 (Or.inr ⟨2, hj, rfl, rfl⟩)
  · obtain ⟨⟨x, hx, rfl⟩, rfl⟩ := z
    show WP mL_step 10 0 12 [some (vR 8 i0), some (vI x1), some (vI x2), some (vI x3), some (vI x4), some (vR 70 0), none] [vI x, vI 0, vR 70 0] (cM m9 out rho) _ _
    refine wp_i2l dL_step_12 ?_
    refine cp_lastore rfl dL_step_13 ?_
    refine wp_goto (tgt := 29) dL_step_14 (by decide) ?_
    refine wp_iconst (v := 0) dL_step_29 (by decide) ?_
    exact wp_ireturn rfl dL_step_30 (Or.inl ⟨x, hx, rfl, rfl⟩)
theorem wL_traces {r : Int32 ⊕ Nat} {m9 : CM} {i0 : Nat} {x1 x2 : Int32} {m : CM} {n9 : Nat} (hr : ∀ j, r = .inr j → j = 1) (h : f8_X8_traces i0 x1 x2 m = some (r, m9, n9)) : SpecW mL_traces 10 n9 [vR 8 i0, vI x1, vI x2] (cM m out rho) (PL out rho r (fun _ => out) (fun j => 1) m9) NX := by
  refine specW_of (by decide) rfl (by simp [catS, cat1]) (Nat.le_of_ble_eq_true rfl) ?_
  show WP mL_traces 10 n9 0 [some (vR 8 i0), some (vI x1), some (vI x2), none] [] (cM m out rho) _ NX
  refine wp_aload_n dL_traces_0 rfl ?_
  refine wp_iload_n dL_traces_1 rfl ?_
  refine wp_iload_n dL_traces_2 rfl ?_
  refine wp_callVH (k1 := n9) (k2 := 0) (As := [vI x1, vI x2]) (rest := []) rfl (w8_X8_traces h) okX8_traces ivX8_traces rfl (by decide) ml_L_45 dL_traces_3 (by decide) (Nat.le_refl _) rfl (Nat.le_of_ble_eq_true rfl) (fun E S' z => ?_) (fun r' S' z => ?_)
  · obtain ⟨⟨j, hj, hj3, rfl⟩, rfl⟩ := z
    rcases hr j hj with rfl
    · refine ⟨1, 3, [], [], (0, 6, 9, 15), by decide, rfl, rfl, (fun z hz => by cases hz), rfl, by decide, by decide, Nat.le_of_ble_eq_true rfl, Or.inr ⟨3, rfl, dL_traces_9, ?_⟩⟩
      show WP mL_traces 10 0 10 [some (vR 8 i0), some (vI x1), some (vI x2), none] [] (cM m9 out rho) _ _
      refine wp_iconst (v := 1) dL_traces_10 (by decide) ?_
      exact wp_ireturn rfl dL_traces_11 (Or.inr ⟨1, hj, rfl, rfl⟩)
  · obtain ⟨⟨x, hx, rfl⟩, rfl⟩ := z
    show WP mL_traces 10 0 6 [some (vR 8 i0), some (vI x1), some (vI x2), none] [] (cM m9 out rho) _ _
    refine wp_goto (tgt := 12) dL_traces_6 (by decide) ?_
    refine wp_iconst (v := 0) dL_traces_12 (by decide) ?_
    exact wp_ireturn rfl dL_traces_13 (Or.inl ⟨x, hx, rfl, rfl⟩)
theorem wL_work {r : Int32 ⊕ Nat} {m9 : CM} {i0 : Nat} {x1 x2 : Int32} {m : CM} {n9 : Nat} (hr : ∀ j, r = .inr j → j = 0 ∨ j = 1) (h : f8_X8_work i0 x1 x2 m = some (r, m9, n9)) : SpecW mL_work 10 n9 [vR 8 i0, vI x1, vI x2, vR 70 0] (cM m out rho) (PL out rho r (fun x => x.toInt64) (fun j => if j = 0 then 1 else 2) m9) NX := by
  refine specW_of (by decide) rfl (by simp [catS, cat1]) (Nat.le_of_ble_eq_true rfl) ?_
  show WP mL_work 10 n9 0 [some (vR 8 i0), some (vI x1), some (vI x2), some (vR 70 0), none] [] (cM m out rho) _ NX
  refine wp_aload_n dL_work_0 rfl ?_
  refine wp_iconst (v := 0) dL_work_1 (by decide) ?_
  refine wp_aload_n dL_work_2 rfl ?_
  refine wp_iload_n dL_work_3 rfl ?_
  refine wp_iload_n dL_work_4 rfl ?_
  refine wp_callVH (k1 := n9) (k2 := 0) (As := [vI x1, vI x2]) (rest := [vI 0, vR 70 0]) rfl (w8_X8_work h) okX8_work ivX8_work rfl (by decide) ml_L_7 dL_work_5 (by decide) (Nat.le_refl _) rfl (Nat.le_of_ble_eq_true rfl) (fun E S' z => ?_) (fun r' S' z => ?_)
  · obtain ⟨⟨j, hj, hj3, rfl⟩, rfl⟩ := z
    rcases hr j hj with rfl | rfl
    · refine ⟨0, 4, [], [(0, 10, 17, 15)], (0, 10, 13, 13), by decide, rfl, rfl, (fun z hz => by cases hz), rfl, by decide, by decide, Nat.le_of_ble_eq_true rfl, Or.inl ⟨dL_work_13, ?_⟩⟩
      show WP mL_work 10 0 15 [some (vR 8 i0), some (vI x1), some (vI x2), some (vR 70 0), none] [] (cM m9 out rho) _ _
      refine wp_iconst (v := 1) dL_work_15 (by decide) ?_
      exact wp_ireturn rfl dL_work_16 (Or.inr ⟨0, hj, rfl, rfl⟩)
    · refine ⟨1, 4, [(0, 10, 13, 13)], [], (0, 10, 17, 15), by decide, rfl, rfl, (fun z hz => by
        simp only [List.mem_cons, List.not_mem_nil, or_false] at hz
        subst hz
        exact ⟨0, by decide, by decide, rfl⟩), rfl, by decide, by decide, Nat.le_of_ble_eq_true rfl, Or.inl ⟨dL_work_17, ?_⟩⟩
      show WP mL_work 10 0 19 [some (vR 8 i0), some (vI x1), some (vI x2), some (vR 70 0), none] [] (cM m9 out rho) _ _
      refine wp_iconst (v := 2) dL_work_19 (by decide) ?_
      exact wp_ireturn rfl dL_work_20 (Or.inr ⟨1, hj, rfl, rfl⟩)
  · obtain ⟨⟨x, hx, rfl⟩, rfl⟩ := z
    show WP mL_work 10 0 8 [some (vR 8 i0), some (vI x1), some (vI x2), some (vR 70 0), none] [vI x, vI 0, vR 70 0] (cM m9 out rho) _ _
    refine wp_i2l dL_work_8 ?_
    refine cp_lastore rfl dL_work_9 ?_
    refine wp_goto (tgt := 21) dL_work_10 (by decide) ?_
    refine wp_iconst (v := 0) dL_work_21 (by decide) ?_
    exact wp_ireturn rfl dL_work_22 (Or.inl ⟨x, hx, rfl, rfl⟩)
end LW9
