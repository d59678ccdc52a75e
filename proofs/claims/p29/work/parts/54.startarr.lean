section STA
theorem arr_prim {args : Array Value} {s : State} {ty : FieldType} (hp : ty = .int ∨ ty = .boolean ∨ ty = .long) (h : (Cond.arrayClass ty).before args s = true) : ∃ cA, ArrOfT s cA ty ∧ va_RA s cA ty := by
  obtain ⟨c, k, comp, h1, h2, h3⟩ := Cond.arrayClass_spec h
  refine ⟨c, fun N f => ⟨(fun q hq => by cases hq), k, h2, comp, h3⟩, ?_⟩
  rcases hp with rfl | rfl | rfl <;> exact h1
theorem arr_arr {args : Array Value} {s : State} (h : (Cond.arrayOver (.array .int)).before args s = true) : ∃ cA, ArrOfT s cA (.array .int) ∧ va_RA s cA (.array .int) := by
  obtain ⟨comp, c, k, h1, h2, h3, h4, h5⟩ := arrayOverA_spec h
  exact ⟨c, fun N f => ⟨(fun q hq => by cases hq), k, h3, comp, h4⟩, h5⟩
theorem arr_obj {args : Array Value} {s : State} {C : String} (h : (Cond.arrayOver (.object C)).before args s = true) : ∃ cA, ArrOfT s cA (.object C) ∧ va_RA s cA (.object C) := by
  obtain ⟨comp, c, k, h1, h2, h3, h4, h5⟩ := Cond.arrayOver_spec h
  exact ⟨c, fun N f => ⟨(fun q hq => by cases hq), k, h3, comp, h4⟩, k, comp, h3, h4, h1, h5⟩
theorem start_arr {args : Array Value} {s : State} (hts : ∀ w ∈ TW, w.before args s = true) (h3 : (Cond.arrayOver (.array .int)).before args s = true) (h4 : (Cond.arrayOver (.object RX6)).before args s = true) (h5 : (Cond.arrayOver (.object RX2)).before args s = true) (h6 : (Cond.arrayOver (.object RX0)).before args s = true) (h7 : (Cond.arrayOver (.object "java/lang/Object")).before args s = true) :
    ∃ dA : Nat → ClassId, ∀ t, t < 8 → ArrOfT s (dA t) (tyr t) ∧ va_RA s (dA t) (tyr t) := by
  have h : ∀ t, t < 8 → ∃ cA, ArrOfT s cA (tyr t) ∧ va_RA s cA (tyr t) := fun t ht => by
    have : t = 0 ∨ t = 1 ∨ t = 2 ∨ t = 3 ∨ t = 4 ∨ t = 5 ∨ t = 6 ∨ t = 7 := by omega
    rcases this with rfl | rfl | rfl | rfl | rfl | rfl | rfl | rfl
    · exact arr_prim (Or.inl rfl) (hts _ ac_int)
    · exact arr_prim (Or.inr (Or.inl rfl)) (hts _ ac_boolean)
    · exact arr_prim (Or.inl rfl) (hts _ ac_int)
    · exact arr_arr h3
    · exact arr_obj h4
    · exact arr_obj h5
    · exact arr_obj h6
    · exact arr_obj h7
  have h2 : ∀ t, ∃ cA, t < 8 → ArrOfT s cA (tyr t) ∧ va_RA s cA (tyr t) := fun t => by
    by_cases ht : t < 8
    · obtain ⟨c, hc⟩ := h t ht
      exact ⟨c, fun _ => hc⟩
    · exact ⟨0, fun z => absurd z ht⟩
  exact ⟨fun t => Classical.choose (h2 t), fun t => Classical.choose_spec (h2 t)⟩
theorem start_K {s : State} {dC : Nat → ClassId} {dI : Nat → Nat → Nat} {dA : Nat → ClassId} {x : Nat × (Nat → Nat)} (h1 : ∀ (c : Nat) (q : vw_C), cls[c]? = some q → u_Kn s q.1 q.2.1 q.2.2 (dC c) (dI c)) (h2 : ∀ t, t < 8 → ArrOfT s (dA t) (tyr t) ∧ va_RA s (dA t) (tyr t)) : va_K (dC, dI) cls (tysD ((dC, dI), dA, x)) s := by
  refine ⟨h1, fun t q hq => ?_⟩
  have ht : t < 8 := by
    have := (List.getElem?_eq_some_iff.mp hq).1
    simpa [tysD] using this
  rw [tys_at ((dC, dI), dA, x) ht] at hq
  cases hq
  exact h2 t ht
end STA
