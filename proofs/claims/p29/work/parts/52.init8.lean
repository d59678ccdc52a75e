/-! the class at its start: its memory is a computation; what it holds is asked of the kernel -/
section P8
def mS : CM := ((f8_X8_init 0 (sN cm0 8 0)).getD (0, cm0, 0)).2.1
theorem init8 : f8_X8_init 0 (sN cm0 8 0) = some (0, mS, 59) := by
  have h : (f8_X8_init 0 (sN cm0 8 0)).map (fun q => (q.1, q.2.2)) = some (0, 59) := by decide +kernel
  have e : mS = ((f8_X8_init 0 (sN cm0 8 0)).getD (0, cm0, 0)).2.1 := rfl
  cases ho : f8_X8_init 0 (sN cm0 8 0) with
  | none => rw [ho] at h; cases h
  | some p =>
    rw [ho] at h e
    have h1 := Option.some.inj h
    have e1 : p.1 = 0 := congrArg Prod.fst h1
    have e2 : p.2.2 = 59 := congrArg Prod.snd h1
    rw [e, ← e1, ← e2]
    rfl
/-- some of what it holds: services, callers, policies, empty lists, no calls yet -/
theorem mS_policies : ∀ p, p < 3 → gO mS 40 0 p = some p ∧ ∀ j, j < 49 → gA mS 37 p j = -1 := by decide +kernel
theorem mS_fields : gR mS 1028 0 = some 0 ∧ gR mS 1029 0 = some 0 ∧ gR mS 1030 0 = some 0 ∧ gR mS 1031 0 = some 0 ∧ gR mS 1032 0 = some 0 ∧ gR mS 1033 0 = some 0 ∧ gR mS 1034 0 = some 0 := by decide +kernel
theorem mS_lists : gL mS 50 0 = [] ∧ gL mS 51 0 = [] ∧ gL mS 52 0 = [] ∧ gL mS 53 0 = [] := by decide +kernel
theorem mS_scalars : gI mS 1024 0 = 0 ∧ gI mS 1025 0 = 3 ∧ gI mS 1026 0 = 4 ∧ gI mS 1027 0 = 30 := by decide +kernel
theorem mS_services : ∀ s, s < 6 → gO mS 41 0 s = some s ∧ gI mS 768 s = 1 ∧ gI mS 769 s = 0 ∧ gR mS 770 s = some s ∧ gR mS 771 s = some s ∧ gR mS 772 s = some s ∧ gR mS 773 s = some s ∧ gI mS 384 s = 0 ∧ gI mS 385 s = 0 ∧ gR mS 386 s = some s ∧ gR mS 387 s = some s ∧ gA mS 35 s 0 = 0 ∧ gA mS 35 s 1 = 0 ∧ gA mS 36 s 0 = 0 ∧ gA mS 36 s 1 = 0 := by decide +kernel
theorem mS_callers : ∀ c, c < 7 → gO mS 42 0 c = some c ∧ gI mS 256 c = 1000 ∧ gI mS 257 c = 10 ∧ gI mS 258 c = 0 ∧ gI mS 259 c = 0 := by decide +kernel
theorem mS_free : (∀ i, i < 12 → gV mS 4 i = false ∧ gV mS 30 i = false ∧ gV mS 31 i = false ∧ gV mS 43 i = false ∧ gV mS 54 i = false) ∧ (∀ i, i < 84 → gV mS 0 i = false) ∧ (∀ i, i < 40 → gV mS 5 i = false) ∧ (∀ i, i < 400 → gV mS 1 i = false ∧ gV mS 56 i = false) ∧ ∀ i, i < 2160 → gV mS 7 i = false ∧ gV mS 55 i = false := by decide +kernel
end P8
