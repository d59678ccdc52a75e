section SKP
theorem eq_i {args : Array Value} {s : State} {t : Term} {z : Int32} (h : (Cond.eq t (.int z)).before args s = true) : t.eval args s none [] s = some (.int z) := by
  cases hv : t.eval args s none [] s with
  | none => simp [Cond.before, Cond.holds, Cond.value, hv] at h
  | some w =>
    have hz : (Term.int z).eval args s none [] s = some (.int z) := rfl
    simp only [Cond.before, Cond.holds, Cond.value, hv, hz] at h
    cases w <;> simp_all
theorem start_pol {args : Array Value} {s : State} {A : Nat → Prop} (hts : ∀ w ∈ lw_tbl, w.before args s = true) (hgv : (Jvm.Cond.and given_1 narrow_1).before args s = true) (hA : ∀ a : Nat, a < s.heap.size → ¬ A a) : ∀ j, j < 3 → ∃ t : Nat, va_Z "BrambleMesh" (polN j) "[I" (.ref t) A s s.heap ∧ va_T .int t 3 (fun i => .int (polV j i)) A s s.heap := fun j hj => by
  have hs := flat_of_before _ hgv
  have w1 : ∀ j, j < 3 → Cond.laysStatic "BrambleMesh" (polN j) "[I" ∈ lw_tbl := by decide +kernel
  have el : ∀ i, i < 3 → (Term.elem (.static "BrambleMesh" (polN j) "[I") (.int (Int32.ofNat i))).eval args s none [] s = some (.int (polV j i)) := fun i hi => by
    have p : ∀ k, k < 3 → k = 0 ∨ k = 1 ∨ k = 2 := fun k h => by omega
    rcases p j hj with rfl | rfl | rfl <;> rcases p i hi with rfl | rfl | rfl <;> exact eq_i (hs _ (by decide +kernel))
  have ha : (Cond.arrayOf (.static "BrambleMesh" (polN j) "[I") .int).before args s = true := by
    have p : ∀ k, k < 3 → k = 0 ∨ k = 1 ∨ k = 2 := fun k h => by omega
    rcases p j hj with rfl | rfl | rfl <;> exact hs _ (by decide +kernel)
  have hl : (Term.length (.static "BrambleMesh" (polN j) "[I")).eval args s none [] s = some (.int (Int32.ofNat 3)) := by
    have p : ∀ k, k < 3 → k = 0 ∨ k = 1 ∨ k = 2 := fun k h => by omega
    rcases p j hj with rfl | rfl | rfl <;> exact eq_i (hs _ (by decide +kernel))
  obtain ⟨t, h1, h2⟩ := va_Tof (A := A) (N := 3) (f := fun i => .int (polV j i)) (by decide) ha hl el hA
  exact ⟨t, va_Zof (hts _ (w1 j hj)) (hts _ (by decide +kernel)) h1 hA, h2⟩
end SKP
