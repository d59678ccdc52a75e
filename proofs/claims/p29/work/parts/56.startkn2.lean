section SKM
theorem start_KN {args : Array Value} {s : State} (hts : ∀ w ∈ lw_tbl, w.before args s = true) (hgv : (Jvm.Cond.and given_1 narrow_1).before args s = true) : KN s := by
  have hs := flat_of_before _ hgv
  obtain ⟨a1, a2, a3, a4, a5, a6, a7, a8, a9⟩ := start_nest hts
  obtain ⟨b1, b2, b3⟩ := start_cast hts
  refine ⟨a1, a2, a3, a4, a5, a6, a7, a8, a9, b2, fun j j' h1 h2 h3 => ?_, va_Dc.of (hts _ (by decide +kernel)), va_Mi.of (hs _ (by decide +kernel)), b1, b3⟩
  have p : ∀ k, k < 3 → k = 0 ∨ k = 1 ∨ k = 2 := fun k h => by omega
  rcases p j h1 with rfl | rfl | rfl <;> rcases p j' h2 with rfl | rfl | rfl <;> first | exact absurd rfl h3 | exact va_Nc.of (hs _ (by decide +kernel))
end SKM
