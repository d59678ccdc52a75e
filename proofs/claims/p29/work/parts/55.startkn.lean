section SKN
theorem start_cast {args : Array Value} {s : State} (hts : ∀ w ∈ lw_tbl, w.before args s = true) : (∀ c, c < 9 → va_Nw (.castable (cn c) "java/lang/Object") s) ∧ (∀ j, j < 3 → va_Nw (.castable (eCl j) (eCl j)) s) ∧ (∀ j, j < 3 → va_Nw (.declares (dM j)) s) := by
  refine ⟨fun c hc => ?_, fun j hj => ?_, fun j hj => ?_⟩
  · have h : ∀ c, c < 9 → Cond.castable (cn c) "java/lang/Object" ∈ lw_tbl := by decide +kernel
    exact va_Nw.of rfl (hts _ (h c hc))
  · have h : ∀ j, j < 3 → Cond.castable (eCl j) (eCl j) ∈ lw_tbl := by decide +kernel
    exact va_Nw.of rfl (hts _ (h j hj))
  · have h : ∀ j, j < 3 → Cond.declares (dM j) ∈ lw_tbl := by decide +kernel
    exact va_Nw.of rfl (hts _ (h j hj))
theorem start_nest {args : Array Value} {s : State} (hts : ∀ w ∈ lw_tbl, w.before args s = true) : va_AO RX6 s ∧ va_AO RX2 s ∧ va_AO RX0 s ∧ va_AO "java/lang/Object" s ∧ va_AOA .int s ∧ va_Nw (.methodLinkNest RX8 52 yX6_init RX8) s ∧ va_Nw (.methodLinkNest RX6 28 yX3_init RX8) s ∧ va_Nw (.methodLinkNest RX8 53 yX2_init RX8) s ∧ va_Nw (.methodLinkNest RX4 53 yX0_init RX8) s :=
  ⟨va_AO.of (hts _ (by decide +kernel)), va_AO.of (hts _ (by decide +kernel)), va_AO.of (hts _ (by decide +kernel)), va_AO.of (hts _ (by decide +kernel)), (hts (.arrayOver (.array .int)) (by decide +kernel)), va_Nw.of rfl (hts _ (by decide +kernel)), va_Nw.of rfl (hts _ (by decide +kernel)), va_Nw.of rfl (hts _ (by decide +kernel)), va_Nw.of rfl (hts _ (by decide +kernel))⟩
end SKN
