/-! the world's constants at the law's entry -/
section ST
theorem start_cls {args : Array Value} {s : State} (hts : ∀ w ∈ TW, w.before args s = true) : ∃ (dC : Nat → ClassId) (dI : Nat → Nat → Nat), ∀ (c : Nat) (q : vw_C), cls[c]? = some q → u_Kn s q.1 q.2.1 q.2.2 (dC c) (dI c) := by
  have it : ∀ c, c < 10 → ∃ n, Cond.instantiable (cn c) n ∈ TW := fun c h => c10 (P := fun c => ∃ n, Cond.instantiable (cn c) n ∈ TW) ⟨_, it_X0⟩ ⟨_, it_X1⟩ ⟨_, it_X2⟩ ⟨_, it_X3⟩ ⟨_, it_X4⟩ ⟨_, it_X5⟩ ⟨_, it_X6⟩ ⟨_, it_X7⟩ ⟨_, it_X8⟩ ⟨_, it_X8⟩ h
  have h : ∀ c, ∃ (q9 : ClassId × (Nat → Nat)), ∀ (q : vw_C), cls[c]? = some q → u_Kn s q.1 q.2.1 q.2.2 q9.1 q9.2 := fun c => by
    by_cases hc : c < 10
    · obtain ⟨n, hn⟩ := it c hc
      obtain ⟨a, i, hk⟩ := u_known (n := n) hts (cW_ok hc) (hts _ hn)
      refine ⟨(a, i), fun q hq => ?_⟩
      rw [cls_at hc] at hq
      cases hq
      exact hk
    · by_cases h10 : c = 10
      · obtain ⟨a, i, hk⟩ := u_known (n := 3) hts alW (hts _ it_Jx4a65c)
        refine ⟨(a, i), fun q hq => ?_⟩
        subst h10
        cases hq
        exact hk
      · refine ⟨(0, fun _ => 0), fun q hq => ?_⟩
        have : (11 : Nat) ≤ c := by omega
        rw [List.getElem?_eq_none (show cls.length ≤ c from this)] at hq
        cases hq
  exact ⟨fun c => (Classical.choose (h c)).1, fun c => (Classical.choose (h c)).2, fun c q hq => Classical.choose_spec (h c) q hq⟩
end ST
