section SKT
theorem exa_r {args : Array Value} {s : State} {t : Term} {cls9 : String} (h : (Cond.exactly t cls9).before args s = true) : ∃ a : Nat, t.eval args s none [] s = some (.ref a) := by
  cases hv : t.eval args s none [] s with
  | none => simp [Cond.before, Cond.holds, Cond.value, hv] at h
  | some w =>
    cases w with
    | ref a => exact ⟨a, rfl⟩
    | _ => cases hc : s.vm.findClass cls9 <;> simp [Cond.before, Cond.holds, Cond.value, hv, hc] at h
theorem start_str {args : Array Value} {s : State} (hts : ∀ w ∈ lw_tbl, w.before args s = true) (hgv : (Jvm.Cond.and given_1 narrow_1).before args s = true) : ∀ j, j < 3 → ∃ a, vk_R "BrambleMesh" (eIx j) (eTx j) a s := fun j hj => by
  have hs := flat_of_before _ hgv
  have p : ∀ k, k < 3 → k = 0 ∨ k = 1 ∨ k = 2 := fun k h => by omega
  rcases p j hj with rfl | rfl | rfl
  · obtain ⟨a, h⟩ := exa_r (hs (.exactly (.string "BrambleMesh" 258) "java/lang/String") (by decide +kernel))
    exact ⟨a, vk_R.of (hts _ (by decide +kernel)) h⟩
  · obtain ⟨a, h⟩ := exa_r (hs (.exactly (.string "BrambleMesh" 265) "java/lang/String") (by decide +kernel))
    exact ⟨a, vk_R.of (hts _ (by decide +kernel)) h⟩
  · obtain ⟨a, h⟩ := exa_r (hs (.exactly (.string "BrambleMesh" 270) "java/lang/String") (by decide +kernel))
    exact ⟨a, vk_R.of (hts _ (by decide +kernel)) h⟩
end SKT
