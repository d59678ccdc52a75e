/-! lists in the machine of ids -/
section LM
theorem tA4 {c : Nat} (h : kd c = 4) : tA c < 9 ∧ tA c ≠ 9 := by
  have := kd4 h
  have : c = 50 ∨ c = 51 ∨ c = 52 ∨ c = 53 ∨ c = 54 ∨ c = 55 ∨ c = 56 := by omega
  rcases this with rfl | rfl | rfl | rfl | rfl | rfl | rfl <;> decide
variable {D : DD} {lv : Nat → Nat → Bool} {fr : Nat → Nat → Option Nat} {fi : Nat → Nat → Int32} {ai : Nat → Nat → Nat → Int32} {ar : Nat → Nat → Nat → Option Nat} {li : Nat → Nat → List Nat} {out : Int64} {rho : Nat → Nat → Int32} {ad : Ad} {H H1 : Heap} {c i r cap : Nat} {xs : List Nat} {m : Int32}
/-- a list's own change: its cell, the row behind it (a new one, or the same), its contents -/
theorem MM.lst (hm : MM D (lv, fr, fi, ai, ar, li, out, rho) ad H) (hl : lv c i = true) (hk : kd c = 4) (hsz : H.size ≤ H1.size) (hF : ∀ q, q < H.size → q ≠ ad c i → q ≠ ad (c + 10) i → H1[q]? = H[q]?) (hr : r = ad (c + 10) i ∨ H.size ≤ r) (hr2 : r ≠ D.2.2.1) (hsh : ∀ q, own D lv ad q → q ≠ D.2.2.1)
    (hc1 : t_OB (ad c i) (D.1.1 10) 3 (D.1.2 10) H1 (vp_V [.int m, .ref r, .int (nI xs.length)])) (h1 : xs.length ≤ cap) (h2 : 10 ≤ cap) (h3 : cap ≤ 700) (hc2 : H1[r]? = some (vp_cell (D.2.1 7) (cap, .inr (.inr (.inr (.inr (fun j => (xs[j]?).map (ad (tA c)))))))))
    (hxs : ∀ j, j ∈ xs → lv (tA c) j = true) : MM D (lv, fr, fi, ai, ar, up2 li c i xs, out, rho) (up2 ad (c + 10) i r) H1 ∧ Ext D lv ad lv (up2 ad (c + 10) i r) ∧ ∀ q, own D lv (up2 ad (c + 10) i r) q → own D lv ad q ∨ H.size ≤ q := by
  have h4 := kd4 hk
  have hoA : ∀ c' i', lv c' i' = true → up2 ad (c + 10) i r c' i' = ad c' i' := fun c' i' h => up2_n _ _ (fun z => (kd9 (live_kd hm h)).1 (by omega))
  have hoA2 : ∀ c' i', kd c' = 4 → ¬ (c' = c ∧ i' = i) → up2 ad (c + 10) i r (c' + 10) i' = ad (c' + 10) i' := fun c' i' _ h => up2_n _ _ (fun z => h ⟨by omega, z.2⟩)
  have key : ∀ c' i', lvx D lv (up2 ad (c + 10) i r) c' i' → (c' = c + 10 ∧ i' = i) ∨ (¬ (c' = c + 10 ∧ i' = i) ∧ lvx D lv ad c' i' ∧ up2 ad (c + 10) i r c' i' = ad c' i') := by
    intro c' i' h
    by_cases z : c' = c + 10 ∧ i' = i
    · exact Or.inl z
    · have e := up2_n ad r z
      refine Or.inr ⟨z, ?_, e⟩
      rcases h with h | ⟨a1, a2, a3, a4⟩
      · exact Or.inl h
      · exact Or.inr ⟨a1, a2, a3, by rw [← e]; exact a4⟩
  have hrow : ad (c + 10) i ≠ D.2.2.1 → lvx D lv ad (c + 10) i := fun h => Or.inr ⟨by omega, by omega, by rw [Nat.add_sub_cancel]; exact hl, h⟩
  have apart : ∀ c' i', lvx D lv ad c' i' → ¬ (c' = c + 10 ∧ i' = i) → ad c' i' ≠ r := by
    intro c' i' h hne z
    rcases hr with e | e
    · refine hne (hm.2.1 c' i' (c + 10) i h (hrow ?_) (z.trans e))
      rw [← e]
      exact hr2
    · have := lvx_lt hm h
      rw [z] at this
      exact absurd this (Nat.not_lt.mpr e)
  have same : ∀ c' i', lvx D lv ad c' i' → ¬ (c' = c ∧ i' = i) → ¬ (c' = c + 10 ∧ i' = i) → H1[ad c' i']? = H[ad c' i']? := by
    intro c' i' h n1 n2
    refine hF _ (lvx_lt hm h) (fun z => n1 (hm.2.1 c' i' c i h (Or.inl hl) z)) (fun z => ?_)
    by_cases e : ad (c + 10) i = D.2.2.1
    · exact hsh _ ⟨c', i', h, rfl⟩ (z.trans e)
    · exact n2 (hm.2.1 c' i' (c + 10) i h (hrow e) z)
  refine ⟨⟨?_, ?_, hm.2.2.1, hm.2.2.2.1, ?_, ?_, hm.2.2.2.2.2.2⟩, fun c' i' h => ⟨h, hoA c' i' h⟩, ?_⟩
  · intro c' i' hl'
    by_cases z : c' = c ∧ i' = i
    · obtain ⟨rfl, rfl⟩ := z
      unfold cOK
      rw [hk]
      show (∃ m : Int32, _) ∧ _
      rw [hoA c' i' hl', up2_s, show ((lv, fr, fi, ai, ar, up2 li c' i' xs, out, rho) : OM).2.2.2.2.2.1 c' i' = xs from up2_s _ _ _ _]
      have e9 : up2 ad (c' + 10) i' r (tA c') = ad (tA c') := funext fun j => up2_n _ _ (fun z => by have := tA4 hk; omega)
      rw [e9]
      exact ⟨⟨m, hc1⟩, Or.inr ⟨hr2, cap, h1, h2, h3, hc2⟩⟩
    · have h5 : cOK D (lv, fr, fi, ai, ar, up2 li c i xs, out, rho) (up2 ad (c + 10) i r) H c' i' :=
        cOK_move hm hl' (fun _ _ => rfl) hoA (fun h => hoA2 c' i' h z) (fun _ _ _ => ⟨rfl, fun _ => rfl, fun _ _ => rfl⟩) (fun _ => rfl) (fun _ => rfl) (fun _ => up2_n _ _ z) (fun _ => rfl)
      have k9 := (kd9 (live_kd hm hl')).1
      refine cOK_kept h5 ?_ (fun hk' hne => ?_)
      · rw [hoA c' i' hl']
        exact same c' i' (Or.inl hl') z (fun w => k9 (by omega))
      · rw [hoA2 c' i' hk' z] at hne ⊢
        have := kd4 hk'
        exact same (c' + 10) i' (Or.inr ⟨by omega, by omega, by rw [Nat.add_sub_cancel]; exact hl', hne⟩) (fun w => by omega) (fun w => z ⟨by omega, w.2⟩)
  · intro c1 i1 c2 i2 a1 a2 e
    rcases key c1 i1 a1 with z1 | ⟨z1, l1, e1⟩
    · rcases key c2 i2 a2 with z2 | ⟨z2, l2, e2⟩
      · exact ⟨z1.1.trans z2.1.symm, z1.2.trans z2.2.symm⟩
      · exfalso
        rw [z1.1, z1.2, up2_s, e2] at e
        exact apart c2 i2 l2 z2 e.symm
    · rcases key c2 i2 a2 with z2 | ⟨z2, l2, e2⟩
      · exfalso
        rw [z2.1, z2.2, up2_s, e1] at e
        exact apart c1 i1 l1 z1 e
      · rw [e1, e2] at e
        exact hm.2.1 c1 i1 c2 i2 l1 l2 e
  · intro c' i' j hl' hk' hj
    by_cases z : c' = c ∧ i' = i
    · obtain ⟨rfl, rfl⟩ := z
      have hj' : j ∈ up2 li c' i' xs c' i' := hj
      rw [up2_s] at hj'
      exact hxs j hj'
    · have hj' : j ∈ up2 li c i xs c' i' := hj
      rw [up2_n _ _ z] at hj'
      exact hm.2.2.2.2.1 c' i' j hl' hk' hj'
  · intro j hj
    rw [up2_n _ _ (fun z => by omega)]
    exact hm.2.2.2.2.2.1 j hj
  · rintro q ⟨c', i', h, rfl⟩
    rcases key c' i' h with z | ⟨z, l1, e1⟩
    · rw [z.1, z.2, up2_s]
      rcases hr with e | e
      · refine Or.inl ⟨c + 10, i, hrow ?_, e⟩
        rw [← e]
        exact hr2
      · exact Or.inr e
    · rw [e1]
      exact Or.inl ⟨c', i', l1, rfl⟩
end LM
