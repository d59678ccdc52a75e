/-! a call goes on: the loop over its steps, both sides -/
section QF
variable {X Y : Nat → Prop} {m : CM} {rho : RH}
theorem e8_isDone (j : Nat) (m : CM) : f8_X8_isDone (some j) m = some (if gI m 911 j = 3 then 1 else 0, m, 0) := by
  unfold f8_X8_isDone
  rw [if_neg (by simp), od_s]
  split <;> rfl
theorem FrE.toC {B : Nat → Prop} {r1 r2 : RH} (h : FrE B r1 r2) (hb : RB r1) : FrC r1 r2 := (h.toG hb).toC
theorem cb_K {α β : Type} {o : CR α} {k : α → CM → CR β} {a : α} {m1 : CM} {g1 : Nat} (h1 : o = some (a, m1, g1)) {r : β} {m9 : CM} {g9 : Nat} (h2 : k a m1 = some (r, m9, g9)) : cb o k = some (r, m9, g1 + g9) := cb_r h1 h2
theorem call_step {k p t q : Nat} {how : Int32} {n8 n9 : Nat} (hX : ∀ x, ¬ X x) (hY : ∀ x, ¬ Y x) (K : Nat → Int32 → CM → CR Int32) (x1 : Int32) (hk : k < iC rho) (hsc : sc rho k = q + 1) (hp : nv (rho 2 (iS rho k)) = p) (hpq : p ≤ q + 1 + t) (h37 : rho 37 k = 2)
    (hhow : (how = 0 ∧ INVX X Y m rho) ∨ (how = 1 ∧ INVX (fun x => X x ∨ x = k) Y m rho ∧ gI m 911 (4 * k + q) = 3 ∧ ∀ x, x ∈ TR rho k q → ¬ rho 37 x ≤ 2) ∨ (how = 2 ∧ INVX (fun x => X x ∨ x = k) Y m rho ∧ gI m 911 (4 * k + q) = 4)) (h8 : t < n8) (h9 : t < n9)
    (ih : ∀ (q : Nat) (how : Int32) (m : CM) (rho : RH) (n8 n9 : Nat), 0 < t → k < iC rho → sc rho k = q + 1 → nv (rho 2 (iS rho k)) = p → p ≤ q + 1 + (t - 1) → rho 37 k = 2 → ((how = 0 ∧ INVX X Y m rho) ∨ (how = 1 ∧ INVX (fun x => X x ∨ x = k) Y m rho ∧ gI m 911 (4 * k + q) = 3 ∧ ∀ x, x ∈ TR rho k q → ¬ rho 37 x ≤ 2) ∨ (how = 2 ∧ INVX (fun x => X x ∨ x = k) Y m rho ∧ gI m 911 (4 * k + q) = 4)) → t - 1 < n8 → t - 1 < n9 →
      ∃ m' g rho', (∀ r m9 g9, K 0 (x1 + (-1)) m' = some (r, m9, g9) → l8_X8_goOnWithCalls_77 K n8 0 x1 k (some (4 * k + q)) (nI p) (nI (q + 1)) m = some (r, m9, g + g9)) ∧ l9_goesCall_21 n9 (nI k) how rho = some (0, rho') ∧ INVX X Y m' rho' ∧ g + pot m' ≤ pot m ∧ FrC rho rho') :
    ∃ m' g rho', (∀ r m9 g9, K 0 (x1 + (-1)) m' = some (r, m9, g9) → l8_X8_goOnWithCalls_77 K n8 0 x1 k (some (4 * k + q)) (nI p) (nI (q + 1)) m = some (r, m9, g + g9)) ∧ l9_goesCall_21 n9 (nI k) how rho = some (0, rho') ∧ INVX X Y m' rho' ∧ g + pot m' ≤ pot m ∧ FrC rho rho' := by
  obtain ⟨n8, rfl⟩ : ∃ n', n8 = n' + 1 := ⟨n8 - 1, by omega⟩
  obtain ⟨n9, rfl⟩ : ∃ n', n9 = n' + 1 := ⟨n9 - 1, by omega⟩
  have hb : RB rho := by
    rcases hhow with ⟨-, z⟩ | ⟨-, z, -⟩ | ⟨-, z, -⟩ <;> exact z.rb9
  have hC := hb.C
  have hk4 : k < 400 := by omega
  have hok : OE rho k := Or.inl hk
  have hS := hb.S hk
  have hp4 := (hb.rs9 _ hS.2).1.lt (by omega)
  have hpe := (hb.rs9 _ hS.2).1.eq (by omega)
  have hss := hb.sce hok
  have hple : sc rho k ≤ nv (rho 2 (iS rho k)) := (hb.rk9 k hk).2.2.2.2.2.2.2.2.2.2.2.2
  have hl2 : rho 37 k ≤ 2 := by rw [h37]; decide
  rw [hp] at hpe hp4 hple
  have qk := vq_nI (k := k) (n := 400) (by omega) (by omega)
  have qk5 := vq_nI (k := k) (n := 540) (by omega) (by omega)
  have ck := nI_clamp (n := k) (by omega)
  rcases hhow with ⟨rfl, hI⟩ | ⟨rfl, hI, h911, hdead⟩ | ⟨rfl, hI, h911⟩
  · -- some try is out
    have hgo : Go rho k := by
      unfold Go goB
      rw [if_pos hk4]
      exact decide_eq_true h37
    have h911 := stp hI hX hok (show q + 1 = sc rho k from hsc.symm) hgo
    refine ⟨m, 0, rho, fun r m9 g9 hK => ?_, ?_, hI, by omega, FrC.rf rho⟩
    · have e := e8_isDone (4 * k + q) m
      rw [h911, if_neg (show ¬ (8 : Int32) = 3 by decide)] at e
      have hno : ¬ (some (4 * k + q) : Option Nat) = none := by simp
      have h48 : ¬ (8 : Int32) = 4 := by decide
      rw [Nat.zero_add, l8_X8_goOnWithCalls_77]
      by_cases hx : nI p ≤ nI (q + 1)
      · rw [if_pos hx, e, cb_s0, if_pos rfl, if_neg hno, od_s, h911, if_neg h48]
        exact hK
      · rw [if_neg hx, e, cb_s0, if_pos rfl, e, cb_s0, if_pos rfl, if_neg hno, od_s, h911, if_neg h48]
        exact hK
    · rw [l9_goesCall_21, if_neg (show ¬ (0 : Int32) = 1 by decide), if_pos (show (0 : Int32) ≤ 0 by decide)]
  · -- it is done
    have hlast : ∀ n, n + 1 = sc rho k → gI m 911 (4 * k + n) ≠ 8 := fun n hn => by
      have : n = q := by omega
      rw [this, h911]
      decide
    by_cases hend : p ≤ q + 1
    · obtain ⟨m', g, rho', k1, k2, k3, k4, k5, k6, k7⟩ := end_both hI hk hl2 (e := 3) (Or.inl rfl) (fun z => absurd z (by decide))
      refine ⟨m', g, rho', fun r m9 g9 hK => ?_, ?_, k3.mono (fun _ z => z.1.resolve_right z.2) (fun _ z => z), k4, k5.toC hb⟩
      · rw [l8_X8_goOnWithCalls_77, if_pos (nI_le hend (by omega)), e8_isDone, h911, cb_s0, if_pos rfl, if_neg (show ¬ (1 : Int32) = 0 by decide)]
        exact cb_K k1 hK
      · have e46 : rho 46 k = nI q := by rw [hss.1, hsc, nI_pred]
        obtain ⟨p', hp'⟩ : ∃ p', p = p' + 1 := ⟨p - 1, by omega⟩
        rw [l9_goesCall_21, if_pos rfl, if_pos qk5, if_pos qk, ck, hS.1, if_pos (vq_nI hS.2 (by omega)), nI_clamp (by omega), hpe, hp', nI_pred, e46, if_pos (nI_le (by omega) (by omega)), if_neg (show ¬ (1 : Int32) ≤ 0 by decide), k2, ob_s]
    · obtain ⟨m1, g, m', rho', k1, k2, k2b, k3, k4, k5, k6, k7, k8⟩ := begins_both hI hX hk h37 (by rw [hp]; omega) hlast (fun j hj z y => by
        have h3 := (hb.rw9 j hj).2.1 y
        rw [z] at h3
        exact hdead j (TR_mem.mpr ⟨hj, z, by omega⟩) y)
      have hk' : k < iC rho' := by have := k6.2.2.1; omega
      have hgo' : Go rho' k := by
        unfold Go goB
        rw [if_pos hk4]
        exact decide_eq_true k8
      rw [hsc] at k1 k2 k2b k7
      obtain ⟨how2, m2, g2, rho2, j1, j2, j3, j4, j5, j6⟩ := go_both k4 hX hY (n := q + 1) (by omega) (Or.inl hk') k7.symm hgo'
      have hk2 : k < iC rho2 := by have := j5.2.2.2.1; omega
      have e37 : rho2 37 k = 2 := (j6 hk4).trans k8
      have eS : iS rho2 k = iS rho k := by rw [j5.toC.S hk', k6.S hk]
      have e2 : rho2 2 (iS rho k) = rho 2 (iS rho k) := (j5.1 2 _ (by unfold stF; omega)).trans (k6.1 2 _ (by unfold stF; omega))
      obtain ⟨m3, g3, rho3, i1, i2, i3, i4, i5⟩ := ih (q + 1) how2 m2 rho2 n8 n9 (by omega) hk2 (by rw [j5.sc9 (Or.inl hk')]; exact k7) (by rw [eS, e2]; exact hp) (by omega) e37 j3 (by omega) (by omega)
      refine ⟨m3, g + (g2 + g3), rho3, fun r m9 g9 hK => ?_, ?_, i3, by omega, (k6.tr j5.toC).tr i5⟩
      · rw [l8_X8_goOnWithCalls_77, if_neg (cle (by omega) (by omega)), e8_isDone, h911, cb_s0, if_pos rfl, if_neg (show ¬ (1 : Int32) = 0 by decide)]
        have := i1 r m9 g9 hK
        rw [show g + (g2 + g3) + g9 = g + (g2 + (g3 + g9)) by omega]
        refine cb_K k1 ?_
        show (od (some (4 * k + (q + 1))) _) = _
        rw [od_s, nI_1 (q + 1)]
        rw [go_same k2 k2b]
        exact cb_K j1 this
      · have e46 : rho 46 k = nI q := by rw [hss.1, hsc, nI_pred]
        obtain ⟨p', hp'⟩ : ∃ p', p = p' + 1 := ⟨p - 1, by omega⟩
        rw [l9_goesCall_21, if_pos rfl, if_pos qk5, if_pos qk, ck, hS.1, if_pos (vq_nI hS.2 (by omega)), nI_clamp (by omega), hpe, hp', nI_pred, e46, if_neg (cle (by omega) (by omega)), k3, ob_s, j2, ob_s]
        exact i2
  · -- it failed
    obtain ⟨m', g, rho', k1, k2, k3, k4, k5, k6, k7⟩ := end_both hI hk hl2 (e := 4) (Or.inr (Or.inl rfl)) (fun z => absurd z (by decide))
    refine ⟨m', g, rho', fun r m9 g9 hK => ?_, ?_, k3.mono (fun _ z => z.1.resolve_right z.2) (fun _ z => z), k4, k5.toC hb⟩
    · have e := e8_isDone (4 * k + q) m
      rw [h911, if_neg (show ¬ (4 : Int32) = 3 by decide)] at e
      have hno : ¬ (some (4 * k + q) : Option Nat) = none := by simp
      rw [l8_X8_goOnWithCalls_77]
      by_cases hx : nI p ≤ nI (q + 1)
      · rw [if_pos hx, e, cb_s0, if_pos rfl, if_neg hno, od_s, h911, if_pos rfl]
        exact cb_K k1 hK
      · rw [if_neg hx, e, cb_s0, if_pos rfl, e, cb_s0, if_pos rfl, if_neg hno, od_s, h911, if_pos rfl]
        exact cb_K k1 hK
    · rw [l9_goesCall_21, if_neg (show ¬ (2 : Int32) = 1 by decide), if_neg (show ¬ (2 : Int32) ≤ 0 by decide), k2, ob_s]
theorem call_loop {k p : Nat} (hX : ∀ x, ¬ X x) (hY : ∀ x, ¬ Y x) (K : Nat → Int32 → CM → CR Int32) (x1 : Int32) : ∀ (t q : Nat) (how : Int32) (m : CM) (rho : RH) (n8 n9 : Nat), k < iC rho → sc rho k = q + 1 → nv (rho 2 (iS rho k)) = p → p ≤ q + 1 + t → rho 37 k = 2 →
    ((how = 0 ∧ INVX X Y m rho) ∨ (how = 1 ∧ INVX (fun x => X x ∨ x = k) Y m rho ∧ gI m 911 (4 * k + q) = 3 ∧ ∀ x, x ∈ TR rho k q → ¬ rho 37 x ≤ 2) ∨ (how = 2 ∧ INVX (fun x => X x ∨ x = k) Y m rho ∧ gI m 911 (4 * k + q) = 4)) → t < n8 → t < n9 →
    ∃ m' g rho', (∀ r m9 g9, K 0 (x1 + (-1)) m' = some (r, m9, g9) → l8_X8_goOnWithCalls_77 K n8 0 x1 k (some (4 * k + q)) (nI p) (nI (q + 1)) m = some (r, m9, g + g9)) ∧ l9_goesCall_21 n9 (nI k) how rho = some (0, rho') ∧ INVX X Y m' rho' ∧ g + pot m' ≤ pot m ∧ FrC rho rho' := by
  intro t
  induction t with
  | zero =>
    intro q how m rho n8 n9 hk hsc hp hpq h37 hhow h8 h9
    exact call_step hX hY K x1 hk hsc hp hpq h37 hhow h8 h9 (fun _ _ _ _ _ _ z => by omega)
  | succ t ih =>
    intro q how m rho n8 n9 hk hsc hp hpq h37 hhow h8 h9
    exact call_step hX hY K x1 hk hsc hp hpq h37 hhow h8 h9 (fun q how m rho n8 n9 z => ih q how m rho n8 n9)
end QF
