/-! a call's end, with all below it: both sides -/
section PN
variable {X Y : Nat → Prop} {m : CM} {rho : RH}
theorem FrE.mono {B B' : Nat → Prop} {r1 r2 : RH} (h : FrE B r1 r2) (hB : ∀ j, B j → B' j) : FrE B' r1 r2 :=
  ⟨h.1, h.2.1, h.2.2.1, h.2.2.2.1, h.2.2.2.2.1, h.2.2.2.2.2.1, fun j hj => h.2.2.2.2.2.2 j (fun z => hj (hB j z))⟩
/-- what is known of an end's run on both sides -/
def EndR (X Y : Nat → Prop) (m : CM) (rho : RH) (k d : Nat) (e : Int32) (m' : CM) (g : Nat) (rho' : RH) (c : Nat) : Prop :=
  (∀ q, l9_endsCall_15 (q + c) (nI (d + 1)) (up2 (seR rho k e) 45 d (nI k)) = l9_endsCall_15 q (nI d) rho') ∧ INVX (fun o => X o ∧ o ≠ k) Y m' rho' ∧ g + pot m' ≤ pot m ∧ c + 2 * Liv rho' + 1 ≤ 2 * Liv rho ∧ FrE (Bel rho k) rho rho' ∧ ClE (Bel rho k) rho m m' ∧ (∀ i, i < d → rho' 45 i = rho 45 i) ∧ rho' 37 k = e ∧ rho' 42 k = losV rho k e
def EndS (fe : Nat) : Prop := ∀ (X Y : Nat → Prop) (m : CM) (rho : RH) (k d : Nat) (e : Int32), INVX X Y m rho → k < iC rho → rho 37 k ≤ 2 → (e = 3 ∨ e = 4 ∨ e = 5 ∨ e = 7) → (e = 7 → gI m 911 (sid rho k) ≠ 8) → 6 ≤ fe + iS rho k → d ≤ iS rho k → ∃ m' g rho' c, f8_X8_end fe 0 k e (nI d) m = some (0, m', g) ∧ EndR X Y m rho k d e m' g rho' c
/-- the tries of a step that is closed end, one after another -/
theorem close_loop {γ : Type} {fe : Nat} (hE : EndS fe) (R : Nat → RH → γ) (co : Nat → Nat) (hco : ∀ c, co c ≤ c + 1) (dd o n : Nat) (r0 : RH)
    (hR : ∀ q rho j rho1 c, (∀ i, i < dd → rho 45 i = r0 45 i) → RB rho → OE rho o → n + 1 = sc rho o → j < iC rho → (TR rho o n).find? (livB rho) = some j → c + 2 * Liv rho1 + 1 ≤ 2 * Liv rho → (∀ q, l9_endsCall_15 (q + c) (nI (dd + 1)) (up2 (seR rho j 7) 45 dd (nI j)) = l9_endsCall_15 q (nI dd) rho1) → R (q + co c) rho = R q rho1) :
    ∀ (l pre : List Nat) (m : CM) (rho : RH) (n8 : Nat), TR rho o n = pre ++ l → (∀ x, x ∈ pre → ¬ rho 37 x ≤ 2) → INVX X Y m rho → OE rho o → n + 1 = sc rho o → gI m 911 (4 * o + n) ≠ 8 → (∀ i, i < dd → rho 45 i = r0 45 i) → l.length < n8 → (∀ j, j ∈ l → 6 ≤ fe + iS rho j ∧ dd ≤ iS rho j) →
    ∃ m' g rho' ct, l8_X8_close_17 (f8_X8_end fe) n8 0 (4 * o + n) (nI dd) (nI pre.length) m = some (0, m', g) ∧ (∀ q, R (q + ct) rho = R q rho') ∧ INVX X Y m' rho' ∧ g + pot m' ≤ pot m ∧ ct + 2 * Liv rho' ≤ 2 * Liv rho ∧ FrE (Bch rho o) rho rho' ∧ ClE (Bch rho o) rho m m' ∧ (∀ i, i < dd → rho' 45 i = rho 45 i) ∧ (∀ x, x ∈ TR rho o n → ¬ rho' 37 x ≤ 2) := by
  intro l
  induction l with
  | nil =>
    intro pre m rho n8 hT hpre h ho hn h911 h45 h8 hd
    obtain ⟨n8, rfl⟩ : ∃ n', n8 = n' + 1 := ⟨n8 - 1, by have := h8; omega⟩
    have ht := h.at9 o n ho (by omega)
    have hh := h.ah9 o n ho (by omega)
    have hl := TR_len h.rb9 o n
    rw [List.append_nil] at hT
    refine ⟨m, 0, rho, 0, ?_, fun q => rfl, h, by omega, by omega, FrE.rf _ _, fun _ _ _ _ _ => rfl, fun _ _ => rfl, fun x hx => hpre x (hT ▸ hx)⟩
    rw [l8_X8_close_17, ht.2.2.2.2.2.2.2.2.2, od_s, hh.1, hT, if_pos (nI_le (Nat.le_refl _) (by rw [hT] at hl; omega))]
  | cons j l ih =>
    intro pre m rho n8 hT hpre h ho hn h911 h45 h8 hd
    obtain ⟨n8, rfl⟩ : ∃ n', n8 = n' + 1 := ⟨n8 - 1, by omega⟩
    have hb := h.rb9
    have hC := hb.C
    have ht := h.at9 o n ho (by omega)
    have hh := h.ah9 o n ho (by omega)
    have hl := TR_len h.rb9 o n
    have hjT : j ∈ TR rho o n := by rw [hT]; exact List.mem_append_right _ List.mem_cons_self
    have hj := TR_mem.mp hjT
    have hat : (TR rho o n)[pre.length]? = some j := by rw [hT, List.getElem?_append_right (Nat.le_refl _), Nat.sub_self]; rfl
    have hlen : pre.length < (TR rho o n).length := by rw [hT, List.length_append, List.length_cons]; omega
    have hstep : l8_X8_close_17 (f8_X8_end fe) (n8 + 1) 0 (4 * o + n) (nI dd) (nI pre.length) m = if rho 37 j ≤ 2 then cb (f8_X8_end fe 0 j 7 (nI dd) m) (fun _ m15 => l8_X8_close_17 (f8_X8_end fe) n8 0 (4 * o + n) (nI dd) (nI (pre.length + 1)) m15) else l8_X8_close_17 (f8_X8_end fe) n8 0 (4 * o + n) (nI dd) (nI (pre.length + 1)) m := by
      rw [l8_X8_close_17, ht.2.2.2.2.2.2.2.2.2, od_s, hh.1, if_neg (cle (by omega) hlen), if_pos (nI_pos (by omega)), nI_clamp (by omega), hat, od_s, e8_hasEnded h hj.1, cb_s0, nI_1]
      by_cases h1 : rho 37 j ≤ 2
      · rw [if_pos h1, if_pos h1, if_pos rfl]
      · rw [if_neg h1, if_neg h1, if_neg (by decide)]
    by_cases h1 : rho 37 j ≤ 2
    · have hsid : sid rho j = 4 * o + n := by unfold sid; rw [hj.2.1, hj.2.2]
      obtain ⟨m1, g1, rho1, c, k1, k2, k3, k4, k5, k6, k7, k8, k9, k10⟩ := hE X Y m rho j dd 7 h hj.1 h1 (Or.inr (Or.inr (Or.inr rfl))) (fun _ => by rw [hsid]; exact h911) (hd j List.mem_cons_self).1 (hd j List.mem_cons_self).2
      have hrk := hb.rk9 j hj.1
      rw [hj.2.1] at hrk
      have hBj : ∀ x, Bel rho j x → Bch rho o x := fun x hx => by
        rcases hx with rfl | hx
        · exact ⟨by omega, fun z => (hrk.2.2.1 z).2⟩
        · exact ⟨hx.1, fun z => Nat.lt_trans (hrk.2.2.1 z).2 (hx.2 (by omega))⟩
      have hBo : ¬ Bch rho o o := fun z => by
        have := z.2 z.1
        omega
      have hs1 := k6.sc9 hb ho
      have hT1 := k6.T o n
      have hS1 := fun j => k6.S j
      have h9111 : gI m1 911 (4 * o + n) = gI m 911 (4 * o + n) := k7 o n ho (by omega) (fun z => hBo (hBj o z))
      have hfd : (TR rho o n).find? (livB rho) = some j := by
        rw [hT, fd_app pre _ (fun x hx => by unfold livB; exact decide_eq_false (hpre x hx)), List.find?_cons]
        have : livB rho j = true := decide_eq_true h1
        rw [this]
      obtain ⟨m2, g2, rho2, ct, j1, j2, j3, j4, j5, j6, j7, j8, j9⟩ := ih (pre ++ [j]) m1 rho1 n8 (by rw [hT1, hT, List.append_assoc]; rfl) (fun x hx => by
          rcases List.mem_append.mp hx with z | z
          · rw [(k6.2.2.2.2.1 x (hpre x z)).1]
            exact hpre x z
          · rw [List.mem_singleton] at z
            subst z
            rw [k9]
            decide) (k3.mono (fun _ z => z.1) (fun _ z => z)) hs1.2 (by rw [hs1.1]; exact hn) (by rw [h9111]; exact h911) (fun i hi => (k8 i hi).trans (h45 i hi)) (by rw [List.length_cons] at h8; omega) (fun x hx => by rw [hS1]; exact hd x (List.mem_cons_of_mem _ hx))
      have hlc := hco c
      refine ⟨m2, g1 + g2, rho2, ct + co c, ?_, fun q => ?_, j3, by omega, by omega, (k6.mono hBj).tr j6 (fun x hx => (k6.B9 o x).mp hx), fun o' n' ho' hn' hB' => ?_, fun i hi => (j8 i hi).trans (k8 i hi), fun x hx => j9 x (by rw [hT1]; exact hx)⟩
      · rw [hstep, if_pos h1]
        refine cb_r k1 ?_
        have := j1
        rw [List.length_append, List.length_singleton] at this
        exact this
      · have e1 := hR (q + ct) rho j rho1 c h45 hb ho hn hj.1 hfd k5 k2
        rw [← j2 q, ← e1, Nat.add_assoc]
      · have hs' := k6.sc9 hb ho'
        rw [j7 o' n' hs'.2 (by rw [hs'.1]; exact hn') (fun z => hB' ((k6.B9 o o').mp z))]
        exact k7 o' n' ho' hn' (fun z => hB' (hBj o' z))
    · obtain ⟨m2, g2, rho2, ct, j1, j2⟩ := ih (pre ++ [j]) m rho n8 (by rw [hT, List.append_assoc]; rfl) (fun x hx => by
          rcases List.mem_append.mp hx with z | z
          · exact hpre x z
          · rw [List.mem_singleton] at z
            subst z
            exact h1) h ho hn h911 h45 (by rw [List.length_cons] at h8; omega) (fun x hx => hd x (List.mem_cons_of_mem _ hx))
      refine ⟨m2, g2, rho2, ct, ?_, j2⟩
      rw [hstep, if_neg h1]
      have := j1
      rw [List.length_append, List.length_singleton] at this
      exact this
end PN
