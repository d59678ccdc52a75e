/-! what no method of the class touches: the reference's fields, and which cells of its it has -/
section FRM
def FR (m m9 : CM) : Prop := (∀ f i, 1152 ≤ f → m9.2.1 f i = m.2.1 f i) ∧ (∀ c i, (c = 9 ∨ 57 ≤ c) → m9.1 c i = m.1 c i)
theorem FR.rf {m : CM} : FR m m := ⟨fun _ _ _ => rfl, fun _ _ _ => rfl⟩
theorem FR.tr {m m1 m2 : CM} (h : FR m m1) (h2 : FR m1 m2) : FR m m2 := ⟨fun f i hf => (h2.1 f i hf).trans (h.1 f i hf), fun c i hc => (h2.2 c i hc).trans (h.2 c i hc)⟩
theorem FR.sI {m m1 : CM} {f i : Nat} {v : Int32} (h : FR m m1) : FR m (sI m1 f i v) := h
theorem FR.sA {m m1 : CM} {c i j : Nat} {v : Int32} (h : FR m m1) : FR m (sA m1 c i j v) := h
theorem FR.sO {m m1 : CM} {c i j : Nat} {o : Option Nat} (h : FR m m1) : FR m (sO m1 c i j o) := h
theorem FR.sL {m m1 : CM} {c i : Nat} {xs : List Nat} (h : FR m m1) : FR m (sL m1 c i xs) := h
theorem FR.sR {m m1 : CM} {f i : Nat} {o : Option Nat} (hf : f < 1152) (h : FR m m1) : FR m (sR m1 f i o) := ⟨fun a j ha => (up2_n m1.2.1 o (fun z => by omega)).trans (h.1 a j ha), h.2⟩
theorem FR.sN {m m1 : CM} {c i : Nat} (hc : c < 9) (h : FR m m1) : FR m (sN m1 c i) :=
  ⟨fun a j ha => (clr_n m1.2.1 none (fun z => by omega)).trans (h.1 a j ha), fun a j ha => (up2_n m1.1 true (fun z => by omega)).trans (h.2 a j ha)⟩
theorem FR.sNA {m m1 : CM} {c i : Nat} (hc : c < 57 ∧ c ≠ 9) (h : FR m m1) : FR m (sNA m1 c i) := ⟨h.1, fun a j ha => (up2_n m1.1 true (fun z => by omega)).trans (h.2 a j ha)⟩
theorem FR.sNO {m m1 : CM} {c i : Nat} (hc : c < 57 ∧ c ≠ 9) (h : FR m m1) : FR m (sNO m1 c i) := ⟨h.1, fun a j ha => (up2_n m1.1 true (fun z => by omega)).trans (h.2 a j ha)⟩
theorem FR.sNL {m m1 : CM} {c i : Nat} (hc : c < 57 ∧ c ≠ 9) (h : FR m m1) : FR m (sNL m1 c i) := ⟨h.1, fun a j ha => (up2_n m1.1 true (fun z => by omega)).trans (h.2 a j ha)⟩
theorem FR.sNM {m m1 : CM} (h : FR m m1) : FR m (sNM m1) := ⟨h.1, fun a j ha => (if_neg (fun z => by rcases z with z | z <;> omega) : mlv m1.1 a j = m1.1 a j).trans (h.2 a j ha)⟩
def PR {α : Type} (m : CM) (o : CR α) : Prop := ∀ r m9 n9, o = some (r, m9, n9) → FR m m9
variable {α β : Type} {m m1 : CM} {o : CR α}
theorem PR_none : PR m (none : CR α) := fun _ _ _ h => by cases h
theorem PR_some {a : α} {g : Nat} (h : FR m m1) : PR m (some (a, m1, g)) := fun _ _ _ q => by cases q; exact h
theorem PR_if {c : Prop} [Decidable c] {a b : CR α} (h1 : PR m a) (h2 : PR m b) : PR m (if c then a else b) := by split <;> assumption
theorem PR_tr (h : FR m m1) (h2 : PR m1 o) : PR m o := fun r m9 n9 q => h.tr (h2 r m9 n9 q)
theorem PR_cb {k : α → CM → CR β} (h : FR m m1) (h1 : PR m1 o) (h2 : ∀ a m2, FR m m2 → PR m (k a m2)) : PR m (cb o k) := fun r m9 n9 q => by
  obtain ⟨a, m2, n1, n2, q1, q2, -⟩ := cb_e q
  exact h2 a m2 (h.tr (h1 a m2 n1 q1)) r m9 n2 q2
theorem PR_cg {g : Nat} (h : PR m o) : PR m (cg g o) := fun r m9 n9 q => by
  obtain ⟨n2, q1, -⟩ := cg_e q
  exact h r m9 n2 q1
theorem PR_wr {t : CM} {k : CM → CR β} (h : FR m t) (h2 : ∀ m2, FR m m2 → PR m (k m2)) : PR m (wr t k) := h2 t h
theorem PR_od {p : Option Nat} {k : Nat → CR β} (h : ∀ i, PR m (k i)) : PR m (od p k) := fun r m9 n9 q => by
  obtain ⟨i, -, q1⟩ := od_e q
  exact h i r m9 n9 q1
end FRM
