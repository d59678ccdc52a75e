/-! what the printed walks use -/
section G9
abbrev RH : Type := Nat → Nat → Int32
def FU : Nat := 1000
abbrev vq (i : Int32) (n : Nat) : Prop := ¬ (i < 0 ∨ n ≤ i.toNatClampNeg)
theorem itp {α : Type} {c : Prop} [Decidable c] {a b x : α} (hc : c) (h : (if c then a else b) = x) : a = x := (if_pos hc).symm.trans h
theorem itn {α : Type} {c : Prop} [Decidable c] {a b x : α} (hc : ¬ c) (h : (if c then a else b) = x) : b = x := (if_neg hc).symm.trans h
theorem ock {α : Type} {c : Prop} [Decidable c] {a : Option α} {x : α} (h : (if c then a else none) = some x) : c ∧ a = some x := by
  by_cases hc : c
  · exact ⟨hc, itp hc h⟩
  · rw [if_neg hc] at h; cases h
/-- a call's value and the memory behind it -/
def ob {α β : Type} (o : Option (Int32 × α)) (k : Int32 → α → Option β) : Option β := match o with | none => none | some p => k p.1 p.2
theorem ob_e {α β : Type} {o : Option (Int32 × α)} {k : Int32 → α → Option β} {x : β} (h : ob o k = some x) : ∃ (r : Int32) (m : α), o = some (r, m) ∧ k r m = some x := by
  cases o with
  | none => cases h
  | some p => exact ⟨p.1, p.2, rfl, h⟩
/-- a memory that is named -/
def wr {α β : Type} (m : α) (k : α → β) : β := k m
theorem wr_e {α β : Type} {m : α} {k : α → β} {x : β} (h : wr m k = x) : ∃ m', m = m' ∧ k m' = x := ⟨m, rfl, h⟩
theorem sm_e {α : Type} {a r : Int32} {m m' : α} (h : some (a, m) = some (r, m')) : a = r ∧ m = m' := by
  have := Option.some.inj h
  exact ⟨congrArg Prod.fst this, congrArg Prod.snd this⟩
variable {mi : MI} {d k pc : Nat} {L : List (Option sV)} {st : List sV} {Q : Option sV → OM → Prop} {QX : String → OM → Prop} {lv : Nat → Nat → Bool} {fr : Nat → Nat → Option Nat} {fi : Nat → Nat → Int32} {ai : Nat → Nat → Nat → Int32} {ar : Nat → Nat → Nat → Option Nat} {li : Nat → Nat → List Nat} {out : Int64} {rho : RH}
theorem tab_out {x : Int32} {n : Nat} (hn : n < 100) (h : ∀ i, i < n → ¬ x = nI i) : x.toInt < 0 ∨ ((n : Int) - 1) < x.toInt := by
  apply Classical.byContradiction
  intro z
  have z1 : ¬ x.toInt < 0 := fun q => z (Or.inl q)
  have z2 : ¬ ((n : Int) - 1) < x.toInt := fun q => z (Or.inr q)
  refine h x.toInt.toNat (by omega) (Int32.toInt_inj.mp ?_)
  rw [nI_toInt (by omega)]
  omega
/-- the value, and the memory of the reference behind it -/
def Po (lv : Nat → Nat → Bool) (fr : Nat → Nat → Option Nat) (fi : Nat → Nat → Int32) (ai : Nat → Nat → Nat → Int32) (ar : Nat → Nat → Nat → Option Nat) (li : Nat → Nat → List Nat) (out : Int64) (v : Option sV) (rho : RH) : Option sV → OM → Prop := fun r' S' => r' = v ∧ S' = (lv, fr, fi, ai, ar, li, out, rho)
def NX : String → OM → Prop := fun _ _ => False
end G9
