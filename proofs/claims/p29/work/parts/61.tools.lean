/-! the pure part: small tools (numbers, binds, loops over lists) -/
section PT
theorem cb_r {α β : Type} {o : CR α} {k : α → CM → CR β} {a : α} {m1 m2 : CM} {r : β} {g1 g2 : Nat} (h1 : o = some (a, m1, g1)) (h2 : k a m1 = some (r, m2, g2)) : cb o k = some (r, m2, g1 + g2) := by
  subst h1
  show (k a m1).map _ = _
  rw [h2]
  rfl
theorem cb_0 {α β : Type} {o : CR α} {k : α → CM → CR β} {a : α} {m1 : CM} (h1 : o = some (a, m1, 0)) : cb o k = k a m1 := by
  subst h1
  show (k a m1).map _ = _
  cases k a m1 with
  | none => rfl
  | some q => show some (q.1, q.2.1, 0 + q.2.2) = some q; rw [Nat.zero_add]
theorem cg_r {β : Type} {g g2 : Nat} {o : CR β} {r : β} {m : CM} (h : o = some (r, m, g2)) : cg g o = some (r, m, g2 + g) := by subst h; rfl
theorem ob_r {α β : Type} {o : Option (Int32 × α)} {k : Int32 → α → Option β} {a : Int32} {m : α} (h : o = some (a, m)) : ob o k = k a m := by subst h; rfl
theorem od_r {β : Type} {o : Option Nat} {k : Nat → Option β} {i : Nat} (h : o = some i) : od o k = k i := by subst h; rfl
theorem od_s {β : Type} (k : Nat → Option β) (i : Nat) : od (some i) k = k i := rfl
/-! numbers -/
def nv (x : Int32) : Nat := x.toNatClampNeg
def Ix (x : Int32) (n : Nat) : Prop := ∃ a, a < n ∧ x = nI a
theorem nv_nI {n : Nat} (h : n < 2 ^ 31) : nv (nI n) = n := nI_clamp h
theorem Ix.lt {x : Int32} {n : Nat} (h : Ix x n) (hn : n ≤ 1000000) : nv x < n := by
  obtain ⟨a, h1, rfl⟩ := h
  rw [nv_nI (by omega)]
  exact h1
theorem Ix.eq {x : Int32} {n : Nat} (h : Ix x n) (hn : n ≤ 1000000) : x = nI (nv x) := by
  obtain ⟨a, h1, rfl⟩ := h
  rw [nv_nI (by omega)]
theorem Ix.vq {x : Int32} {n : Nat} (h : Ix x n) (hn : n ≤ 1000000) : vq x n := by
  obtain ⟨a, h1, rfl⟩ := h
  exact vq_nI h1 (by omega)
theorem Ix.mk {n a : Nat} (h : a < n) : Ix (nI a) n := ⟨a, h, rfl⟩
theorem Ix.up {x : Int32} {n k : Nat} (h : Ix x n) (hk : n ≤ k) : Ix x k := by
  obtain ⟨a, h1, rfl⟩ := h
  exact ⟨a, by omega, rfl⟩
theorem nI_inj {a b : Nat} (ha : a < 2 ^ 31) (hb : b < 2 ^ 31) : nI a = nI b ↔ a = b := nI_eq ha hb
theorem l0 : (0 : Int32) = nI 0 := rfl
theorem l1 : (1 : Int32) = nI 1 := rfl
theorem l2 : (2 : Int32) = nI 2 := rfl
theorem l3 : (3 : Int32) = nI 3 := rfl
theorem l4 : (4 : Int32) = nI 4 := rfl
theorem l5 : (5 : Int32) = nI 5 := rfl
theorem l6 : (6 : Int32) = nI 6 := rfl
theorem l7 : (7 : Int32) = nI 7 := rfl
theorem l8 : (8 : Int32) = nI 8 := rfl
theorem l9 : (9 : Int32) = nI 9 := rfl
theorem l10 : (10 : Int32) = nI 10 := rfl
theorem l12 : (12 : Int32) = nI 12 := rfl
theorem l40 : (40 : Int32) = nI 40 := rfl
theorem l42 : (42 : Int32) = nI 42 := rfl
theorem l48 : (48 : Int32) = nI 48 := rfl
theorem l50 : (50 : Int32) = nI 50 := rfl
theorem l84 : (84 : Int32) = nI 84 := rfl
theorem l100 : (100 : Int32) = nI 100 := rfl
theorem l150 : (150 : Int32) = nI 150 := rfl
theorem l200 : (200 : Int32) = nI 200 := rfl
theorem l400 : (400 : Int32) = nI 400 := rfl
theorem l440 : (440 : Int32) = nI 440 := rfl
theorem l600 : (600 : Int32) = nI 600 := rfl
theorem l1000 : (1000 : Int32) = nI 1000 := rfl
theorem l1e6 : (1000000 : Int32) = nI 1000000 := rfl
theorem l2e6 : (2000000 : Int32) = nI 2000000 := rfl
theorem le2_lt3 {x : Int32} : x ≤ 2 ↔ x < 3 := by
  rw [Int32.le_iff_toInt_le, Int32.lt_iff_toInt_lt, show (2 : Int32).toInt = 2 by decide, show (3 : Int32).toInt = 3 by decide]
  omega
theorem not_lt32 {x y : Int32} : ¬ x < y ↔ y ≤ x := by
  rw [Int32.le_iff_toInt_le, Int32.lt_iff_toInt_lt]
  omega
theorem not_le32 {x y : Int32} : ¬ x ≤ y ↔ y < x := by
  rw [Int32.le_iff_toInt_le, Int32.lt_iff_toInt_lt]
  omega
theorem ix_cases {x : Int32} {n : Nat} (hn : n ≤ 1000000) (h0 : ¬ x < 0) (h1 : ¬ nI n < x) : Ix x (n + 1) := by
  rcases pk_ix x (n := n + 1) (by omega) with h | h | ⟨j, h2, h3⟩
  · exact absurd h h0
  · refine absurd ?_ h1
    rw [Int32.lt_iff_toInt_lt, nI_toInt (by omega)]
    rw [Int32.le_iff_toInt_le, nI_toInt (by omega)] at h
    omega
  · exact ⟨j, h2, h3⟩
/-! loops over lists -/
theorem anyL {γ : Type} {F : Nat → Int32 → Int32 → γ} {fin : Int32 → γ} {xs : List Nat} {p : Nat → Bool} 
    (hs : ∀ n j x b, xs[j]? = some x → (b = 0 ∨ b = 1) → F (n + 1) b (nI j) = F n (if b = 1 ∨ p x = true then 1 else 0) (nI (j + 1)))
    (he : ∀ n b, (b = 0 ∨ b = 1) → F (n + 1) b (nI xs.length) = fin b) :
    ∀ d j n b, j + d = xs.length → d < n → (b = 0 ∨ b = 1) → F n b (nI j) = fin (if b = 1 ∨ (xs.drop j).any p = true then 1 else 0) := by
  intro d
  induction d with
  | zero =>
    intro j n b hj hn hb
    obtain ⟨n, rfl⟩ : ∃ n', n = n' + 1 := ⟨n - 1, by omega⟩
    have : j = xs.length := by omega
    subst this
    rw [he n b hb, List.drop_length]
    rcases hb with rfl | rfl
    · rw [if_neg (by simp)]
    · rw [if_pos (Or.inl rfl)]
  | succ d ih =>
    intro j n b hj hn hb
    obtain ⟨n, rfl⟩ : ∃ n', n = n' + 1 := ⟨n - 1, by omega⟩
    have hlt : j < xs.length := by omega
    rw [hs n j xs[j] b (List.getElem?_eq_getElem hlt) hb, ih (j + 1) n _ (by omega) (by omega) (by split <;> simp), List.drop_eq_getElem_cons hlt]
    generalize xs[j] = x
    generalize List.drop (j + 1) xs = t
    congr 1
    rcases hb with rfl | rfl
    · cases hp : p x <;> simp [hp]
    · simp
theorem cntL {γ : Type} {F : Nat → Int32 → Int32 → γ} {fin : Int32 → γ} {xs : List Nat} {p : Nat → Bool} 
    (hs : ∀ n j x b, xs[j]? = some x → F (n + 1) b (nI j) = F n (if p x = true then b + 1 else b) (nI (j + 1)))
    (he : ∀ n b, F (n + 1) b (nI xs.length) = fin b) :
    ∀ d j n b, j + d = xs.length → d < n → F n (nI b) (nI j) = fin (nI (b + ((xs.drop j).filter p).length)) := by
  intro d
  induction d with
  | zero =>
    intro j n b hj hn
    obtain ⟨n, rfl⟩ : ∃ n', n = n' + 1 := ⟨n - 1, by omega⟩
    have : j = xs.length := by omega
    subst this
    rw [he n, List.drop_length]
    rfl
  | succ d ih =>
    intro j n b hj hn
    obtain ⟨n, rfl⟩ : ∃ n', n = n' + 1 := ⟨n - 1, by omega⟩
    have hlt : j < xs.length := by omega
    rw [hs n j xs[j] _ (List.getElem?_eq_getElem hlt), List.drop_eq_getElem_cons hlt]
    cases hp : p xs[j] with
    | true =>
      rw [if_pos rfl, nI_1, ih (j + 1) n _ (by omega) (by omega), List.filter_cons_of_pos hp, List.length_cons, Nat.add_right_comm, Nat.add_assoc]
    | false =>
      rw [if_neg (by simp), ih (j + 1) n _ (by omega) (by omega), List.filter_cons_of_neg (by simp [hp])]
theorem exL {γ : Type} {F : Nat → Int32 → γ} {yes no : γ} {xs : List Nat} {p : Nat → Bool} 
    (hs : ∀ n j x, xs[j]? = some x → F (n + 1) (nI j) = if p x = true then yes else F n (nI (j + 1)))
    (he : ∀ n, F (n + 1) (nI xs.length) = no) :
    ∀ d j n, j + d = xs.length → d < n → F n (nI j) = if (xs.drop j).any p = true then yes else no := by
  intro d
  induction d with
  | zero =>
    intro j n hj hn
    obtain ⟨n, rfl⟩ : ∃ n', n = n' + 1 := ⟨n - 1, by omega⟩
    have : j = xs.length := by omega
    subst this
    rw [he n, List.drop_length]
    simp
  | succ d ih =>
    intro j n hj hn
    obtain ⟨n, rfl⟩ : ∃ n', n = n' + 1 := ⟨n - 1, by omega⟩
    have hlt : j < xs.length := by omega
    rw [hs n j xs[j] (List.getElem?_eq_getElem hlt), List.drop_eq_getElem_cons hlt]
    rw [ih (j + 1) n (by omega) (by omega)]
    generalize xs[j] = x
    generalize List.drop (j + 1) xs = t
    cases hp : p x <;> simp [hp]
theorem fdL {γ : Type} {F : Nat → Int32 → γ} {yes : Nat → γ} {no : γ} {xs : List Nat} {p : Nat → Bool} 
    (hs : ∀ n j x, xs[j]? = some x → F (n + 1) (nI j) = if p x = true then yes x else F n (nI (j + 1)))
    (he : ∀ n, F (n + 1) (nI xs.length) = no) :
    ∀ d j n, j + d = xs.length → d < n → F n (nI j) = ((xs.drop j).find? p).elim no yes := by
  intro d
  induction d with
  | zero =>
    intro j n hj hn
    obtain ⟨n, rfl⟩ : ∃ n', n = n' + 1 := ⟨n - 1, by omega⟩
    have : j = xs.length := by omega
    subst this
    rw [he n, List.drop_length]
    rfl
  | succ d ih =>
    intro j n hj hn
    obtain ⟨n, rfl⟩ : ∃ n', n = n' + 1 := ⟨n - 1, by omega⟩
    have hlt : j < xs.length := by omega
    rw [hs n j xs[j] (List.getElem?_eq_getElem hlt), List.drop_eq_getElem_cons hlt]
    rw [ih (j + 1) n (by omega) (by omega)]
    generalize xs[j] = x
    generalize List.drop (j + 1) xs = t
    cases hp : p x <;> simp [hp]
theorem rg_at {C j x : Nat} (h : (List.range C)[j]? = some x) : j < C ∧ x = j := by
  by_cases hj : j < C
  · rw [List.getElem?_range hj] at h
    exact ⟨hj, (Option.some.inj h).symm⟩
  · rw [List.getElem?_eq_none (by rw [List.length_range]; omega)] at h
    cases h
theorem rg_lt {C j : Nat} (h : j < C) : (List.range C)[j]? = some j := List.getElem?_range h
end PT
