/-! a call's end, with all below it -/
section PL
variable {X Y : Nat → Prop} {m : CM} {rho : RH}
def livB (rho : RH) (k : Nat) : Bool := decide (rho 37 k ≤ 2)
def Liv (rho : RH) : Nat := ((List.range (iC rho)).filter (livB rho)).length
theorem fd_congr {p q : Nat → Bool} : ∀ l : List Nat, (∀ x, x ∈ l → p x = q x) → l.find? p = l.find? q := by
  intro l
  induction l with
  | nil => intro _; rfl
  | cons a l ih =>
    intro h
    rw [List.find?_cons, List.find?_cons, h a List.mem_cons_self, ih (fun x hx => h x (List.mem_cons_of_mem _ hx))]
theorem fd_filter {p q : Nat → Bool} : ∀ l : List Nat, (l.filter p).find? q = l.find? (fun a => p a && q a) := by
  intro l
  induction l with
  | nil => rfl
  | cons a l ih =>
    cases hp : p a with
    | true => rw [List.filter_cons_of_pos hp, List.find?_cons, List.find?_cons, ih]; simp [hp]
    | false => rw [List.filter_cons_of_neg (by simp [hp]), List.find?_cons, ih]; simp [hp]
theorem fd_app {p : Nat → Bool} : ∀ (a b : List Nat), (∀ x, x ∈ a → p x = false) → (a ++ b).find? p = b.find? p := by
  intro a
  induction a with
  | nil => intro b _; rfl
  | cons x a ih =>
    intro b h
    rw [List.cons_append, List.find?_cons, h x List.mem_cons_self, ih b (fun y hy => h y (List.mem_cons_of_mem _ hy))]
theorem fd_none {p : Nat → Bool} {l : List Nat} (h : ∀ x, x ∈ l → p x = false) : l.find? p = none := by
  have := fd_app (p := p) l [] h
  rw [List.append_nil] at this
  exact this
theorem e9_liveOf (hb : RB rho) {o : Nat} (ho : o < 540) : f9_liveOf (nI o) (-1) rho = some (oi ((List.range (iC rho)).find? (fun k => decide (iO rho k = o) && livB rho k)), rho) := by
  have hC := hb.C
  unfold f9_liveOf
  have := fdL (F := fun q j => l9_liveOf_2 q (nI o) (-1) j rho) (yes := fun x => some (nI x, rho)) (no := some (-1, rho)) (xs := List.range (iC rho)) (p := fun k => decide (iO rho k = o) && livB rho k) (fun q j x hx => by
    obtain ⟨hj, rfl⟩ := rg_at hx
    have hO := hb.O hj
    have e1 : nI (iO rho x) = nI o ↔ iO rho x = o := nI_eq (by omega) (by omega)
    show l9_liveOf_2 (q + 1) (nI o) (-1) (nI x) rho = _
    rw [l9_liveOf_2, hC.1, if_neg (cle (by omega) hj), if_pos (vq_nI (n := 400) (by omega) (by omega)), nI_clamp (by omega), hO.1, nI_1, e9_hasEnded (by omega), ob_s, if_neg (nI_ne1 (n := x) (by omega))]
    unfold livB
    by_cases h1 : iO rho x = o
    · by_cases h2 : rho 37 x ≤ 2
      · simp [h1, h2]
      · simp [h1, h2]
    · simp [h1, e1]) (fun q => by
    show l9_liveOf_2 (q + 1) (nI o) (-1) (nI _) rho = _
    rw [l9_liveOf_2, hC.1, List.length_range, if_pos (nI_le (Nat.le_refl _) (by omega))]) (iC rho) 0 FU (by rw [List.length_range]; omega) (by have : FU = 1000 := rfl; omega)
  rw [List.drop_zero] at this
  refine this.trans ?_
  cases (List.range (iC rho)).find? (fun k => decide (iO rho k = o) && livB rho k) <;> rfl
theorem live_T (hb : RB rho) {o n : Nat} (hn : n + 1 = sc rho o) : (List.range (iC rho)).find? (fun k => decide (iO rho k = o) && livB rho k) = (TR rho o n).find? (livB rho) := by
  unfold TR
  rw [fd_filter]
  apply fd_congr
  intro x hx
  have hx2 := List.mem_range.mp hx
  by_cases h1 : iO rho x = o
  · by_cases h2 : rho 37 x ≤ 2
    · have h3 := (hb.rw9 x hx2).2.1 h2
      rw [h1] at h3
      have h4 : iN rho x = n := by omega
      simp [h1, h4]
    · simp [livB, h2]
  · simp [h1]
theorem live_0 (hb : RB rho) {o : Nat} (hn : sc rho o = 0) : (List.range (iC rho)).find? (fun k => decide (iO rho k = o) && livB rho k) = none := by
  apply fd_none
  intro x hx
  have hx2 := List.mem_range.mp hx
  by_cases h1 : iO rho x = o
  · have := (hb.rk9 x hx2).2.2.2.2.1
    rw [h1, hn] at this
    omega
  · simp [h1]
theorem Liv_le (hb : RB rho) : Liv rho ≤ 400 := by
  have := List.length_filter_le (livB rho) (List.range (iC rho))
  rw [List.length_range] at this
  have := hb.C
  unfold Liv
  omega
theorem Liv_se {k : Nat} {e : Int32} (hk : k < iC rho) (hl : rho 37 k ≤ 2) (he : ¬ e ≤ 2) : Liv rho = Liv (seR rho k e) + 1 := by
  have := fl_del (p := livB rho) (q := livB (seR rho k e)) (k := k) (by unfold livB; exact decide_eq_true hl) (by
    unfold livB
    have : seR rho k e 37 k = e := by show (if k = k then e else _) = e; rw [if_pos rfl]
    rw [this]
    exact decide_eq_false he) (fun j hj => by
    unfold livB
    have : seR rho k e 37 j = rho 37 j := by show (if j = k then e else rho 37 j) = _; rw [if_neg hj]
    rw [this]) (iC rho)
  rw [if_pos hk] at this
  exact this
theorem Liv_fr {r1 r2 : RH} (h1 : ∀ j, r2 31 j = r1 31 j) (h2 : ∀ j, r2 37 j = r1 37 j) : Liv r2 = Liv r1 := by
  unfold Liv iC
  rw [h1]
  congr 1
  apply List.filter_congr
  intro x _
  unfold livB
  rw [h2]
def Bch (rho : RH) (o j : Nat) : Prop := j < 400 ∧ (o < 400 → iS rho o < iS rho j)
def Bel (rho : RH) (k j : Nat) : Prop := j = k ∨ Bch rho k j
/-- what an end leaves as it was -/
def FrE (B : Nat → Prop) (rho rho' : RH) : Prop := (∀ F j, F ≠ 37 → F ≠ 42 → F ≠ 45 → F ≠ 46 → F ≠ 59 → F ≠ 61 → F ≠ 62 → rho' F j = rho F j) ∧ (∀ j, j < 440 + iP rho → rho' 46 j = rho 46 j) ∧ (∀ p, p < iP rho → rho' 61 p = rho 61 p ∧ rho' 62 p = rho 62 p) ∧ iP rho ≤ iP rho' ∧
  (∀ j, ¬ rho 37 j ≤ 2 → rho' 37 j = rho 37 j ∧ rho' 42 j = rho 42 j) ∧ (∀ j, rho' 37 j = rho 37 j ∨ ¬ rho' 37 j ≤ 2) ∧ (∀ j, ¬ B j → rho' 37 j = rho 37 j ∧ rho' 42 j = rho 42 j)
theorem FrE.rf (B : Nat → Prop) (rho : RH) : FrE B rho rho := ⟨fun _ _ _ _ _ _ _ _ _ => rfl, fun _ _ => rfl, fun _ _ => ⟨rfl, rfl⟩, Nat.le_refl _, fun _ _ => ⟨rfl, rfl⟩, fun _ => Or.inl rfl, fun _ _ => ⟨rfl, rfl⟩⟩
theorem FrE.tr {B B' : Nat → Prop} {r1 r2 r3 : RH} (h : FrE B r1 r2) (g : FrE B' r2 r3) (hB : ∀ j, B' j → B j) : FrE B r1 r3 := by
  obtain ⟨h1, h2, h3, h4, h5, h6, h7⟩ := h
  obtain ⟨g1, g2, g3, g4, g5, g6, g7⟩ := g
  refine ⟨fun F j a b c d e f g' => (g1 F j a b c d e f g').trans (h1 F j a b c d e f g'), fun j hj => (g2 j (by omega)).trans (h2 j hj), fun p hp => ⟨(g3 p (by omega)).1.trans (h3 p hp).1, (g3 p (by omega)).2.trans (h3 p hp).2⟩, by omega, fun j hj => ?_, fun j => ?_, fun j hj => ⟨(g7 j (fun z => hj (hB j z))).1.trans (h7 j hj).1, (g7 j (fun z => hj (hB j z))).2.trans (h7 j hj).2⟩⟩
  · have a := h5 j hj
    have b := g5 j (by rw [a.1]; exact hj)
    exact ⟨b.1.trans a.1, b.2.trans a.2⟩
  · rcases g6 j with z | z
    · rcases h6 j with y | y
      · exact Or.inl (z.trans y)
      · exact Or.inr (by rw [z]; exact y)
    · exact Or.inr z
theorem FrP.toE {B : Nat → Prop} {r1 r2 : RH} (h : FrP r1 r2) : FrE B r1 r2 :=
  ⟨fun F j _ _ _ d e f g => h.1 F j d e f g, h.2.1, h.2.2.1, h.2.2.2, fun j _ => ⟨h.1 37 j (by decide) (by decide) (by decide) (by decide), h.1 42 j (by decide) (by decide) (by decide) (by decide)⟩, fun j => Or.inl (h.1 37 j (by decide) (by decide) (by decide) (by decide)), fun j _ => ⟨h.1 37 j (by decide) (by decide) (by decide) (by decide), h.1 42 j (by decide) (by decide) (by decide) (by decide)⟩⟩
def ClE (B : Nat → Prop) (rho : RH) (m m' : CM) : Prop := ∀ o n, OE rho o → n < sc rho o → ¬ B o → gI m' 911 (4 * o + n) = gI m 911 (4 * o + n)
theorem FrE.S {B : Nat → Prop} {r1 r2 : RH} (h : FrE B r1 r2) (j : Nat) : iS r2 j = iS r1 j := by
  unfold iS
  rw [h.1 34 j (by decide) (by decide) (by decide) (by decide) (by decide) (by decide) (by decide)]
theorem FrE.C {B : Nat → Prop} {r1 r2 : RH} (h : FrE B r1 r2) : iC r2 = iC r1 := by
  unfold iC
  rw [h.1 31 0 (by decide) (by decide) (by decide) (by decide) (by decide) (by decide) (by decide)]
theorem FrE.Rq {B : Nat → Prop} {r1 r2 : RH} (h : FrE B r1 r2) : iR r2 = iR r1 := by
  unfold iR
  rw [h.1 51 0 (by decide) (by decide) (by decide) (by decide) (by decide) (by decide) (by decide)]
theorem FrE.O {B : Nat → Prop} {r1 r2 : RH} (h : FrE B r1 r2) (j : Nat) : iO r2 j = iO r1 j := by
  unfold iO
  rw [h.1 32 j (by decide) (by decide) (by decide) (by decide) (by decide) (by decide) (by decide)]
theorem FrE.N {B : Nat → Prop} {r1 r2 : RH} (h : FrE B r1 r2) (j : Nat) : iN r2 j = iN r1 j := by
  unfold iN
  rw [h.1 33 j (by decide) (by decide) (by decide) (by decide) (by decide) (by decide) (by decide)]
theorem FrE.T {B : Nat → Prop} {r1 r2 : RH} (h : FrE B r1 r2) (o n : Nat) : TR r2 o n = TR r1 o n := by
  unfold TR
  rw [h.C]
  apply List.filter_congr
  intro x _
  rw [h.O, h.N]
theorem FrE.sc9 {B : Nat → Prop} {r1 r2 : RH} (h : FrE B r1 r2) (hb : RB r1) {o : Nat} (ho : OE r1 o) : sc r2 o = sc r1 o ∧ OE r2 o := by
  have hE := hb.E ho
  constructor
  · unfold sc
    rw [h.2.1 o (by omega)]
  · have := h.C
    have := h.Rq
    have := h.2.2.2.1
    unfold OE at ho ⊢
    omega
theorem FrE.B9 {B : Nat → Prop} {r1 r2 : RH} (h : FrE B r1 r2) (o j : Nat) : Bch r2 o j ↔ Bch r1 o j := by
  unfold Bch
  rw [h.S, h.S]
theorem se_fr {k d : Nat} {e : Int32} (hl : rho 37 k ≤ 2) (he : ¬ e ≤ 2) : FrE (Bel rho k) rho (up2 (seR rho k e) 45 d (nI k)) := by
  refine ⟨fun F j a b c d' e' f g => ?_, fun j _ => rfl, fun p _ => ⟨rfl, rfl⟩, Nat.le_refl _, fun j hj => ?_, fun j => ?_, fun j hj => ?_⟩
  · unfold seR
    rw [up2_f _ _ _ _ c, up2_f _ _ _ _ b, up2_f _ _ _ _ a]
  · have hjk : j ≠ k := fun z => hj (z ▸ hl)
    exact ⟨(if_neg hjk : (if j = k then e else rho 37 j) = _), (if_neg hjk : (if j = k then _ else rho 42 j) = _)⟩
  · by_cases hjk : j = k
    · refine Or.inr ?_
      show ¬ (if j = k then e else rho 37 j) ≤ 2
      rw [if_pos hjk]
      exact he
    · exact Or.inl (if_neg hjk : (if j = k then e else rho 37 j) = _)
  · have hjk : j ≠ k := fun z => hj (Or.inl z)
    exact ⟨(if_neg hjk : (if j = k then e else rho 37 j) = _), (if_neg hjk : (if j = k then _ else rho 42 j) = _)⟩
/-- a step's state, set where its owner is spared -/
theorem s911_inv (h : INVX X Y m rho) {o n : Nat} {v : Int32} (ho : OE rho o) (hn : n + 1 = sc rho o) (hX : X o) (hv : v ≠ 8) : INVX X Y (sI m 911 (4 * o + n) v) rho := by
  have hb := h.rb9
  obtain ⟨b1, b2, b3, b4, b5, b6, b7, b8, b9, b10, b11, b12, b13, b14, b15, b16, b17⟩ := h
  refine ⟨b1, b2, b3, b4, b5, b6, b7, b8, b9, b10, b11, b12, b13, ⟨fun o' n' ho' hn' => ?_, fun k hk z => ?_⟩, b15, b16, b17⟩
  · have hs := hb.sce ho
    have hs' := hb.sce ho'
    have hh := b14.1 o' n' ho' hn'
    by_cases hoo : o' = o ∧ n' = n
    · obtain ⟨rfl, rfl⟩ := hoo
      exact ⟨fun z => by omega, fun _ z => absurd hX z⟩
    · have e : gI (sI m 911 (4 * o + n) v) 911 (4 * o' + n') = gI m 911 (4 * o' + n') := by
        rw [gI_sI, if_pos rfl, if_neg (by omega)]
      rw [e]
      exact hh
  · rcases b14.2 k hk z with q | q
    · exact Or.inl q
    · refine Or.inr ?_
      rw [gI_sI, if_pos rfl]
      split
      · exact hv
      · exact q
theorem INVX.mono {X' Y' : Nat → Prop} (h : INVX X Y m rho) (hX : ∀ o, X o → X' o) (hY : ∀ o, Y o → Y' o) : INVX X' Y' m rho := by
  obtain ⟨b1, b2, b3, b4, b5, b6, b7, b8, b9, b10, b11, b12, b13, b14, b15, b16, b17⟩ := h
  refine ⟨b1, b2, b3, b4, b5, b6, b7, b8, b9, b10, b11, b12, b13, ⟨fun o n ho hn => ⟨(b14.1 o n ho hn).1, fun z1 z2 => (b14.1 o n ho hn).2 z1 (fun z => z2 (hX o z))⟩, fun k hk z => (b14.2 k hk z).imp (hX _) id⟩, fun o n ho ho4 hn => ?_, b16, b17⟩
  have hh := b15 o n ho ho4 hn
  obtain ⟨a, b, z1, z2, z3, z4⟩ := hh.2.2.1
  exact ⟨hh.1, hh.2.1, ⟨a, b, z1, z2, z3.imp (hY o) id, z4⟩, fun z => ⟨(hh.2.2.2 z).1, (hh.2.2.2 z).2.imp (hY o) id⟩⟩
/-- an owner is no longer spared -/
theorem INVX.drop2 {k : Nat} (h : INVX X Y m rho) (h1 : ∀ n, OE rho k → n + 1 = sc rho k → (Go rho k → gI m 911 (4 * k + n) = 8) ∧ (¬ Go rho k → gI m 911 (4 * k + n) ≠ 8 ∧ (440 ≤ k → gI m 911 (4 * k + n) = 3))) (h2 : ∀ q, q < iC rho → rho 37 q = 7 → iO rho q = k → gI m 911 (sid rho q) ≠ 8) : INVX (fun o => X o ∧ o ≠ k) Y m rho := by
  obtain ⟨b1, b2, b3, b4, b5, b6, b7, b8, b9, b10, b11, b12, b13, b14, b15, b16, b17⟩ := h
  refine ⟨b1, b2, b3, b4, b5, b6, b7, b8, b9, b10, b11, b12, b13, ⟨fun o n ho hn => ⟨(b14.1 o n ho hn).1, fun z1 z2 => ?_⟩, fun q hq z => ?_⟩, b15, b16, b17⟩
  · by_cases hok : o = k
    · subst hok
      exact h1 n ho z1
    · exact (b14.1 o n ho hn).2 z1 (fun z => z2 ⟨z, hok⟩)
  · by_cases hok : iO rho q = k
    · exact Or.inr (h2 q hq z hok)
    · exact (b14.2 q hq z).imp (fun y => ⟨y, hok⟩) id
theorem INVX.drop {k : Nat} (h : INVX (fun o => X o ∨ o = k) Y m rho) (h1 : ∀ n, OE rho k → n + 1 = sc rho k → (Go rho k → gI m 911 (4 * k + n) = 8) ∧ (¬ Go rho k → gI m 911 (4 * k + n) ≠ 8 ∧ (440 ≤ k → gI m 911 (4 * k + n) = 3))) (h2 : ∀ q, q < iC rho → rho 37 q = 7 → iO rho q = k → gI m 911 (sid rho q) ≠ 8) : INVX X Y m rho :=
  (h.drop2 h1 h2).mono (fun _ z => z.1.resolve_right z.2) (fun _ z => z)
theorem e8_lastStep (h : INVX X Y m rho) {k : Nat} (hk : k < iC rho) : f8_X1_lastStep k m = some (if sc rho k = 0 then none else some (4 * k + (sc rho k - 1)), m, 0) := by
  have hak := h.ak9 k hk
  have hs := h.rb9.sce (o := k) (Or.inl hk)
  unfold f8_X1_lastStep
  rw [hak.2.2.2.2.1, od_s, hak.2.2.2.2.2, List.length_map, List.length_range]
  by_cases h0 : sc rho k = 0
  · rw [h0, if_pos rfl]
    simp [nI_0]
  · obtain ⟨q, hq⟩ : ∃ q, sc rho k = q + 1 := ⟨sc rho k - 1, by omega⟩
    have hne : ¬ nI (q + 1) = 0 := nI_ne0 (by omega) (by omega)
    rw [hq, if_neg hne, if_pos rfl, nI_pred, if_pos (nI_pos (by omega)), nI_clamp (by omega), List.getElem?_map, List.getElem?_range (by omega), if_neg (by omega), Nat.add_sub_cancel]
    rfl
theorem e8_hasEnded (h : INVX X Y m rho) {k : Nat} (hk : k < iC rho) : f8_X1_hasEnded k m = some (if rho 37 k ≤ 2 then 0 else 1, m, 0) := by
  unfold f8_X1_hasEnded
  rw [(h.aw9 k hk).1]
  by_cases h1 : rho 37 k ≤ 2
  · rw [if_pos h1, if_pos (le2_lt3.mp h1)]
  · rw [if_neg h1, if_neg (fun z => h1 (le2_lt3.mpr z))]
end PL
