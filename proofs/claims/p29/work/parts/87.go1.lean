/-! a step goes on: what is asked on the way, and what stays -/
section QA
variable {X Y : Nat → Prop} {m : CM} {rho : RH}
def stF (F : Nat) : Prop := F ≤ 16 ∨ F = 20 ∨ F = 29 ∨ F = 30 ∨ F = 44 ∨ (51 ≤ F ∧ F ≤ 58) ∨ F = 60 ∨ 63 ≤ F
def FrG (rho rho' : RH) : Prop := (∀ F j, stF F → rho' F j = rho F j) ∧ (∀ F j, j < iC rho → (F = 32 ∨ F = 33 ∨ F = 34 ∨ F = 35 ∨ F = 36 ∨ F = 38 ∨ F = 40) → rho' F j = rho F j) ∧ (∀ o, OE rho o → rho' 46 o = rho 46 o) ∧ iC rho ≤ iC rho' ∧ iP rho ≤ iP rho' ∧ (∀ p, p < iP rho → rho' 61 p = rho 61 p ∧ rho' 62 p = rho 62 p) ∧ (∀ j, j < iC rho → rho' 37 j = rho 37 j ∨ ¬ rho' 37 j ≤ 2)
theorem FrG.rf (rho : RH) : FrG rho rho := ⟨fun _ _ _ => rfl, fun _ _ _ _ => rfl, fun _ _ => rfl, Nat.le_refl _, Nat.le_refl _, fun _ _ => ⟨rfl, rfl⟩, fun _ _ => Or.inl rfl⟩
theorem FrG.oe {r1 r2 : RH} (h : FrG r1 r2) {o : Nat} (ho : OE r1 o) : OE r2 o := by
  have e51 : iR r2 = iR r1 := by unfold iR; rw [h.1 51 0 (by unfold stF; omega)]
  have := h.2.2.2.1
  have := h.2.2.2.2.1
  unfold OE at ho ⊢
  omega
theorem FrG.tr {r1 r2 r3 : RH} (h : FrG r1 r2) (g : FrG r2 r3) : FrG r1 r3 := by
  have h4 := h.2.2.2.1
  have h5 := h.2.2.2.2.1
  refine ⟨fun F j a => (g.1 F j a).trans (h.1 F j a), fun F j a b => (g.2.1 F j (by omega) b).trans (h.2.1 F j a b), fun o ho => (g.2.2.1 o (h.oe ho)).trans (h.2.2.1 o ho), Nat.le_trans h4 g.2.2.2.1, Nat.le_trans h5 g.2.2.2.2.1, fun p hp => ⟨(g.2.2.2.2.2.1 p (by omega)).1.trans (h.2.2.2.2.2.1 p hp).1, (g.2.2.2.2.2.1 p (by omega)).2.trans (h.2.2.2.2.2.1 p hp).2⟩, fun j hj => ?_⟩
  rcases g.2.2.2.2.2.2 j (by omega) with z | z
  · rcases h.2.2.2.2.2.2 j hj with y | y
    · exact Or.inl (z.trans y)
    · exact Or.inr (by rw [z]; exact y)
  · exact Or.inr z
theorem FrL.toG {r1 r2 : RH} (h : FrL r1 r2) : FrG r1 r2 := by
  have hP : iP r2 = iP r1 := by unfold iP; rw [h 59 0 (by decide) (by decide) (by decide) (by decide) (by decide) (by decide) (by decide) (by decide)]
  have hC := h.C
  refine ⟨fun F j a => h F j (by unfold stF at a; omega) (by unfold stF at a; omega) (by unfold stF at a; omega) (by unfold stF at a; omega) (by unfold stF at a; omega) (by unfold stF at a; omega) (by unfold stF at a; omega) (by unfold stF at a; omega), fun F j _ b => h F j (by omega) (by omega) (by omega) (by omega) (by omega) (by omega) (by omega) (by omega), fun o _ => h 46 o (by decide) (by decide) (by decide) (by decide) (by decide) (by decide) (by decide) (by decide), by omega, by omega, fun p _ => ⟨h 61 p (by decide) (by decide) (by decide) (by decide) (by decide) (by decide) (by decide) (by decide), h 62 p (by decide) (by decide) (by decide) (by decide) (by decide) (by decide) (by decide) (by decide)⟩, fun j _ => Or.inl (h 37 j (by decide) (by decide) (by decide) (by decide) (by decide) (by decide) (by decide) (by decide))⟩
theorem FrE.toG {B : Nat → Prop} {r1 r2 : RH} (h : FrE B r1 r2) (hb : RB r1) : FrG r1 r2 := by
  have hC := h.C
  refine ⟨fun F j a => h.1 F j (by unfold stF at a; omega) (by unfold stF at a; omega) (by unfold stF at a; omega) (by unfold stF at a; omega) (by unfold stF at a; omega) (by unfold stF at a; omega) (by unfold stF at a; omega), fun F j _ b => h.1 F j (by omega) (by omega) (by omega) (by omega) (by omega) (by omega) (by omega), fun o ho => h.2.1 o (by have := hb.E ho; omega), by omega, h.2.2.2.1, h.2.2.1, fun j _ => h.2.2.2.2.2.1 j⟩
theorem FrT.toG {r1 r2 : RH} (h : FrT r1 r2) (hb : RB r1) : FrG r1 r2 := by
  have hC := hb.C
  have hP : iP r2 = iP r1 := by unfold iP; rw [h.1 59 0 (by decide) (by decide) (by decide) (by decide) (by decide) (by decide) (by decide) (by decide) (by decide) (by decide) (by decide) (by decide) (by omega) (by decide) (by decide) (by decide) (by decide) (by decide)]
  refine ⟨fun F j a => h.1 F j (by unfold stF at a; omega) (by unfold stF at a; omega) (by unfold stF at a; omega) (by unfold stF at a; omega) (by unfold stF at a; omega) (by unfold stF at a; omega) (by unfold stF at a; omega) (by unfold stF at a; omega) (by unfold stF at a; omega) (by unfold stF at a; omega) (by unfold stF at a; omega) (by unfold stF at a; omega) (by unfold stF at a; omega) (by unfold stF at a; omega) (by unfold stF at a; omega) (by unfold stF at a; omega) (by unfold stF at a; omega) (by unfold stF at a; omega), fun F j a b => h.2.1 F j (by omega) (by omega) (by omega) (by omega) (by omega), fun o ho => h.2.1 46 o (by decide) (by decide) (by decide) (by omega) (by have := hb.E ho; omega), h.2.2.1, by omega, fun p _ => ⟨h.1 61 p (by decide) (by decide) (by decide) (by decide) (by decide) (by decide) (by decide) (by decide) (by decide) (by decide) (by decide) (by decide) (by omega) (by decide) (by decide) (by decide) (by decide) (by decide), h.1 62 p (by decide) (by decide) (by decide) (by decide) (by decide) (by decide) (by decide) (by decide) (by decide) (by decide) (by decide) (by decide) (by omega) (by decide) (by decide) (by decide) (by decide) (by decide)⟩, fun j hj => Or.inl (h.2.1 37 j (by decide) (by decide) (by decide) (by omega) (by omega))⟩
theorem FrG.sc9 {r1 r2 : RH} (h : FrG r1 r2) {o : Nat} (ho : OE r1 o) : sc r2 o = sc r1 o := by
  unfold sc
  rw [h.2.2.1 o ho]
theorem FrG.cal9 {r1 r2 : RH} (h : FrG r1 r2) (hb : RB r1) {o : Nat} (ho : OE r1 o) : cal r2 o = cal r1 o := by
  unfold cal
  rcases hb.E ho with ⟨h1, h2⟩ | ⟨h1, h2, h3⟩ | ⟨h1, h2, h3⟩
  · rw [if_pos h1, if_pos h1, h.2.1 34 o h2 (by omega)]
  · rw [if_neg (show ¬ o < 400 by omega), if_neg (show ¬ o < 400 by omega), if_pos h2, if_pos h2]
  · rw [if_neg (show ¬ o < 400 by omega), if_neg (show ¬ o < 400 by omega), if_neg (show ¬ o < 440 by omega), if_neg (show ¬ o < 440 by omega), (h.2.2.2.2.2.1 _ h3).1]
theorem FrG.cld9 {r1 r2 : RH} (h : FrG r1 r2) (hb : RB r1) {o : Nat} (ho : OE r1 o) (n : Nat) : cld r2 o n = cld r1 o n := by
  unfold cld iS
  rcases hb.E ho with ⟨h1, h2⟩ | ⟨h1, h2, h3⟩ | ⟨h1, h2, h3⟩
  · rw [if_pos h1, if_pos h1, h.2.1 34 o h2 (by omega), h.1 3 _ (by unfold stF; omega)]
  · rw [if_neg (show ¬ o < 400 by omega), if_neg (show ¬ o < 400 by omega), if_pos h2, if_pos h2, h.1 52 _ (by unfold stF; omega)]
  · rw [if_neg (show ¬ o < 400 by omega), if_neg (show ¬ o < 400 by omega), if_neg (show ¬ o < 440 by omega), if_neg (show ¬ o < 440 by omega), (h.2.2.2.2.2.1 _ h3).2]
theorem FrG.go9 {r1 r2 : RH} (h : FrG r1 r2) {o : Nat} (h37 : o < 400 → r2 37 o = r1 37 o) : Go r2 o ↔ Go r1 o := Go_fr h37 (h.1 56 _ (by unfold stF; omega)) (h.1 63 _ (by unfold stF; omega))
theorem FrG.pol9 {r1 r2 : RH} (h : FrG r1 r2) (c s p : Nat) : pol r2 c s p = pol r1 c s p := by
  unfold pol
  rw [h.1 15 _ (by unfold stF; omega), h.1 15 _ (by unfold stF; omega), h.1 15 _ (by unfold stF; omega)]
/-- what a step's caller and called service are -/
theorem cal_ix (hb : RB rho) {o n : Nat} (ho : OE rho o) (hn : n < sc rho o) : ∃ c s, c < 7 ∧ s < 6 ∧ cal rho o = nI c ∧ cld rho o n = nI s := by
  have hss := hb.sce ho
  unfold cal cld
  rcases hb.E ho with ⟨h1, h2⟩ | ⟨h1, h2, h3⟩ | ⟨h1, h2, h3⟩
  · have hS := hb.S h2
    obtain ⟨c9, q1, q2, q3⟩ := ((hb.rs9 _ hS.2).2.2 n (by have := (hb.rk9 o h2).2.2.2.2.2.2.2.2.2.2.2.2; omega)).1
    rw [if_pos h1, if_pos h1]
    exact ⟨iS rho o, c9, by omega, q2, hS.1, q3⟩
  · obtain ⟨s, q1, q2⟩ := (hb.rr9 _ h3).1
    rw [if_neg (show ¬ o < 400 by omega), if_neg (show ¬ o < 400 by omega), if_pos h2, if_pos h2]
    exact ⟨6, s, by omega, q1, rfl, q2⟩
  · obtain ⟨c, q1, q2⟩ := (hb.rq9 _ h3).1
    obtain ⟨s, q3, q4⟩ := (hb.rq9 _ h3).2.1
    rw [if_neg (show ¬ o < 400 by omega), if_neg (show ¬ o < 400 by omega), if_neg (show ¬ o < 440 by omega), if_neg (show ¬ o < 440 by omega)]
    exact ⟨c, s, by omega, q3, q2, q4⟩
theorem saf_01 (hb : RB rho) {o n : Nat} (ho : OE rho o) (hn : n < sc rho o) : saf rho o n = 0 ∨ saf rho o n = 1 := by
  unfold saf
  rcases hb.E ho with ⟨h1, h2⟩ | ⟨h1, h2, h3⟩ | ⟨h1, h2, h3⟩
  · have hS := hb.S h2
    rw [if_pos h1]
    exact ((hb.rs9 _ hS.2).2.2 n (by have := (hb.rk9 o h2).2.2.2.2.2.2.2.2.2.2.2.2; omega)).2.1
  · rw [if_neg (show ¬ o < 400 by omega), if_pos h2]
    exact (hb.rr9 _ h3).2.1
  · rw [if_neg (show ¬ o < 400 by omega), if_neg (show ¬ o < 440 by omega)]
    exact Or.inl rfl
theorem e9_isSafeOf (hb : RB rho) {o n : Nat} (ho : OE rho o) (hn : n + 1 = sc rho o) : f9_isSafeOf (nI o) rho = some (saf rho o n, rho) := by
  have h01 := saf_01 hb ho (show n < sc rho o by omega)
  have hR := hb.R
  have hss := hb.sce ho
  unfold f9_isSafeOf
  unfold saf at h01 ⊢
  rcases hb.E ho with ⟨h1, h2⟩ | ⟨h1, h2, h3⟩ | ⟨h1, h2, h3⟩
  · have hS := hb.S h2
    have q1 := vq_nI (k := 4 * iS rho o + n) (n := 24) (by omega) (by omega)
    have c1 := nI_clamp (n := 4 * iS rho o + n) (by omega)
    have e1 : rho 46 o = nI n := by rw [hss.1, ← hn, nI_pred]
    have qa := vq_nI (k := o) (n := 400) h1 (by omega)
    have qb := vq_nI (k := o) (n := 540) (by omega) (by omega)
    have co := nI_clamp (n := o) (by omega)
    rw [if_pos h1] at h01 ⊢
    rw [if_neg (n400 h1), if_pos qa, if_pos qb, co, hS.1, e1, l4, pk_mul, nI_add, if_pos q1, c1, if_pos h01]
  · rw [if_neg (show ¬ o < 400 by omega), if_pos h2] at h01 ⊢
    rw [if_pos (y400 h1 (by omega)), if_neg (n440 h2), l400, pk_sub h1, if_pos (vq_nI (by omega) (by omega)), nI_clamp (by omega)]
    rcases h01 with z | z
    · rw [z, if_pos rfl]
    · rw [z, if_neg (by decide)]
  · rw [if_neg (show ¬ o < 400 by omega), if_neg (show ¬ o < 440 by omega)]
    rw [if_pos (y400 (o := o) (by omega) h2), if_pos (y440 h1 h2)]
theorem pol_r (hb : RB rho) {c s : Nat} (hc : c < 7) (hs : s < 6) : ∃ x, x ≤ 3 ∧ pol rho c s 1 = nI x := by
  have h1 := fun p hp => (hb.rp9 p hp).2
  unfold pol
  have e : ∀ p, p < 49 → rho 15 (3 * p + 1) ≠ -1 → ∃ x, x ≤ 3 ∧ rho 15 (3 * p + 1) = nI x := fun p hp hz => by
    rcases h1 p hp with z | ⟨x, z1, z2⟩
    · exact absurd z hz
    · exact ⟨x, by omega, z2⟩
  split
  · split
    · split
      · exact ⟨1, by omega, rfl⟩
      · rename_i z
        exact e _ (by omega) z
    · rename_i z
      exact e _ (by omega) z
  · rename_i z
    exact e _ (by omega) z
def otB (rho : RH) (o n : Nat) : Bool := (TR rho o n).any fun k => !knB rho k
theorem e8_hasTryOut (h : INVX X Y m rho) {o n : Nat} (ho : OE rho o) (hn : n < sc rho o) : f8_X7_hasTryOut (4 * o + n) (rho 0 0) m = some (if otB rho o n = true then 1 else 0, m, 0) := by
  have hb := h.rb9
  have hl := TR_len hb o n
  have ht := h.at9 o n ho hn
  have hh := (h.ah9 o n ho hn).1
  unfold f8_X7_hasTryOut
  have := exL (F := fun k j => l8_X7_hasTryOut_2 k (4 * o + n) (rho 0 0) j m) (yes := some (1, m, 0)) (no := some (0, m, 0)) (xs := TR rho o n) (p := fun k => !knB rho k) (fun q j x hx => by
    have hj : j < (TR rho o n).length := (List.getElem?_eq_some_iff.mp hx).1
    have hxm := TR_mem.mp (List.mem_of_getElem? hx)
    show l8_X7_hasTryOut_2 (q + 1) (4 * o + n) (rho 0 0) (nI j) m = _
    rw [l8_X7_hasTryOut_2, ht.2.2.2.2.2.2.2.2.2, od_s, hh, if_neg (cle (by omega) hj), if_pos (nI_pos (by omega)), nI_clamp (by omega), hx, od_s, e8_isKnown h hxm.1, cb_s0, nI_1]
    cases knB rho x <;> simp) (fun q => by
    show l8_X7_hasTryOut_2 (q + 1) (4 * o + n) (rho 0 0) (nI _) m = _
    rw [l8_X7_hasTryOut_2, ht.2.2.2.2.2.2.2.2.2, od_s, hh, if_pos (nI_le (Nat.le_refl _) (by omega))]) (TR rho o n).length 0 FU (by omega) (by have : FU = 1000 := rfl; omega)
  rw [List.drop_zero] at this
  refine this.trans ?_
  unfold otB
  split <;> rfl
theorem e9_hasOutOf (h : INVX X Y m rho) {o n : Nat} (ho : OE rho o) (hn : n + 1 = sc rho o) (hgo : Go rho o) (h911 : gI m 911 (4 * o + n) = 8) (hX : ¬ X o) : f9_hasOutOf (nI o) rho = some (if otB rho o n = true then 1 else 0, rho) := by
  have hb := h.rb9
  have hC := hb.C
  have hE := hb.E ho
  unfold f9_hasOutOf
  have := anyL (F := fun q b j => l9_hasOutOf_4 q (nI o) b j rho) (fin := fun b => some (b, rho)) (xs := List.range (iC rho)) (p := fun k => decide (iO rho k = o ∧ iN rho k = n) && !knB rho k) (fun q j x b hx h01 => by
    obtain ⟨hj, rfl⟩ := rg_at hx
    have hO := hb.O hj
    have hN := hb.N hj
    have e1 : nI (iO rho x) = nI o ↔ iO rho x = o := nI_eq (by omega) (by omega)
    show l9_hasOutOf_4 (q + 1) (nI o) b (nI x) rho = _
    rw [l9_hasOutOf_4, hC.1, if_neg (cle (by omega) hj), if_pos (vq_nI (n := 400) (by omega) (by omega)), nI_clamp (by omega), hO.1, nI_1, e9_isOut hb hj, ob_s]
    rcases h01 with rfl | rfl
    · rw [if_pos rfl]
      by_cases h1 : iO rho x = o
      · rw [if_pos (e1.mpr h1)]
        have hat := hb.at (hb.rk9 x hj).2.1 hN.2
        rw [← hN.1, h1] at hat
        unfold outB
        rw [h1]
        by_cases h2 : iN rho x = n
        · have h3 := hat.mpr (by omega)
          have h4 : rho 37 x ≠ 7 := fun z => by
            rcases h.ax9.2 x hj z with y | y
            · rw [h1] at y
              exact hX y
            · unfold sid at y
              rw [h1, h2] at y
              exact y h911
          have h5 : goB rho o = true := hgo
          cases hk : knB rho x <;> simp [h1, h2, h3, h4, h5]
        · have h3 : ¬ rho 46 o = rho 33 x := fun z => h2 (by have := hat.mp z; omega)
          simp [h3, h2]
      · rw [if_neg (fun z => h1 (e1.mp z))]
        simp [h1]
    · simp) (fun q b h01 => by
    show l9_hasOutOf_4 (q + 1) (nI o) b (nI _) rho = _
    rw [l9_hasOutOf_4, hC.1, List.length_range, if_pos (nI_le (Nat.le_refl _) (by omega)), if_pos h01]) (iC rho) 0 FU 0 (by rw [List.length_range]; omega) (by have : FU = 1000 := rfl; omega) (Or.inl rfl)
  rw [List.drop_zero] at this
  refine this.trans ?_
  unfold otB TR
  rw [List.any_filter]
  simp
theorem e8_canPay (h : INVX X Y m rho) {o n c : Nat} (ho : OE rho o) (hn : n < sc rho o) (hc : cal rho o = nI c) (hc7 : c < 7) : f8_X8_canPay 0 (4 * o + n) m = some (if rho 17 c < 100 then 0 else 1, m, 0) := by
  have ha := h.a09
  have ht := h.at9 o n ho hn
  unfold f8_X8_canPay
  rw [ha.2.2.1, od_s, ht.1, hc, if_pos (vq_nI hc7 (by omega)), nI_clamp (by omega), ha.2.2.2.2.2.2.2.2.1 c hc7, od_s, (h.ac9 c hc7).1]
  split <;> rfl
/-- whether a hedge is due, for a step that does not go on -/
theorem e8_noHedge (h : INVX X Y m rho) {o n c s : Nat} (ho : OE rho o) (hn : n < sc rho o) (hc : cal rho o = nI c) (hs : cld rho o n = nI s) (hc7 : c < 7) (hs6 : s < 6) (h911 : gI m 911 (4 * o + n) ≠ 8) : f8_X8_isHedgeDue 0 (4 * o + n) m = some (0, m, 0) := by
  have e2 : f8_X8_policyOf 0 (4 * o + n) 2 m = some (pol rho c s 2, m, 0) := e8_policyOf (p := 2) h ho hn hc hs hc7 hs6 (by omega)
  unfold f8_X8_isHedgeDue
  rw [e2, cb_s0, if_neg h911]
def hdB (rho : RH) (o n c s : Nat) : Bool := decide (¬ saf rho o n = 0 ∧ ¬ pol rho c s 2 ≤ 0 ∧ rho 48 o = 1 ∧ ¬ rho 0 0 - rho 47 o < pol rho c s 2 ∧ ¬ rho 17 c < 100)
theorem e8_hedge (h : INVX X Y m rho) {o n c s : Nat} (ho : OE rho o) (hn : n + 1 = sc rho o) (hc : cal rho o = nI c) (hs : cld rho o n = nI s) (hc7 : c < 7) (hs6 : s < 6) (h911 : gI m 911 (4 * o + n) = 8) (ho4 : o < 440) (h48 : rho 48 o ≠ 0) : f8_X8_isHedgeDue 0 (4 * o + n) m = some (if hdB rho o n c s = true then 1 else 0, m, 0) := by
  have e2 : f8_X8_policyOf 0 (4 * o + n) 2 m = some (pol rho c s 2, m, 0) := e8_policyOf (p := 2) h ho (by omega) hc hs hc7 hs6 (by omega)
  have ht := h.at9 o n ho (by omega)
  have hae := h.ae9 o n ho ho4 hn
  unfold f8_X8_isHedgeDue hdB
  rw [e2, cb_s0, if_pos h911, ht.2.2.1, hae.1, h.now, (hae.2.2.2 h48).1, e8_canPay h ho (by omega) hc hc7, cb_s0]
  by_cases h1 : saf rho o n = 0
  · simp [h1]
  · by_cases h2 : pol rho c s 2 ≤ 0
    · simp [h2]
    · by_cases h3 : rho 48 o = 1
      · by_cases h4 : rho 0 0 - rho 47 o < pol rho c s 2
        · simp [h4]
        · by_cases h5 : rho 17 c < 100
          · simp [h5]
          · simp [h1, h2, h3, h4, h5]
      · simp [h3]
end QA
