/-! choosing: policies, the version that is wanted, the choice -/
section PD
variable {X Y : Nat → Prop} {m : CM} {rho : RH}
theorem e8_place (c s : Nat) (hc : c < 7) (hs : s < 6) (m : CM) : f8_X8_policyPlace (nI c) (nI s) m = some (nI (7 + c * 6 + s), m, 0) := by
  unfold f8_X8_policyPlace
  rw [if_neg (nI_ne1 (by omega)), if_neg (nI_ne1 (by omega)), l6, pk_mul, l7, nI_add, nI_add]
theorem e8_place1 (s : Nat) (hs : s < 6) (m : CM) : f8_X8_policyPlace (-1) (nI s) m = some (nI (1 + s), m, 0) := by
  unfold f8_X8_policyPlace
  rw [if_neg (nI_ne1 (by omega)), if_pos rfl, l1, nI_add]
theorem e8_place0 (m : CM) : f8_X8_policyPlace (-1) (-1) m = some (0, m, 0) := by
  unfold f8_X8_policyPlace
  rw [if_pos rfl]
theorem e9_place (c s : Nat) (hc : c < 7) (hs : s < 6) (rho : RH) : f9_policyPlace (nI c) (nI s) rho = some (nI (6 * c + s), rho) := by
  unfold f9_policyPlace
  rw [if_neg (nI_ne1 (by omega)), l6, pk_mul, nI_add]
theorem e9_place1 (s : Nat) (hs : s < 6) (rho : RH) : f9_policyPlace (-1) (nI s) rho = some (nI (42 + s), rho) := by
  unfold f9_policyPlace
  rw [if_pos rfl, if_neg (nI_ne1 (by omega)), l42, nI_add]
theorem e9_place0 (rho : RH) : f9_policyPlace (-1) (-1) rho = some (nI 48, rho) := by
  unfold f9_policyPlace
  rw [if_pos rfl, if_pos rfl]
  rfl
def pol (rho : RH) (c s p : Nat) : Int32 := if rho 15 (3 * (6 * c + s) + p) = -1 then (if rho 15 (3 * (42 + s) + p) = -1 then (if rho 15 (3 * 48 + p) = -1 then polV 0 p else rho 15 (3 * 48 + p)) else rho 15 (3 * (42 + s) + p)) else rho 15 (3 * (6 * c + s) + p)
theorem e8_policyOf (h : INVX X Y m rho) {o n c s p : Nat} (ho : OE rho o) (hn : n < sc rho o) (hc : cal rho o = nI c) (hs : cld rho o n = nI s) (hc7 : c < 7) (hs6 : s < 6) (hp : p < 3) : f8_X8_policyOf 0 (4 * o + n) (nI p) m = some (pol rho c s p, m, 0) := by
  have hq := h.ap9 p hp
  have ha := h.a09
  have ht := h.at9 o n ho hn
  unfold f8_X8_policyOf pol
  rw [ha.1, od_s, if_pos (vq_nI hp (by omega)), nI_clamp (by omega), ha.2.2.2.2.2.2.2.1 p hp, od_s, ht.1, ht.2.1, hc, hs, e8_place c s hc7 hs6, cb_s0, if_pos (vq_nI (by omega) (by omega)), nI_clamp (by omega), ht.2.1, hs, e8_place1 s hs6, cb_s0, if_pos (vq_nI (k := 1 + s) (n := 49) (by omega) (by omega)), nI_clamp (by omega), e8_place0, cb_s0, if_pos (show vq (0 : Int32) 49 by decide), show (0 : Int32).toNatClampNeg = 0 from rfl, hq.1, hq.2.1 s hs6, hq.2.2 c hc7 s hs6]
  by_cases h1 : rho 15 (3 * (6 * c + s) + p) = -1
  · rw [if_pos h1, if_pos h1]
    by_cases h2 : rho 15 (3 * (42 + s) + p) = -1
    · rw [if_pos h2, if_pos h2]
      by_cases h3 : rho 15 (3 * 48 + p) = -1
      · rw [if_pos h3, if_pos h3]
      · rw [if_neg h3, if_neg h3]
    · rw [if_neg h2, if_neg h2]
  · rw [if_neg h1, if_neg h1]
theorem e9_policyOf {c s p : Nat} (hc7 : c < 7) (hs6 : s < 6) (hp : p < 3) : f9_policyOf (nI c) (nI s) (nI p) rho = some (pol rho c s p, rho) := by
  unfold f9_policyOf pol
  rw [e9_place c s hc7 hs6, ob_s, e9_place1 s hs6, ob_s, e9_place0, ob_s, l3, pk_mul, pk_mul, pk_mul, nI_add, nI_add, nI_add, if_pos (vq_nI (k := 3 * (6 * c + s) + p) (n := 147) (by omega) (by omega)), if_pos (vq_nI (k := 3 * (42 + s) + p) (n := 147) (by omega) (by omega)), if_pos (vq_nI (k := 3 * 48 + p) (n := 147) (by omega) (by omega)), nI_clamp (by omega), nI_clamp (by omega), nI_clamp (by omega)]
  have h9 : p = 0 ∨ p = 1 ∨ p = 2 := by omega
  by_cases h1 : rho 15 (3 * (6 * c + s) + p) = -1
  · rw [if_pos h1, if_pos h1]
    by_cases h2 : rho 15 (3 * (42 + s) + p) = -1
    · rw [if_pos h2, if_pos h2]
      by_cases h3 : rho 15 (3 * 48 + p) = -1
      · rw [if_pos h3, if_pos h3]
        rcases h9 with rfl | rfl | rfl <;> rfl
      · rw [if_neg h3, if_neg h3]
    · rw [if_neg h2, if_neg h2]
  · rw [if_neg h1, if_neg h1]
def wvV (rho : RH) (s : Nat) : Int32 := if rho 25 s = 0 then -1 else if ((rho 26 s + 1) * rho 25 s) / 100 ≤ ((rho 26 s + 1 - 1) * rho 25 s) / 100 then 0 else 1
def wvR (rho : RH) (s : Nat) : RH := if rho 25 s = 0 then rho else up2 rho 26 s (rho 26 s + 1)
def wvM (m : CM) (rho : RH) (s : Nat) : CM := if rho 25 s = 0 then m else sI m 385 s (rho 26 s + 1)
theorem e8_nextVersion (h : INVX X Y m rho) {s : Nat} (hs : s < 6) : f8_X3_nextVersion s m = some (wvV rho s, wvM m rho s, 0) := by
  have h4 := h.as9 s hs
  unfold f8_X3_nextVersion wvV wvM
  rw [h4.2.2.1]
  by_cases h1 : rho 25 s = 0
  · simp [h1]
  · simp only [if_neg h1, wr_s, h4.2.2.2.1, gI_sI, if_true, show (384 : Nat) = 385 ↔ False by decide, if_false, h4.2.2.1]
    by_cases h2 : ((rho 26 s + 1) * rho 25 s) / 100 ≤ ((rho 26 s + 1 - 1) * rho 25 s) / 100
    · simp only [if_pos h2]
    · simp only [if_neg h2]
theorem e9_wantedVersion {s : Nat} (hs : s < 6) : f9_wantedVersion (nI s) rho = some (wvV rho s, wvR rho s) := by
  unfold f9_wantedVersion wvV wvR
  rw [if_pos (vq_nI hs (by omega)), nI_clamp (by omega)]
  by_cases h1 : rho 25 s = 0
  · simp [h1]
  · simp only [if_neg h1, wr_s, up2_a, if_true, show (25 : Nat) = 26 ↔ False by decide, if_false]
    by_cases h2 : ((rho 26 s + 1) * rho 25 s) / 100 ≤ ((rho 26 s + 1 - 1) * rho 25 s) / 100
    · simp only [if_pos h2]
    · simp only [if_neg h2]
theorem wv_cases (rho : RH) (s : Nat) : wvV rho s = -1 ∨ wvV rho s = 0 ∨ wvV rho s = 1 := by
  unfold wvV
  split
  · exact Or.inl rfl
  · split
    · exact Or.inr (Or.inl rfl)
    · exact Or.inr (Or.inr rfl)
theorem wv_inv (h : INVX X Y m rho) {s : Nat} (hs : s < 6) : INVX X Y (wvM m rho s) (wvR rho s) ∧ pot (wvM m rho s) = pot m := by
  unfold wvM wvR
  split
  · exact ⟨h, rfl⟩
  · obtain ⟨b1, b2, b3, b4, b5, b6, b7, b8, b9, b10, b11, b12, b13, b14, b15, b16, b17⟩ := h
    refine ⟨⟨b1, b2, b3, fun s' hs' => ?_, b5, b6, b7, b8, b9, b10, b11, b12, b13, b14, b15, b16, b17⟩, rfl⟩
    have hh := b4 s' hs'
    refine ⟨hh.1, hh.2.1, hh.2.2.1, ?_, hh.2.2.2.2⟩
    show (if (385 : Nat) = 385 then (if s' = s then rho 26 s + 1 else gI m 385 s') else gI m 385 s') = (if (26 : Nat) = 26 then (if s' = s then rho 26 s + 1 else rho 26 s') else rho 26 s')
    rw [if_pos rfl, if_pos rfl, hh.2.2.2.1]
theorem wv_fr (rho : RH) (s : Nat) {F j : Nat} (hF : F ≠ 26) : wvR rho s F j = rho F j := by
  unfold wvR
  split
  · rfl
  · exact up2_f _ _ _ _ hF
def trB (rho : RH) (o n i : Nat) : Bool := (TR rho o n).any fun k => decide (iX rho k = i)
theorem TR_mem {o n k : Nat} : k ∈ TR rho o n ↔ k < iC rho ∧ iO rho k = o ∧ iN rho k = n := by
  unfold TR
  rw [List.mem_filter, List.mem_range, decide_eq_true_eq]
theorem TR_len (hb : RB rho) (o n : Nat) : (TR rho o n).length ≤ 400 := by
  have := List.length_filter_le (fun k => decide (iO rho k = o ∧ iN rho k = n)) (List.range (iC rho))
  rw [List.length_range] at this
  have := hb.C
  unfold TR
  omega
theorem e8_hasTried (h : INVX X Y m rho) {o n i : Nat} (ho : OE rho o) (hn : n < sc rho o) : f8_X7_hasTried (4 * o + n) i m = some (if trB rho o n i = true then 1 else 0, m, 0) := by
  have hb := h.rb9
  have hl := TR_len hb o n
  have ht := h.at9 o n ho hn
  have hh := (h.ah9 o n ho hn).1
  unfold f8_X7_hasTried
  have := exL (F := fun k j => l8_X7_hasTried_2 k (4 * o + n) i j m) (yes := some (1, m, 0)) (no := some (0, m, 0)) (xs := TR rho o n) (p := fun k => decide (iX rho k = i)) (fun q j x hx => by
    have hj : j < (TR rho o n).length := (List.getElem?_eq_some_iff.mp hx).1
    have hxm := TR_mem.mp (List.mem_of_getElem? hx)
    have hk := h.ak9 x hxm.1
    show l8_X7_hasTried_2 (q + 1) (4 * o + n) i (nI j) m = _
    rw [l8_X7_hasTried_2, ht.2.2.2.2.2.2.2.2.2, od_s, hh, if_neg (cle (by omega) hj), if_pos (nI_pos (by omega)), nI_clamp (by omega), hx, od_s, hk.2.2.1, od_s, nI_1]
    by_cases h1 : iX rho x = i
    · simp [h1]
    · simp [h1]) (fun q => by
    show l8_X7_hasTried_2 (q + 1) (4 * o + n) i (nI _) m = _
    rw [l8_X7_hasTried_2, ht.2.2.2.2.2.2.2.2.2, od_s, hh, if_pos (nI_le (Nat.le_refl _) (by omega))]) (TR rho o n).length 0 FU (by omega) (by have : FU = 1000 := rfl; omega)
  rw [List.drop_zero] at this
  refine this.trans ?_
  unfold trB
  split <;> rfl
theorem e9_hasTried (hb : RB rho) {o n i : Nat} (ho : OE rho o) (hn : n + 1 = sc rho o) (hi : i < 12) : f9_hasTried (nI o) (nI i) rho = some (if trB rho o n i = true then 1 else 0, rho) := by
  have hC := hb.C
  have hs := hb.sce ho
  have ho5 : o < 540 := by
    have := hb.E ho
    omega
  unfold f9_hasTried
  have := anyL (F := fun n b j => l9_hasTried_5 n (nI o) (nI i) b j rho) (fin := fun b => some (b, rho)) (xs := List.range (iC rho)) (p := fun k => decide (iO rho k = o ∧ iN rho k = n) && decide (iX rho k = i)) (fun q j x b hx h01 => by
    obtain ⟨hj, rfl⟩ := rg_at hx
    have hO := hb.O hj
    have hN := hb.N hj
    have hXx := hb.Xi hj
    have hI := hb.I
    have e1 : nI (iO rho x) = nI o ↔ iO rho x = o := nI_eq (by omega) (by omega)
    have e2 : nI (iX rho x) = nI i ↔ iX rho x = i := nI_eq (by omega) (by omega)
    have hat := hb.at ho hN.2
    rw [← hN.1] at hat
    have e3 : rho 33 x = rho 46 o ↔ iN rho x = n := ⟨fun z => by have := hat.mp z.symm; omega, fun z => (hat.mpr (by omega)).symm⟩
    show l9_hasTried_5 (q + 1) (nI o) (nI i) b (nI x) rho = _
    rw [l9_hasTried_5, hC.1, if_neg (cle (by omega) hj), if_pos (vq_nI (n := 400) (by omega) (by omega)), nI_clamp (by omega), if_pos (vq_nI (n := 540) ho5 (by omega)), nI_clamp (by omega), hO.1, hXx.1, nI_1]
    rcases h01 with rfl | rfl
    · rw [if_pos rfl]
      by_cases h1 : iO rho x = o
      · by_cases h2 : iN rho x = n
        · by_cases h3 : iX rho x = i
          · simp [h1, h3, e3.mpr h2, h2]
          · simp [h1, h3, e2, e3.mpr h2]
        · simp [h1, e3, h2]
      · simp [h1, e1]
    · simp) (fun q b h01 => by
    show l9_hasTried_5 (q + 1) (nI o) (nI i) b (nI _) rho = _
    rw [l9_hasTried_5, hC.1, List.length_range, if_pos (nI_le (Nat.le_refl _) (by omega)), if_pos h01]) (iC rho) 0 FU 0 (by rw [List.length_range]; omega) (by have : FU = 1000 := rfl; omega) (Or.inl rfl)
  rw [List.drop_zero] at this
  refine this.trans ?_
  unfold trB TR
  rw [List.any_filter]
  simp
end PD
