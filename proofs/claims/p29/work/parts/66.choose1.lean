/-! choosing: breakers, tries that are out, burdens -/
section PC
variable {X Y : Nat → Prop} {m : CM} {rho : RH}
theorem INVX.now (h : INVX X Y m rho) : gI m 1024 0 = rho 0 0 := h.ag9.1
theorem nI_lt6 {t : Nat} (h : t ≤ 600) : ¬ (1000000 : Int32) ≤ nI t := cle (b := 1000000) (by omega) (by omega)
theorem known_iff (h : INVX X Y m rho) {k : Nat} (hk : k < iC rho) : gI m 136 k ≤ rho 0 0 ↔ knB rho k = true := by
  have hT := h.rb9.T
  have hw := h.aw9 k hk
  unfold knB
  by_cases h1 : rho 37 k ≤ 2
  · rw [hw.2.2.2.1 (Or.inl h1), hT.1]
    simp [h1, nI_lt6 hT.2]
  · by_cases h2 : rho 37 k = 7
    · rw [hw.2.2.2.1 (Or.inr h2), hT.1]
      simp [h2, nI_lt6 hT.2]
    · have h5 := hw.2.2.2.2 h1 h2
      by_cases h3 : rho 42 k = 0
      · obtain ⟨-, t, h6, h7⟩ := h5.1 h3
        rw [h7, hT.1]
        have h8 : nI t ≤ nI (nv (rho 0 0)) := nI_le h6 (by omega)
        simp [h1, h2, h3, h8]
      · rw [(h5.2 h3).2]
        simp [h1, h2, h3]
theorem e8_isKnown (h : INVX X Y m rho) {k : Nat} (hk : k < iC rho) : f8_X1_isKnown k (rho 0 0) m = some (if knB rho k = true then 1 else 0, m, 0) := by
  have hq := known_iff h hk
  unfold f8_X1_isKnown
  by_cases h1 : rho 0 0 < gI m 136 k
  · rw [if_pos h1, if_neg (fun z => not_le32.mpr h1 (hq.mpr z))]
  · rw [if_neg h1, if_pos (hq.mp (not_lt32.mp h1))]
theorem out_iff (h : INVX X Y m rho) {k : Nat} (hk : k < iC rho) (hX : ¬ X (iO rho k)) : (gI m 911 (sid rho k) = 8 ∧ ¬ gI m 136 k ≤ rho 0 0) ↔ outB rho k = true := by
  have hb := h.rb9
  have hr := hb.rk9 k hk
  have hN := hb.N hk
  have hat := hb.at hr.2.1 hN.2
  have hx := h.ax9.1 (iO rho k) (iN rho k) hr.2.1 hr.2.2.2.2.1
  have hs2 := h.ax9.2 k hk
  have hkn := known_iff h hk
  rw [← hN.1] at hat
  unfold outB
  unfold sid at hs2 ⊢
  by_cases h1 : iN rho k + 1 = sc rho (iO rho k)
  · have h2 := hx.2 h1 hX
    have h3 := hat.mpr h1
    by_cases h4 : Go rho (iO rho k)
    · have h5 := h2.1 h4
      have h6 : rho 37 k ≠ 7 := fun z => (hs2 z).elim hX (fun z => z h5)
      unfold Go at h4
      rw [hkn]
      simp [h3, h4, h5, h6]
    · have h5 := (h2.2 h4).1
      have h4' : goB rho (iO rho k) = false := by
        cases hg : goB rho (iO rho k) with
        | true => exact absurd hg h4
        | false => rfl
      simp [h4', h5]
  · have h2 := hx.1 (by omega)
    have h3 : ¬ rho 46 (iO rho k) = rho 33 k := fun z => h1 (hat.mp z)
    simp [h2, h3]
def hobB (rho : RH) (c i : Nat) : Bool := (List.range (iC rho)).any (fun k => decide (rho 35 k = nI c ∧ rho 36 k = nI i) && outB rho k)
theorem e8_hasTryOutAt (h : INVX X Y m rho) (hX : ∀ o, ¬ X o) {c i : Nat} (hi : i < 12) : f8_X8_hasTryOutAt 0 (nI c) i m = some (if hobB rho c i = true then 1 else 0, m, 0) := by
  have hb := h.rb9
  have hC := hb.C
  have hl := h.al9.2.2.1
  have ha := h.a09
  unfold f8_X8_hasTryOutAt
  have := exL (F := fun n j => l8_X8_hasTryOutAt_2 n 0 (nI c) i j m) (yes := some (1, m, 0)) (no := some (0, m, 0)) (xs := List.range (iC rho)) (p := fun k => decide (rho 35 k = nI c ∧ rho 36 k = nI i) && outB rho k) (fun n j x hx => by
    obtain ⟨hj, rfl⟩ := rg_at hx
    have hk := h.ak9 x hj
    have hI := hb.I
    have hXx := hb.Xi hj
    have hr := hb.rk9 x hj
    have ht := h.at9 (iO rho x) (iN rho x) hr.2.1 hr.2.2.2.2.1
    have ho := out_iff h hj (hX _)
    show l8_X8_hasTryOutAt_2 (n + 1) 0 (nI c) i (nI x) m = _
    rw [l8_X8_hasTryOutAt_2, ha.2.2.2.2.2.1, od_s, hl, List.length_range, if_neg (cle (by omega) hj), if_pos (nI_pos (by omega)), nI_clamp (by omega), rg_lt hj, od_s, hk.2.2.1, od_s, hk.2.1, od_s, nI_1, h.now]
    unfold sid at ho ⊢
    rw [ht.1, ← hr.2.2.2.2.2.2.2.2.2.1, hXx.1]
    have e1 : nI (iX rho x) = nI i ↔ iX rho x = i := nI_eq (by omega) (by omega)
    by_cases h1 : iX rho x = i
    · by_cases h2 : rho 35 x = nI c
      · by_cases h3 : gI m 911 (4 * iO rho x + iN rho x) = 8
        · by_cases h4 : gI m 136 x ≤ rho 0 0
          · have h5 : outB rho x = false := by
              cases hq : outB rho x with
              | false => rfl
              | true => exact absurd h4 (ho.mpr hq).2
            simp [h1, h2, h3, h4, h5]
          · have h5 : outB rho x = true := ho.mp ⟨h3, h4⟩
            simp [h1, h2, h3, h4, h5]
        · have h5 : outB rho x = false := by
            cases hq : outB rho x with
            | false => rfl
            | true => exact absurd (ho.mpr hq).1 h3
          simp [h1, h2, h3, h5]
      · simp [h1, h2]
    · simp [h1, e1]) (fun n => by
    show l8_X8_hasTryOutAt_2 (n + 1) 0 (nI c) i (nI _) m = _
    rw [l8_X8_hasTryOutAt_2, ha.2.2.2.2.2.1, od_s, hl, if_pos (nI_le (Nat.le_refl _) (by rw [List.length_range]; omega))]) (iC rho) 0 FU (by rw [List.length_range]; omega) (by have : FU = 1000 := rfl; omega)
  rw [List.drop_zero] at this
  refine this.trans ?_
  unfold hobB
  split <;> rfl
/-- how many callers' breakers are open -/
def obr (rho : RH) (i : Nat) : Nat := ((List.range 7).filter (fun c => decide (rho 21 (12 * c + i) = 1))).length
theorem e9_isAvoided {i : Nat} (hi : i < 12) : f9_isAvoided (nI i) rho = some (if nI (obr rho i) < rho 20 0 then 0 else 1, rho) := by
  unfold f9_isAvoided
  have := cntL (F := fun n b j => l9_isAvoided_4 n (nI i) b j rho) (fin := fun b => some (if b < rho 20 0 then 0 else 1, rho)) (xs := List.range 7) (p := fun c => decide (rho 21 (12 * c + i) = 1)) (fun n j x b hx => by
    obtain ⟨hj, rfl⟩ := rg_at hx
    show l9_isAvoided_4 (n + 1) (nI i) b (nI x) rho = _
    rw [l9_isAvoided_4, if_neg (n7 hj), l12, pk_mul, nI_add, if_pos (vq_nI (by omega) (by omega)), nI_clamp (by omega), nI_1]
    by_cases h1 : rho 21 (12 * x + i) = 1
    · simp [h1]
    · simp [h1]) (fun n b => by
    show l9_isAvoided_4 (n + 1) (nI i) b (nI _) rho = _
    rw [l9_isAvoided_4, List.length_range, if_pos y7]
    by_cases h1 : b < rho 20 0
    · simp [h1]
    · simp [h1]) 7 0 FU 0 rfl (by decide)
  rw [List.drop_zero, Nat.zero_add] at this
  exact this
theorem e8_openBreakers (h : INVX X Y m rho) {i : Nat} (hi : i < iI rho) : f8_X4_openBreakers i m = some (nI (obr rho i), m, 0) := by
  have hI := h.rb9.I
  have hz := h.ai9 i hi
  unfold f8_X4_openBreakers
  have := cntL (F := fun n b j => l8_X4_openBreakers_4 n i b j m) (fin := fun b => some (b, m, 0)) (xs := List.range 7) (p := fun c => decide (rho 21 (12 * c + i) = 1)) (fun n j x b hx => by
    obtain ⟨hj, rfl⟩ := rg_at hx
    have hc := hz.2.2.2.2.2.2.2.2.2.2.2.2.2 x hj
    show l8_X4_openBreakers_4 (n + 1) i b (nI x) m = _
    rw [l8_X4_openBreakers_4, if_neg (n7 hj), hz.2.1, od_s, if_pos (vq_nI hj (by omega)), nI_clamp (by omega), hc.1, od_s, nI_1, hc.2.2.1]
    by_cases h1 : rho 21 (12 * x + i) = 1
    · simp [h1]
    · simp [h1]) (fun n b => by
    show l8_X4_openBreakers_4 (n + 1) i b (nI _) m = _
    rw [l8_X4_openBreakers_4, List.length_range, if_pos y7]) 7 0 FU 0 rfl (by decide)
  rw [List.drop_zero, Nat.zero_add] at this
  exact this
def cchB (rho : RH) (c i : Nat) : Bool := decide (rho 21 (12 * c + i) ≠ 1) && (decide (nI (obr rho i) < rho 20 0) && (decide (rho 21 (12 * c + i) = 0) || !hobB rho c i))
theorem e8_canChoose (h : INVX X Y m rho) (hX : ∀ o, ¬ X o) {c i : Nat} (hi : i < iI rho) (hc : c < 7) : f8_X8_canChoose 0 (nI c) i m = some (if cchB rho c i = true then 1 else 0, m, 0) := by
  have hI := h.rb9.I
  have hz := h.ai9 i hi
  have hzc := hz.2.2.2.2.2.2.2.2.2.2.2.2.2 c hc
  unfold f8_X8_canChoose cchB
  rw [hz.2.1, od_s, if_pos (vq_nI hc (by omega)), nI_clamp (by omega), hzc.1, od_s, hzc.2.2.1, e8_openBreakers h hi, cb_s0, e8_hasTryOutAt h hX (by omega), cb_s0, h.ag9.2.1]
  by_cases h1 : rho 21 (12 * c + i) = 1
  · simp [h1]
  · by_cases h2 : nI (obr rho i) < rho 20 0
    · by_cases h3 : rho 21 (12 * c + i) = 0
      · simp [h2, h3]
      · cases h4 : hobB rho c i <;> simp [h1, h2, h3]
    · simp [h1, h2]
theorem e9_canChoose (hb : RB rho) {c i : Nat} {s : Int32} (hi : i < iI rho) (hc : c < 7) (hs : rho 7 i = s) : f9_canChoose (nI c) s (nI i) rho = some (if cchB rho c i = true then 1 else 0, rho) := by
  have hI := hb.I
  have h21 := ((hb.ri9 i hi).2.2.2.2.2.2.2.2.2 c hc).1
  unfold f9_canChoose cchB
  rw [l12, pk_mul, nI_add, if_pos (vq_nI (n := 84) (by omega) (by omega)), if_pos (vq_nI (n := 12) (by omega) (by omega)), nI_clamp (by omega), nI_clamp (by omega), if_pos hs, e9_isAvoided (by omega), ob_s, e9_hasOut hb, ob_s]
  obtain ⟨a, ha, hq⟩ := h21
  have h3 : a = 0 ∨ a = 1 ∨ a = 2 := by omega
  unfold hobB
  by_cases h2 : nI (obr rho i) < rho 20 0
  · rcases h3 with rfl | rfl | rfl
    · simp [hq, h2, ← l0]
    · simp [hq, h2, ← l1]
    · rw [hq, if_pos h2]
      simp only [← l2]
      cases h4 : (List.range (iC rho)).any (fun k => decide (rho 35 k = nI c ∧ rho 36 k = nI i) && outB rho k) <;> simp [h2]
  · simp [h2]
theorem e9_canChoose_no (hb : RB rho) {c i : Nat} {s : Int32} (hi : i < iI rho) (hc : c < 7) (hs : ¬ rho 7 i = s) : f9_canChoose (nI c) s (nI i) rho = some (0, rho) := by
  have hI := hb.I
  unfold f9_canChoose
  rw [l12, pk_mul, nI_add, if_pos (vq_nI (n := 84) (by omega) (by omega)), if_pos (vq_nI (n := 12) (by omega) (by omega)), nI_clamp (by omega), if_neg hs]
def bur (rho : RH) (o c i : Nat) : Int32 := if zon rho o = rho 8 i then (100 * (rho 14 i + rho 24 (12 * c + i))) / rho 9 i else (100 * (rho 14 i + rho 24 (12 * c + i))) / rho 9 i + 150
theorem e8_burden (h : INVX X Y m rho) {o c i : Nat} (hi : i < iI rho) (hc : c < 7) : f8_X4_burdenFor i (nI c) (zon rho o) m = some (bur rho o c i, m, 0) := by
  have hz := h.ai9 i hi
  have hzc := hz.2.2.2.2.2.2.2.2.2.2.2.2.2 c hc
  have hI := h.rb9.I
  have hr := h.rb9.ri9 i hi
  obtain ⟨w, hw, hw2⟩ := hr.2.2.1
  have hw0 : w ≠ 0 := fun z => hr.2.2.2.1 (by rw [hw2, z]; rfl)
  unfold f8_X4_burdenFor bur
  rw [hz.2.2.1, od_s, if_pos (vq_nI hc (by omega)), nI_clamp (by omega), hzc.2.1, hz.2.2.2.2.2.2.2.1, hz.2.2.2.2.2.2.1, hz.2.2.2.2.2.2.2.2.2.2.2.1, hw2, if_neg (nI_nle (by omega) (by omega)), if_pos (nI_ne0 (by omega) (by omega))]
  by_cases h1 : zon rho o = rho 8 i
  · rw [if_pos h1.symm, if_pos h1]
  · rw [if_neg (fun z => h1 z.symm), if_neg h1]
theorem add0 (x : Int32) : x + 0 = x := Int32.add_zero x
theorem e9_burden (hb : RB rho) {o c i : Nat} (hi : i < iI rho) (hc : c < 7) (ho : OE rho o) : f9_burden (nI o) (nI c) (nI i) rho = some (bur rho o c i, rho) := by
  have hI := hb.I
  have hr := hb.ri9 i hi
  obtain ⟨w, hw, hw2⟩ := hr.2.2.1
  have hw0 : w ≠ 0 := fun z => hr.2.2.2.1 (by rw [hw2, z]; rfl)
  have q1 := vq_nI (k := i) (n := 12) (by omega) (by omega)
  have q2 := vq_nI (k := 12 * c + i) (n := 84) (by omega) (by omega)
  unfold f9_burden bur zon
  rcases hb.E ho with ⟨h1, h2⟩ | ⟨h1, h2, h3⟩ | ⟨h1, h2, h3⟩
  · have hX := hb.Xi h2
    rw [if_neg (n400 h1), if_pos (vq_nI h1 (by omega)), nI_clamp (by omega), hX.1, if_pos (vq_nI (by omega) (by omega)), if_pos q1, l12, pk_mul, nI_add, if_pos q2, nI_clamp (by omega), nI_clamp (by omega), nI_clamp (by omega), hw2, if_pos (nI_ne0 (by omega) (by omega)), if_pos h1, add0]
    by_cases h4 : rho 8 (iX rho o) = rho 8 i
    · rw [if_pos h4, if_pos h4]
    · rw [if_neg h4, if_neg h4]
  all_goals
    rw [if_pos (y400 (o := o) (by omega) (by omega)), if_pos q1, l12, pk_mul, nI_add, if_pos q2, nI_clamp (by omega), nI_clamp (by omega), hw2, if_pos (nI_ne0 (by omega) (by omega)), if_neg (show ¬ o < 400 by omega), add0]
    by_cases h4 : 0 = rho 8 i
    · rw [if_pos h4, if_pos h4]
    · rw [if_neg h4, if_neg h4]
theorem bur_e (hb : RB rho) {o c i : Nat} (hi : i < iI rho) (hc : c < 7) : ∃ b, b < 1000000 ∧ bur rho o c i = nI b := by
  have hC := hb.C
  have hr := hb.ri9 i hi
  obtain ⟨w, hw, hw2⟩ := hr.2.2.1
  have hw0 : w ≠ 0 := fun z => hr.2.2.2.1 (by rw [hw2, z]; rfl)
  obtain ⟨t, ht, ht2⟩ := hr.2.2.2.2.2.2.2.1
  obtain ⟨q, hq, hq2⟩ := (hr.2.2.2.2.2.2.2.2.2 c hc).2
  have hdiv : 100 * (t + q) / w ≤ 100 * (t + q) := Nat.div_le_self _ _
  unfold bur
  rw [hw2, ht2, hq2, nI_add, l100, pk_mul, pk_div (by omega) (by omega) (by omega)]
  split
  · exact ⟨_, by omega, rfl⟩
  · rw [l150, nI_add]
    exact ⟨_, by omega, rfl⟩
end PC
