/-! what is only read: the reference's questions, and the class's -/
section PR
variable {X Y : Nat → Prop} {m : CM} {rho : RH}
theorem INVX.a09 (h : INVX X Y m rho) : A0 m := h.1
theorem INVX.ag9 (h : INVX X Y m rho) : AGl m rho := h.2.1
theorem INVX.ap9 (h : INVX X Y m rho) : AP m rho := h.2.2.1
theorem INVX.as9 (h : INVX X Y m rho) : AS m rho := h.2.2.2.1
theorem INVX.ac9 (h : INVX X Y m rho) : AC m rho := h.2.2.2.2.1
theorem INVX.ai9 (h : INVX X Y m rho) : AI m rho := h.2.2.2.2.2.1
theorem INVX.aq9 (h : INVX X Y m rho) : AQ m rho := h.2.2.2.2.2.2.1
theorem INVX.ar9 (h : INVX X Y m rho) : AR m rho := h.2.2.2.2.2.2.2.1
theorem INVX.al9 (h : INVX X Y m rho) : AL m rho := h.2.2.2.2.2.2.2.2.1
theorem INVX.ak9 (h : INVX X Y m rho) : AK m rho := h.2.2.2.2.2.2.2.2.2.1
theorem INVX.aw9 (h : INVX X Y m rho) : AW m rho := h.2.2.2.2.2.2.2.2.2.2.1
theorem INVX.at9 (h : INVX X Y m rho) : AT m rho := h.2.2.2.2.2.2.2.2.2.2.2.1
theorem INVX.ah9 (h : INVX X Y m rho) : AH m rho := h.2.2.2.2.2.2.2.2.2.2.2.2.1
theorem INVX.ax9 (h : INVX X Y m rho) : AX X m rho := h.2.2.2.2.2.2.2.2.2.2.2.2.2.1
theorem INVX.ae9 (h : INVX X Y m rho) : AE Y m rho := h.2.2.2.2.2.2.2.2.2.2.2.2.2.2.1
theorem INVX.af9 (h : INVX X Y m rho) : AF m rho := h.2.2.2.2.2.2.2.2.2.2.2.2.2.2.2.1
theorem INVX.rb9 (h : INVX X Y m rho) : RB rho := h.2.2.2.2.2.2.2.2.2.2.2.2.2.2.2.2
theorem RB.r09 (h : RB rho) : R0 rho := h.1
theorem RB.rs9 (h : RB rho) : Rs rho := h.2.1
theorem RB.ri9 (h : RB rho) : Ri rho := h.2.2.1
theorem RB.rp9 (h : RB rho) : Rp rho := h.2.2.2.1
theorem RB.rr9 (h : RB rho) : Rr rho := h.2.2.2.2.1
theorem RB.rq9 (h : RB rho) : Rq rho := h.2.2.2.2.2.1
theorem RB.rk9 (h : RB rho) : Rk rho := h.2.2.2.2.2.2.1
theorem RB.rw9 (h : RB rho) : Rw rho := h.2.2.2.2.2.2.2.1
theorem RB.rz9 (h : RB rho) : Rz rho := h.2.2.2.2.2.2.2.2
theorem RB.C (h : RB rho) : rho 31 0 = nI (iC rho) ∧ iC rho ≤ 400 := ⟨h.1.2.2.1.eq (by omega), Nat.le_of_lt_succ (h.1.2.2.1.lt (by omega))⟩
theorem RB.I (h : RB rho) : rho 6 0 = nI (iI rho) ∧ iI rho ≤ 12 := ⟨h.1.2.1.eq (by omega), Nat.le_of_lt_succ (h.1.2.1.lt (by omega))⟩
theorem RB.R (h : RB rho) : rho 51 0 = nI (iR rho) ∧ iR rho ≤ 40 := ⟨h.1.2.2.2.1.eq (by omega), Nat.le_of_lt_succ (h.1.2.2.2.1.lt (by omega))⟩
theorem RB.P (h : RB rho) : rho 59 0 = nI (iP rho) ∧ iP rho ≤ 100 := ⟨h.1.2.2.2.2.1.eq (by omega), Nat.le_of_lt_succ (h.1.2.2.2.2.1.lt (by omega))⟩
theorem RB.T (h : RB rho) : rho 0 0 = nI (nv (rho 0 0)) ∧ nv (rho 0 0) ≤ 600 := ⟨h.1.1.eq (by omega), Nat.le_of_lt_succ (h.1.1.lt (by omega))⟩
theorem RB.O (h : RB rho) {k : Nat} (hk : k < iC rho) : rho 32 k = nI (iO rho k) ∧ iO rho k < 540 := ⟨(h.rk9 k hk).1.eq (by omega), (h.rk9 k hk).1.lt (by omega)⟩
theorem RB.N (h : RB rho) {k : Nat} (hk : k < iC rho) : rho 33 k = nI (iN rho k) ∧ iN rho k < 4 := ⟨(h.rk9 k hk).2.2.2.1.eq (by omega), (h.rk9 k hk).2.2.2.1.lt (by omega)⟩
theorem RB.S (h : RB rho) {k : Nat} (hk : k < iC rho) : rho 34 k = nI (iS rho k) ∧ iS rho k < 6 := ⟨(h.rk9 k hk).2.2.2.2.2.1.eq (by omega), (h.rk9 k hk).2.2.2.2.2.1.lt (by omega)⟩
theorem RB.Xi (h : RB rho) {k : Nat} (hk : k < iC rho) : rho 36 k = nI (iX rho k) ∧ iX rho k < iI rho := ⟨(h.rk9 k hk).2.2.2.2.2.2.2.1.eq (by have := h.I; omega), (h.rk9 k hk).2.2.2.2.2.2.2.1.lt (by have := h.I; omega)⟩
theorem RB.E (h : RB rho) {o : Nat} (ho : OE rho o) : (o < 400 ∧ o < iC rho) ∨ (400 ≤ o ∧ o < 440 ∧ o - 400 < iR rho) ∨ (440 ≤ o ∧ o < 540 ∧ o - 440 < iP rho) := by
  have := h.C
  have := h.R
  have := h.P
  unfold OE at ho
  omega
theorem sc_e {x : Int32} {n : Nat} (h : Ix (x + 1) n) (hn : n ≤ 1000) : x = nI (nv (x + 1)) - 1 := by
  have e := h.eq (by omega)
  rw [← e, Int32.add_sub_cancel]
/-- where a step stands -/
theorem RB.sce (h : RB rho) {o : Nat} (ho : OE rho o) : rho 46 o = nI (sc rho o) - 1 ∧ sc rho o ≤ 4 ∧ (400 ≤ o → sc rho o = 1) := by
  rcases h.E ho with ⟨h1, h2⟩ | ⟨h1, h2, h3⟩ | ⟨h1, h2, h3⟩
  · have hk := h.rk9 o h2
    exact ⟨sc_e hk.2.2.2.2.2.2.2.2.2.2.2.1 (by omega), Nat.le_of_lt_succ (hk.2.2.2.2.2.2.2.2.2.2.2.1.lt (by omega)), fun z => by omega⟩
  · have hr := (h.rr9 (o - 400) h3).2.2
    rw [show 400 + (o - 400) = o by omega] at hr
    have e : sc rho o = 1 := by unfold sc; rw [hr]; rfl
    refine ⟨?_, by omega, fun _ => e⟩
    rw [hr, e]
    decide
  · have hr := (h.rq9 (o - 440) h3).2.2.1
    rw [show 440 + (o - 440) = o by omega] at hr
    have e : sc rho o = 1 := by unfold sc; rw [hr]; rfl
    refine ⟨?_, by omega, fun _ => e⟩
    rw [hr, e]
    decide
theorem nI_m1 (n : Nat) : nI n - 1 = nI (n + 1) - 1 - 1 := by rw [nI_pred]
theorem nI_ne1 {n : Nat} (h : n < 2 ^ 31) : ¬ nI n = -1 := by
  intro z
  have h1 := congrArg Int32.toInt z
  rw [nI_toInt h, show (-1 : Int32).toInt = -1 by decide] at h1
  omega
/-- the reference's place of a step, compared -/
theorem RB.at (h : RB rho) {o n : Nat} (ho : OE rho o) (hn : n < 4) : rho 46 o = nI n ↔ n + 1 = sc rho o := by
  have hs := h.sce ho
  rw [hs.1]
  constructor
  · intro z
    have z1 : nI (sc rho o) = nI n + 1 := by rw [← z, Int32.sub_add_cancel]
    rw [nI_1, nI_eq (by omega) (by omega)] at z1
    omega
  · intro z
    rw [← z, nI_pred]
theorem cle {a b : Nat} (hb : b ≤ 1000000) (h : a < b) : ¬ nI b ≤ nI a := by
  rw [nI_leI (by omega) (by omega)]
  omega
theorem n400 {o : Nat} (h : o < 400) : ¬ (400 : Int32) ≤ nI o := cle (b := 400) (by omega) h
theorem n440 {o : Nat} (h : o < 440) : ¬ (440 : Int32) ≤ nI o := cle (b := 440) (by omega) h
theorem y400 {o : Nat} (h : 400 ≤ o) (h2 : o < 540) : (400 : Int32) ≤ nI o := nI_le h (by omega)
theorem y440 {o : Nat} (h : 440 ≤ o) (h2 : o < 540) : (440 : Int32) ≤ nI o := nI_le h (by omega)
theorem n7 {o : Nat} (h : o < 7) : ¬ (7 : Int32) ≤ nI o := cle (b := 7) (by omega) h
theorem y7 : (7 : Int32) ≤ nI 7 := by decide
theorem e9_hasEnded {k : Nat} (hk : k < 400) : f9_hasEnded (nI k) rho = some (if rho 37 k ≤ 2 then 0 else 1, rho) := by
  unfold f9_hasEnded
  rw [if_pos (vq_nI hk (by omega)), nI_clamp (by omega)]
  by_cases h : rho 37 k ≤ 2
  · rw [if_pos h, if_pos h]
  · rw [if_neg h, if_neg h]
def knB (rho : RH) (k : Nat) : Bool := decide (¬ rho 37 k ≤ 2 ∧ rho 37 k ≠ 7 ∧ (rho 42 k = 0 ∨ rho 38 k ≤ rho 0 0))
def outB (rho : RH) (k : Nat) : Bool := decide (rho 37 k ≠ 7) && (!knB rho k && (goB rho (iO rho k) && decide (rho 46 (iO rho k) = rho 33 k)))
theorem e9_isKnown {k : Nat} (hk : k < 400) : f9_isKnown (nI k) rho = some (if knB rho k = true then 1 else 0, rho) := by
  unfold f9_isKnown
  rw [e9_hasEnded hk, ob_s, if_pos (vq_nI hk (by omega)), nI_clamp (by omega)]
  unfold knB
  by_cases h1 : rho 37 k ≤ 2
  · simp [h1]
  · by_cases h2 : rho 37 k = 7
    · simp [h2]
    · by_cases h3 : rho 42 k = 0
      · simp [h1, h2, h3]
      · by_cases h4 : rho 0 0 < rho 38 k
        · have h5 : ¬ rho 38 k ≤ rho 0 0 := not_le32.mpr h4
          simp [h1, h2, h3, h4, h5]
        · have h5 : rho 38 k ≤ rho 0 0 := not_lt32.mp h4
          simp [h1, h2, h3, h4, h5]
theorem e9_goesOn (hb : RB rho) {o : Nat} (ho : OE rho o) : f9_goesOn (nI o) rho = some (if goB rho o = true then 1 else 0, rho) := by
  unfold f9_goesOn goB
  rcases hb.E ho with ⟨h1, h2⟩ | ⟨h1, h2, h3⟩ | ⟨h1, h2, h3⟩
  · rw [if_neg (n400 h1), if_pos (vq_nI h1 (by omega)), nI_clamp (by omega), if_pos h1]
    by_cases h : rho 37 o = 2
    · simp [h]
    · simp [h]
  · have hR := hb.R
    rw [if_pos (y400 h1 (by omega)), if_neg (n440 h2), l400, pk_sub h1, if_pos (vq_nI (by omega) (by omega)), nI_clamp (by omega), if_neg (show ¬ o < 400 by omega), if_pos h2]
    by_cases h : rho 56 (o - 400) = 8
    · simp [h]
    · simp [h]
  · have hP := hb.P
    rw [if_pos (y400 (o := o) (by omega) h2), if_pos (y440 h1 h2), l400, pk_sub (by omega), l40, pk_sub (by omega), show o - 400 - 40 = o - 440 by omega, if_pos (vq_nI (by omega) (by omega)), nI_clamp (by omega), if_neg (show ¬ o < 400 by omega), if_neg (show ¬ o < 440 by omega)]
    by_cases h : rho 63 (o - 440) = 0
    · simp [h]
    · simp [h]
theorem e9_isOut (hb : RB rho) {k : Nat} (hk : k < iC rho) : f9_isOut (nI k) rho = some (if outB rho k = true then 1 else 0, rho) := by
  have hC := hb.C
  have hO := hb.O hk
  unfold f9_isOut outB
  rw [if_pos (vq_nI (by omega) (by omega)), nI_clamp (by omega), e9_isKnown (by omega), ob_s]
  by_cases h1 : rho 37 k = 7
  · simp [h1]
  · rw [if_neg h1]
    cases h2 : knB rho k with
    | true => simp
    | false =>
      rw [hO.1, e9_goesOn hb (hb.rk9 k hk).2.1, ob_s]
      cases h3 : goB rho (iO rho k) with
      | false => simp
      | true =>
        rw [hO.1, if_pos (vq_nI hO.2 (by omega)), nI_clamp (by omega)]
        by_cases h4 : rho 46 (iO rho k) = rho 33 k
        · simp [h1, h4]
        · simp [h1, h4]
theorem e9_hasOut (hb : RB rho) {c i : Nat} : f9_hasOut (nI c) (nI i) rho = some (if (List.range (iC rho)).any (fun k => decide (rho 35 k = nI c ∧ rho 36 k = nI i) && outB rho k) = true then 1 else 0, rho) := by
  have hC := hb.C
  unfold f9_hasOut
  have := anyL (F := fun n b j => l9_hasOut_5 n (nI c) (nI i) b j rho) (fin := fun b => some (b, rho)) (xs := List.range (iC rho)) (p := fun k => decide (rho 35 k = nI c ∧ rho 36 k = nI i) && outB rho k) (fun n j x b hx h01 => by
    obtain ⟨hj, rfl⟩ := rg_at hx
    have hj' : nI x + 1 = nI (x + 1) := nI_1 x
    show l9_hasOut_5 (n + 1) (nI c) (nI i) b (nI x) rho = _
    rw [l9_hasOut_5, hC.1, if_neg (cle (by omega) hj), if_pos (vq_nI (n := 400) (by omega) (by omega)), nI_clamp (by omega), e9_isOut hb hj, ob_s, hj']
    rcases h01 with rfl | rfl
    · rw [if_pos rfl]
      by_cases h1 : rho 35 x = nI c
      · by_cases h2 : rho 36 x = nI i
        · cases h3 : outB rho x <;> simp [h1, h2, h3]
        · simp [h1, h2]
      · simp [h1]
    · simp) (fun n b h01 => by
    show l9_hasOut_5 (n + 1) (nI c) (nI i) b (nI _) rho = _
    rw [l9_hasOut_5, hC.1, List.length_range, if_pos (nI_le (Nat.le_refl _) (by omega)), if_pos h01]) (iC rho) 0 FU 0 (by rw [List.length_range]; omega) (by have : FU = 1000 := rfl; omega) (Or.inl rfl)
  rw [List.drop_zero] at this
  refine this.trans ?_
  simp
end PR
