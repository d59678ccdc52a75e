/-! what is asked of instances and calls -/
section QN
variable {m : CM} {rho : RH}
/-- an instance's load -/
theorem load_sum (h : INV m rho) {i : Nat} (hi : i < iI rho) : gI m 523 i + nI (gL m 54 i).length = nI ((List.range (iC rho)).filter fun k => decide (iX rho k = i) && !decide (rho 37 k < 0 ∨ 2 < rho 37 k)).length := by
  have hr := INVX.rb9 h
  rw [((INVX.aq9 h) i hi).1, ((INVX.aq9 h) i hi).2, nI_add, ← fl_split (p := fun k => decide (iX rho k = i ∧ (rho 37 k = 0 ∨ rho 37 k = 1 ∨ rho 37 k = 2))) (fun x => by
    rw [← Bool.decide_or]
    congr 1
    apply propext
    constructor
    · rintro ⟨a, b | b | b⟩
      · exact Or.inr ⟨a, b⟩
      · exact Or.inl ⟨a, Or.inl b⟩
      · exact Or.inl ⟨a, Or.inr b⟩
    · rintro (⟨a, b | b⟩ | ⟨a, b⟩)
      · exact ⟨a, Or.inr (Or.inl b)⟩
      · exact ⟨a, Or.inr (Or.inr b)⟩
      · exact ⟨a, Or.inl b⟩) (fun x => by
    rw [← Bool.decide_and]
    apply decide_eq_false
    rintro ⟨⟨_, b | b⟩, _, c⟩
    · rw [b] at c
      exact absurd c (by decide)
    · rw [b] at c
      exact absurd c (by decide))]
  congr 2
  apply fl_same
  intro j hj2
  have := (st_in hr hj2).2.2
  rw [← decide_not, ← Bool.decide_and]
  congr 1
  rw [this]
theorem cmd20 : CMD20 INV pot := by
  intro m rho a1 hI
  have ha := INVX.a09 hI
  have hb := INVX.rb9 hI
  have hI0 := hb.I
  by_cases h1 : a1 < 0 ∨ nI (iI rho) - 1 < a1
  · refine ⟨.inr 0, m, 1, 0, up2 rho 64 0 1, ?_, ?_, fun j hj => by cases hj; rfl, Or.inr ⟨0, rfl, up2_s _ _ _ _, by decide⟩, th_X hI, by omega⟩
    · unfold f8_X8_isShunned
      rw [ha.2.2.2.1, od_s, INV.len50 hI, e8_within, cb_s0, if_pos h1, if_pos rfl]
    · unfold f9_isShunned
      rw [e9_isInstance, ob_s, hI0.1, if_pos h1, go0, ob_s, if_pos rfl]
  · obtain ⟨i, hi, rfl⟩ := in_x hb h1
    have hai := INVX.ai9 hI i hi
    have q := vq_nI (k := i) (n := 12) (by omega) (by omega)
    have c := nI_clamp (n := i) (by omega)
    refine ⟨.inl (if nI (obr rho i) < rho 20 0 then 0 else 1), m, 0, if nI (obr rho i) < rho 20 0 then 0 else 1, up2 rho 64 0 0, ?_, ?_, fun j hj => (by cases hj), Or.inl ⟨_, rfl, up2_s _ _ _ _, ?_⟩, th_X hI, by omega⟩
    · unfold f8_X8_isShunned
      rw [ha.2.2.2.1, od_s, INV.len50 hI, e8_within, cb_s0, if_neg h1, if_neg i10, ha.2.2.2.1, od_s, if_pos (nI_pos (by omega)), c, INV.at50 hI hi, od_s, e8_openBreakers hI hi, cb_s0, (INVX.ag9 hI).2.1]
      split <;> rfl
    · unfold f9_isShunned
      rw [e9_isInstance, ob_s, hI0.1, if_neg h1, go1, ob_s, if_neg i10, e9_isAvoided (show i < 12 by omega), ob_s]
      show (if (if nI (obr rho i) < rho 20 0 then (0 : Int32) else 1) = 0 then some (0, up2 rho 64 0 0) else some (1, up2 rho 64 0 0)) = _
      split
      · rw [if_pos rfl]
      · rw [if_neg i10]
    · rfl
theorem cmd21 : CMD21 INV pot := by
  intro m rho a1 a2 hI ha2
  have ha := INVX.a09 hI
  have hb := INVX.rb9 hI
  have hI0 := hb.I
  by_cases h1 : a1 < 0 ∨ nI (iI rho) - 1 < a1
  · refine ⟨.inr 0, m, 1, 0, up2 rho 64 0 1, ?_, ?_, fun j hj => by cases hj; rfl, Or.inr ⟨0, rfl, up2_s _ _ _ _, by decide⟩, th_X hI, by omega⟩
    · unfold f8_X8_load
      rw [ha.2.2.2.1, od_s, INV.len50 hI, e8_within, cb_s0, if_pos h1, if_pos rfl]
    · unfold f9_load
      rw [e9_isInstance, ob_s, hI0.1, if_pos h1, go0, ob_s, if_pos rfl]
  · obtain ⟨i, hi, rfl⟩ := in_x hb h1
    have hai := INVX.ai9 hI i hi
    have q := vq_nI (k := i) (n := 12) (by omega) (by omega)
    have c := nI_clamp (n := i) (by omega)
    refine ⟨.inl (if a2 = 0 then gI m 524 i else gI m 523 i + nI (gL m 54 i).length), m, 0, if a2 = 0 then rho 14 i else gI m 523 i + nI (gL m 54 i).length, up2 rho 64 0 0, ?_, ?_, fun j hj => (by cases hj), Or.inl ⟨_, rfl, up2_s _ _ _ _, ?_⟩, th_X hI, by omega⟩
    · unfold f8_X8_load
      rw [ha.2.2.2.1, od_s, INV.len50 hI, e8_within, cb_s0, if_neg h1, if_neg i10, ha.2.2.2.1, od_s, if_pos (nI_pos (by omega)), c, INV.at50 hI hi, od_s]
      by_cases z : a2 = 0
      · rw [if_pos z, if_pos z]
      · rw [if_neg z, if_neg z]
        unfold f8_X4_loadNow
        rw [hai.2.2.2.1, od_s, cb_s0]
    · unfold f9_load
      rw [e9_isInstance, ob_s, hI0.1, if_neg h1, go1, ob_s, if_neg i10]
      by_cases z : a2 = 0
      · rw [if_pos z, if_pos z, if_pos q, c]
        rfl
      · rw [if_neg z, if_neg z, e9_countOf (th_X hI).2.2.2.2.2.2.2.2.2.2.2.2.2.2.2.2 (by omega), ob_s, load_sum hI hi]
        rfl
    · by_cases z : a2 = 0
      · rw [if_pos z, if_pos z]
        exact congrArg Int32.toInt64 hai.2.2.2.2.2.2.2.2.2.2.2.1
      · rw [if_neg z, if_neg z]
theorem cmd19 : CMD19 INV pot := by
  intro m rho a1 a2 hI
  have ha := INVX.a09 hI
  have hb := INVX.rb9 hI
  have hI0 := hb.I
  by_cases h1 : a1 < 0 ∨ 6 < a1
  · refine ⟨.inr 0, m, 1, 0, up2 rho 64 0 1, ?_, ?_, fun j hj => by cases hj; rfl, Or.inr ⟨0, rfl, up2_s _ _ _ _, by decide⟩, th_X hI, by omega⟩
    · unfold f8_X8_breaker
      rw [e8_within, cb_s0, if_pos h1, if_pos rfl]
    · unfold f9_breaker
      rw [e9_isCaller, ob_s, if_pos h1, if_pos rfl, go0, ob_s, if_pos rfl]
  · obtain ⟨c, hc, rfl⟩ := ca_x h1
    by_cases h2 : a2 < 0 ∨ nI (iI rho) - 1 < a2
    · refine ⟨.inr 0, m, 1, 0, up2 rho 64 0 1, ?_, ?_, fun j hj => by cases hj; rfl, Or.inr ⟨0, rfl, up2_s _ _ _ _, by decide⟩, th_X hI, by omega⟩
      · unfold f8_X8_breaker
        rw [e8_within, cb_s0, if_neg h1, if_neg i10, ha.2.2.2.1, od_s, INV.len50 hI, e8_within, cb_s0, if_pos h2, if_pos rfl]
      · unfold f9_breaker
        rw [e9_isCaller, ob_s, if_neg h1, if_neg i10, e9_isInstance, ob_s, hI0.1, if_pos h2, if_pos rfl, go0, ob_s, if_pos rfl]
    · obtain ⟨i, hi, rfl⟩ := in_x hb h2
      have hai := INVX.ai9 hI i hi
      have hq := hai.2.2.2.2.2.2.2.2.2.2.2.2.2 c hc
      have e84 : (12 : Int32) * nI c + nI i = nI (12 * c + i) := by rw [l12, pk_mul, nI_add]
      refine ⟨.inl (gI m 0 (7 * i + c)), m, 0, rho 21 (12 * c + i), up2 rho 64 0 0, ?_, ?_, fun j hj => (by cases hj), Or.inl ⟨_, rfl, up2_s _ _ _ _, congrArg Int32.toInt64 hq.2.2.1⟩, th_X hI, by omega⟩
      · unfold f8_X8_breaker
        rw [e8_within, cb_s0, if_neg h1, if_neg i10, ha.2.2.2.1, od_s, INV.len50 hI, e8_within, cb_s0, if_neg h2, if_neg i10, ha.2.2.2.1, od_s, if_pos (nI_pos (by omega)), nI_clamp (n := i) (by omega), INV.at50 hI hi, od_s, hai.2.1, od_s, if_pos (vq_nI hc (by omega)), nI_clamp (n := c) (by omega), hq.1, od_s]
      · unfold f9_breaker
        rw [e9_isCaller, ob_s, if_neg h1, if_neg i10, e9_isInstance, ob_s, hI0.1, if_neg h2, if_neg i10, go1, ob_s, if_neg i10, e84, if_pos (vq_nI (by omega) (by omega)), nI_clamp (by omega)]
        rfl
theorem nI_sb {a b : Nat} (h : b ≤ a) : nI a - nI b = nI (a - b) := by
  rw [show nI a = nI (a - b) + nI b by rw [nI_add, Nat.sub_add_cancel h], Int32.add_sub_cancel]
/-- the calls of a request -/
theorem rqk (h : INV m rho) {k : Nat} (hk : k < iC rho) : gI m 902 (sid rho k) = rho 40 k := by
  have hb := INVX.rb9 h
  have hrk := hb.rk9 k hk
  have ht := INVX.at9 h _ _ hrk.2.1 hrk.2.2.2.2.1
  exact ht.2.2.2.2.2.2.1.trans hrk.2.2.2.2.2.2.2.2.2.2.1.symm
theorem cmd15 : CMD15 INV pot := by
  intro m rho a1 hI
  have ha := INVX.a09 hI
  have hb := INVX.rb9 hI
  have hR := hb.R
  have hC := hb.C
  have hF : FU = 1000 := rfl
  by_cases h1 : a1 < 0 ∨ nI (iR rho) - 1 < a1
  · refine ⟨.inr 0, m, 1, 0, up2 rho 64 0 1, ?_, ?_, fun j hj => by cases hj; rfl, Or.inr ⟨0, rfl, up2_s _ _ _ _, by decide⟩, th_X hI, by omega⟩
    · unfold f8_X8_callsOf
      rw [ha.2.2.2.2.1, od_s, INV.len51 hI, e8_within, cb_s0, if_pos h1, if_pos rfl]
    · unfold f9_callsOf
      rw [e9_isRequest, ob_s, hR.1, if_pos h1, go0, ob_s, if_pos rfl]
  · have e8 := cntL (F := fun q b j => l8_X8_callsOf_21 q 0 a1 b j m) (fin := fun b => some (.inl b, m, 0)) (xs := List.range (iC rho)) (p := fun k => decide (rho 40 k = a1)) (fun q j x b hx => by
      obtain ⟨hj, rfl⟩ := rg_at hx
      show l8_X8_callsOf_21 (q + 1) 0 a1 b (nI x) m = l8_X8_callsOf_21 q 0 a1 (if decide (rho 40 x = a1) = true then b + 1 else b) (nI (x + 1)) m
      rw [l8_X8_callsOf_21, ha.2.2.2.2.2.1, od_s, INV.len52 hI, if_neg (cle (by omega) hj), if_pos (nI_pos (by omega)), nI_clamp (by omega), INV.at52 hI hj, od_s, (INVX.ak9 hI x hj).2.1, od_s, rqk hI hj, nI_1]
      by_cases z : rho 40 x = a1
      · rw [if_pos z, if_pos (decide_eq_true z)]
      · rw [if_neg z, if_neg (fun y => z (of_decide_eq_true y))]) (fun q b => by
      show l8_X8_callsOf_21 (q + 1) 0 a1 b (nI (List.range (iC rho)).length) m = _
      rw [l8_X8_callsOf_21, ha.2.2.2.2.2.1, od_s, INV.len52 hI, List.length_range, if_pos (nI_le (Nat.le_refl _) (by omega))]) (iC rho) 0 FU 0 (by rw [List.length_range]; omega) (by omega)
    have e9 := cntL (F := fun q b j => l9_callsOf_20 q a1 b j (up2 rho 64 0 0)) (fin := fun b => some (b, up2 rho 64 0 0)) (xs := List.range (iC rho)) (p := fun k => decide (rho 40 k = a1)) (fun q j x b hx => by
      obtain ⟨hj, rfl⟩ := rg_at hx
      have hC2 : up2 rho 64 0 0 31 0 = nI (iC rho) := hC.1
      have h40 : up2 rho 64 0 0 40 x = rho 40 x := rfl
      show l9_callsOf_20 (q + 1) a1 b (nI x) (up2 rho 64 0 0) = l9_callsOf_20 q a1 (if decide (rho 40 x = a1) = true then b + 1 else b) (nI (x + 1)) (up2 rho 64 0 0)
      rw [l9_callsOf_20, hC2, if_neg (cle (by omega) hj), if_pos (vq_nI (by omega) (by omega)), nI_clamp (by omega), h40, nI_1, add0]
      by_cases z : rho 40 x = a1
      · rw [if_pos z, if_pos (decide_eq_true z)]
      · rw [if_neg z, if_neg (fun y => z (of_decide_eq_true y))]) (fun q b => by
      have hC2 : up2 rho 64 0 0 31 0 = nI (iC rho) := hC.1
      show l9_callsOf_20 (q + 1) a1 b (nI (List.range (iC rho)).length) (up2 rho 64 0 0) = _
      rw [l9_callsOf_20, hC2, List.length_range, if_pos (nI_le (Nat.le_refl _) (by omega))]) (iC rho) 0 FU 0 (by rw [List.length_range]; omega) (by omega)
    rw [List.drop_zero, Nat.zero_add] at e8 e9
    refine ⟨.inl (nI ((List.range (iC rho)).filter fun k => decide (rho 40 k = a1)).length), m, 0, nI ((List.range (iC rho)).filter fun k => decide (rho 40 k = a1)).length, up2 rho 64 0 0, ?_, ?_, fun j hj => (by cases hj), Or.inl ⟨_, rfl, up2_s _ _ _ _, rfl⟩, th_X hI, by omega⟩
    · unfold f8_X8_callsOf
      rw [ha.2.2.2.2.1, od_s, INV.len51 hI, e8_within, cb_s0, if_neg h1, if_neg i10]
      exact e8
    · unfold f9_callsOf
      rw [e9_isRequest, ob_s, hR.1, if_neg h1, go1, ob_s, if_neg i10]
      exact e9
theorem cmd17 : CMD17 INV pot := by
  intro m rho a1 a2 hI
  have ha := INVX.a09 hI
  have hb := INVX.rb9 hI
  have hC := hb.C
  by_cases h1 : a1 < 0 ∨ nI (iC rho) - 1 < a1
  · refine ⟨.inr 0, m, 1, 0, up2 rho 64 0 1, ?_, ?_, fun j hj => by cases hj; exact Or.inl rfl, Or.inr ⟨0, rfl, up2_s _ _ _ _, by decide⟩, th_X hI, by omega⟩
    · unfold f8_X8_call
      rw [ha.2.2.2.2.2.1, od_s, INV.len52 hI, e8_within, cb_s0, if_pos h1, if_pos rfl]
    · unfold f9_call
      rw [e9_in, ob_s, e9_in, ob_s, hC.1, if_pos h1, go0, ob_s, if_pos rfl]
  · by_cases h2 : a2 < 0 ∨ 7 < a2
    · refine ⟨.inr 1, m, 1, 0, up2 rho 64 0 2, ?_, ?_, fun j hj => by cases hj; exact Or.inr rfl, Or.inr ⟨1, rfl, up2_s _ _ _ _, by decide⟩, th_X hI, by omega⟩
      · unfold f8_X8_call
        rw [ha.2.2.2.2.2.1, od_s, INV.len52 hI, e8_within, cb_s0, if_neg h1, if_neg i10, e8_within, cb_s0, if_pos h2, if_pos rfl]
      · unfold f9_call
        rw [e9_in, ob_s, e9_in, ob_s, hC.1, if_neg h1, if_pos h2, go10, ob_s, if_pos rfl]
    · obtain ⟨k, hk, rfl⟩ := cl_x hb h1
      have hak := INVX.ak9 hI k hk
      have haw := INVX.aw9 hI k hk
      have hrk := hb.rk9 k hk
      have ht := INVX.at9 hI _ _ hrk.2.1 hrk.2.2.2.2.1
      have hO := hb.O hk
      have hE := hb.E hrk.2.1
      have hXx := hb.Xi hk
      have hai := INVX.ai9 hI _ hXx.2
      have q4 := vq_nI (k := k) (n := 400) (by omega) (by omega)
      have q5 := vq_nI (k := k) (n := 540) (by omega) (by omega)
      have c := nI_clamp (n := k) (by omega)
      have hss := hb.sce (Or.inl hk : OE rho k)
      have e36 : gI m 512 (iX rho k) = rho 36 k := hai.2.2.2.2.1.trans hXx.1.symm
      have e897 : gI m 897 (sid rho k) = rho 34 k := ht.2.1.trans hrk.2.2.2.2.2.2.2.2.1.symm
      have e904 : gR m 904 (sid rho k) = owr (iO rho k) := ht.2.2.2.2.2.2.2.2.1
      have e903 : gI m 903 (sid rho k) = rpo (iO rho k) := ht.2.2.2.2.2.2.2.1
      have e56 : nI (gL m 56 k).length = rho 46 k + 1 := by
        rw [hak.2.2.2.2.2, List.length_map, List.length_range, hss.1]
        exact (Int32.sub_add_cancel _ _).symm
      have e400 : (400 ≤ rho 32 k) ↔ 400 ≤ iO rho k := by
        rw [hO.1, l400]
        exact ⟨fun z => Nat.le_of_not_lt fun y => cle (by omega) y z, fun z => nI_le z (by omega)⟩
      have e440 : (440 ≤ rho 32 k) ↔ 440 ≤ iO rho k := by
        rw [hO.1, l440]
        exact ⟨fun z => Nat.le_of_not_lt fun y => cle (by omega) y z, fun z => nI_le z (by omega)⟩
      have v4 : (if gR m 904 (sid rho k) = none then some (Sum.inl (-1), m, 0) else od (gR m 904 (sid rho k)) fun j34 => some (Sum.inl (gI m 128 j34), m, 0)) = (some (.inl (if 400 ≤ rho 32 k then -1 else rho 32 k), m, 0) : CR (Int32 ⊕ Nat)) := by
        rw [e904]
        unfold owr
        by_cases z : iO rho k < 400
        · have hoC : iO rho k < iC rho := by omega
          rw [if_pos z, if_neg (by simp), od_s, if_neg (fun y => by have := e400.mp y; omega), (INVX.ak9 hI _ hoC).1, hO.1]
        · rw [if_neg z, if_pos rfl, if_pos (e400.mpr (by omega))]
      have v7 : gI m 903 (sid rho k) = if 440 ≤ rho 32 k then (rho 32 k - 400) - 40 else -1 := by
        rw [e903]
        unfold rpo
        by_cases z : iO rho k < 440
        · rw [if_pos z, if_neg (fun y => by have := e440.mp y; omega)]
        · rw [if_neg z, if_pos (e440.mpr (by omega)), hO.1, l400, l40, nI_sb (by omega), nI_sb (by omega), show iO rho k - 400 - 40 = iO rho k - 440 by omega]
      refine ⟨.inl (if a2 = nI 0 then rho 34 k else if a2 = nI 1 then rho 36 k else if a2 = nI 2 then rho 37 k else if a2 = nI 3 then rho 38 k else if a2 = nI 4 then (if 400 ≤ rho 32 k then -1 else rho 32 k) else if a2 = nI 5 then rho 40 k else if a2 = nI 6 then rho 46 k + 1 else (if 440 ≤ rho 32 k then (rho 32 k - 400) - 40 else -1)), m, 0, _, up2 rho 64 0 0, ?_, ?_, fun j hj => (by cases hj), Or.inl ⟨_, rfl, up2_s _ _ _ _, rfl⟩, th_X hI, by omega⟩
      · unfold f8_X8_call
        rw [ha.2.2.2.2.2.1, od_s, INV.len52 hI, e8_within, cb_s0, if_neg h1, if_neg i10, e8_within, cb_s0, if_neg h2, if_neg i10, ha.2.2.2.2.2.1, od_s, if_pos (nI_pos (by omega)), c, INV.at52 hI hk, od_s, hak.2.1, od_s, od_s, od_s, od_s, hak.2.2.1, od_s, hak.2.2.2.2.1, od_s, v4, v7, e36, e897, haw.1, hak.2.2.2.1, rqk hI hk, e56]
        by_cases z0 : a2 = nI 0
        · rw [if_pos z0, if_pos z0]
        · rw [if_neg z0, if_neg z0]
          by_cases z1 : a2 = nI 1
          · rw [if_pos z1, if_pos z1]
          · rw [if_neg z1, if_neg z1]
            by_cases z2 : a2 = nI 2
            · rw [if_pos z2, if_pos z2]
            · rw [if_neg z2, if_neg z2]
              by_cases z3 : a2 = nI 3
              · rw [if_pos z3, if_pos z3]
              · rw [if_neg z3, if_neg z3]
                by_cases z4 : a2 = nI 4
                · rw [if_pos z4, if_pos z4]
                · rw [if_neg z4, if_neg z4]
                  by_cases z5 : a2 = nI 5
                  · rw [if_pos z5, if_pos z5]
                  · rw [if_neg z5, if_neg z5]
                    by_cases z6 : a2 = nI 6
                    · rw [if_pos z6, if_pos z6]
                    · rw [if_neg z6, if_neg z6]
      · unfold f9_call
        rw [e9_in, ob_s, e9_in, ob_s, hC.1, if_neg h1, if_neg h2, go1, ob_s, if_neg i10]
        have et : f9_toldOf (nI k) a2 (up2 rho 64 0 0) = some (if a2 = nI 0 then rho 34 k else if a2 = nI 1 then rho 36 k else if a2 = nI 2 then rho 37 k else if a2 = nI 3 then rho 38 k else if a2 = nI 4 then (if 400 ≤ rho 32 k then -1 else rho 32 k) else if a2 = nI 5 then rho 40 k else if a2 = nI 6 then rho 46 k + 1 else (if 440 ≤ rho 32 k then (rho 32 k - 400) - 40 else -1), up2 rho 64 0 0) := by
          have f : ∀ F, F ≠ 64 → up2 rho 64 0 0 F k = rho F k := fun F z => up2_f _ _ _ _ z
          unfold f9_toldOf
          simp only [if_pos q4, if_pos q5]
          rw [c, f 34 (by decide), f 36 (by decide), f 37 (by decide), f 38 (by decide), f 32 (by decide), f 40 (by decide), f 46 (by decide)]
          by_cases z0 : a2 = nI 0
          · rw [if_pos z0, if_pos z0]
          · rw [if_neg z0, if_neg z0]
            by_cases z1 : a2 = nI 1
            · rw [if_pos z1, if_pos z1]
            · rw [if_neg z1, if_neg z1]
              by_cases z2 : a2 = nI 2
              · rw [if_pos z2, if_pos z2]
              · rw [if_neg z2, if_neg z2]
                by_cases z3 : a2 = nI 3
                · rw [if_pos z3, if_pos z3]
                · rw [if_neg z3, if_neg z3]
                  by_cases z4 : a2 = nI 4
                  · rw [if_pos z4, if_pos z4]
                    split <;> rfl
                  · rw [if_neg z4, if_neg z4]
                    by_cases z5 : a2 = nI 5
                    · rw [if_pos z5, if_pos z5]
                    · rw [if_neg z5, if_neg z5]
                      by_cases z6 : a2 = nI 6
                      · rw [if_pos z6, if_pos z6]
                      · rw [if_neg z6, if_neg z6]
                        split <;> rfl
        rw [et, ob_s]
end QN
