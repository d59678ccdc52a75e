/-! what the class answers when it is asked, in the model's ints; nothing changes, nothing is made -/
section AK9
variable {m : CM} {rho : RH}
theorem nin {a n : Nat} (h : a < n) (hn : n ≤ 1000) : ¬ (nI a < 0 ∨ nI n - 1 < nI a) := by
  intro z
  rcases z with z | z
  · rw [l0, Int32.lt_iff_toInt_lt, nI_toInt (by omega), nI_toInt (by omega)] at z
    omega
  · obtain ⟨q, rfl⟩ : ∃ q, n = q + 1 := ⟨n - 1, by omega⟩
    rw [nI_pred, Int32.lt_iff_toInt_lt, nI_toInt (by omega), nI_toInt (by omega)] at z
    omega
theorem nout {n : Nat} (hn : n ≤ 1000) : nI n < 0 ∨ nI n - 1 < nI n := by
  refine Or.inr ?_
  by_cases z : n = 0
  · rw [z]
    decide
  · obtain ⟨q, rfl⟩ : ∃ q, n = q + 1 := ⟨n - 1, by omega⟩
    rw [nI_pred]
    exact nI_lt9 (by omega) (by omega)
theorem q_tick (hI : INV m rho) : f8_X8_tick 0 m = some (rho 0 0, m, 0) := by
  rw [← INVX.now hI]
  rfl
theorem q_calls (hI : INV m rho) : f8_X8_calls 0 m = some (nI (iC rho), m, 0) := by
  have ha := INVX.a09 hI
  unfold f8_X8_calls
  rw [ha.2.2.2.2.2.1, od_s, INV.len52 hI]
theorem q_budget (hI : INV m rho) {c : Nat} (hc : c < 7) : fW_budget 0 (nI c) m = some (rho 17 c, m, 0) := by
  have ha := INVX.a09 hI
  have h1 : ¬ (nI c < 0 ∨ 6 < nI c) := nb (lo := 0) (hi := 6) (by omega) (by omega) (by omega)
  unfold fW_budget f8_X8_budget
  rw [e8_within, cb_s0, if_neg h1, if_neg i10, ha.2.2.1, od_s, if_pos (vq_nI hc (by omega)), nI_clamp (by omega), ha.2.2.2.2.2.2.2.2.1 c hc, od_s, ((INVX.ac9 hI) c hc).1]
  rfl
theorem q_extra (hI : INV m rho) {c : Nat} (hc : c < 7) : fW_extra 0 (nI c) m = some (rho 19 c, m, 0) := by
  have ha := INVX.a09 hI
  have h1 : ¬ (nI c < 0 ∨ 6 < nI c) := nb (lo := 0) (hi := 6) (by omega) (by omega) (by omega)
  unfold fW_extra f8_X8_extra
  rw [e8_within, cb_s0, if_neg h1, if_neg i10, ha.2.2.1, od_s, if_pos (vq_nI hc (by omega)), nI_clamp (by omega), ha.2.2.2.2.2.2.2.2.1 c hc, od_s, ((INVX.ac9 hI) c hc).2.2.2]
  rfl
theorem q_first (hI : INV m rho) {c : Nat} (hc : c < 7) : fW_first 0 (nI c) m = some (rho 18 c, m, 0) := by
  have ha := INVX.a09 hI
  have h1 : ¬ (nI c < 0 ∨ 6 < nI c) := nb (lo := 0) (hi := 6) (by omega) (by omega) (by omega)
  unfold fW_first f8_X8_first
  rw [e8_within, cb_s0, if_neg h1, if_neg i10, ha.2.2.1, od_s, if_pos (vq_nI hc (by omega)), nI_clamp (by omega), ha.2.2.2.2.2.2.2.2.1 c hc, od_s, ((INVX.ac9 hI) c hc).2.2.1]
  rfl
theorem q_canaryShare (hI : INV m rho) {c : Nat} (hc : c < 6) : fW_canaryShare 0 (nI c) m = some (rho 25 c, m, 0) := by
  have ha := INVX.a09 hI
  have hz := ha.2.2.2.2.2.2.2.2.2 c hc
  have h1 : ¬ (nI c < 0 ∨ 5 < nI c) := nb (lo := 0) (hi := 5) (by omega) (by omega) (by omega)
  unfold fW_canaryShare f8_X8_canaryShare
  rw [e8_within, cb_s0, if_neg h1, if_neg i10, ha.2.1, od_s, if_pos (vq_nI hc (by omega)), nI_clamp (by omega), hz.1, od_s, hz.2.2.2.2.1, od_s, ((INVX.as9 hI) c hc).2.2.1]
  rfl
theorem q_requestState (hI : INV m rho) {r : Nat} (hr : r < iR rho) : fW_requestState 0 (nI r) m = some (rho 56 r, m, 0) := by
  have ha := INVX.a09 hI
  have hb := INVX.rb9 hI
  have hR := hb.R
  have h1 := nin hr (by omega)
  have har := INVX.ar9 hI r hr
  have c := nI_clamp (n := r) (by omega)
  unfold fW_requestState f8_X8_requestState
  rw [ha.2.2.2.2.1, od_s, INV.len51 hI, e8_within, cb_s0, if_neg h1, if_neg i10, ha.2.2.2.2.1, od_s, if_pos (nI_pos (by omega)), c, INV.at51 hI hr, od_s, har.2.2.1]
  rfl
theorem q_requestState_out (hI : INV m rho) : fW_requestState 0 (nI (iR rho)) m = some (-1000001, m, 1) := by
  have ha := INVX.a09 hI
  have hb := INVX.rb9 hI
  have hR := hb.R
  unfold fW_requestState f8_X8_requestState
  rw [ha.2.2.2.2.1, od_s, INV.len51 hI, e8_within, cb_s0, if_pos (nout (by omega)), if_pos rfl]
  rfl
theorem q_requestTicks (hI : INV m rho) {r : Nat} (hr : r < iR rho) : fW_requestTicks 0 (nI r) m = some (if rho 56 r = 8 then rho 0 0 - rho 55 r else rho 57 r - rho 55 r, m, 0) := by
  have ha := INVX.a09 hI
  have hb := INVX.rb9 hI
  have hR := hb.R
  have h1 := nin hr (by omega)
  have har := INVX.ar9 hI r hr
  have c := nI_clamp (n := r) (by omega)
  unfold fW_requestTicks f8_X8_requestTicks
  rw [ha.2.2.2.2.1, od_s, INV.len51 hI, e8_within, cb_s0, if_neg h1, if_neg i10, ha.2.2.2.2.1, od_s, if_pos (nI_pos (by omega)), c, INV.at51 hI hr, od_s, har.2.2.1, har.2.1, INVX.now hI]
  by_cases z : rho 56 r = 8
  · rw [if_pos z, if_pos z]
    rfl
  · rw [if_neg z, if_neg z, (har.2.2.2 z).1]
    rfl
theorem q_isKept (hI : INV m rho) {r : Nat} (hr : r < iR rho) (z : rho 56 r ≠ 8) : fW_isKept 0 (nI r) m = some (if rho 58 r = 0 then 0 else 1, m, 0) := by
  have ha := INVX.a09 hI
  have hb := INVX.rb9 hI
  have hR := hb.R
  have h1 := nin hr (by omega)
  have har := INVX.ar9 hI r hr
  have c := nI_clamp (n := r) (by omega)
  unfold fW_isKept f8_X8_isKept
  rw [ha.2.2.2.2.1, od_s, INV.len51 hI, e8_within, cb_s0, if_neg h1, if_neg i10, ha.2.2.2.2.1, od_s, if_pos (nI_pos (by omega)), c, INV.at51 hI hr, od_s, har.2.2.1, if_neg z, (har.2.2.2 z).2.1, if_pos (har.2.2.2 z).2.2]
  rfl
theorem q_repairs (hI : INV m rho) (b : Int32) : f8_X8_repairs 0 b m = some (if b = 0 then rho 59 0 else rho 60 0, m, 0) := by
  have ha := INVX.a09 hI
  have hb := INVX.rb9 hI
  have hP := hb.P
  have hF : FU = 1000 := rfl
  have e53 := (INVX.al9 hI).2.2.2
  by_cases h1 : b = 0
  · unfold f8_X8_repairs
    rw [if_pos h1, if_pos h1, ha.2.2.2.2.2.2.1, od_s, e53, List.length_map, List.length_range, hP.1]
  · unfold f8_X8_repairs
    rw [if_neg h1, if_neg h1]
    have := cntL (F := fun q b j => l8_X8_repairs_16 q 0 b j m) (fin := fun b => some (b, m, 0)) (xs := List.range (iP rho)) (p := fun p => decide (rho 63 p ≠ 0)) (fun q j x b hx => by
      obtain ⟨hj, rfl⟩ := rg_at hx
      have hok : OE rho (440 + x) := Or.inr (Or.inr ⟨by omega, by omega⟩)
      have hsc := (hb.sce hok).2.2 (by omega)
      have hax := ((INVX.ax9 hI).1 (440 + x) 0 hok (by omega)).2 hsc.symm (fun z => z)
      show l8_X8_repairs_16 (q + 1) 0 b (nI x) m = l8_X8_repairs_16 q 0 (if decide (rho 63 x ≠ 0) = true then b + 1 else b) (nI (x + 1)) m
      rw [l8_X8_repairs_16, ha.2.2.2.2.2.2.1, od_s, e53, List.length_map, List.length_range, if_neg (cle (by omega) hj), if_pos (nI_pos (by omega)), nI_clamp (by omega), List.getElem?_map, rg_lt hj, Option.map_some, od_s, nI_1]
      by_cases z : rho 63 x = 0
      · have hgo : Go rho (440 + x) := by
          unfold Go goB
          rw [if_neg (by omega), if_neg (by omega), show 440 + x - 440 = x by omega]
          exact decide_eq_true z
        have g8 : gI m 911 (4 * (440 + x)) = 8 := hax.1 hgo
        rw [g8, if_neg (by decide), if_neg (by simp [z])]
      · have hgo : ¬ Go rho (440 + x) := by
          unfold Go goB
          rw [if_neg (by omega), if_neg (by omega), show 440 + x - 440 = x by omega]
          exact fun y => z (of_decide_eq_true y)
        have g3 : gI m 911 (4 * (440 + x)) = 3 := (hax.2 hgo).2 (by omega)
        rw [g3, if_pos rfl, if_pos (by simp [z])]) (fun q b => by
      show l8_X8_repairs_16 (q + 1) 0 b (nI (List.range (iP rho)).length) m = some (b, m, 0)
      rw [l8_X8_repairs_16, ha.2.2.2.2.2.2.1, od_s, e53, List.length_map, if_pos (nI_le (Nat.le_refl _) (by rw [List.length_range]; omega))]) (iP rho) 0 FU 0 (by rw [List.length_range]; omega) (by omega)
    rw [List.drop_zero, Nat.zero_add, ← hb.r09.2.2.2.2.2.2.2.2] at this
    exact this
theorem q_isShunned (hI : INV m rho) {i : Nat} (hi : i < iI rho) : fW_isShunned 0 (nI i) m = some (if nI (obr rho i) < rho 20 0 then 0 else 1, m, 0) := by
  have ha := INVX.a09 hI
  have hb := INVX.rb9 hI
  have hI0 := hb.I
  have h1 := nin hi (by omega)
  have hai := INVX.ai9 hI i hi
  have c := nI_clamp (n := i) (by omega)
  unfold fW_isShunned f8_X8_isShunned
  rw [ha.2.2.2.1, od_s, INV.len50 hI, e8_within, cb_s0, if_neg h1, if_neg i10, ha.2.2.2.1, od_s, if_pos (nI_pos (by omega)), c, INV.at50 hI hi, od_s, e8_openBreakers hI hi, cb_s0, (INVX.ag9 hI).2.1]
  split <;> rfl
theorem q_load (hI : INV m rho) {i : Nat} (hi : i < iI rho) : fW_load 0 (nI i) 0 m = some (rho 14 i, m, 0) := by
  have ha := INVX.a09 hI
  have hb := INVX.rb9 hI
  have hI0 := hb.I
  have h1 := nin hi (by omega)
  have hai := INVX.ai9 hI i hi
  have c := nI_clamp (n := i) (by omega)
  unfold fW_load f8_X8_load
  rw [ha.2.2.2.1, od_s, INV.len50 hI, e8_within, cb_s0, if_neg h1, if_neg i10, ha.2.2.2.1, od_s, if_pos (nI_pos (by omega)), c, INV.at50 hI hi, od_s, if_pos rfl, hai.2.2.2.2.2.2.2.2.2.2.2.1]
  rfl
theorem q_loadNow (hI : INV m rho) {i : Nat} (hi : i < iI rho) : fW_load 0 (nI i) 1 m = some (nI (cntI rho (nI i) 0 2), m, 0) := by
  have ha := INVX.a09 hI
  have hb := INVX.rb9 hI
  have hI0 := hb.I
  have h1 := nin hi (by omega)
  have hai := INVX.ai9 hI i hi
  have c := nI_clamp (n := i) (by omega)
  have e : gI m 523 i + nI (gL m 54 i).length = nI (cntI rho (nI i) 0 2) := by
    rw [load_sum hI hi]
    congr 1
    refine cnt_same (fun k hk => ?_)
    have hk := List.mem_range.mp hk
    have hx := hb.Xi hk
    rw [← decide_not, ← Bool.decide_and]
    congr 1
    rw [hx.1]
    exact propext ⟨fun z => ⟨by rw [z.1], z.2⟩, fun z => ⟨(nI_inj (by omega) (by omega)).mp z.1, z.2⟩⟩
  unfold fW_load f8_X8_load
  rw [ha.2.2.2.1, od_s, INV.len50 hI, e8_within, cb_s0, if_neg h1, if_neg i10, ha.2.2.2.1, od_s, if_pos (nI_pos (by omega)), c, INV.at50 hI hi, od_s, if_neg i10]
  unfold f8_X4_loadNow
  rw [hai.2.2.2.1, od_s, cb_s0, e]
  rfl
theorem q_breaker (hI : INV m rho) {c i : Nat} (hc : c < 7) (hi : i < iI rho) : fW_breaker 0 (nI c) (nI i) m = some (rho 21 (12 * c + i), m, 0) := by
  have ha := INVX.a09 hI
  have hb := INVX.rb9 hI
  have hI0 := hb.I
  have h1 : ¬ (nI c < 0 ∨ 6 < nI c) := nb (lo := 0) (hi := 6) (by omega) (by omega) (by omega)
  have h2 := nin hi (by omega)
  have hai := INVX.ai9 hI i hi
  have hq := hai.2.2.2.2.2.2.2.2.2.2.2.2.2 c hc
  unfold fW_breaker f8_X8_breaker
  rw [e8_within, cb_s0, if_neg h1, if_neg i10, ha.2.2.2.1, od_s, INV.len50 hI, e8_within, cb_s0, if_neg h2, if_neg i10, ha.2.2.2.1, od_s, if_pos (nI_pos (by omega)), nI_clamp (n := i) (by omega), INV.at50 hI hi, od_s, hai.2.1, od_s, if_pos (vq_nI hc (by omega)), nI_clamp (n := c) (by omega), hq.1, od_s, hq.2.2.1]
  rfl
theorem q_callsOf (hI : INV m rho) {r : Nat} (hr : r < iR rho) : fW_callsOf 0 (nI r) m = some (nI ((List.range (iC rho)).filter fun k => decide (rho 40 k = nI r)).length, m, 0) := by
  have ha := INVX.a09 hI
  have hb := INVX.rb9 hI
  have hR := hb.R
  have hC := hb.C
  have hF : FU = 1000 := rfl
  have h1 := nin hr (by omega)
  generalize nI r = a1 at h1 ⊢
  have e8 := cntL (F := fun q b j => l8_X8_callsOf_21 q 0 a1 b j m) (fin := fun b => some (.inl b, m, 0)) (xs := List.range (iC rho)) (p := fun k => decide (rho 40 k = a1)) (fun q j x b hx => by
    obtain ⟨hj, rfl⟩ := rg_at hx
    show l8_X8_callsOf_21 (q + 1) 0 a1 b (nI x) m = l8_X8_callsOf_21 q 0 a1 (if decide (rho 40 x = a1) = true then b + 1 else b) (nI (x + 1)) m
    rw [l8_X8_callsOf_21, ha.2.2.2.2.2.1, od_s, INV.len52 hI, if_neg (cle (by omega) hj), if_pos (nI_pos (by omega)), nI_clamp (by omega), INV.at52 hI hj, od_s, (INVX.ak9 hI x hj).2.1, od_s, rqk hI hj, nI_1]
    by_cases z : rho 40 x = a1
    · rw [if_pos z, if_pos (decide_eq_true z)]
    · rw [if_neg z, if_neg (fun y => z (of_decide_eq_true y))]) (fun q b => by
    show l8_X8_callsOf_21 (q + 1) 0 a1 b (nI (List.range (iC rho)).length) m = _
    rw [l8_X8_callsOf_21, ha.2.2.2.2.2.1, od_s, INV.len52 hI, List.length_range, if_pos (nI_le (Nat.le_refl _) (by omega))]) (iC rho) 0 FU 0 (by rw [List.length_range]; omega) (by omega)
  rw [List.drop_zero, Nat.zero_add] at e8
  unfold fW_callsOf f8_X8_callsOf
  rw [ha.2.2.2.2.1, od_s, INV.len51 hI, e8_within, cb_s0, if_neg h1, if_neg i10]
  have e9 : l8_X8_callsOf_21 FU 0 a1 0 0 m = some (.inl (nI ((List.range (iC rho)).filter fun k => decide (rho 40 k = a1)).length), m, 0) := e8
  rw [e9]
  rfl
theorem q_call_out (hI : INV m rho) : fW_call 0 (nI (iC rho)) 0 m = some (-1000001, m, 1) := by
  have ha := INVX.a09 hI
  have hb := INVX.rb9 hI
  have hC := hb.C
  unfold fW_call f8_X8_call
  rw [ha.2.2.2.2.2.1, od_s, INV.len52 hI, e8_within, cb_s0, if_pos (nout (by omega)), if_pos rfl]
  rfl
theorem q_call (hI : INV m rho) {k : Nat} {a2 : Int32} (hk : k < iC rho) (h2 : ¬ (a2 < 0 ∨ 7 < a2)) : fW_call 0 (nI k) a2 m = some (if a2 = nI 0 then rho 34 k else if a2 = nI 1 then rho 36 k else if a2 = nI 2 then rho 37 k else if a2 = nI 3 then rho 38 k else if a2 = nI 4 then (if 400 ≤ rho 32 k then -1 else rho 32 k) else if a2 = nI 5 then rho 40 k else if a2 = nI 6 then rho 46 k + 1 else (if 440 ≤ rho 32 k then (rho 32 k - 400) - 40 else -1), m, 0) := by
  have ha := INVX.a09 hI
  have hb := INVX.rb9 hI
  have hC := hb.C
  have h1 := nin hk (by omega)
  have hak := INVX.ak9 hI k hk
  have haw := INVX.aw9 hI k hk
  have hrk := hb.rk9 k hk
  have ht := INVX.at9 hI _ _ hrk.2.1 hrk.2.2.2.2.1
  have hO := hb.O hk
  have hE := hb.E hrk.2.1
  have hXx := hb.Xi hk
  have hai := INVX.ai9 hI _ hXx.2
  have q4 := vq_nI (k := k) (n := 400) (by omega) (by omega)
  have q5 := vq_nI (k := k) (n := 540) (by omega) (by omega)
  have c := nI_clamp (n := k) (by omega)
  have hss := hb.sce (Or.inl hk : OE rho k)
  have e36 : gI m 512 (iX rho k) = rho 36 k := hai.2.2.2.2.1.trans hXx.1.symm
  have e897 : gI m 897 (sid rho k) = rho 34 k := ht.2.1.trans hrk.2.2.2.2.2.2.2.2.1.symm
  have e904 : gR m 904 (sid rho k) = owr (iO rho k) := ht.2.2.2.2.2.2.2.2.1
  have e903 : gI m 903 (sid rho k) = rpo (iO rho k) := ht.2.2.2.2.2.2.2.1
  have e56 : nI (gL m 56 k).length = rho 46 k + 1 := by
    rw [hak.2.2.2.2.2, List.length_map, List.length_range, hss.1]
    exact (Int32.sub_add_cancel _ _).symm
  have e400 : (400 ≤ rho 32 k) ↔ 400 ≤ iO rho k := by
    rw [hO.1, l400]
    exact ⟨fun z => Nat.le_of_not_lt fun y => cle (by omega) y z, fun z => nI_le z (by omega)⟩
  have e440 : (440 ≤ rho 32 k) ↔ 440 ≤ iO rho k := by
    rw [hO.1, l440]
    exact ⟨fun z => Nat.le_of_not_lt fun y => cle (by omega) y z, fun z => nI_le z (by omega)⟩
  have v4 : (if gR m 904 (sid rho k) = none then some (Sum.inl (-1), m, 0) else od (gR m 904 (sid rho k)) fun j34 => some (Sum.inl (gI m 128 j34), m, 0)) = (some (.inl (if 400 ≤ rho 32 k then -1 else rho 32 k), m, 0) : CR (Int32 ⊕ Nat)) := by
    rw [e904]
    unfold owr
    by_cases z : iO rho k < 400
    · have hoC : iO rho k < iC rho := by omega
      rw [if_pos z, if_neg (by simp), od_s, if_neg (fun y => by have := e400.mp y; omega), (INVX.ak9 hI _ hoC).1, hO.1]
    · rw [if_neg z, if_pos rfl, if_pos (e400.mpr (by omega))]
  have v7 : gI m 903 (sid rho k) = if 440 ≤ rho 32 k then (rho 32 k - 400) - 40 else -1 := by
    rw [e903]
    unfold rpo
    by_cases z : iO rho k < 440
    · rw [if_pos z, if_neg (fun y => by have := e440.mp y; omega)]
    · rw [if_neg z, if_pos (e440.mpr (by omega)), hO.1, l400, l40, nI_sb (by omega), nI_sb (by omega), show iO rho k - 400 - 40 = iO rho k - 440 by omega]
  unfold fW_call f8_X8_call
  rw [ha.2.2.2.2.2.1, od_s, INV.len52 hI, e8_within, cb_s0, if_neg h1, if_neg i10, e8_within, cb_s0, if_neg h2, if_neg i10, ha.2.2.2.2.2.1, od_s, if_pos (nI_pos (by omega)), c, INV.at52 hI hk, od_s, hak.2.1, od_s, od_s, od_s, od_s, hak.2.2.1, od_s, hak.2.2.2.2.1, od_s, v4, v7, e36, e897, haw.1, hak.2.2.2.1, rqk hI hk, e56]
  by_cases z0 : a2 = nI 0
  · rw [if_pos z0, if_pos z0]; rfl
  · rw [if_neg z0, if_neg z0]
    by_cases z1 : a2 = nI 1
    · rw [if_pos z1, if_pos z1]; rfl
    · rw [if_neg z1, if_neg z1]
      by_cases z2 : a2 = nI 2
      · rw [if_pos z2, if_pos z2]; rfl
      · rw [if_neg z2, if_neg z2]
        by_cases z3 : a2 = nI 3
        · rw [if_pos z3, if_pos z3]; rfl
        · rw [if_neg z3, if_neg z3]
          by_cases z4 : a2 = nI 4
          · rw [if_pos z4, if_pos z4]; rfl
          · rw [if_neg z4, if_neg z4]
            by_cases z5 : a2 = nI 5
            · rw [if_pos z5, if_pos z5]; rfl
            · rw [if_neg z5, if_neg z5]
              by_cases z6 : a2 = nI 6
              · rw [if_pos z6, if_pos z6]; rfl
              · rw [if_neg z6, if_neg z6]; rfl
end AK9
