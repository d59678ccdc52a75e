/-! choosing, put together; looking at an end -/
section PF
variable {X Y : Nat → Prop} {m : CM} {rho : RH}
def oi (b : Option Nat) : Int32 := match b with | none => -1 | some j => nI j
theorem choose_both (h : INVX X Y m rho) (hX : ∀ o, ¬ X o) {o n c s : Nat} (ho : OE rho o) (hn : n + 1 = sc rho o) (hc : cal rho o = nI c) (hs : cld rho o n = nI s) (hc7 : c < 7) (hs6 : s < 6) :
    ∃ (b : Option Nat) (v : Int32) (m' : CM) (rho' : RH), f8_X8_choose 0 (4 * o + n) m = some (b, m', 0) ∧ f9_wantedVersion (nI s) rho = some (v, rho') ∧ f9_chosen (nI o) (nI c) (nI s) v rho' = some (oi b, rho') ∧ INVX X Y m' rho' ∧ pot m' = pot m ∧ (∀ F j, F ≠ 26 → rho' F j = rho F j) ∧ (∀ j, b = some j → j < iI rho ∧ rho 7 j = nI s) ∧ (∀ f j, f ≠ 385 → gI m' f j = gI m f j) := by
  have hw := wv_inv h hs6
  have ht := h.at9 o n ho (by omega)
  have ha := h.a09
  have hfr := fun F j (hF : F ≠ 26) => wv_fr rho s (F := F) (j := j) hF
  have key : ∀ (rho' : RH) (m' : CM), INVX X Y m' rho' → OE rho' o → n + 1 = sc rho' o → cal rho' o = nI c → cld rho' o n = nI s → iI rho' = iI rho → rho' 7 = rho 7 → ∃ b : Int32 → Option Nat, (∀ v, b v = chs rho' o n c s v none (List.range (iI rho'))) ∧ (∀ v, l8_X8_choose_24 FU 0 (4 * o + n) v none 0 0 m' = some (b v, m', 0)) ∧ (∀ v, f9_chosen (nI o) (nI c) (nI s) v rho' = some (oi (b v), rho')) ∧ ∀ v j, b v = some j → j < iI rho ∧ rho 7 j = nI s := fun rho' m' h' ho' hn' hc' hs' hI' h7 => by
    have hI := h'.rb9.I
    refine ⟨fun v => chs rho' o n c s v none (List.range (iI rho')), fun v => rfl, fun v => ?_, fun v => ?_, fun v j hj => ?_⟩
    · have := e8_choose1 h' hX (v := v) ho' (by omega) hc' hs' hc7 (iI rho') 0 FU none 0 (by omega) (by have : FU = 1000 := rfl; omega) (fun j hj => by cases hj)
      rw [List.drop_zero] at this
      exact this
    · have := e9_choose1 h'.rb9 (v := v) (s := s) ho' hn' hc7 (iI rho') 0 FU none (-1) 0 (by omega) (by have : FU = 1000 := rfl; omega) rfl
      rw [List.drop_zero] at this
      exact this
    · rcases chs_mem rho' o n c s v _ _ j hj with h1 | h1
      · cases h1
      · rw [← hI', ← h7]
        exact ⟨List.mem_range.mp h1.1, h1.2⟩
  have hz := h.a09.2.2.2.2.2.2.2.2.2 s hs6
  have e8 : f8_X8_choose 0 (4 * o + n) m = l8_X8_choose_24 FU 0 (4 * o + n) (wvV rho s) none 0 0 (wvM m rho s) := by
    unfold f8_X8_choose
    rw [ha.2.1, od_s, ht.2.1, hs, if_pos (vq_nI hs6 (by omega)), nI_clamp (by omega), hz.1, od_s, hz.2.2.2.2.1, od_s, e8_nextVersion h hs6, cb_s0]
  by_cases h1 : rho 25 s = 0
  · have e1 : wvR rho s = rho := if_pos h1
    have e2 : wvM m rho s = m := if_pos h1
    obtain ⟨b, -, k1, k2, k3⟩ := key rho m h ho hn hc hs rfl rfl
    refine ⟨b (wvV rho s), wvV rho s, m, rho, ?_, ?_, k2 _, h, rfl, fun F j _ => rfl, k3 _, fun _ _ _ => rfl⟩
    · rw [e8, e2, k1]
    · rw [e9_wantedVersion hs6, e1]
  · have e1 : wvR rho s = up2 rho 26 s (rho 26 s + 1) := if_neg h1
    have e2 : wvM m rho s = sI m 385 s (rho 26 s + 1) := if_neg h1
    rw [e1, e2] at hw
    obtain ⟨b, -, k1, k2, k3⟩ := key _ _ hw.1 ho hn hc hs rfl rfl
    refine ⟨b (wvV rho s), wvV rho s, _, _, ?_, ?_, k2 _, hw.1, hw.2, fun F j hF => up2_f _ _ _ _ hF, k3 _, fun f j hf => by rw [gI_sI, if_neg hf]⟩
    · rw [e8, e2, k1]
    · rw [e9_wantedVersion hs6, e1]
/-! looking at an end -/
def enR (rho : RH) (k : Nat) : Int32 := if rho 42 k = 0 then rho 37 k else 5
def cnR (rho : RH) (a : Nat) (ok : Bool) : RH := if rho 21 a = 1 then rho else if ok = true then up2 (up2 (up2 rho 22 a 0) 21 a 0) 23 a (rho 23 a) else
  if rho 21 a = 2 ∨ ¬ rho 22 a + 1 < 3 then up2 (up2 (up2 rho 22 a (rho 22 a + 1)) 21 a 1) 23 a (rho 0 0) else up2 (up2 (up2 rho 22 a (rho 22 a + 1)) 21 a (rho 21 a)) 23 a (rho 23 a)
def jdR (rho : RH) (s v : Nat) (ok : Bool) : RH := if rho 25 s ≤ 0 then rho else
  wr (up2 (up2 rho 27 (2 * s + v) (rho 27 (2 * s + v) + 1)) 28 (2 * s + v) (rho 28 (2 * s + v) + (if ok = true then 0 else 1))) fun r => if r 27 (2 * s + 1) < 5 ∨ r 28 (2 * s + 1) < 2 ∨ r 28 (2 * s + 1) * r 27 (2 * s) ≤ 2 * r 28 (2 * s) * r 27 (2 * s + 1) then r else up2 r 25 s 0
theorem e9_judges {s v : Nat} {e : Int32} (hs : s < 6) (hv : v < 2) : f9_judges (nI s) (nI v) e rho = some (0, jdR rho s v (decide (e = 3))) := by
  unfold f9_judges jdR
  rw [if_pos (vq_nI hs (by omega)), nI_clamp (by omega)]
  by_cases h1 : rho 25 s ≤ 0
  · rw [if_pos h1, if_pos h1]
  · rw [if_neg h1, if_neg h1]
    have q1 := vq_nI (k := 2 * s + v) (n := 12) (by omega) (by omega)
    have q2 := vq_nI (k := 2 * s + 1) (n := 12) (by omega) (by omega)
    have q3 := vq_nI (k := 2 * s) (n := 12) (by omega) (by omega)
    have c1 := nI_clamp (n := 2 * s + v) (by omega)
    have c2 := nI_clamp (n := 2 * s + 1) (by omega)
    have c3 := nI_clamp (n := 2 * s) (by omega)
    have e1 : (2 : Int32) * nI s = nI (2 * s) := by rw [l2, pk_mul]
    simp only [e1, nI_add, nI_1, nI_pred, wr_s]
    simp only [if_pos q1, if_pos q2, if_pos q3]
    simp only [c1, c2, c3]
    have e5 : ∀ a w j, up2 rho 27 a w 28 j = rho 28 j := fun _ _ _ => rfl
    have fin : ∀ r : RH, (if r 27 (2 * s + 1) < 5 then some (0, r) else if r 28 (2 * s + 1) < 2 then some (0, r) else if r 28 (2 * s + 1) * r 27 (2 * s) ≤ 2 * r 28 (2 * s) * r 27 (2 * s + 1) then some (0, r) else some (0, up2 r 25 s 0)) = some ((0 : Int32), if r 27 (2 * s + 1) < 5 ∨ r 28 (2 * s + 1) < 2 ∨ r 28 (2 * s + 1) * r 27 (2 * s) ≤ 2 * r 28 (2 * s) * r 27 (2 * s + 1) then r else up2 r 25 s 0) := fun r => by
      by_cases h3 : r 27 (2 * s + 1) < 5
      · rw [if_pos h3, if_pos (Or.inl h3)]
      · by_cases h4 : r 28 (2 * s + 1) < 2
        · rw [if_neg h3, if_pos h4, if_pos (Or.inr (Or.inl h4))]
        · by_cases h5 : r 28 (2 * s + 1) * r 27 (2 * s) ≤ 2 * r 28 (2 * s) * r 27 (2 * s + 1)
          · rw [if_neg h3, if_neg h4, if_pos h5, if_pos (Or.inr (Or.inr h5))]
          · rw [if_neg h3, if_neg h4, if_neg h5, if_neg (fun z => z.elim h3 (fun z => z.elim h4 h5))]
    by_cases h2 : e = 3
    · simp only [if_pos h2, e5]
      rw [fin]
      simp [h2]
    · simp only [if_neg h2, e5]
      rw [fin]
      simp [h2]
theorem e9_look175 {k : Nat} {e : Int32} (hb : RB rho) (hk : k < iC rho) : b9_looksAt_175 (nI k) e rho = some (if e = 3 then 1 else 0, jdR rho (iS rho k) (nv (rho 12 (iX rho k))) (decide (e = 3))) := by
  have hC := hb.C
  have hS := hb.S hk
  have hXx := hb.Xi hk
  have hI := hb.I
  have hv := (hb.ri9 _ hXx.2).2.2.2.2.2.2.1
  unfold b9_looksAt_175
  rw [if_pos (vq_nI (n := 400) (by omega) (by omega)), nI_clamp (by omega), hXx.1, if_pos (vq_nI (n := 12) (by omega) (by omega)), nI_clamp (by omega), hS.1, hv.eq (by omega), e9_judges hS.2 (by have := hv.lt (by omega); omega), ob_s, nv_nI (by have := hv.lt (by omega); omega)]
  split <;> rfl
theorem e9_look26 {k : Nat} {e : Int32} (hb : RB rho) (hk : k < iC rho) (c : Nat) (hc : rho 35 k = nI c) (hc7 : c < 7) : b9_looksAt_26 (nI k) e rho = b9_looksAt_175 (nI k) e (cnR (up2 rho 50 (iO rho k) e) (12 * c + iX rho k) (decide (e = 3))) := by
  have hC := hb.C
  have hO := hb.O hk
  have hXx := hb.Xi hk
  have hI := hb.I
  unfold b9_looksAt_26
  rw [if_pos (vq_nI (n := 400) (by omega) (by omega)), nI_clamp (by omega), hO.1, if_pos (vq_nI (n := 540) (by omega) (by omega)), nI_clamp (by omega), wr_s]
  generalize hr : up2 rho 50 (iO rho k) e = r
  have e1 : r 35 k = nI c := by rw [← hr, up2_f _ _ _ _ (by decide), hc]
  have e2 : r 36 k = nI (iX rho k) := by rw [← hr, up2_f _ _ _ _ (by decide), hXx.1]
  generalize iX rho k = i at *
  have q1 := vq_nI (k := 12 * c + i) (n := 84) (by omega) (by omega)
  have c1 := nI_clamp (n := 12 * c + i) (by omega)
  rw [e1, e2, l12, pk_mul, nI_add, if_pos q1, c1]
  unfold cnR
  by_cases h1 : r 21 (12 * c + i) = 1
  · rw [if_pos h1, if_pos h1]
  · rw [if_neg h1, if_neg h1]
    by_cases h2 : e = 3
    · simp only [if_pos h2, h2, decide_true, if_true]
      unfold b9_looksAt_88
      simp only [if_pos q1, wr_s]
      simp only [c1, if_true]
      unfold b9_looksAt_119
      rw [if_pos rfl, if_pos rfl]
      unfold b9_looksAt_150
      simp only [if_pos q1, wr_s]
      simp only [c1, if_true]
      rfl
    · simp only [if_neg h2, h2, decide_false, Bool.false_eq_true, if_false]
      unfold b9_looksAt_88
      simp only [if_pos q1, wr_s]
      simp only [c1, if_neg h2]
      have e3 : up2 r 22 (12 * c + i) (r 22 (12 * c + i) + 1) 21 (12 * c + i) = r 21 (12 * c + i) := rfl
      have e4 : up2 r 22 (12 * c + i) (r 22 (12 * c + i) + 1) 22 (12 * c + i) = r 22 (12 * c + i) + 1 := up2_s _ _ _ _
      rw [e3, e4]
      by_cases h3 : r 21 (12 * c + i) = 2
      · rw [if_pos h3, if_pos (Or.inl h3)]
        unfold b9_looksAt_119
        rw [if_neg (by decide)]
        unfold b9_looksAt_150
        simp only [if_pos q1, wr_s]
        simp only [c1, show ¬ (1 : Int32) = 0 by decide, if_false]
        rfl
      · rw [if_neg h3]
        by_cases h4 : r 22 (12 * c + i) + 1 < 3
        · rw [if_pos h4, if_neg (fun z => z.elim h3 (fun z => z h4))]
          unfold b9_looksAt_119
          rw [if_pos rfl, if_neg h2, if_pos q1]
          unfold b9_looksAt_150
          simp only [if_pos q1, wr_s]
          simp only [c1, if_true]
          rfl
        · rw [if_neg h4, if_pos (Or.inr h4)]
          unfold b9_looksAt_119
          rw [if_neg (by decide)]
          unfold b9_looksAt_150
          simp only [if_pos q1, wr_s]
          simp only [c1, show ¬ (1 : Int32) = 0 by decide, if_false]
          rfl
theorem e9_looksAt0 {k : Nat} (hk : k < 400) : f9_looksAt (nI k) rho = b9_looksAt_26 (nI k) (enR rho k) (up2 rho 43 k 1) := by
  unfold f9_looksAt enR
  rw [if_pos (vq_nI hk (by omega)), nI_clamp (by omega), wr_s]
  show (if rho 42 k = 0 then b9_looksAt_26 (nI k) (rho 37 k) _ else _) = _
  by_cases h1 : rho 42 k = 0
  · rw [if_pos h1, if_pos h1]
  · rw [if_neg h1, if_neg h1]
end PF
