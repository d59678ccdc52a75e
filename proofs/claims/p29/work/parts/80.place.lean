/-! a call is placed: it runs, it is queued, or it is refused -/
section PT2
variable {X Y : Nat → Prop} {m : CM} {rho : RH}
theorem e9_countOf (hb : RB rho) {i : Nat} {lo hi : Int32} (hi12 : i < 12) : f9_countOf (nI i) lo hi rho = some (nI ((List.range (iC rho)).filter fun k => decide (iX rho k = i) && !decide (rho 37 k < lo ∨ hi < rho 37 k)).length, rho) := by
  have hC := hb.C
  unfold f9_countOf
  have := cntL (F := fun q b j => l9_countOf_6 q (nI i) lo hi b j rho) (fin := fun b => some (b, rho)) (xs := List.range (iC rho)) (p := fun k => decide (iX rho k = i) && !decide (rho 37 k < lo ∨ hi < rho 37 k)) (fun q j x b hx => by
    obtain ⟨hj, rfl⟩ := rg_at hx
    have hXx := hb.Xi hj
    have hI := hb.I
    have e1 : nI (iX rho x) = nI i ↔ iX rho x = i := nI_eq (by omega) (by omega)
    show l9_countOf_6 (q + 1) (nI i) lo hi b (nI x) rho = _
    rw [l9_countOf_6, hC.1, if_neg (cle (by omega) hj), if_pos (vq_nI (n := 400) (by omega) (by omega)), nI_clamp (by omega), hXx.1, nI_1, e9_in, ob_s, add0]
    by_cases h1 : iX rho x = i
    · by_cases h2 : rho 37 x < lo ∨ hi < rho 37 x
      · rw [if_pos (e1.mpr h1), if_pos h2, if_pos rfl]
        simp [h1, h2]
      · rw [if_pos (e1.mpr h1), if_neg h2, if_neg (by decide)]
        simp [h1, h2]
    · rw [if_neg (fun z => h1 (e1.mp z))]
      simp [h1]) (fun q b => by
    show l9_countOf_6 (q + 1) (nI i) lo hi b (nI _) rho = _
    rw [l9_countOf_6, hC.1, List.length_range, if_pos (nI_le (Nat.le_refl _) (by omega))]) (iC rho) 0 FU 0 (by rw [List.length_range]; omega) (by have : FU = 1000 := rfl; omega)
  rw [List.drop_zero, Nat.zero_add] at this
  exact this
theorem st_in (hb : RB rho) {k : Nat} (hk : k < iC rho) : ((¬ (rho 37 k < 1 ∨ 2 < rho 37 k)) ↔ (rho 37 k = 1 ∨ rho 37 k = 2)) ∧ ((¬ (rho 37 k < 0 ∨ 0 < rho 37 k)) ↔ rho 37 k = 0) ∧ ((¬ (rho 37 k < 0 ∨ 2 < rho 37 k)) ↔ (rho 37 k = 0 ∨ rho 37 k = 1 ∨ rho 37 k = 2)) := by
  obtain ⟨a, ha, hq⟩ := (hb.rw9 k hk).1
  rw [hq]
  have : a = 0 ∨ a = 1 ∨ a = 2 ∨ a = 3 ∨ a = 4 ∨ a = 5 ∨ a = 6 ∨ a = 7 := by omega
  rcases this with rfl | rfl | rfl | rfl | rfl | rfl | rfl | rfl <;> decide
theorem cnt_run (hb : RB rho) (i : Nat) : ((List.range (iC rho)).filter fun k => decide (iX rho k = i) && !decide (rho 37 k < 1 ∨ 2 < rho 37 k)) = (List.range (iC rho)).filter fun k => decide (iX rho k = i ∧ (rho 37 k = 1 ∨ rho 37 k = 2)) := by
  apply fl_same
  intro k hk
  have := (st_in hb hk).1
  by_cases h1 : iX rho k = i
  · simp only [h1, decide_true, Bool.true_and, true_and, ← this, decide_not]
  · simp [h1]
theorem cnt_wait (hb : RB rho) (i : Nat) : ((List.range (iC rho)).filter fun k => decide (iX rho k = i) && !decide (rho 37 k < 0 ∨ 0 < rho 37 k)) = (List.range (iC rho)).filter fun k => decide (iX rho k = i ∧ rho 37 k = 0) := by
  apply fl_same
  intro k hk
  have := (st_in hb hk).2.1
  by_cases h1 : iX rho k = i
  · simp only [h1, decide_true, Bool.true_and, true_and, ← this, decide_not]
  · simp [h1]
theorem st_any {o n k : Nat} {a b d : Int32} : (TR rho o n).any (fun q => decide (stR rho k a (rho 41 k) b d 41 q ≠ 0)) = (TR rho o n).any (fun q => decide (rho 41 q ≠ 0)) := by
  have h : ∀ j, stR rho k a (rho 41 k) b d 41 j = rho 41 j := fun j => by
    rw [st41]
    split
    · rename_i z
      rw [z]
    · rfl
  simp only [h]
def quM (m : CM) (i k : Nat) : CM := sL (sI m 133 k 0) 54 i (gL m 54 i ++ [k])
theorem queue_inv (h : INVX X Y m rho) {k : Nat} (h00 : sc rho k = 0) (hk : k + 1 = iC rho) (h7 : rho 37 k = 7) (hN : iN rho k + 1 = sc rho (iO rho k)) : INVX X Y (quM m (iX rho k) k) (up2 rho 37 k 0) := by
  have hkC : k < iC rho := by omega
  have hb := h.rb9
  have hXx := hb.Xi hkC
  have haw := h.aw9 k hkC
  have haq := h.aq9 _ hXx.2
  have e : stR rho k 0 (rho 41 k) (rho 39 k) (rho 42 k) = up2 rho 37 k 0 := (up2_self (up2 (up2 (up2 rho 37 k 0) 41 k (rho 41 k)) 39 k (rho 39 k)) 42 k).trans ((up2_self (up2 (up2 rho 37 k 0) 41 k (rho 41 k)) 39 k).trans (up2_self (up2 rho 37 k 0) 41 k))
  rw [← e]
  refine st_inv h hkC rfl rfl rfl rfl (fun f j f1 f2 f3 f4 f5 f6 => ?_) (fun f j hj hf => ?_) (fun c j hc => ?_) ?_ ?_ (fun z => absurd z (by decide)) (fun _ => ?_) (fun z => absurd (by decide) z) (fun o n ho hn => ?_) ⟨0, by omega, rfl⟩ (fun _ => hN) (by decide) (by rw [h7]; decide) (by decide) (fun _ => h00)
  · unfold quM
    rw [gI_sL, gI_sI, if_neg f2]
  · unfold quM
    rw [gI_sL, gI_sI, if_neg hj, ite_self]
  · unfold quM
    rw [gL_sL, if_neg hc]
    rfl
  · rw [e]
    intro i' hi'
    have hi2 : i' < iI rho := hi'
    have hh := h.aq9 i' hi2
    have e37 : ∀ j, up2 rho 37 k 0 37 j = if j = k then 0 else rho 37 j := fun _ => rfl
    constructor
    · show gI m 523 i' = _
      rw [hh.1]
      congr 2
      apply fl_same
      intro j _
      rw [e37]
      show _ = decide (iX rho j = i' ∧ _)
      by_cases hjk : j = k
      · rw [if_pos hjk, hjk, h7]
        simp
      · rw [if_neg hjk]
        rfl
    · by_cases hii : i' = iX rho k
      · subst hii
        unfold quM
        rw [gL_sL, if_pos rfl, if_pos rfl, hh.2]
        show _ = (List.range (iC rho)).filter fun j => decide (iX rho j = iX rho k ∧ up2 rho 37 k 0 37 j = 0)
        rw [← hk, List.range_succ, List.filter_append, List.filter_append]
        have q1 : [k].filter (fun j => decide (iX rho j = iX rho k ∧ rho 37 j = 0)) = [] := by
          rw [List.filter_cons_of_neg (by simp [h7])]
          rfl
        have q2 : [k].filter (fun j => decide (iX rho j = iX rho k ∧ up2 rho 37 k 0 37 j = 0)) = [k] := by
          rw [List.filter_cons_of_pos (by simp [e37])]
          rfl
        have q3 : (List.range k).filter (fun j => decide (iX rho j = iX rho k ∧ up2 rho 37 k 0 37 j = 0)) = (List.range k).filter (fun j => decide (iX rho j = iX rho k ∧ rho 37 j = 0)) := by
          apply fl_same
          intro j hj
          rw [e37, if_neg (by omega)]
        rw [q1, q2, q3, List.append_nil]
      · unfold quM
        rw [gL_sL, if_pos rfl, if_neg hii]
        show gL m 54 i' = _
        rw [hh.2]
        apply fl_same
        intro j _
        rw [e37]
        show _ = decide (iX rho j = i' ∧ _)
        by_cases hjk : j = k
        · subst hjk
          have hne : ¬ iX rho j = i' := fun z => hii z.symm
          simp [hne]
        · rw [if_neg hjk]
          rfl
  · unfold quM
    rw [gI_sL, gI_sI, if_pos rfl, if_pos rfl]
  · show gI m 136 k = 1000000
    exact haw.2.2.2.1 (Or.inr h7)
  · have hh := (h.ah9 o n ho hn).2
    show gI m 910 (4 * o + n) = _
    rw [hh, st_any]
def rfM (m : CM) (rho : RH) (k : Nat) : CM := leM (sI m 133 k 6) rho k 6
theorem refuse_inv (h : INVX X Y m rho) {k : Nat} (hk : k < iC rho) (h7 : rho 37 k = 7) : INVX X Y (rfM m rho k) (seR rho k 6) := by
  have hb := h.rb9
  have hXx := hb.Xi hk
  have hT := hb.T
  have e : stR rho k 6 (rho 41 k) (rho 39 k) (losV rho k 6) = seR rho k 6 := by
    have := (up2_self (up2 (up2 rho 37 k 6) 41 k (rho 41 k)) 39 k).trans (up2_self (up2 rho 37 k 6) 41 k)
    unfold stR seR
    exact congrArg (fun r => up2 r 42 k (losV rho k 6)) this
  have hM : rfM m rho k = if losV rho k 6 = 0 then sI (sI (sI m 133 k 6) 135 k 6) 136 k (rho 0 0) else sI (sI (sI m 133 k 6) 135 k 5) 136 k (rho 38 k) := by
    unfold rfM leM
    rw [if_neg (by decide)]
  rw [← e]
  refine st_inv h hk ?_ ?_ ?_ ?_ (fun f j f1 f2 f3 f4 f5 f6 => ?_) (fun f j hj hf => ?_) (fun c j hc => ?_) ?_ ?_ (fun z => absurd z (by decide)) (fun z => absurd z (by decide)) (fun _ _ => ⟨fun z => ?_, fun z => ?_⟩) (fun o n ho hn => ?_) ⟨6, by omega, rfl⟩ (fun z => absurd z (by decide)) (by decide) (by rw [h7]; decide) (by decide) (fun z => absurd z (by decide))
  · rw [hM]; split <;> rfl
  · rw [hM]; split <;> rfl
  · rw [hM]; split <;> rfl
  · rw [hM]; split <;> rfl
  · rw [hM]
    split <;> rw [gI_sI, if_neg f5, gI_sI, if_neg f4, gI_sI, if_neg f2]
  · rw [hM]
    split <;> rw [gI_sI, if_neg hj, ite_self, gI_sI, if_neg hj, ite_self, gI_sI, if_neg hj, ite_self]
  · rw [hM]; split <;> rfl
  · rw [e]
    intro i' hi'
    have hi2 : i' < iI rho := hi'
    have hh := h.aq9 i' hi2
    have e37 : ∀ j, seR rho k 6 37 j = if j = k then 6 else rho 37 j := fun _ => rfl
    have e523 : gI (rfM m rho k) 523 i' = gI m 523 i' := by rw [hM]; split <;> rfl
    have e54 : gL (rfM m rho k) 54 i' = gL m 54 i' := by rw [hM]; split <;> rfl
    rw [e523, e54, hh.1, hh.2]
    constructor
    · congr 2
      apply fl_same
      intro j _
      rw [e37]
      show _ = decide (iX rho j = i' ∧ _)
      by_cases hjk : j = k
      · rw [if_pos hjk, hjk, h7]
        simp
      · rw [if_neg hjk]
        rfl
    · apply fl_same
      intro j _
      rw [e37]
      show _ = decide (iX rho j = i' ∧ _)
      by_cases hjk : j = k
      · rw [if_pos hjk, hjk, h7]
        simp
      · rw [if_neg hjk]
        rfl
  · rw [hM]
    split <;> rw [gI_sI, if_neg (by decide), gI_sI, if_neg (by decide), gI_sI, if_pos rfl, if_pos rfl]
  · rw [hM, if_pos z, gI_sI, if_neg (by decide), gI_sI, if_pos rfl, if_pos rfl, gI_sI, if_pos rfl, if_pos rfl]
    exact ⟨rfl, _, Nat.le_refl _, hT.1⟩
  · rw [hM, if_neg z, gI_sI, if_neg (by decide), gI_sI, if_pos rfl, if_pos rfl, gI_sI, if_pos rfl, if_pos rfl]
    exact ⟨rfl, rfl⟩
  · have hh := (h.ah9 o n ho hn).2
    have e910 : gI (rfM m rho k) 910 (4 * o + n) = gI m 910 (4 * o + n) := by rw [hM]; split <;> rfl
    rw [e910, hh, st_any]
theorem sI_sI (m : CM) (f i : Nat) (v w : Int32) : sI (sI m f i v) f i w = sI m f i w := by
  refine cm_ext rfl rfl (fun g j => ?_) rfl
  simp only [gI_sI]
  split
  · split <;> rfl
  · rfl
theorem sL_self (m : CM) (c i : Nat) : sL m c i (gL m c i) = m := by
  have e : up2 m.2.2.2.2.2 c i (gL m c i) = m.2.2.2.2.2 := by
    funext g j
    by_cases h : g = c ∧ j = i
    · rw [h.1, h.2, up2_s]
      rfl
    · rw [up2_n _ _ h]
  unfold sL
  rw [e]
/-- placing, both sides: mb is the class's memory, in which the call's state is not yet told -/
theorem place_both {mb : CM} {k : Nat} (h : INVX X Y (sI mb 133 k 7) rho) (h00 : sc rho k = 0) (hk : k + 1 = iC rho) (h7 : rho 37 k = 7) (hN : iN rho k + 1 = sc rho (iO rho k)) :
    ∃ m' g rho', f8_X8_place 0 k mb = some (0, m', g) ∧ g ≤ 1 ∧ INVX X Y m' rho' ∧ pot m' = pot mb ∧ (∀ i, gI m' 911 i = gI mb 911 i) ∧ (∀ i, gI m' 909 i = gI mb 909 i) ∧ (∀ F j, F ≠ 37 → F ≠ 39 → F ≠ 41 → F ≠ 42 → rho' F j = rho F j) ∧ (∀ j, j ≠ k → rho' 37 j = rho 37 j ∧ rho' 42 j = rho 42 j ∧ rho' 41 j = rho 41 j) ∧ rho' 37 k ≠ 7 ∧ rho' 37 k ≠ 2 ∧ (rho' 37 k = 0 ∨ rho' 37 k = 1 ∨ rho' 37 k = 6) ∧
      ∀ (R : Nat), (ob (f9_countOf (nI (iX rho k)) 1 2 rho) fun r10 rho11 => ob (f9_countOf (nI (iX rho k)) 0 0 rho11) fun r13 rho14 => if vq (((4 * nI (iX rho k)) + 3)) 48 then if (rho14 13 (((4 * nI (iX rho k)) + 3)).toNatClampNeg) = 0 then if vq (nI (iX rho k)) 12 then if (rho14 10 (nI (iX rho k)).toNatClampNeg) ≤ r10 then b9_tries_477 (nI (iX rho k)) (nI k) (r13) rho14 else if r13 = 0 then ob (f9_runs (nI k) rho14) fun _ rho22 => some (0, rho22) else b9_tries_477 (nI (iX rho k)) (nI k) (r13) rho14 else none else b9_tries_477 (nI (iX rho k)) (nI k) (r13) rho14 else none) =
        if rho' 37 k = 6 then (ob (f9_isKnown (nI k) rho') fun r4 rho5 => if r4 = 0 then some (0, rho5) else ob (f9_looksAt (nI k) rho5) fun r8 rho9 => some (0, rho9)) else some (0, rho') := by
  have hkC : k < iC rho := by omega
  have hb := h.rb9
  have hC := hb.C
  have hI := hb.I
  have hXx := hb.Xi hkC
  have hak := h.ak9 k hkC
  have haq := h.aq9 _ hXx.2
  have hai := h.ai9 _ hXx.2
  have hri := hb.ri9 _ hXx.2
  have e3 : (3 : Int32).toNatClampNeg = 3 := rfl
  have hd : gA mb 30 (iX rho k) 3 = rho 13 (4 * iX rho k + 3) := hai.2.2.2.2.2.2.2.2.2.2.2.2.1 3 (by omega)
  have e130 : gR mb 130 k = some (iX rho k) := hak.2.2.1
  have e519 : gR mb 519 (iX rho k) = some (iX rho k) := hai.1
  have e522 : gR mb 522 (iX rho k) = some (iX rho k) := hai.2.2.2.1
  have e516 : gI mb 516 (iX rho k) = rho 10 (iX rho k) := hai.2.2.2.2.2.2.2.2.1
  have e517 : gI mb 517 (iX rho k) = rho 11 (iX rho k) := hai.2.2.2.2.2.2.2.2.2.1
  have e523 : gI mb 523 (iX rho k) = nI ((List.range (iC rho)).filter fun q => decide (iX rho q = iX rho k ∧ (rho 37 q = 1 ∨ rho 37 q = 2))).length := haq.1
  have e54 : gL mb 54 (iX rho k) = (List.range (iC rho)).filter fun q => decide (iX rho q = iX rho k ∧ rho 37 q = 0) := haq.2
  have e1024 : gI mb 1024 0 = rho 0 0 := h.now
  have q48 := vq_nI (k := 4 * iX rho k + 3) (n := 48) (by omega) (by omega)
  have c48 := nI_clamp (n := 4 * iX rho k + 3) (by omega)
  have q12 := vq_nI (k := iX rho k) (n := 12) (by omega) (by omega)
  have c12 := nI_clamp (n := iX rho k) (by omega)
  have q400 := vq_nI (k := k) (n := 400) (by omega) (by omega)
  have c400 := nI_clamp (n := k) (by omega)
  have e43 : (4 : Int32) * nI (iX rho k) + 3 = nI (4 * iX rho k + 3) := by rw [l4, pk_mul, l3, nI_add]
  have hw400 : (gL mb 54 (iX rho k)).length ≤ 400 := by
    rw [e54]
    have := List.length_filter_le (fun q => decide (iX rho q = iX rho k ∧ rho 37 q = 0)) (List.range (iC rho))
    rw [List.length_range] at this
    omega
  rw [e9_countOf hb (by omega), ob_s, e9_countOf hb (by omega), ob_s, cnt_run hb, cnt_wait hb, ← e523, ← e54, e43]
  simp only [if_pos q48, if_pos q12]
  simp only [c48, c12]
  -- queued or refused
  have h53 : ∀ x3 : Int32, (x3 = 0 ↔ rho 13 (4 * iX rho k + 3) = 0) → ∃ m' g rho', b8_X8_place_53 0 k (iX rho k) x3 mb = some (0, m', g) ∧ g ≤ 1 ∧ INVX X Y m' rho' ∧ pot m' = pot mb ∧ (∀ i, gI m' 911 i = gI mb 911 i) ∧ (∀ i, gI m' 909 i = gI mb 909 i) ∧ (∀ F j, F ≠ 37 → F ≠ 39 → F ≠ 41 → F ≠ 42 → rho' F j = rho F j) ∧ (∀ j, j ≠ k → rho' 37 j = rho 37 j ∧ rho' 42 j = rho 42 j ∧ rho' 41 j = rho 41 j) ∧ rho' 37 k ≠ 7 ∧ rho' 37 k ≠ 2 ∧ (rho' 37 k = 0 ∨ rho' 37 k = 1 ∨ rho' 37 k = 6) ∧ b9_tries_477 (nI (iX rho k)) (nI k) (nI (gL mb 54 (iX rho k)).length) rho = if rho' 37 k = 6 then (ob (f9_isKnown (nI k) rho') fun r4 rho5 => if r4 = 0 then some (0, rho5) else ob (f9_looksAt (nI k) rho5) fun r8 rho9 => some (0, rho9)) else some (0, rho') := fun x3 hx3 => by
    have s37 : seR rho k 6 37 k = 6 := by show (if k = k then (6 : Int32) else _) = 6; rw [if_pos rfl]
    have href : ∃ m' rho', b8_X8_place_88 0 k mb = some (0, m', 0) ∧ INVX X Y m' rho' ∧ pot m' = pot mb ∧ (∀ i, gI m' 911 i = gI mb 911 i) ∧ (∀ i, gI m' 909 i = gI mb 909 i) ∧ (∀ F j, F ≠ 37 → F ≠ 39 → F ≠ 41 → F ≠ 42 → rho' F j = rho F j) ∧ (∀ j, j ≠ k → rho' 37 j = rho 37 j ∧ rho' 42 j = rho 42 j ∧ rho' 41 j = rho 41 j) ∧ rho' 37 k ≠ 7 ∧ rho' 37 k ≠ 2 ∧ (rho' 37 k = 0 ∨ rho' 37 k = 1 ∨ rho' 37 k = 6) ∧ b9_tries_514 (nI k) rho = if rho' 37 k = 6 then (ob (f9_isKnown (nI k) rho') fun r4 rho5 => if r4 = 0 then some (0, rho5) else ob (f9_looksAt (nI k) rho5) fun r8 rho9 => some (0, rho9)) else some (0, rho') := by
      have hle := e8_learnEnd h hkC (m5 := sI mb 133 k 6) (e := 6) (by simp) rfl rfl (by rw [gI_sI, if_pos rfl, if_pos rfl]) (hak.2.2.2.1)
      have hin := refuse_inv h hkC h7
      have e : rfM (sI mb 133 k 7) rho k = leM (sI mb 133 k 6) rho k 6 := by unfold rfM; rw [sI_sI]
      rw [e] at hin
      refine ⟨_, seR rho k 6, ?_, hin, ?_, fun i => ?_, fun i => ?_, fun F j a b c d => ?_, fun j hj => ⟨?_, ?_, rfl⟩, by rw [s37]; decide, by rw [s37]; decide, Or.inr (Or.inr s37), ?_⟩
      · unfold b8_X8_place_88
        rw [wr_s]
        have e9 : gI (sI mb 133 k 6) 1024 0 = rho 0 0 := e1024
        rw [e9, hle, cb_s0]
      · unfold leM
        rw [if_neg (by decide)]
        split <;> rfl
      · unfold leM
        rw [if_neg (by decide)]
        split <;> rfl
      · unfold leM
        rw [if_neg (by decide)]
        split <;> rfl
      · unfold seR
        rw [up2_f _ _ _ _ d, up2_f _ _ _ _ a]
      · show (if j = k then _ else rho 37 j) = _
        rw [if_neg hj]
      · show (if j = k then _ else rho 42 j) = _
        rw [if_neg hj]
      · unfold b9_tries_514
        rw [e9_setsEnd hb hkC, ob_s, s37, if_pos rfl]
    obtain ⟨mr, rr, r1, r2, r3, r4, r4b, r5, r6, r7, r8, r9, r10⟩ := href
    unfold b8_X8_place_53 b9_tries_477
    rw [e43, if_pos q48, c48, if_pos q12, c12]
    by_cases hx : x3 = 0
    · rw [if_pos hx, if_pos (hx3.mp hx), e522, od_s, e517]
      by_cases hr : rho 11 (iX rho k) ≤ nI (gL mb 54 (iX rho k)).length
      · rw [if_pos hr, if_pos hr]
        exact ⟨mr, 0, rr, r1, by omega, r2, r3, r4, r4b, r5, r6, r7, r8, r9, r10⟩
      · rw [if_neg hr, if_neg hr, if_pos q400, c400, wr_s, wr_s]
        have hin := queue_inv h h00 hk h7 hN
        have e : quM (sI mb 133 k 7) (iX rho k) k = sL (sI mb 133 k 0) 54 (iX rho k) (gL mb 54 (iX rho k) ++ [k]) := by unfold quM; rw [sI_sI]; rfl
        rw [e] at hin
        have u37 : up2 rho 37 k 0 37 k = 0 := up2_s _ _ _ _
        refine ⟨_, 1, _, ?_, by omega, hin, rfl, fun i => ?_, fun i => ?_, fun F j a b c d => up2_f _ _ _ _ a, fun j hj => ⟨up2_i _ _ _ _ hj, rfl, rfl⟩, by rw [u37]; decide, by rw [u37]; decide, Or.inl u37, ?_⟩
        · have a1 : gR (sI mb 133 k 0) 522 (iX rho k) = some (iX rho k) := e522
          have a2 : gL (sI mb 133 k 0) 54 (iX rho k) = gL mb 54 (iX rho k) := rfl
          rw [a1, od_s, a2, if_pos (by omega), wr_s]
          rfl
        · rfl
        · rfl
        · rw [u37, if_neg (by decide)]
    · rw [if_neg hx, if_neg (fun z => hx (hx3.mpr z))]
      exact ⟨mr, 0, rr, r1, by omega, r2, r3, r4, r4b, r5, r6, r7, r8, r9, r10⟩
  have hrun : (gL mb 54 (iX rho k)).length = 0 → ∃ m' rho', f8_X8_run 0 k mb = some (0, m', 0) ∧ INVX X Y m' rho' ∧ pot m' = pot mb ∧ (∀ i, gI m' 911 i = gI mb 911 i) ∧ (∀ i, gI m' 909 i = gI mb 909 i) ∧ (∀ F j, F ≠ 37 → F ≠ 39 → F ≠ 41 → F ≠ 42 → rho' F j = rho F j) ∧ (∀ j, j ≠ k → rho' 37 j = rho 37 j ∧ rho' 42 j = rho 42 j ∧ rho' 41 j = rho 41 j) ∧ rho' 37 k = 1 ∧ f9_runs (nI k) rho = some (0, rho') := fun hl0 => by
    have hz : gL (sI mb 133 k 7) 54 (iX rho k) = gL mb 54 (iX rho k) := rfl
    have hq0 : gL mb 54 (iX rho k) = (List.range (iC rho)).filter fun j => decide (iX rho j = iX rho k ∧ (if j = k then (1 : Int32) else rho 37 j) = 0) := by
      rw [e54]
      apply fl_same
      intro j _
      by_cases hjk : j = k
      · rw [if_pos hjk, hjk, h7]
        simp
      · rw [if_neg hjk]
    have hin := run_inv h hkC h00 (Or.inr h7) hN hq0
    have her := e8_run h hkC (gL mb 54 (iX rho k))
    have hself : sL (sI mb 133 k 7) 54 (iX rho k) (gL mb 54 (iX rho k)) = sI mb 133 k 7 := sL_self (sI mb 133 k 7) 54 (iX rho k)
    rw [hself] at hin her
    refine ⟨_, _, ?_, hin, rfl, fun i => rfl, fun i => rfl, fun F j a b c d => ?_, fun j hj => ⟨?_, ?_, ?_⟩, ?_, e9_runs hb hkC⟩
    · rw [← her]
      unfold f8_X8_run
      rw [wr_s, wr_s, sI_sI]
    · unfold stR
      rw [up2_f _ _ _ _ d, up2_f _ _ _ _ b, up2_f _ _ _ _ c, up2_f _ _ _ _ a]
    · rw [st37, if_neg hj]
    · rw [st42, if_neg hj]
    · rw [st41, if_neg hj]
    · rw [st37, if_pos rfl]
  have hlen0 : nI (gL mb 54 (iX rho k)).length = 0 ↔ (gL mb 54 (iX rho k)).length = 0 := by
    rw [l0, nI_eq (by omega) (by omega)]
  unfold f8_X8_place
  rw [e130, od_s, e519, od_s, e3, hd]
  by_cases hD : rho 13 (4 * iX rho k + 3) = 0
  · rw [if_pos hD, if_pos hD]
    unfold b8_X8_place_19
    rw [if_pos rfl, e516]
    by_cases hsl : rho 10 (iX rho k) ≤ gI mb 523 (iX rho k)
    · rw [if_pos hsl, if_pos hsl]
      obtain ⟨m', g, rho', p⟩ := h53 0 (by simp [hD])
      exact ⟨m', g, rho', p.1, p.2.1, p.2.2.1, p.2.2.2.1, p.2.2.2.2.1, p.2.2.2.2.2.1, p.2.2.2.2.2.2.1, p.2.2.2.2.2.2.2.1, p.2.2.2.2.2.2.2.2.1, p.2.2.2.2.2.2.2.2.2.1, p.2.2.2.2.2.2.2.2.2.2.1, fun _ => p.2.2.2.2.2.2.2.2.2.2.2⟩
    · rw [if_neg hsl, if_neg hsl, e522, od_s]
      by_cases hl0 : (gL mb 54 (iX rho k)).length = 0
      · rw [if_pos (hlen0.mpr hl0), if_neg (show ¬ (1 : Int32) = 0 by decide), if_pos (hlen0.mpr hl0)]
        obtain ⟨m', rho', p1, p2, p3, p4, p4b, p5, p6, p7, p8⟩ := hrun hl0
        refine ⟨m', 0, rho', ?_, by omega, p2, p3, p4, p4b, p5, p6, by rw [p7]; decide, by rw [p7]; decide, Or.inr (Or.inl p7), fun _ => ?_⟩
        · rw [p1, cb_s0]
        · rw [p8, ob_s, p7, if_neg (by decide)]
      · rw [if_neg (fun z => hl0 (hlen0.mp z)), if_pos rfl, if_neg (fun z => hl0 (hlen0.mp z))]
        obtain ⟨m', g, rho', p⟩ := h53 0 (by simp [hD])
        exact ⟨m', g, rho', p.1, p.2.1, p.2.2.1, p.2.2.2.1, p.2.2.2.2.1, p.2.2.2.2.2.1, p.2.2.2.2.2.2.1, p.2.2.2.2.2.2.2.1, p.2.2.2.2.2.2.2.2.1, p.2.2.2.2.2.2.2.2.2.1, p.2.2.2.2.2.2.2.2.2.2.1, fun _ => p.2.2.2.2.2.2.2.2.2.2.2⟩
  · rw [if_neg hD, if_neg hD]
    unfold b8_X8_place_19
    rw [if_neg (by decide)]
    obtain ⟨m', g, rho', p⟩ := h53 1 (by simp [hD])
    exact ⟨m', g, rho', p.1, p.2.1, p.2.2.1, p.2.2.2.1, p.2.2.2.2.1, p.2.2.2.2.2.1, p.2.2.2.2.2.2.1, p.2.2.2.2.2.2.2.1, p.2.2.2.2.2.2.2.2.1, p.2.2.2.2.2.2.2.2.2.1, p.2.2.2.2.2.2.2.2.2.2.1, fun _ => p.2.2.2.2.2.2.2.2.2.2.2⟩
end PT2
