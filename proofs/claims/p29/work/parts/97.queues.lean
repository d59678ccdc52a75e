/-! queues, and loads that are told -/
section QK
variable {X Y : Nat → Prop} {m : CM} {rho : RH}
theorem fl_first {p : Nat → Bool} {k : Nat} (hp : p k = true) (h0 : ∀ j, j < k → p j = false) : ∀ N, k < N → ∃ b, (List.range N).filter p = k :: b := by
  intro N
  induction N with
  | zero => intro h; omega
  | succ N ih =>
    intro h
    rw [List.range_succ, List.filter_append]
    by_cases z : k < N
    · obtain ⟨b, hb⟩ := ih z
      rw [hb]
      exact ⟨b ++ [N].filter p, rfl⟩
    · have e : k = N := by omega
      subst e
      rw [List.filter_eq_nil_iff.mpr (fun j hj => by rw [h0 j (List.mem_range.mp hj)]; decide), List.filter_cons_of_pos hp]
      exact ⟨_, rfl⟩
theorem fl_split {p q r : Nat → Bool} (h1 : ∀ x, p x = (q x || r x)) (h2 : ∀ x, (q x && r x) = false) : ∀ l : List Nat, (l.filter p).length = (l.filter q).length + (l.filter r).length := by
  intro l
  induction l with
  | nil => rfl
  | cons a l ih =>
    have e1 := h1 a
    have e2 := h2 a
    cases hq : q a with
    | true =>
      have hr : r a = false := by rw [hq] at e2; simpa using e2
      rw [List.filter_cons_of_pos (p := q) hq, List.filter_cons_of_neg (p := r) (by rw [hr]; decide), List.filter_cons_of_pos (p := p) (by rw [e1, hq]; rfl), List.length_cons, List.length_cons, ih]
      omega
    | false =>
      cases hr : r a with
      | true =>
        rw [List.filter_cons_of_neg (p := q) (by rw [hq]; decide), List.filter_cons_of_pos (p := r) hr, List.filter_cons_of_pos (p := p) (by rw [e1, hr, hq]; rfl), List.length_cons, List.length_cons, ih]
        omega
      | false =>
        rw [List.filter_cons_of_neg (p := q) (by rw [hq]; decide), List.filter_cons_of_neg (p := r) (by rw [hr]; decide), List.filter_cons_of_neg (p := p) (by rw [e1, hr, hq]; decide), ih]
theorem nI_sub_le {s b : Nat} (hs : s ≤ 1000000) (hb : b ≤ 1000000) : nI s - nI b ≤ 0 ↔ s ≤ b := by
  rw [Int32.le_iff_toInt_le, Int32.toInt_sub, nI_toInt (by omega), nI_toInt (by omega), show (0 : Int32).toInt = 0 by decide, Int.bmod_eq_of_le (by omega) (by omega)]
  omega
theorem nI_sub_dn (s b : Nat) : nI s - nI b + (-1) = nI s - nI (b + 1) := by
  rw [← nI_1 b, Int32.sub_eq_add_neg, Int32.sub_eq_add_neg, Int32.neg_add, Int32.sub_eq_add_neg, Int32.add_assoc]
theorem deq_loop {i s : Nat} (K : Nat → Int32 → CM → CR Int32) (x1 : Int32) (hs9 : s ≤ 9) : ∀ (d k b : Nat) (m : CM) (rho : RH) (n8 n9 : Nat), k + d = iC rho → INV m rho → i < iI rho → rho 10 i = nI s → gI m 523 i = nI b → b + d ≤ 1000 → (∀ j, j < k → iX rho j = i → rho 37 j ≠ 0) → d < n8 → d < n9 → ∃ m' rho', (∀ r m9 g9, K 0 (x1 + 1) m' = some (r, m9, g9) → l8_X8_runQueued_35 K n8 0 x1 i (nI s - nI b) m = some (r, m9, g9)) ∧ l9_dequeues_10 n9 (nI i) (nI b) (nI k) rho = some (0, rho') ∧ INV m' rho' ∧ pot m' = pot m ∧ iI rho' = iI rho ∧ S0 rho rho' := by
  intro d
  induction d with
  | zero =>
    intro k b m rho n8 n9 hj h hi h10 hb hbk h0 h8 h9
    obtain ⟨n8, rfl⟩ : ∃ n', n8 = n' + 1 := ⟨n8 - 1, by omega⟩
    obtain ⟨n9, rfl⟩ : ∃ n', n9 = n' + 1 := ⟨n9 - 1, by omega⟩
    have hC := h.rb9.C
    refine ⟨m, rho, fun r m9 g9 hK => ?_, ?_, h, rfl, rfl, S0.rf _⟩
    · rw [l8_X8_runQueued_35]
      by_cases z : nI s - nI b ≤ 0
      · rw [if_pos z]
        exact hK
      · have e : gL m 54 i = [] := by
          rw [(h.aq9 i hi).2, List.filter_eq_nil_iff]
          intro j hj2
          have := List.mem_range.mp hj2
          simp only [decide_eq_true_eq]
          exact fun y => h0 j (by omega) y.1 y.2
        rw [if_neg z, (h.ai9 i hi).2.2.2.1, od_s, e, if_neg (by decide)]
        exact hK
    · rw [l9_dequeues_10, hC.1, if_pos (nI_le (by omega) (by omega))]
  | succ d ih =>
    intro k b m rho n8 n9 hj h hi h10 hb hbk h0 h8 h9
    obtain ⟨n9, rfl⟩ : ∃ n', n9 = n' + 1 := ⟨n9 - 1, by omega⟩
    have hr := h.rb9
    have hC := hr.C
    have hI := hr.I
    have hk : k < iC rho := by omega
    have hXx := hr.Xi hk
    have qi := vq_nI (k := i) (n := 12) (by omega) (by omega)
    have ci := nI_clamp (n := i) (by omega)
    have qk := vq_nI (k := k) (n := 400) (by omega) (by omega)
    have ck := nI_clamp (n := k) (by omega)
    have ex : nI (iX rho k) = nI i ↔ iX rho k = i := nI_eq (by omega) (by omega)
    have e9 : l9_dequeues_10 (n9 + 1) (nI i) (nI b) (nI k) rho = if s ≤ b then some (0, rho) else if iX rho k = i ∧ rho 37 k = 0 then (ob (f9_runs (nI k) rho) fun _ rho8 => l9_dequeues_10 n9 (nI i) (nI (b + 1)) (nI (k + 1)) rho8) else l9_dequeues_10 n9 (nI i) (nI b) (nI (k + 1)) rho := by
      rw [l9_dequeues_10, hC.1, if_neg (cle (by omega) hk), if_pos qi, ci, h10, if_pos qk, ck, hXx.1, nI_1, nI_1]
      by_cases z1 : s ≤ b
      · rw [if_pos z1, if_pos (nI_le z1 (by omega))]
      · rw [if_neg z1, if_neg (cle (by omega) (by omega))]
        by_cases z2 : iX rho k = i
        · rw [if_pos (ex.mpr z2)]
          by_cases z3 : rho 37 k = 0
          · rw [if_pos z3, if_pos ⟨z2, z3⟩]
          · rw [if_neg z3, if_neg (fun y => z3 y.2)]
        · rw [if_neg (fun y => z2 (ex.mp y)), if_neg (fun y => z2 y.1)]
    rw [e9]
    by_cases z1 : s ≤ b
    · obtain ⟨n8, rfl⟩ : ∃ n', n8 = n' + 1 := ⟨n8 - 1, by omega⟩
      refine ⟨m, rho, fun r m9 g9 hK => ?_, by rw [if_pos z1], h, rfl, rfl, S0.rf _⟩
      rw [l8_X8_runQueued_35, if_pos ((nI_sub_le (by omega) (by omega)).mpr z1)]
      exact hK
    · rw [if_neg z1]
      by_cases z2 : iX rho k = i ∧ rho 37 k = 0
      · obtain ⟨n8, rfl⟩ : ∃ n', n8 = n' + 1 := ⟨n8 - 1, by omega⟩
        obtain ⟨z3, z4⟩ := z2
        rw [if_pos ⟨z3, z4⟩]
        obtain ⟨q, hq⟩ := fl_first (p := fun j => decide (iX rho j = i ∧ rho 37 j = 0)) (k := k) (decide_eq_true ⟨z3, z4⟩) (fun j hj2 => decide_eq_false (fun y => h0 j hj2 y.1 y.2)) (iC rho) hk
        have hq2 : q = (List.range (iC rho)).filter fun j => decide (iX rho j = iX rho k ∧ (if j = k then (1 : Int32) else rho 37 j) = 0) := by
          have := fl_rm (a := []) (q := fun j => decide (iX rho j = iX rho k ∧ (if j = k then (1 : Int32) else rho 37 j) = 0)) (by rw [if_pos rfl]; exact decide_eq_false (fun y => absurd y.2 (by decide))) (fun j hj2 => by rw [if_neg hj2, z3]) hq
          rw [this]
          rfl
        have hw := hr.rw9 k hk
        have hin := run_inv h hk (hw.2.2.2 (Or.inl z4)) (Or.inl z4) (hw.2.1 (by rw [z4]; decide)) hq2
        have hrun := e8_run h hk q
        rw [z3] at hin hrun
        have eL : gL m 54 i = k :: q := (h.aq9 i hi).2.trans hq
        obtain ⟨m', rho', j1, j2, j3, j4, j5⟩ := ih (k + 1) (b + 1) (rnM (sL m 54 i q) rho k) (stR rho k 1 1 (rnW rho k) (rho 42 k)) n8 n9 (by show k + 1 + d = iC rho; omega) hin hi h10 (by
          show gI (sI (sI (sI (sI (sL m 54 i q) 133 k 1) 523 (iX rho k) (gI (sL m 54 i q) 523 (iX rho k) + 1)) 910 (sid rho k) 1) 134 k (rnW rho k)) 523 i = nI (b + 1)
          rw [gI_sI, if_neg (by decide), gI_sI, if_neg (by decide), gI_sI, if_pos rfl, if_pos z3.symm, z3, ← nI_1, ← hb]
          rfl) (by omega) (fun j hj2 hjx => by
          show up2 (up2 (up2 (up2 rho 37 k 1) 41 k 1) 39 k (rnW rho k)) 42 k (rho 42 k) 37 j ≠ 0
          rw [up2_f _ _ _ _ (by decide), up2_f _ _ _ _ (by decide), up2_f _ _ _ _ (by decide)]
          by_cases y : j = k
          · rw [y, up2_s]
            decide
          · rw [up2_i _ _ _ _ y]
            exact h0 j (by omega) hjx) (by omega) (by omega)
        refine ⟨m', rho', fun r m9 g9 hK => ?_, ?_, j3, j4.trans rfl, j5.1, fun F hF => (j5.2 F hF).trans (by rcases hF with rfl | rfl <;> rfl)⟩
        · have hh := j1 r m9 g9 hK
          rw [l8_X8_runQueued_35, if_neg (fun y => z1 ((nI_sub_le (by omega) (by omega)).mp y)), (h.ai9 i hi).2.2.2.1, od_s, eL, if_pos (by rw [if_neg (by rw [List.length_cons]; exact nI_ne0 (by omega) (by have := congrArg List.length hq; have h3 := List.length_filter_le (fun j => decide (iX rho j = i ∧ rho 37 j = 0)) (List.range (iC rho)); rw [List.length_cons] at this; rw [List.length_range] at h3; omega))])]
          show (wr (sL m 54 i q) fun m7 => cb (f8_X8_run 0 k m7) fun _ m10 => l8_X8_runQueued_35 K n8 0 x1 i (nI s - nI b + (-1)) m10) = _
          rw [wr_s, hrun, cb_s0, nI_sub_dn]
          exact hh
        · rw [e9_runs hr hk, ob_s]
          exact j2
      · rw [if_neg z2]
        exact ih (k + 1) b m rho n8 n9 (by omega) h hi h10 hb (by omega) (fun j hj2 hjx => by
          by_cases y : j = k
          · rw [y] at hjx ⊢
            exact fun x => z2 ⟨hjx, x⟩
          · exact h0 j (by omega) hjx) (by omega) (by omega)
/-- the loop over instances that run what waits -/
theorem run_loop : ∀ (d i : Nat) (m : CM) (rho : RH) (n8 n9 : Nat), i + d = iI rho → INV m rho → d < n8 → d < n9 → ∃ m' rho', l8_X8_runQueued_2 n8 0 (nI i) m = some (0, m', 0) ∧ l9_passes_327 n9 (nI i) rho = l9_passes_348 FU 0 rho' ∧ INV m' rho' ∧ pot m' = pot m ∧ S0 rho rho' := by
  intro d
  induction d with
  | zero =>
    intro i m rho n8 n9 hj h h8 h9
    obtain ⟨n8, rfl⟩ : ∃ n', n8 = n' + 1 := ⟨n8 - 1, by omega⟩
    obtain ⟨n9, rfl⟩ : ∃ n', n9 = n' + 1 := ⟨n9 - 1, by omega⟩
    have hI := h.rb9.I
    refine ⟨m, rho, ?_, ?_, h, rfl, S0.rf _⟩
    · rw [l8_X8_runQueued_2, h.a09.2.2.2.1, od_s, h.al9.1, List.length_range, if_pos (nI_le (by omega) (by omega))]
    · rw [l9_passes_327, hI.1, if_pos (nI_le (by omega) (by omega))]
  | succ d ih =>
    intro i m rho n8 n9 hj h h8 h9
    obtain ⟨n8, rfl⟩ : ∃ n', n8 = n' + 1 := ⟨n8 - 1, by omega⟩
    obtain ⟨n9, rfl⟩ : ∃ n', n9 = n' + 1 := ⟨n9 - 1, by omega⟩
    have hr := h.rb9
    have hI := hr.I
    have hC := hr.C
    have hi : i < iI rho := by omega
    have hai := h.ai9 i hi
    have hF : FU = 1000 := rfl
    have h10 := (hr.ri9 i hi).2.2.2.2.1.eq (by omega)
    have h10' := (hr.ri9 i hi).2.2.2.2.1.lt (by omega)
    have h3 := List.length_filter_le (fun j => decide (iX rho j = i ∧ (rho 37 j = 1 ∨ rho 37 j = 2))) (List.range (iC rho))
    rw [List.length_range] at h3
    have h523 := (h.aq9 i hi).1
    obtain ⟨m1, r1, k1, k2, k3, k4, k5, k6⟩ : ∃ m' rho', (∀ r m9 g9, l8_X8_runQueued_2 n8 0 (nI i + 1) m' = some (r, m9, g9) → l8_X8_runQueued_35 (l8_X8_runQueued_2 n8) FU 0 (nI i) i (gI m 516 i - gI m 523 i) m = some (r, m9, g9)) ∧ f9_dequeues (nI i) rho = some (0, rho') ∧ INV m' rho' ∧ pot m' = pot m ∧ iI rho' = iI rho ∧ S0 rho rho' := by
      have h9d := e9_countOf hr (i := i) (lo := 1) (hi := 2) (by omega)
      rw [cnt_run hr] at h9d
      generalize hb : ((List.range (iC rho)).filter fun j => decide (iX rho j = i ∧ (rho 37 j = 1 ∨ rho 37 j = 2))).length = b at *
      generalize hs : nv (rho 10 i) = s at *
      obtain ⟨m', rho', j1, j2, j3, j4, j5⟩ := deq_loop (l8_X8_runQueued_2 n8) (nI i) (show s ≤ 9 by omega) (iC rho) 0 b m rho FU FU (by omega) h hi h10 h523 (by omega) (fun j hj2 => by omega) (by omega) (by omega)
      refine ⟨m', rho', fun r m9 g9 hK => ?_, ?_, j3, j4, j5⟩
      · rw [hai.2.2.2.2.2.2.2.2.1, h10, h523]
        exact j1 r m9 g9 hK
      · unfold f9_dequeues
        rw [h9d, ob_s]
        exact j2
    obtain ⟨m2, r2, i1, i2, i3, i4, i5⟩ := ih (i + 1) m1 r1 n8 n9 (by omega) k3 (by omega) (by omega)
    refine ⟨m2, r2, ?_, ?_, i3, i4.trans k4, k6.tr i5⟩
    · rw [l8_X8_runQueued_2, h.a09.2.2.2.1, od_s, h.al9.1, List.length_range, if_neg (cle (by omega) hi), if_pos (nI_pos (by omega)), nI_clamp (by omega), rg_lt hi, od_s]
      exact k1 _ _ _ (by rw [nI_1]; exact i1)
    · rw [l9_passes_327, hI.1, if_neg (cle (by omega) hi), k2, ob_s, nI_1]
      exact i2
theorem runs_both (h : INV m rho) : ∃ m' rho', f8_X8_runQueued 0 m = some (0, m', 0) ∧ l9_passes_327 FU 0 rho = l9_passes_348 FU 0 rho' ∧ INV m' rho' ∧ pot m' = pot m ∧ S0 rho rho' := by
  have hI := h.rb9.I
  have hF : FU = 1000 := rfl
  exact run_loop (iI rho) 0 m rho FU FU (by omega) h (by omega) (by omega)
/-- a load is told -/
theorem tl1_inv (h : INV m rho) {i a : Nat} (hi : i < iI rho) (ha : a ≤ 400) : INV (sI m 524 i (nI a)) (up2 rho 14 i (nI a)) := by
  have e14 : ∀ j, up2 rho 14 i (nI a) 14 j = if j = i then nI a else rho 14 j := fun _ => rfl
  obtain ⟨b1, b2, b3, b4, b5, b6, b7, b8, b9, b10, b11, b12, b13, b14, b15, b16, c0, cs, ci, cp, cr, cq, ck, cw, cz⟩ := h
  refine ⟨b1, b2, b3, b4, b5, fun j hj => ?_, b7, b8, b9, b10, b11, b12, b13, b14, b15, b16, c0, cs, fun j hj => ?_, cp, cr, cq, ck, cw, cz.1, cz.2.1, fun j j1 j2 => ?_⟩
  · have hh := b6 j hj
    refine ⟨hh.1, hh.2.1, hh.2.2.1, hh.2.2.2.1, hh.2.2.2.2.1, hh.2.2.2.2.2.1, hh.2.2.2.2.2.2.1, hh.2.2.2.2.2.2.2.1, hh.2.2.2.2.2.2.2.2.1, hh.2.2.2.2.2.2.2.2.2.1, hh.2.2.2.2.2.2.2.2.2.2.1, ?_, hh.2.2.2.2.2.2.2.2.2.2.2.2⟩
    rw [e14, gI_sI, if_pos rfl]
    split
    · rfl
    · exact hh.2.2.2.2.2.2.2.2.2.2.2.1
  · have hh := ci j hj
    refine ⟨hh.1, hh.2.1, hh.2.2.1, hh.2.2.2.1, hh.2.2.2.2.1, hh.2.2.2.2.2.1, hh.2.2.2.2.2.2.1, ?_, hh.2.2.2.2.2.2.2.2⟩
    rw [e14]
    split
    · exact ⟨a, by omega, rfl⟩
    · exact hh.2.2.2.2.2.2.2.1
  · have hh := cz.2.2 j j1 j2
    have hj1 : iI rho ≤ j := j1
    refine ⟨hh.1, ?_, hh.2.2⟩
    rw [e14, if_neg (by omega)]
    exact hh.2.1
theorem tl2_inv (h : INV m rho) {i c : Nat} (hi : i < iI rho) (hc : c < 7) : INV (sA m 31 i c 0) (up2 rho 24 (12 * c + i) 0) := by
  have hI := h.rb9.I
  have e24 : ∀ j, up2 rho 24 (12 * c + i) 0 24 j = if j = 12 * c + i then 0 else rho 24 j := fun _ => rfl
  have e31 : ∀ j c', gA (sA m 31 i c 0) 31 j c' = if j = i ∧ c' = c then 0 else gA m 31 j c' := fun j c' => by
    rw [gA_sA]
    by_cases z : j = i ∧ c' = c
    · rw [if_pos z, if_pos rfl, if_pos z.1, if_pos z.2]
    · rw [if_neg z, if_pos rfl]
      by_cases y : j = i
      · rw [if_pos y, if_neg (fun x => z ⟨y, x⟩)]
      · rw [if_neg y]
  obtain ⟨b1, b2, b3, b4, b5, b6, b7, b8, b9, b10, b11, b12, b13, b14, b15, b16, c0, cs, ci, cp, cr, cq, ck, cw, cz⟩ := h
  refine ⟨b1, b2, b3, b4, b5, fun j hj => ?_, b7, b8, b9, b10, b11, b12, b13, b14, b15, b16, c0, cs, fun j hj => ?_, cp, cr, cq, ck, cw, cz.1, cz.2.1, fun j j1 j2 => ?_⟩
  · have hh := b6 j hj
    have hj2 : j < iI rho := hj
    refine ⟨hh.1, hh.2.1, hh.2.2.1, hh.2.2.2.1, hh.2.2.2.2.1, hh.2.2.2.2.2.1, hh.2.2.2.2.2.2.1, hh.2.2.2.2.2.2.2.1, hh.2.2.2.2.2.2.2.2.1, hh.2.2.2.2.2.2.2.2.2.1, hh.2.2.2.2.2.2.2.2.2.2.1, hh.2.2.2.2.2.2.2.2.2.2.2.1, hh.2.2.2.2.2.2.2.2.2.2.2.2.1, fun c' hc' => ?_⟩
    have hq := hh.2.2.2.2.2.2.2.2.2.2.2.2.2 c' hc'
    refine ⟨hq.1, ?_, hq.2.2⟩
    rw [e24, e31, hq.2.1]
    by_cases z : j = i ∧ c' = c
    · rw [if_pos z, if_pos (by omega)]
    · rw [if_neg z, if_neg (by omega)]
  · have hh := ci j hj
    refine ⟨hh.1, hh.2.1, hh.2.2.1, hh.2.2.2.1, hh.2.2.2.2.1, hh.2.2.2.2.2.1, hh.2.2.2.2.2.2.1, hh.2.2.2.2.2.2.2.1, hh.2.2.2.2.2.2.2.2.1, fun c' hc' => ⟨(hh.2.2.2.2.2.2.2.2.2 c' hc').1, ?_⟩⟩
    rw [e24]
    split
    · exact ⟨0, by omega, rfl⟩
    · exact (hh.2.2.2.2.2.2.2.2.2 c' hc').2
  · have hh := cz.2.2 j j1 j2
    have hj1 : iI rho ≤ j := j1
    refine ⟨hh.1, hh.2.1, fun c' hc' => ⟨(hh.2.2 c' hc').1, (hh.2.2 c' hc').2.1, (hh.2.2 c' hc').2.2.1, ?_⟩⟩
    rw [e24, if_neg (by omega)]
    exact (hh.2.2 c' hc').2.2.2
theorem tl2_loop (K : Int32 → RH → Option (Int32 × RH)) {i : Nat} : ∀ (d c : Nat) (m : CM) (rho : RH) (n8 n9 : Nat), c + d = 7 → INV m rho → i < iI rho → d < n8 → d < n9 → ∃ m' rho', l8_X4_tellLoad_10 n8 i (nI c) m = some (0, m', 0) ∧ l9_passes_380 K n9 (nI i) (nI c) rho = K (nI i + 1) rho' ∧ INV m' rho' ∧ pot m' = pot m ∧ iI rho' = iI rho ∧ S0 rho rho' := by
  intro d
  induction d with
  | zero =>
    intro c m rho n8 n9 hj h hi h8 h9
    obtain ⟨n8, rfl⟩ : ∃ n', n8 = n' + 1 := ⟨n8 - 1, by omega⟩
    obtain ⟨n9, rfl⟩ : ∃ n', n9 = n' + 1 := ⟨n9 - 1, by omega⟩
    refine ⟨m, rho, ?_, ?_, h, rfl, rfl, S0.rf _⟩
    · rw [l8_X4_tellLoad_10, l7, if_pos (nI_le (by omega) (by omega))]
    · rw [l9_passes_380, l7, if_pos (nI_le (by omega) (by omega))]
  | succ d ih =>
    intro c m rho n8 n9 hj h hi h8 h9
    obtain ⟨n8, rfl⟩ : ∃ n', n8 = n' + 1 := ⟨n8 - 1, by omega⟩
    obtain ⟨n9, rfl⟩ : ∃ n', n9 = n' + 1 := ⟨n9 - 1, by omega⟩
    have hI := h.rb9.I
    have hc7 : c < 7 := by omega
    have qc := vq_nI (k := c) (n := 7) hc7 (by omega)
    have cc := nI_clamp (n := c) (by omega)
    have e84 : (12 : Int32) * nI c + nI i = nI (12 * c + i) := by rw [l12, pk_mul, nI_add]
    have q84 := vq_nI (k := 12 * c + i) (n := 84) (by omega) (by omega)
    have c84 := nI_clamp (n := 12 * c + i) (by omega)
    obtain ⟨m2, r2, i1, i2, i3, i4, i5, i6⟩ := ih (c + 1) (sA m 31 i c 0) (up2 rho 24 (12 * c + i) 0) n8 n9 (by omega) (tl2_inv h hi hc7) hi (by omega) (by omega)
    refine ⟨m2, r2, ?_, ?_, i3, i4.trans rfl, i5, fun F hF => (i6 F hF).trans (by rcases hF with rfl | rfl <;> rfl)⟩
    · rw [l8_X4_tellLoad_10, l7, if_neg (cle (by omega) hc7), (h.ai9 i hi).2.2.1, od_s, if_pos qc, cc, wr_s, nI_1]
      exact i1
    · rw [l9_passes_380, l7, if_neg (cle (by omega) hc7), e84, if_pos q84, c84, wr_s, nI_1]
      exact i2
theorem tell_loop : ∀ (d i : Nat) (m : CM) (rho : RH) (n8 n9 : Nat), i + d = iI rho → INV m rho → rho 0 0 - rho 0 0 / 5 * 5 = 0 → d < n8 → d < n9 → ∃ m' rho', l8_X8_tellLoads_2 n8 0 (nI i) m = some (0, m', 0) ∧ l9_passes_348 n9 (nI i) rho = some (0, rho') ∧ INV m' rho' ∧ pot m' = pot m ∧ S0 rho rho' := by
  intro d
  induction d with
  | zero =>
    intro i m rho n8 n9 hj h h5 h8 h9
    obtain ⟨n8, rfl⟩ : ∃ n', n8 = n' + 1 := ⟨n8 - 1, by omega⟩
    obtain ⟨n9, rfl⟩ : ∃ n', n9 = n' + 1 := ⟨n9 - 1, by omega⟩
    have hI := h.rb9.I
    refine ⟨m, rho, ?_, ?_, h, rfl, S0.rf _⟩
    · rw [l8_X8_tellLoads_2, h.a09.2.2.2.1, od_s, h.al9.1, List.length_range, if_pos (nI_le (by omega) (by omega))]
    · rw [l9_passes_348, hI.1, if_pos (nI_le (by omega) (by omega))]
  | succ d ih =>
    intro i m rho n8 n9 hj h h5 h8 h9
    obtain ⟨n8, rfl⟩ : ∃ n', n8 = n' + 1 := ⟨n8 - 1, by omega⟩
    obtain ⟨n9, rfl⟩ : ∃ n', n9 = n' + 1 := ⟨n9 - 1, by omega⟩
    have hr := h.rb9
    have hI := hr.I
    have hC := hr.C
    have hi : i < iI rho := by omega
    have hai := h.ai9 i hi
    have hF : FU = 1000 := rfl
    have q12 := vq_nI (k := i) (n := 12) (by omega) (by omega)
    have c12 := nI_clamp (n := i) (by omega)
    have h9c := e9_countOf hr (i := i) (lo := 0) (hi := 2) (by omega)
    have hsum : gI m 523 i + nI (gL m 54 i).length = nI ((List.range (iC rho)).filter fun k => decide (iX rho k = i) && !decide (rho 37 k < 0 ∨ 2 < rho 37 k)).length := by
      rw [(h.aq9 i hi).1, (h.aq9 i hi).2, nI_add, ← fl_split (p := fun k => decide (iX rho k = i ∧ (rho 37 k = 0 ∨ rho 37 k = 1 ∨ rho 37 k = 2))) (fun x => by
        rw [← Bool.decide_or]
        congr 1
        apply propext
        constructor
        · rintro ⟨a, b | b | b⟩
          · exact Or.inr ⟨a, b⟩
          · exact Or.inl ⟨a, Or.inl b⟩
          · exact Or.inl ⟨a, Or.inr b⟩
        · rintro (⟨a, b | b⟩ | ⟨a, b⟩)
          · exact ⟨a, Or.inr (Or.inl b)⟩
          · exact ⟨a, Or.inr (Or.inr b)⟩
          · exact ⟨a, Or.inl b⟩) (fun x => by
        rw [← Bool.decide_and]
        apply decide_eq_false
        rintro ⟨⟨_, b | b⟩, _, c⟩
        · rw [b] at c
          exact absurd c (by decide)
        · rw [b] at c
          exact absurd c (by decide))]
      congr 2
      apply fl_same
      intro j hj2
      have := (st_in hr hj2).2.2
      rw [← decide_not, ← Bool.decide_and]
      congr 1
      rw [this]
    have h3 := List.length_filter_le (fun k => decide (iX rho k = i) && !decide (rho 37 k < 0 ∨ 2 < rho 37 k)) (List.range (iC rho))
    rw [List.length_range] at h3
    generalize ((List.range (iC rho)).filter fun k => decide (iX rho k = i) && !decide (rho 37 k < 0 ∨ 2 < rho 37 k)).length = a at *
    obtain ⟨m1, r1, k1, k2, k3, k4, k5, k6⟩ := tl2_loop (l9_passes_348 n9) (i := i) 7 0 (sI m 524 i (nI a)) (up2 rho 14 i (nI a)) FU FU (by omega) (tl1_inv h hi (by omega)) hi (by omega) (by omega)
    obtain ⟨m2, r2, i1, i2, i3, i4, i5⟩ := ih (i + 1) m1 r1 n8 n9 (by rw [k5]; show i + 1 + d = iI rho; omega) k3 (by rw [k6 0 (Or.inl rfl)]; exact h5) (by omega) (by omega)
    refine ⟨m2, r2, ?_, ?_, i3, i4.trans (k4.trans rfl), fun F hF => ((i5 F hF).trans (k6 F hF)).trans (by rcases hF with rfl | rfl <;> rfl)⟩
    · rw [l8_X8_tellLoads_2, h.a09.2.2.2.1, od_s, h.al9.1, List.length_range, if_neg (cle (by omega) hi), if_pos (nI_pos (by omega)), c12, rg_lt hi, od_s]
      have e1 : f8_X4_tellLoad i m = some (0, m1, 0) := by
        unfold f8_X4_tellLoad f8_X4_loadNow
        rw [hai.2.2.2.1, od_s, cb_s0, hsum, wr_s]
        exact k1
      rw [e1, cb_s0, nI_1]
      exact i1
    · rw [l9_passes_348, hI.1, if_neg (cle (by omega) hi), if_pos h5, h9c, ob_s, if_pos q12, wr_s, c12]
      refine k2.trans ?_
      rw [nI_1]
      exact i2
/-- the end of a tick -/
theorem tell_both (h : INV m rho) : ∃ m' rho', (if (gI m 1024 0 - gI m 1024 0 / 5 * 5) = 0 then f8_X8_tellLoads 0 m else some (0, m, 0)) = some (0, m', 0) ∧ l9_passes_348 FU 0 rho = some (0, rho') ∧ INV m' rho' ∧ pot m' = pot m ∧ S0 rho rho' := by
  have hI := h.rb9.I
  have hF : FU = 999 + 1 := rfl
  rw [h.now]
  by_cases z : rho 0 0 - rho 0 0 / 5 * 5 = 0
  · rw [if_pos z]
    exact tell_loop (iI rho) 0 m rho FU FU (by omega) h z (by omega) (by omega)
  · rw [if_neg z]
    refine ⟨m, rho, rfl, ?_, h, rfl, S0.rf _⟩
    rw [hF, l9_passes_348, if_neg z, ite_self]
end QK
