/-! a call's state: it runs, it is queued, it is refused -/
section PS
variable {X Y : Nat → Prop} {m : CM} {rho : RH}
def stR (rho : RH) (k : Nat) (a c b d : Int32) : RH := up2 (up2 (up2 (up2 rho 37 k a) 41 k c) 39 k b) 42 k d
theorem st37 (rho : RH) (k j : Nat) (a c b d : Int32) : stR rho k a c b d 37 j = if j = k then a else rho 37 j := rfl
theorem st41 (rho : RH) (k j : Nat) (a c b d : Int32) : stR rho k a c b d 41 j = if j = k then c else rho 41 j := rfl
theorem st39 (rho : RH) (k j : Nat) (a c b d : Int32) : stR rho k a c b d 39 j = if j = k then b else rho 39 j := rfl
theorem st42 (rho : RH) (k j : Nat) (a c b d : Int32) : stR rho k a c b d 42 j = if j = k then d else rho 42 j := rfl
theorem st_inv (h : INVX X Y m rho) {k : Nat} (hk : k < iC rho) {a b c d : Int32} {M : CM} (g1 : gR M = gR m) (g2 : gA M = gA m) (g3 : gO M = gO m) (g4 : gV M = gV m)
    (g5 : ∀ f j, f ≠ 523 → f ≠ 133 → f ≠ 134 → f ≠ 135 → f ≠ 136 → f ≠ 910 → gI M f j = gI m f j) (g9 : ∀ f j, j ≠ k → (f = 133 ∨ f = 134 ∨ f = 135 ∨ f = 136) → gI M f j = gI m f j) (g6 : ∀ c' j, c' ≠ 54 → gL M c' j = gL m c' j)
    (hQ : AQ M (stR rho k a c b d)) (w1 : gI M 133 k = a) (w2 : a = 1 → gI M 134 k = b) (w3 : a ≤ 2 ∨ a = 7 → gI M 136 k = 1000000) (w4 : ¬ a ≤ 2 → a ≠ 7 → (d = 0 → gI M 135 k = a ∧ ∃ t, t ≤ nv (rho 0 0) ∧ gI M 136 k = nI t) ∧ (d ≠ 0 → gI M 135 k = 5 ∧ gI M 136 k = rho 38 k))
    (hH : ∀ o n, OE rho o → n < sc rho o → gI M 910 (4 * o + n) = if (TR rho o n).any (fun q => decide (stR rho k a c b d 41 q ≠ 0)) = true then 1 else 0)
    (hs : Ix a 8) (hl : a ≤ 2 → iN rho k + 1 = sc rho (iO rho k)) (ha2 : a ≠ 2) (hr2 : rho 37 k ≠ 2) (h7 : a ≠ 7) (h01 : a = 0 ∨ a = 1 → sc rho k = 0) : INVX X Y M (stR rho k a c b d) := by
  have hb := h.rb9
  obtain ⟨b1, b2, b3, b4, b5, b6, b7, b8, b9, b10, b11, b12, b13, b14, b15, b16, c0, cs, ci, cp, cr, cq, ck, cw, cz⟩ := h
  refine ⟨?_, ?_, ?_, ?_, ?_, ?_, hQ, ?_, ?_, ?_, ?_, ?_, ?_, ?_, ?_, ?_, c0, cs, ci, cp, cr, cq, ck, ?_, ?_⟩
  · unfold A0
    rw [g1, g3]
    exact b1
  · unfold AGl
    rw [g5 _ _ (by decide) (by decide) (by decide) (by decide) (by decide) (by decide), g5 _ _ (by decide) (by decide) (by decide) (by decide) (by decide) (by decide), g5 _ _ (by decide) (by decide) (by decide) (by decide) (by decide) (by decide), g5 _ _ (by decide) (by decide) (by decide) (by decide) (by decide) (by decide)]
    exact b2
  · unfold AP
    rw [g2]
    exact b3
  · intro s hs'
    rw [g5 _ _ (by decide) (by decide) (by decide) (by decide) (by decide) (by decide), g5 _ _ (by decide) (by decide) (by decide) (by decide) (by decide) (by decide), g5 _ _ (by decide) (by decide) (by decide) (by decide) (by decide) (by decide), g5 _ _ (by decide) (by decide) (by decide) (by decide) (by decide) (by decide), g2]
    exact b4 s hs'
  · intro c' hc
    rw [g5 _ _ (by decide) (by decide) (by decide) (by decide) (by decide) (by decide), g5 _ _ (by decide) (by decide) (by decide) (by decide) (by decide) (by decide), g5 _ _ (by decide) (by decide) (by decide) (by decide) (by decide) (by decide), g5 _ _ (by decide) (by decide) (by decide) (by decide) (by decide) (by decide)]
    exact b5 c' hc
  · intro i hi
    have hh := b6 i hi
    rw [g1, g2, g3]
    rw [g5 512 _ (by decide) (by decide) (by decide) (by decide) (by decide) (by decide), g5 513 _ (by decide) (by decide) (by decide) (by decide) (by decide) (by decide), g5 514 _ (by decide) (by decide) (by decide) (by decide) (by decide) (by decide), g5 515 _ (by decide) (by decide) (by decide) (by decide) (by decide) (by decide), g5 516 _ (by decide) (by decide) (by decide) (by decide) (by decide) (by decide), g5 517 _ (by decide) (by decide) (by decide) (by decide) (by decide) (by decide), g5 518 _ (by decide) (by decide) (by decide) (by decide) (by decide) (by decide), g5 524 _ (by decide) (by decide) (by decide) (by decide) (by decide) (by decide)]
    refine ⟨hh.1, hh.2.1, hh.2.2.1, hh.2.2.2.1, hh.2.2.2.2.1, hh.2.2.2.2.2.1, hh.2.2.2.2.2.2.1, hh.2.2.2.2.2.2.2.1, hh.2.2.2.2.2.2.2.2.1, hh.2.2.2.2.2.2.2.2.2.1, hh.2.2.2.2.2.2.2.2.2.2.1, hh.2.2.2.2.2.2.2.2.2.2.2.1, hh.2.2.2.2.2.2.2.2.2.2.2.2.1, fun c' hc => ?_⟩
    have hq := hh.2.2.2.2.2.2.2.2.2.2.2.2.2 c' hc
    rw [g5 _ _ (by decide) (by decide) (by decide) (by decide) (by decide) (by decide), g5 _ _ (by decide) (by decide) (by decide) (by decide) (by decide) (by decide), g5 _ _ (by decide) (by decide) (by decide) (by decide) (by decide) (by decide)]
    exact hq
  · intro r hr
    rw [g1, g5 _ _ (by decide) (by decide) (by decide) (by decide) (by decide) (by decide), g5 _ _ (by decide) (by decide) (by decide) (by decide) (by decide) (by decide), g5 _ _ (by decide) (by decide) (by decide) (by decide) (by decide) (by decide), g5 _ _ (by decide) (by decide) (by decide) (by decide) (by decide) (by decide)]
    exact b8 r hr
  · unfold AL
    rw [g6 _ _ (by decide), g6 _ _ (by decide), g6 _ _ (by decide), g6 _ _ (by decide)]
    exact b9
  · intro q hq
    rw [g1, g6 _ _ (by decide), g5 _ _ (by decide) (by decide) (by decide) (by decide) (by decide) (by decide), g5 _ _ (by decide) (by decide) (by decide) (by decide) (by decide) (by decide)]
    exact b10 q hq
  · intro q hq
    have hq2 : q < iC rho := hq
    have hh := b11 q hq2
    rw [g5 137 _ (by decide) (by decide) (by decide) (by decide) (by decide) (by decide), st37, st42, st39]
    by_cases hqk : q = k
    · subst hqk
      rw [if_pos rfl, if_pos rfl, if_pos rfl]
      exact ⟨w1, w2, hh.2.2.1, w3, w4⟩
    · rw [if_neg hqk, if_neg hqk, if_neg hqk, g9 133 q hqk (by omega), g9 134 q hqk (by omega), g9 135 q hqk (by omega), g9 136 q hqk (by omega)]
      exact hh
  · intro o n ho hn
    rw [g1]
    rw [g5 896 _ (by decide) (by decide) (by decide) (by decide) (by decide) (by decide), g5 897 _ (by decide) (by decide) (by decide) (by decide) (by decide) (by decide), g5 898 _ (by decide) (by decide) (by decide) (by decide) (by decide) (by decide), g5 899 _ (by decide) (by decide) (by decide) (by decide) (by decide) (by decide), g5 900 _ (by decide) (by decide) (by decide) (by decide) (by decide) (by decide), g5 901 _ (by decide) (by decide) (by decide) (by decide) (by decide) (by decide), g5 902 _ (by decide) (by decide) (by decide) (by decide) (by decide) (by decide), g5 903 _ (by decide) (by decide) (by decide) (by decide) (by decide) (by decide)]
    exact b12 o n ho hn
  · intro o n ho hn
    rw [g6 _ _ (by decide)]
    exact ⟨(b13 o n ho hn).1, hH o n ho hn⟩
  · refine ⟨fun o n ho hn => ?_, fun q hq z => ?_⟩
    · rw [g5 _ _ (by decide) (by decide) (by decide) (by decide) (by decide) (by decide)]
      have hh := b14.1 o n ho hn
      have hgo : Go (stR rho k a c b d) o ↔ Go rho o := by
        unfold Go goB
        rw [st37]
        by_cases hok : o = k
        · subst hok
          by_cases h4 : o < 400
          · rw [if_pos h4, if_pos h4, if_pos rfl]
            simp [ha2, hr2]
          · rw [if_neg h4, if_neg h4]
            exact Iff.rfl
        · rw [if_neg hok]
          exact Iff.rfl
      rw [hgo]
      exact hh
    · have hq2 : q < iC rho := hq
      rw [g5 _ _ (by decide) (by decide) (by decide) (by decide) (by decide) (by decide)]
      rw [st37] at z
      by_cases hqk : q = k
      · rw [if_pos hqk] at z
        exact absurd z h7
      · rw [if_neg hqk] at z
        exact b14.2 q hq2 z
  · intro o n ho ho4 hn
    rw [g5 906 _ (by decide) (by decide) (by decide) (by decide) (by decide) (by decide), g5 907 _ (by decide) (by decide) (by decide) (by decide) (by decide) (by decide), g5 908 _ (by decide) (by decide) (by decide) (by decide) (by decide) (by decide), g5 909 _ (by decide) (by decide) (by decide) (by decide) (by decide) (by decide)]
    exact b15 o n ho ho4 hn
  · unfold AF
    rw [g4]
    exact b16
  · intro q hq
    have hq2 : q < iC rho := hq
    have hh := cw q hq2
    rw [st37]
    by_cases hqk : q = k
    · subst hqk
      rw [if_pos rfl]
      exact ⟨hs, hl, fun z => absurd z ha2, h01⟩
    · rw [if_neg hqk]
      exact hh
  · refine ⟨fun q q1 q2 => ?_, cz.2⟩
    have q1' : iC rho ≤ q := q1
    rw [st41, if_neg (by omega)]
    exact cz.1 q q1 q2
theorem mx1 (w : Int32) : (if 1 < w then w else 1) = if 1 ≤ w then w else 1 := by
  by_cases h1 : 1 < w
  · rw [if_pos h1, if_pos (by rw [Int32.le_iff_toInt_le]; rw [Int32.lt_iff_toInt_lt] at h1; omega)]
  · by_cases h2 : 1 ≤ w
    · rw [if_neg h1, if_pos h2]
      apply Int32.toInt_inj.mp
      rw [Int32.lt_iff_toInt_lt] at h1
      rw [Int32.le_iff_toInt_le] at h2
      omega
    · rw [if_neg h1, if_neg h2]
def rnW (rho : RH) (k : Nat) : Int32 := rho 0 0 + (if 1 ≤ rho 1 (iS rho k) + rho 13 (4 * iX rho k + 0) then rho 1 (iS rho k) + rho 13 (4 * iX rho k + 0) else 1)
def rnM (m : CM) (rho : RH) (k : Nat) : CM := sI (sI (sI (sI m 133 k 1) 523 (iX rho k) (gI m 523 (iX rho k) + 1)) 910 (sid rho k) 1) 134 k (rnW rho k)
theorem e8_run (h : INVX X Y m rho) {k : Nat} (hk : k < iC rho) (q : List Nat) : f8_X8_run 0 k (sL m 54 (iX rho k) q) = some (0, rnM (sL m 54 (iX rho k) q) rho k, 0) := by
  have hb := h.rb9
  have hak := h.ak9 k hk
  have hXx := hb.Xi hk
  have hS := hb.S hk
  have hai := h.ai9 _ hXx.2
  have hrk := hb.rk9 k hk
  have ht := h.at9 _ _ hrk.2.1 hrk.2.2.2.2.1
  have ha := h.a09
  have hz := ha.2.2.2.2.2.2.2.2.2 _ hS.2
  have has := h.as9 _ hS.2
  have e1 : gI m 897 (sid rho k) = nI (iS rho k) := ht.2.1.trans (hrk.2.2.2.2.2.2.2.2.1.symm.trans hS.1)
  have e0 : (0 : Int32).toNatClampNeg = 0 := rfl
  obtain ⟨M9, hM⟩ : ∃ M, M = sI (sI (sI (sL m 54 (iX rho k) q) 133 k 1) 523 (iX rho k) (gI m 523 (iX rho k) + 1)) 910 (sid rho k) 1 := ⟨_, rfl⟩
  have k1 : gR M9 1029 0 = some 0 := by rw [hM]; exact ha.2.1
  have k2 : gR M9 129 k = some (sid rho k) := by rw [hM]; exact hak.2.1
  have k3 : gR M9 130 k = some (iX rho k) := by rw [hM]; exact hak.2.2.1
  have k4 : gI M9 897 (sid rho k) = nI (iS rho k) := by rw [hM]; exact e1
  have k5 : gO M9 41 0 (iS rho k) = some (iS rho k) := by rw [hM]; exact hz.1
  have k6 : gR M9 519 (iX rho k) = some (iX rho k) := by rw [hM]; exact hai.1
  have k7 : gI M9 1024 0 = rho 0 0 := by rw [hM]; exact h.now
  have k8 : gI M9 768 (iS rho k) = rho 1 (iS rho k) := by rw [hM]; exact has.1
  have k9 : gA M9 30 (iX rho k) 0 = rho 13 (4 * iX rho k + 0) := by rw [hM]; exact hai.2.2.2.2.2.2.2.2.2.2.2.2.1 0 (by omega)
  have j1 : gR (sI (sL m 54 (iX rho k) q) 133 k 1) 130 k = some (iX rho k) := hak.2.2.1
  have j2 : ∀ v, gR (sI (sI (sL m 54 (iX rho k) q) 133 k 1) 523 (iX rho k) v) 129 k = some (sid rho k) := fun v => hak.2.1
  have j3 : gI (sI (sL m 54 (iX rho k) q) 133 k 1) 523 (iX rho k) = gI m 523 (iX rho k) := rfl
  unfold f8_X8_run
  rw [wr_s, j1, od_s, wr_s, j2, od_s, wr_s, j3, ← hM, k1, od_s, k2, od_s, k4, if_pos (vq_nI hS.2 (by omega)), nI_clamp (by omega), k5, od_s, k3, od_s, k6, od_s, e0, k7, k8, k9, mx1, wr_s, hM]
  rfl
theorem e9_runs (hb : RB rho) {k : Nat} (hk : k < iC rho) : f9_runs (nI k) rho = some (0, stR rho k 1 1 (rnW rho k) (rho 42 k)) := by
  have hC := hb.C
  have hXx := hb.Xi hk
  have hS := hb.S hk
  have hI := hb.I
  have q1 := vq_nI (k := k) (n := 400) (by omega) (by omega)
  have c1 := nI_clamp (n := k) (by omega)
  have e1 : ∀ r : RH, up2 (up2 rho 37 k 1) 41 k 1 34 k = nI (iS rho k) := fun _ => hS.1
  have e2 : up2 (up2 rho 37 k 1) 41 k 1 36 k = nI (iX rho k) := hXx.1
  have q2 := vq_nI (k := iS rho k) (n := 6) hS.2 (by omega)
  have c2 := nI_clamp (n := iS rho k) (by omega)
  have q3 := vq_nI (k := 4 * iX rho k + 0) (n := 48) (by omega) (by omega)
  have c3 := nI_clamp (n := 4 * iX rho k + 0) (by omega)
  have e3 : (4 : Int32) * nI (iX rho k) + 0 = nI (4 * iX rho k + 0) := by rw [l4, pk_mul, l0, nI_add]
  have fin : ∀ v : Int32, up2 (up2 (up2 rho 37 k 1) 41 k 1) 39 k v = stR rho k 1 1 v (rho 42 k) := fun v => (up2_self (up2 (up2 (up2 rho 37 k 1) 41 k 1) 39 k v) 42 k).symm
  unfold f9_runs
  simp only [if_pos q1, wr_s]
  simp only [c1, e1 rho, e2, e3]
  simp only [if_pos q2, if_pos q3]
  simp only [c2, c3]
  rw [show up2 (up2 rho 37 k 1) 41 k 1 1 (iS rho k) = rho 1 (iS rho k) from rfl, show up2 (up2 rho 37 k 1) 41 k 1 13 (4 * iX rho k + 0) = rho 13 (4 * iX rho k + 0) from rfl, show up2 (up2 rho 37 k 1) 41 k 1 0 0 = rho 0 0 from rfl]
  unfold rnW
  by_cases h1 : 1 ≤ rho 1 (iS rho k) + rho 13 (4 * iX rho k + 0)
  · rw [if_pos h1, if_pos h1, fin]
  · rw [if_neg h1, if_neg h1, fin]
theorem run_inv (h : INVX X Y m rho) {k : Nat} (hk : k < iC rho) (h00 : sc rho k = 0) (h0 : rho 37 k = 0 ∨ rho 37 k = 7) (hN : iN rho k + 1 = sc rho (iO rho k)) {q : List Nat} (hq : q = (List.range (iC rho)).filter fun j => decide (iX rho j = iX rho k ∧ (if j = k then (1 : Int32) else rho 37 j) = 0)) : INVX X Y (rnM (sL m 54 (iX rho k) q) rho k) (stR rho k 1 1 (rnW rho k) (rho 42 k)) := by
  have hb := h.rb9
  have hXx := hb.Xi hk
  have hrk := hb.rk9 k hk
  have haw := h.aw9 k hk
  have haq := h.aq9 _ hXx.2
  have hsx : ∀ o n, OE rho o → n < sc rho o → (4 * o + n = sid rho k ↔ o = iO rho k ∧ n = iN rho k) := fun o n ho hn => by
    have := hb.sce ho
    have := (hb.N hk).2
    unfold sid
    omega
  refine st_inv h hk rfl rfl rfl rfl (fun f j f1 f2 f3 f4 f5 f6 => ?_) (fun f j hj hf => ?_) (fun c j hc => ?_) ?_ ?_ (fun _ => ?_) (fun _ => ?_) (fun z => absurd (by decide) z) (fun o n ho hn => ?_) ⟨1, by omega, rfl⟩ (fun _ => hN) (by decide) (by rcases h0 with z | z <;> rw [z] <;> decide) (by decide) (fun _ => h00)
  · unfold rnM
    rw [gI_sI, if_neg f3, gI_sI, if_neg f6, gI_sI, if_neg f1, gI_sI, if_neg f2, gI_sL]
  · unfold rnM
    rcases hf with rfl | rfl | rfl | rfl
    · rw [gI_sI, if_neg (by decide), gI_sI, if_neg (by decide), gI_sI, if_neg (by decide), gI_sI, if_pos rfl, if_neg hj, gI_sL]
    · rw [gI_sI, if_pos rfl, if_neg hj, gI_sI, if_neg (by decide), gI_sI, if_neg (by decide), gI_sI, if_neg (by decide), gI_sL]
    · rfl
    · rfl
  · unfold rnM
    simp only [gL_sI, gL_sL]
    rw [if_neg hc]
  · intro i' hi'
    have hi2 : i' < iI rho := hi'
    have hh := h.aq9 i' hi2
    by_cases hii : i' = iX rho k
    · subst hii
      constructor
      · unfold rnM
        rw [gI_sI, if_neg (by decide), gI_sI, if_neg (by decide), gI_sI, if_pos rfl, if_pos rfl, gI_sL, haq.1]
        have := fl_del (p := fun j => decide (iX rho j = iX rho k ∧ (stR rho k 1 1 (rnW rho k) (rho 42 k) 37 j = 1 ∨ stR rho k 1 1 (rnW rho k) (rho 42 k) 37 j = 2))) (q := fun j => decide (iX rho j = iX rho k ∧ (rho 37 j = 1 ∨ rho 37 j = 2))) (k := k) (by simp [st37]) (by rcases h0 with z | z <;> simp [z]) (fun j hj => by rw [st37, if_neg hj]) (iC rho)
        rw [if_pos hk] at this
        rw [nI_1]
        exact congrArg nI this.symm
      · show gL (sL m 54 (iX rho k) q) 54 (iX rho k) = _
        rw [gL_sL, if_pos rfl, if_pos rfl, hq]
        rfl
    · constructor
      · unfold rnM
        rw [gI_sI, if_neg (by decide), gI_sI, if_neg (by decide), gI_sI, if_pos rfl, if_neg hii, gI_sI, if_neg (by decide), gI_sL, hh.1]
        congr 2
        apply fl_same
        intro j _
        show _ = decide (iX rho j = i' ∧ _)
        by_cases hj : iX rho j = i'
        · have : j ≠ k := fun z => hii (by rw [← hj, z])
          rw [st37, if_neg this]
          rfl
        · simp [hj]
      · show gL (sL m 54 (iX rho k) q) 54 i' = _
        rw [gL_sL, if_pos rfl, if_neg hii, hh.2]
        apply fl_same
        intro j _
        show _ = decide (iX rho j = i' ∧ _)
        by_cases hj : iX rho j = i'
        · have : j ≠ k := fun z => hii (by rw [← hj, z])
          rw [st37, if_neg this]
          rfl
        · simp [hj]
  · unfold rnM
    rw [gI_sI, if_neg (by decide), gI_sI, if_neg (by decide), gI_sI, if_neg (by decide), gI_sI, if_pos rfl, if_pos rfl]
  · unfold rnM
    rw [gI_sI, if_pos rfl, if_pos rfl]
  · show gI m 136 k = 1000000
    exact haw.2.2.2.1 (h0.imp (fun z => by rw [z]; decide) id)
  · have hh := (h.ah9 o n ho hn).2
    unfold rnM
    rw [gI_sI, if_neg (show ¬ (910 : Nat) = 134 by decide), gI_sI, if_pos rfl, gI_sI, if_neg (show ¬ (910 : Nat) = 523 by decide), gI_sI, if_neg (show ¬ (910 : Nat) = 133 by decide), gI_sL]
    by_cases hz : 4 * o + n = sid rho k
    · have hz2 := (hsx o n ho hn).mp hz
      rw [if_pos hz]
      have : (TR rho o n).any (fun q => decide (stR rho k 1 1 (rnW rho k) (rho 42 k) 41 q ≠ 0)) = true := by
        rw [List.any_eq_true]
        exact ⟨k, TR_mem.mpr ⟨hk, hz2.1.symm, hz2.2.symm⟩, by rw [st41, if_pos rfl]; decide⟩
      rw [this, if_pos rfl]
    · rw [if_neg hz, hh]
      have : (TR rho o n).any (fun q => decide (stR rho k 1 1 (rnW rho k) (rho 42 k) 41 q ≠ 0)) = (TR rho o n).any (fun q => decide (rho 41 q ≠ 0)) := by
        have hne : ∀ x, x ∈ TR rho o n → x ≠ k := fun x hx z => hz ((hsx o n ho hn).mpr (by have := TR_mem.mp hx; rw [← z]; exact ⟨this.2.1.symm, this.2.2.symm⟩))
        rw [Bool.eq_iff_iff, List.any_eq_true, List.any_eq_true]
        constructor
        · rintro ⟨x, hx, hx2⟩
          rw [st41, if_neg (hne x hx)] at hx2
          exact ⟨x, hx, hx2⟩
        · rintro ⟨x, hx, hx2⟩
          exact ⟨x, hx, by rw [st41, if_neg (hne x hx)]; exact hx2⟩
      rw [this]
end PS
