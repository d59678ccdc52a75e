/-! what is set: shares, eyes, canaries, traces, faults -/
section QO
variable {m : CM} {rho : RH}
theorem sh_inv (h : INV m rho) {c : Nat} (v : Int32) : INV (sI m 257 c v) (up2 rho 16 c v) := by
  obtain ⟨b1, b2, b3, b4, b5, b6, b7, b8, b9, b10, b11, b12, b13, b14, b15, b16, b17⟩ := h
  refine ⟨b1, b2, b3, b4, fun j hj => ?_, b6, b7, b8, b9, b10, b11, b12, b13, b14, b15, b16, b17⟩
  have hh := b5 j hj
  refine ⟨hh.1, ?_, hh.2.2⟩
  show (if (257 : Nat) = 257 then (if j = c then v else gI m 257 j) else gI m 257 j) = (if (16 : Nat) = 16 then (if j = c then v else rho 16 j) else rho 16 j)
  rw [if_pos rfl, if_pos rfl, hh.2.1]
theorem cmd5 : CMD5 INV pot := by
  intro m rho a1 a2 hI
  have ha := INVX.a09 hI
  by_cases h1 : a1 < 0 ∨ 6 < a1
  · refine ⟨.inr 0, m, 1, 0, up2 rho 64 0 1, ?_, ?_, fun j hj => by cases hj; exact Or.inl rfl, Or.inr ⟨0, rfl, up2_s _ _ _ _, by decide⟩, th_X hI, by omega⟩
    · unfold f8_X8_share
      rw [e8_within, cb_s0, if_pos h1, if_pos rfl]
    · unfold f9_share
      rw [e9_isCaller, ob_s, e9_in, ob_s, if_pos h1, go0, ob_s, if_pos rfl]
  · by_cases h2 : a2 < 0 ∨ 100 < a2
    · refine ⟨.inr 1, m, 1, 0, up2 rho 64 0 2, ?_, ?_, fun j hj => by cases hj; exact Or.inr rfl, Or.inr ⟨1, rfl, up2_s _ _ _ _, by decide⟩, th_X hI, by omega⟩
      · unfold f8_X8_share
        rw [e8_within, cb_s0, if_neg h1, if_neg i10, e8_within, cb_s0, if_pos h2, if_pos rfl]
      · unfold f9_share
        rw [e9_isCaller, ob_s, e9_in, ob_s, if_neg h1, if_pos h2, go10, ob_s, if_pos rfl]
    · obtain ⟨c, hc, rfl⟩ := ca_x h1
      refine ⟨.inl (gI m 257 c), sI m 257 c a2, 0, rho 16 c, up2 (up2 rho 64 0 0) 16 c a2, ?_, ?_, fun j hj => (by cases hj), Or.inl ⟨_, rfl, rfl, ?_⟩, sh_inv (th_X hI) a2, ?_⟩
      · unfold f8_X8_share
        rw [e8_within, cb_s0, if_neg h1, if_neg i10, e8_within, cb_s0, if_neg h2, if_neg i10, ha.2.2.1, od_s, if_pos (vq_nI hc (by omega)), nI_clamp (by omega), ha.2.2.2.2.2.2.2.2.1 c hc, od_s, wr_s]
      · unfold f9_share
        rw [e9_isCaller, ob_s, e9_in, ob_s, if_neg h1, if_neg h2, go1, ob_s, if_neg i10, if_pos (vq_nI hc (by omega)), nI_clamp (by omega), wr_s]
        rfl
      · exact congrArg Int32.toInt64 ((INVX.ac9 hI) c hc).2.1
      · show 0 + pot m ≤ _
        omega
theorem ey_inv (h : INV m rho) (v : Int32) : INV (sI m 1025 0 v) (up2 rho 20 0 v) := by
  obtain ⟨b1, b2, b3, b4, b5, b6, b7, b8, b9, b10, b11, b12, b13, b14, b15, b16, b17⟩ := h
  exact ⟨b1, ⟨b2.1, rfl, b2.2.2⟩, b3, b4, b5, b6, b7, b8, b9, b10, b11, b12, b13, b14, b15, b16, b17⟩
theorem cmd6 : CMD6 INV pot := by
  intro m rho a1 hI
  by_cases h1 : a1 < 1 ∨ 7 < a1
  · refine ⟨.inr 1, m, 1, 0, up2 rho 64 0 1, ?_, ?_, fun j hj => by cases hj; rfl, Or.inr ⟨1, rfl, up2_s _ _ _ _, by decide⟩, th_X hI, by omega⟩
    · unfold f8_X8_eyes
      rw [e8_within, cb_s0, if_pos h1, if_pos rfl]
    · unfold f9_eyes
      rw [e9_in, ob_s, if_pos h1, go0, ob_s, if_pos rfl]
  · refine ⟨.inl (gI m 1025 0), sI m 1025 0 a1, 0, rho 20 0, up2 (up2 rho 64 0 0) 20 0 a1, ?_, ?_, fun j hj => (by cases hj), Or.inl ⟨_, rfl, rfl, ?_⟩, ey_inv (th_X hI) a1, ?_⟩
    · unfold f8_X8_eyes
      rw [e8_within, cb_s0, if_neg h1, if_neg i10, wr_s]
    · unfold f9_eyes
      rw [e9_in, ob_s, if_neg h1, go1, ob_s, if_neg i10, wr_s]
      rfl
    · exact congrArg Int32.toInt64 (INVX.ag9 hI).2.1
    · show 0 + pot m ≤ _
      omega
theorem w1_x {a1 : Int32} {n : Nat} (hn : n ≤ 1000) (h1 : ¬ (a1 < 1 ∨ nI n < a1)) : ∃ x, 1 ≤ x ∧ x ≤ n ∧ a1 = nI x := by
  obtain ⟨x, hx, e⟩ := ix_cases (x := a1) (n := n) (by omega) (fun z => h1 (Or.inl (by
        rw [Int32.lt_iff_toInt_lt] at z ⊢
        have e0 : (0 : Int32).toInt = 0 := by decide
        have e1 : (1 : Int32).toInt = 1 := by decide
        omega))) (fun z => h1 (Or.inr z))
  refine ⟨x, ?_, by omega, e⟩
  apply Nat.pos_of_ne_zero
  intro y
  rw [y] at e
  rw [e] at h1
  exact h1 (Or.inl (by decide))
theorem w0_x {a1 : Int32} {n : Nat} (hn : n ≤ 1000) (h1 : ¬ (a1 < 0 ∨ nI n < a1)) : ∃ x, x ≤ n ∧ a1 = nI x := by
  obtain ⟨x, hx, e⟩ := ix_cases (x := a1) (n := n) (by omega) (fun z => h1 (Or.inl z)) (fun z => h1 (Or.inr z))
  exact ⟨x, by omega, e⟩
theorem tr_inv (h : INV m rho) {x : Nat} (h1 : 1 ≤ x) (h10 : x ≤ 10) (v : Int32) : INV (sI (sI m 1026 0 (nI x)) 1027 0 v) (up2 (up2 rho 29 0 (nI x)) 30 0 v) := by
  obtain ⟨b1, b2, b3, b4, b5, b6, b7, b8, b9, b10, b11, b12, b13, b14, b15, b16, c0, b17⟩ := h
  have e29 : up2 (up2 rho 29 0 (nI x)) 30 0 v 29 0 = nI x := rfl
  refine ⟨b1, ⟨b2.1, b2.2.1, rfl, rfl⟩, b3, b4, b5, b6, b7, b8, b9, b10, b11, b12, b13, b14, b15, b16, ⟨c0.1, c0.2.1, c0.2.2.1, c0.2.2.2.1, c0.2.2.2.2.1, c0.2.2.2.2.2.1, ?_, ?_, c0.2.2.2.2.2.2.2.2⟩, b17⟩
  · rw [e29]
    exact ⟨x, by omega, rfl⟩
  · rw [e29, nv_nI (by omega)]
    omega
def caM (m : CM) (s : Nat) (v : Int32) : CM := sA (sA (sA (sA (sI (sI m 384 s v) 385 s 0) 35 s 0 0) 36 s 0 0) 35 s 1 0) 36 s 1 0
def caR (rho : RH) (s : Nat) (v : Int32) : RH := up2 (up2 (up2 (up2 (up2 (up2 rho 25 s v) 26 s 0) 27 (2 * s) 0) 28 (2 * s) 0) 27 (2 * s + 1) 0) 28 (2 * s + 1) 0
theorem ca_inv (h : INV m rho) {s x : Nat} (hs : s < 6) (hx : x ≤ 100) : INV (caM m s (nI x)) (caR rho s (nI x)) := by
  obtain ⟨b1, b2, b3, b4, b5, b6, b7, b8, b9, b10, b11, b12, b13, b14, b15, b16, c0, cs, b17⟩ := h
  have e25 : ∀ j, caR rho s (nI x) 25 j = if j = s then nI x else rho 25 j := fun j => rfl
  refine ⟨b1, b2, b3, fun j hj => ?_, b5, b6, b7, b8, b9, b10, b11, b12, b13, b14, b15, b16, c0, fun j hj => ?_, b17⟩
  · have hh := b4 j hj
    have e384 : gI (caM m s (nI x)) 384 j = if j = s then nI x else gI m 384 j := rfl
    have e385 : gI (caM m s (nI x)) 385 j = if j = s then 0 else gI m 385 j := rfl
    have e26 : caR rho s (nI x) 26 j = if j = s then 0 else rho 26 j := rfl
    refine ⟨hh.1, hh.2.1, ?_, ?_, fun v hv => ?_, hh.2.2.2.2.2⟩
    · rw [e384, e25, hh.2.2.1]
    · rw [e385, e26, hh.2.2.2.1]
    · have hq := hh.2.2.2.2.1 v hv
      have e35 : gA (caM m s (nI x)) 35 j v = if j = s then (if v = 1 then 0 else if j = s then (if v = 0 then 0 else gA m 35 j v) else gA m 35 j v) else if j = s then (if v = 0 then 0 else gA m 35 j v) else gA m 35 j v := rfl
      have e36 : gA (caM m s (nI x)) 36 j v = if j = s then (if v = 1 then 0 else if j = s then (if v = 0 then 0 else gA m 36 j v) else gA m 36 j v) else if j = s then (if v = 0 then 0 else gA m 36 j v) else gA m 36 j v := rfl
      have e27 : ∀ i, caR rho s (nI x) 27 i = if i = 2 * s + 1 then 0 else if i = 2 * s then 0 else rho 27 i := fun i => rfl
      have e28 : ∀ i, caR rho s (nI x) 28 i = if i = 2 * s + 1 then 0 else if i = 2 * s then 0 else rho 28 i := fun i => rfl
      rw [e35, e36, e27, e28]
      by_cases z : j = s
      · subst z
        have : v = 0 ∨ v = 1 := by omega
        rcases this with rfl | rfl
        · constructor <;> simp
        · constructor <;> simp
      · rw [if_neg z, if_neg z, if_neg z, if_neg z, if_neg (by omega), if_neg (by omega), if_neg (by omega), if_neg (by omega)]
        exact hq
  · have hh := cs j hj
    refine ⟨hh.1, ?_, hh.2.2⟩
    rw [e25]
    split
    · exact ⟨x, by omega, rfl⟩
    · exact hh.2.1
theorem cmd7 : CMD7 INV pot := by
  intro m rho a1 a2 hI
  have ha := INVX.a09 hI
  have hF : FU = 997 + 1 + 1 + 1 := rfl
  by_cases h1 : a1 < 0 ∨ 5 < a1
  · refine ⟨.inr 0, m, 1, 0, up2 rho 64 0 1, ?_, ?_, fun j hj => by cases hj; exact Or.inl rfl, Or.inr ⟨0, rfl, up2_s _ _ _ _, by decide⟩, th_X hI, by omega⟩
    · unfold f8_X8_canary
      rw [e8_within, cb_s0, if_pos h1, if_pos rfl]
    · unfold f9_canary
      rw [e9_isService, ob_s, e9_in, ob_s, if_pos h1, go0, ob_s, if_pos rfl]
  · by_cases h2 : a2 < 0 ∨ 100 < a2
    · refine ⟨.inr 1, m, 1, 0, up2 rho 64 0 2, ?_, ?_, fun j hj => by cases hj; exact Or.inr rfl, Or.inr ⟨1, rfl, up2_s _ _ _ _, by decide⟩, th_X hI, by omega⟩
      · unfold f8_X8_canary
        rw [e8_within, cb_s0, if_neg h1, if_neg i10, e8_within, cb_s0, if_pos h2, if_pos rfl]
      · unfold f9_canary
        rw [e9_isService, ob_s, e9_in, ob_s, if_neg h1, if_pos h2, go10, ob_s, if_pos rfl]
    · obtain ⟨s, hs, rfl⟩ := sv_x h1
      obtain ⟨x, hx, rfl⟩ := w0_x (n := 100) (by omega) (fun z => h2 (z.imp id (fun y => by rw [l100]; exact y)))
      have hz := ha.2.2.2.2.2.2.2.2.2 s hs
      have qs := vq_nI (k := s) (n := 6) hs (by omega)
      have cs := nI_clamp (n := s) (by omega)
      have e2 : (2 : Int32) * nI s = nI (2 * s) := by rw [l2, pk_mul]
      have e22 : (2 : Int32) * nI s + 2 = nI (2 * s + 2) := by rw [e2, l2, nI_add]
      refine ⟨.inl (gI m 384 s), caM m s (nI x), 0, rho 25 s, caR (up2 rho 64 0 0) s (nI x), ?_, ?_, fun j hj => (by cases hj), Or.inl ⟨_, rfl, rfl, ?_⟩, ca_inv (th_X hI) hs hx, ?_⟩
      · have hr : f8_X3_restart s (nI x) m = some (0, caM m s (nI x), 0) := by
          have r1 : ∀ v, gR (sI (sI m 384 s v) 385 s 0) 386 s = some s := fun v => hz.2.2.2.2.2.1
          have r2 : ∀ v, gR (sA (sI (sI m 384 s v) 385 s 0) 35 s 0 0) 387 s = some s := fun v => hz.2.2.2.2.2.2
          have r3 : ∀ v, gR (sA (sA (sI (sI m 384 s v) 385 s 0) 35 s 0 0) 36 s 0 0) 386 s = some s := fun v => hz.2.2.2.2.2.1
          have r4 : ∀ v, gR (sA (sA (sA (sI (sI m 384 s v) 385 s 0) 35 s 0 0) 36 s 0 0) 35 s 1 0) 387 s = some s := fun v => hz.2.2.2.2.2.2
          unfold f8_X3_restart
          rw [wr_s, wr_s, hF, l0, l8_X3_restart_12, if_neg (by decide), ← l0, r1, od_s, if_pos (by decide), wr_s, show (0 : Int32).toNatClampNeg = 0 from rfl, r2, od_s, wr_s]
          rw [show (0 : Int32) + 1 = 1 from rfl, l8_X3_restart_12, if_neg (by decide), r3, od_s, if_pos (by decide), wr_s, show (1 : Int32).toNatClampNeg = 1 from rfl, r4, od_s, wr_s]
          rw [show (1 : Int32) + 1 = 2 from rfl, l8_X3_restart_12, if_pos (by decide)]
          rfl
        unfold f8_X8_canary
        rw [e8_within, cb_s0, if_neg h1, if_neg i10, e8_within, cb_s0, if_neg h2, if_neg i10, ha.2.1, od_s, if_pos qs, cs, hz.1, od_s, hz.2.2.2.2.1, od_s, hr, cb_s0]
      · unfold f9_canary
        rw [e9_isService, ob_s, e9_in, ob_s, if_neg h1, if_neg h2, go1, ob_s, if_neg i10, if_pos qs, wr_s, wr_s, cs, e2, hF]
        rw [l9_canary_47, e22, if_neg (cle (by omega) (by omega)), if_pos (vq_nI (by omega) (by omega)), wr_s, wr_s, nI_clamp (by omega), nI_1]
        rw [l9_canary_47, e22, if_neg (cle (by omega) (by omega)), if_pos (vq_nI (by omega) (by omega)), wr_s, wr_s, nI_clamp (by omega), nI_1]
        rw [l9_canary_47, e22, if_pos (nI_le (by omega) (by omega))]
        rfl
      · exact congrArg Int32.toInt64 (((INVX.as9 hI) s hs).2.2.1)
      · show 0 + pot m ≤ _
        omega
/-! faults -/
theorem fa_inv (h : INV m rho) {i w : Nat} {v : Int32} (hi : i < iI rho) (hw : w < 4) (hv : 1 ≤ w → Ix v 2) : INV (sA m 30 i w v) (up2 rho 13 (4 * i + w) v) := by
  have e13 : ∀ j, up2 rho 13 (4 * i + w) v 13 j = if j = 4 * i + w then v else rho 13 j := fun j => rfl
  have e30 : ∀ j w', gA (sA m 30 i w v) 30 j w' = if j = i then (if w' = w then v else gA m 30 j w') else gA m 30 j w' := fun j w' => by
    rw [gA_sA, if_pos rfl]
  obtain ⟨b1, b2, b3, b4, b5, b6, b7, b8, b9, b10, b11, b12, b13, b14, b15, b16, c0, cs, ci, cp, cr, cq, ck, cw, cz⟩ := h
  refine ⟨b1, b2, b3, b4, b5, fun j hj => ?_, b7, b8, b9, b10, b11, b12, b13, b14, b15, b16, c0, cs, fun j hj => ?_, cp, cr, cq, ck, cw, cz.1, cz.2.1, fun j j1 j2 => ?_⟩
  · have hh := b6 j hj
    refine ⟨hh.1, hh.2.1, hh.2.2.1, hh.2.2.2.1, hh.2.2.2.2.1, hh.2.2.2.2.2.1, hh.2.2.2.2.2.2.1, hh.2.2.2.2.2.2.2.1, hh.2.2.2.2.2.2.2.2.1, hh.2.2.2.2.2.2.2.2.2.1, hh.2.2.2.2.2.2.2.2.2.2.1, hh.2.2.2.2.2.2.2.2.2.2.2.1, fun w' hw' => ?_, hh.2.2.2.2.2.2.2.2.2.2.2.2.2⟩
    rw [e13, e30, hh.2.2.2.2.2.2.2.2.2.2.2.2.1 w' hw']
    by_cases z : j = i
    · rw [if_pos z]
      by_cases y : w' = w
      · rw [if_pos y, if_pos (by omega)]
      · rw [if_neg y, if_neg (by omega)]
    · rw [if_neg z, if_neg (by omega)]
  · have hh := ci j hj
    refine ⟨hh.1, hh.2.1, hh.2.2.1, hh.2.2.2.1, hh.2.2.2.2.1, hh.2.2.2.2.2.1, hh.2.2.2.2.2.2.1, hh.2.2.2.2.2.2.2.1, fun w' h1 h4 => ?_, hh.2.2.2.2.2.2.2.2.2⟩
    rw [e13]
    by_cases z : 4 * j + w' = 4 * i + w
    · rw [if_pos z]
      exact hv (by omega)
    · rw [if_neg z]
      exact hh.2.2.2.2.2.2.2.2.1 w' h1 h4
  · have hh := cz.2.2 j j1 j2
    have hj1 : iI rho ≤ j := j1
    refine ⟨fun w' hw' => ?_, hh.2⟩
    rw [e13, if_neg (by omega)]
    exact hh.1 w' hw'
theorem cmd3 : CMD3 INV pot := by
  intro m rho a1 a2 a3 hI
  have ha := INVX.a09 hI
  have hb := INVX.rb9 hI
  have hI0 := hb.I
  by_cases h1 : a1 < 0 ∨ nI (iI rho) - 1 < a1
  · refine ⟨.inr 0, m, 1, 0, up2 rho 64 0 1, ?_, ?_, fun j hj => by cases hj; exact Or.inl rfl, Or.inr ⟨0, rfl, up2_s _ _ _ _, by decide⟩, th_X hI, by omega⟩
    · unfold f8_X8_fault
      rw [ha.2.2.2.1, od_s, INV.len50 hI, e8_within, cb_s0, if_pos h1, if_pos rfl]
    · unfold f9_fault
      rw [e9_isInstance, ob_s, e9_in, ob_s, hI0.1, if_pos h1, go0, ob_s, if_pos rfl, e9_in, ob_s, go0, ob_s, if_pos rfl, go0, ob_s, if_pos rfl, e9_in, ob_s, ite_self, go0, ob_s, if_pos rfl, go0, ob_s, if_pos rfl, ite_self, ite_self, ite_self]
  · obtain ⟨i, hi, rfl⟩ := in_x hb h1
    have hai := INVX.ai9 hI i hi
    have ci := nI_clamp (n := i) (by omega)
    by_cases h2 : a2 < 0 ∨ 3 < a2
    · refine ⟨.inr 1, m, 1, 0, up2 rho 64 0 2, ?_, ?_, fun j hj => by cases hj; exact Or.inr rfl, Or.inr ⟨1, rfl, up2_s _ _ _ _, by decide⟩, th_X hI, by omega⟩
      · unfold f8_X8_fault
        rw [ha.2.2.2.1, od_s, INV.len50 hI, e8_within, cb_s0, if_neg h1, if_neg i10, e8_within, cb_s0, if_pos h2, if_pos rfl]
      · unfold f9_fault
        rw [e9_isInstance, ob_s, e9_in, ob_s, hI0.1, if_neg h1, if_pos h2, if_pos rfl, go10, ob_s, if_pos rfl]
    · obtain ⟨w, hw, rfl⟩ := w0_x (n := 3) (by omega) (fun z => h2 (z.imp id (fun y => by rw [l3]; exact y)))
      have qw := vq_nI (k := w) (n := 4) (by omega) (by omega)
      have cw := nI_clamp (n := w) (by omega)
      have e4 : (4 : Int32) * nI i + nI w = nI (4 * i + w) := by rw [l4, pk_mul, nI_add]
      have q48 := vq_nI (k := 4 * i + w) (n := 48) (by omega) (by omega)
      have c48 := nI_clamp (n := 4 * i + w) (by omega)
      have w0 : nI w = 0 ↔ w = 0 := by rw [l0]; exact nI_eq (by omega) (by omega)
      have e13 : gA m 30 i w = rho 13 (4 * i + w) := hai.2.2.2.2.2.2.2.2.2.2.2.2.1 w (by omega)
      have hok : ∀ (hv : 1 ≤ w → Ix a3 2), ∃ (r : Int32 ⊕ Nat) (m9 : CM) (n9 : Nat) (b : Int32) (rho9 : RH), (wr (sA m 30 i w a3) fun m33 => (some (.inl (gA m 30 i w), m33, 0) : CR (Int32 ⊕ Nat))) = some (r, m9, n9) ∧ (wr (up2 (up2 rho 64 0 0) 13 (4 * i + w) a3) fun rho25 => some (up2 rho 64 0 0 13 (4 * i + w), rho25)) = some (b, rho9) ∧ (∀ j, r = .inr j → j = 0 ∨ j = 1) ∧ AG r (fun x => x.toInt64) (fun j => if j = 0 then 1 else 2) b.toInt64 (rho9 64 0) ∧ INV m9 rho9 ∧ n9 + pot m9 ≤ pot m + 2 := fun hv => by
        refine ⟨.inl (gA m 30 i w), sA m 30 i w a3, 0, rho 13 (4 * i + w), up2 (up2 rho 64 0 0) 13 (4 * i + w) a3, by rw [wr_s], by rw [wr_s]; rfl, fun j hj => (by cases hj), Or.inl ⟨_, rfl, rfl, congrArg Int32.toInt64 e13⟩, fa_inv (th_X hI) hi (by omega) hv, ?_⟩
        show 0 + pot m ≤ _
        omega
      unfold f8_X8_fault f9_fault
      rw [ha.2.2.2.1, od_s, INV.len50 hI, e8_within, cb_s0, if_neg h1, if_neg i10, e8_within, cb_s0, if_neg h2, if_neg i10, e9_isInstance, ob_s, e9_in, ob_s, hI0.1, if_neg h1, if_neg h2, if_neg i10]
      by_cases hw0 : w = 0
      · rw [if_pos (w0.mpr hw0), if_pos (w0.mpr hw0), e8_within, cb_s0, e9_in, ob_s]
        by_cases h3 : a3 < 0 ∨ 50 < a3
        · rw [if_pos h3, if_pos rfl, if_pos rfl, go10, ob_s, if_pos rfl]
          exact ⟨.inr 1, m, 1, 0, up2 rho 64 0 2, rfl, rfl, fun j hj => by cases hj; exact Or.inr rfl, Or.inr ⟨1, rfl, up2_s _ _ _ _, by decide⟩, th_X hI, by omega⟩
        · rw [if_neg h3, if_neg i10, if_neg i10, go1, ob_s, if_neg i10, ha.2.2.2.1, od_s, if_pos (nI_pos (by omega)), ci, INV.at50 hI hi, od_s, hai.1, od_s, if_pos qw, cw, e4, if_pos q48, c48]
          exact hok (fun z => by omega)
      · rw [if_neg (fun y => hw0 (w0.mp y)), if_neg (fun y => hw0 (w0.mp y)), e8_within, cb_s0, e9_in, ob_s]
        by_cases h3 : a3 < 0 ∨ 1 < a3
        · rw [if_pos h3, if_pos rfl, if_pos rfl, go10, ob_s, if_pos rfl]
          exact ⟨.inr 1, m, 1, 0, up2 rho 64 0 2, rfl, rfl, fun j hj => by cases hj; exact Or.inr rfl, Or.inr ⟨1, rfl, up2_s _ _ _ _, by decide⟩, th_X hI, by omega⟩
        · rw [if_neg h3, if_neg i10, if_neg i10, go1, ob_s, if_neg i10, ha.2.2.2.1, od_s, if_pos (nI_pos (by omega)), ci, INV.at50 hI hi, od_s, hai.1, od_s, if_pos qw, cw, e4, if_pos q48, c48]
          obtain ⟨x, hx, e⟩ := w0_x (n := 1) (by omega) (fun z => h3 (z.imp id (fun y => by rw [l1]; exact y)))
          exact hok (fun z => ⟨x, by omega, e⟩)
end QO
