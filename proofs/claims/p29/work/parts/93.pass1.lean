/-! a tick: breakers, calls whose deadline has come, work that is done -/
section QG
variable {X Y : Nat → Prop} {m : CM} {rho : RH}
theorem tick_inv (h : INVX X Y m rho) (hT : nv (rho 0 0) + 1 ≤ 600) : INVX X Y (sI m 1024 0 (gI m 1024 0 + 1)) (up2 rho 0 0 (rho 0 0 + 1)) := by
  have hT0 := h.rb9.T
  have e0 : rho 0 0 + 1 = nI (nv (rho 0 0) + 1) := by
    conv => lhs; rw [hT0.1]
    rw [nI_1]
  have e1 : up2 rho 0 0 (rho 0 0 + 1) 0 0 = nI (nv (rho 0 0) + 1) := by rw [up2_s, e0]
  obtain ⟨b1, b2, b3, b4, b5, b6, b7, b8, b9, b10, b11, b12, b13, b14, b15, b16, c0, cs, ci, cp, cr, cq, ck, cw, cz⟩ := h
  refine ⟨b1, ⟨?_, b2.2⟩, b3, b4, b5, b6, b7, b8, b9, b10, fun k hk => ?_, b12, b13, b14, b15, b16, ⟨?_, c0.2⟩, cs, ci, cp, cr, cq, ck, cw, cz⟩
  · rw [gI_sI, if_pos rfl, if_pos rfl, up2_s, b2.1]
  · have hh := b11 k hk
    refine ⟨hh.1, hh.2.1, hh.2.2.1, hh.2.2.2.1, fun z1 z2 => ⟨fun z3 => ?_, (hh.2.2.2.2 z1 z2).2⟩⟩
    obtain ⟨y1, t, y2, y3⟩ := (hh.2.2.2.2 z1 z2).1 z3
    refine ⟨y1, t, ?_, y3⟩
    rw [e1, nv_nI (by omega)]
    omega
  · rw [e1]
    exact ⟨_, by omega, rfl⟩
def hoV (rho : RH) (j : Nat) : Int32 := if rho 21 j = 1 ∧ ¬ rho 0 0 - rho 23 j < 10 then 2 else rho 21 j
def hoP (rho : RH) (n : Nat) : RH := fun F j => if F = 21 ∧ j < n then hoV rho j else rho F j
theorem ho_succ (rho : RH) (n : Nat) : up2 (hoP rho n) 21 n (hoV rho n) = hoP rho (n + 1) := by
  funext F j
  by_cases h1 : F = 21
  · subst h1
    by_cases h2 : j = n
    · subst h2
      rw [up2_s]
      unfold hoP
      rw [if_pos ⟨rfl, by omega⟩]
    · rw [up2_i _ _ _ _ h2]
      unfold hoP
      by_cases h3 : j < n
      · rw [if_pos ⟨rfl, h3⟩, if_pos ⟨rfl, by omega⟩]
      · rw [if_neg (fun z => h3 z.2), if_neg (fun z => by omega)]
  · rw [up2_f _ _ _ _ h1]
    unfold hoP
    rw [if_neg (fun z => h1 z.1), if_neg (fun z => h1 z.1)]
theorem e9_ho : ∀ (d n q : Nat), n + d = 84 → d < q → l9_passes_12 q (nI n) (hoP rho n) = l9_passes_68 FU 0 (hoP rho 84) := by
  intro d
  induction d with
  | zero =>
    intro n q hn hq
    obtain ⟨q, rfl⟩ : ∃ q', q = q' + 1 := ⟨q - 1, by omega⟩
    have : n = 84 := by omega
    subst this
    rw [l9_passes_12, if_pos (by decide)]
  | succ d ih =>
    intro n q hn hq
    obtain ⟨q, rfl⟩ : ∃ q', q = q' + 1 := ⟨q - 1, by omega⟩
    have e21 : hoP rho n 21 n = rho 21 n := by unfold hoP; rw [if_neg (by omega)]
    have e0 : hoP rho n 0 0 = rho 0 0 := rfl
    have e23 : hoP rho n 23 n = rho 23 n := rfl
    have hs := ho_succ rho n
    have q84 := vq_nI (k := n) (n := 84) (by omega) (by omega)
    have c84 := nI_clamp (n := n) (by omega)
    have h84 : ¬ (84 : Int32) ≤ nI n := cle (b := 84) (by omega) (by omega)
    rw [l9_passes_12, if_neg h84, if_pos q84, c84, e21, e0, e23, nI_1]
    unfold hoV at hs
    by_cases h1 : rho 21 n = 1
    · by_cases h2 : rho 0 0 - rho 23 n < 10
      · rw [if_neg (fun z => z.2 h2)] at hs
        rw [if_pos h1, if_pos h2, wr_s, hs]
        exact ih (n + 1) q (by omega) (by omega)
      · rw [if_pos ⟨h1, h2⟩] at hs
        rw [if_pos h1, if_neg h2, wr_s, hs]
        exact ih (n + 1) q (by omega) (by omega)
    · rw [if_neg (fun z => h1 z.1)] at hs
      rw [if_neg h1, wr_s, hs]
      exact ih (n + 1) q (by omega) (by omega)
def hoW (m : CM) (rho : RH) (j : Nat) : Int32 := if gI m 0 j = 1 ∧ ¬ rho 0 0 - gI m 2 j < 10 then 2 else gI m 0 j
def hoM (m : CM) (rho : RH) (n : Nat) : CM := (m.1, m.2.1, fun f j => if f = 0 ∧ j < n then hoW m rho j else gI m f j, m.2.2.2)
theorem hoM_I (m : CM) (rho : RH) (n f j : Nat) : gI (hoM m rho n) f j = if f = 0 ∧ j < n then hoW m rho j else gI m f j := rfl
theorem hoM_0 (m : CM) (rho : RH) : hoM m rho 0 = m := by
  refine cm_ext rfl rfl (fun f j => ?_) rfl
  rw [hoM_I, if_neg (by omega)]
theorem e8_rest (h : INVX X Y m rho) (b : Nat) : f8_X0_rest b (rho 0 0) (hoM m rho b) = some (0, hoM m rho (b + 1), 0) := by
  have e1 : gI (hoM m rho b) 0 b = gI m 0 b := by rw [hoM_I, if_neg (by omega)]
  have e2 : gI (hoM m rho b) 2 b = gI m 2 b := by rw [hoM_I, if_neg (by omega)]
  have hs : ∀ M : CM, M.1 = m.1 → M.2.1 = m.2.1 → M.2.2.2 = m.2.2.2 → (∀ f j, gI M f j = if f = 0 ∧ j = b then hoW m rho b else gI (hoM m rho b) f j) → M = hoM m rho (b + 1) := fun M h1 h2 h3 h4 => by
    refine cm_ext h1 h2 (fun f j => ?_) h3
    rw [h4, hoM_I, hoM_I]
    by_cases hf : f = 0
    · by_cases hj : j = b
      · subst hj
        rw [if_pos ⟨hf, rfl⟩, if_pos ⟨hf, by omega⟩]
      · rw [if_neg (fun z => hj z.2)]
        by_cases hl : j < b
        · rw [if_pos ⟨hf, hl⟩, if_pos ⟨hf, by omega⟩]
        · rw [if_neg (fun z => hl z.2), if_neg (fun z => by omega)]
    · rw [if_neg (fun z => hf z.1), if_neg (fun z => hf z.1), if_neg (fun z => hf z.1)]
  unfold f8_X0_rest
  rw [e1, e2]
  have hid : (¬ (gI m 0 b = 1 ∧ ¬ rho 0 0 - gI m 2 b < 10)) → hoM m rho b = hoM m rho (b + 1) := fun hn => hs _ rfl rfl rfl (fun f j => by
    by_cases hz : f = 0 ∧ j = b
    · rw [if_pos hz, hz.1, hz.2, e1]
      unfold hoW
      rw [if_neg hn]
    · rw [if_neg hz])
  by_cases h1 : gI m 0 b = 1
  · by_cases h2 : rho 0 0 - gI m 2 b < 10
    · rw [if_pos h1, if_pos h2, hid (fun z => z.2 h2)]
    · rw [if_pos h1, if_neg h2, wr_s]
      rw [hs (sI (hoM m rho b) 0 b 2) rfl rfl rfl (fun f j => by
        rw [gI_sI]
        by_cases hz : f = 0 ∧ j = b
        · rw [if_pos hz.1, if_pos hz.2, if_pos hz]
          unfold hoW
          rw [if_pos ⟨h1, h2⟩]
        · rw [if_neg hz]
          by_cases hf : f = 0
          · rw [if_pos hf, if_neg (fun z => hz ⟨hf, z⟩)]
          · rw [if_neg hf])]
  · rw [if_neg h1, hid (fun z => h1 z.1)]
theorem e8_ho (h : INVX X Y m rho) : f8_X8_halfOpenBreakers 0 m = some (0, hoM m rho (7 * iI rho), 0) := by
  have hb := h.rb9
  have hI := hb.I
  have hF : FU = 1000 := rfl
  have inner : ∀ (K : Nat → Int32 → CM → CR Int32) (x1 : Int32) (i : Nat), i < iI rho → ∀ (d c q : Nat), c + d = 7 → d < q → l8_X8_halfOpenBreakers_30 K q 0 x1 i (nI c) (hoM m rho (7 * i + c)) = K 0 (x1 + 1) (hoM m rho (7 * i + 7)) := fun K x1 i hi => by
    have hai := (h.ai9 i hi).2.2.2.2.2.2.2.2.2.2.2.2.2
    intro d
    induction d with
    | zero =>
      intro c q hc hq
      obtain ⟨q, rfl⟩ : ∃ q', q = q' + 1 := ⟨q - 1, by omega⟩
      have : c = 7 := by omega
      subst this
      rw [l8_X8_halfOpenBreakers_30, if_pos y7]
    | succ d ih =>
      intro c q hc hq
      obtain ⟨q, rfl⟩ : ∃ q', q = q' + 1 := ⟨q - 1, by omega⟩
      have e43 : gO (hoM m rho (7 * i + c)) 43 i c = some (7 * i + c) := (hai c (by omega)).1
      have e1024 : gI (hoM m rho (7 * i + c)) 1024 0 = rho 0 0 := h.now
      rw [l8_X8_halfOpenBreakers_30, if_neg (n7 (by omega)), if_pos (vq_nI (by omega) (by omega)), nI_clamp (by omega), e43, od_s, e1024, e8_rest h, cb_s0, nI_1]
      exact ih (c + 1) q (by omega) (by omega)
  have outer : ∀ (d i q : Nat), i + d = iI rho → d < q → l8_X8_halfOpenBreakers_2 q 0 (nI i) (hoM m rho (7 * i)) = some (0, hoM m rho (7 * iI rho), 0) := by
    intro d
    induction d with
    | zero =>
      intro i q hi hq
      obtain ⟨q, rfl⟩ : ∃ q', q = q' + 1 := ⟨q - 1, by omega⟩
      have hia : i = iI rho := by omega
      subst hia
      have e1 : gR (hoM m rho (7 * iI rho)) 1031 0 = some 0 := h.a09.2.2.2.1
      have e2 : gL (hoM m rho (7 * iI rho)) 50 0 = List.range (iI rho) := h.al9.1
      rw [l8_X8_halfOpenBreakers_2, e1, od_s, e2, List.length_range, if_pos (nI_le (Nat.le_refl _) (by omega))]
    | succ d ih =>
      intro i q hi hq
      obtain ⟨q, rfl⟩ : ∃ q', q = q' + 1 := ⟨q - 1, by omega⟩
      have e1 : gR (hoM m rho (7 * i)) 1031 0 = some 0 := h.a09.2.2.2.1
      have e2 : gL (hoM m rho (7 * i)) 50 0 = List.range (iI rho) := h.al9.1
      have e3 : gR (hoM m rho (7 * i)) 520 i = some i := (h.ai9 i (by omega)).2.1
      rw [l8_X8_halfOpenBreakers_2, e1, od_s, e2, List.length_range, if_neg (cle (by omega) (by omega)), if_pos (nI_pos (by omega)), nI_clamp (by omega), rg_lt (show i < iI rho by omega), od_s, e3, od_s]
      have := inner (l8_X8_halfOpenBreakers_2 q) (nI i) i (by omega) 7 0 FU (by omega) (by omega)
      refine this.trans ?_
      rw [nI_1]
      exact ih (i + 1) q (by omega) (by omega)
  have := outer (iI rho) 0 FU (by omega) (by omega)
  rw [show 7 * 0 = 0 from rfl, hoM_0] at this
  exact this
theorem ho_inv (h : INVX X Y m rho) : INVX X Y (hoM m rho (7 * iI rho)) (hoP rho 84) := by
  have hI := h.rb9.I
  obtain ⟨b1, b2, b3, b4, b5, b6, b7, b8, b9, b10, b11, b12, b13, b14, b15, b16, c0, cs, ci, cp, cr, cq, ck, cw, cz⟩ := h
  have f21 : ∀ j, hoP rho 84 21 j = if j < 84 then hoV rho j else rho 21 j := fun j => by
    unfold hoP
    by_cases z : j < 84
    · rw [if_pos ⟨rfl, z⟩, if_pos z]
    · rw [if_neg (fun y => z y.2), if_neg z]
  refine ⟨b1, b2, b3, b4, b5, fun i hi => ?_, b7, b8, b9, b10, b11, b12, b13, b14, b15, b16, c0, cs, fun i hi => ?_, cp, cr, cq, ck, cw, cz.1, cz.2.1, fun i i1 i2 => ?_⟩
  · have hi2 : i < iI rho := hi
    have hh := b6 i hi2
    refine ⟨hh.1, hh.2.1, hh.2.2.1, hh.2.2.2.1, hh.2.2.2.2.1, hh.2.2.2.2.2.1, hh.2.2.2.2.2.2.1, hh.2.2.2.2.2.2.2.1, hh.2.2.2.2.2.2.2.2.1, hh.2.2.2.2.2.2.2.2.2.1, hh.2.2.2.2.2.2.2.2.2.2.1, hh.2.2.2.2.2.2.2.2.2.2.2.1, hh.2.2.2.2.2.2.2.2.2.2.2.2.1, fun c hc => ?_⟩
    have hq := hh.2.2.2.2.2.2.2.2.2.2.2.2.2 c hc
    refine ⟨hq.1, hq.2.1, ?_, hq.2.2.2.1, hq.2.2.2.2⟩
    rw [hoM_I, if_pos (show (0 : Nat) = 0 ∧ 7 * i + c < 7 * iI rho from ⟨rfl, by omega⟩), f21, if_pos (show 12 * c + i < 84 by omega)]
    unfold hoW hoV
    rw [hq.2.2.1, hq.2.2.2.2]
  · have hi2 : i < iI rho := hi
    have hh := ci i hi2
    refine ⟨hh.1, hh.2.1, hh.2.2.1, hh.2.2.2.1, hh.2.2.2.2.1, hh.2.2.2.2.2.1, hh.2.2.2.2.2.2.1, hh.2.2.2.2.2.2.2.1, hh.2.2.2.2.2.2.2.2.1, fun c hc => ⟨?_, (hh.2.2.2.2.2.2.2.2.2 c hc).2⟩⟩
    rw [f21, if_pos (show 12 * c + i < 84 by omega)]
    unfold hoV
    split
    · exact ⟨2, by omega, rfl⟩
    · exact (hh.2.2.2.2.2.2.2.2.2 c hc).1
  · have hh := cz.2.2 i i1 i2
    refine ⟨hh.1, hh.2.1, fun c hc => ⟨?_, (hh.2.2 c hc).2⟩⟩
    rw [f21, if_pos (show 12 * c + i < 84 by omega)]
    unfold hoV
    rw [if_neg (fun z => by rw [(hh.2.2 c hc).1] at z; exact absurd z.1 (by decide))]
    exact (hh.2.2 c hc).1
abbrev N0 : Nat → Prop := fun _ => False
/-- calls whose deadline has come -/
theorem late_loop : ∀ (d j : Nat) (m : CM) (rho : RH) (n8 n9 : Nat), j + d = iC rho → INV m rho → d < n8 → d < n9 → ∃ m' g rho', l8_X8_endLateCalls_2 n8 0 (nI j) m = some (0, m', g) ∧ l9_passes_68 n9 (nI j) rho = l9_passes_111 FU 0 rho' ∧ INV m' rho' ∧ g + pot m' ≤ pot m ∧ FrC rho rho' ∧ iC rho' = iC rho := by
  intro d
  induction d with
  | zero =>
    intro j m rho n8 n9 hj h h8 h9
    obtain ⟨n8, rfl⟩ : ∃ n', n8 = n' + 1 := ⟨n8 - 1, by omega⟩
    obtain ⟨n9, rfl⟩ : ∃ n', n9 = n' + 1 := ⟨n9 - 1, by omega⟩
    have hC := h.rb9.C
    refine ⟨m, 0, rho, ?_, ?_, h, by omega, FrC.rf rho, rfl⟩
    · rw [l8_X8_endLateCalls_2, h.a09.2.2.2.2.2.1, od_s, h.al9.2.2.1, List.length_range, if_pos (nI_le (by omega) (by omega))]
    · rw [l9_passes_68, hC.1, if_pos (nI_le (by omega) (by omega))]
  | succ d ih =>
    intro j m rho n8 n9 hj h h8 h9
    obtain ⟨n8, rfl⟩ : ∃ n', n8 = n' + 1 := ⟨n8 - 1, by omega⟩
    obtain ⟨n9, rfl⟩ : ∃ n', n9 = n' + 1 := ⟨n9 - 1, by omega⟩
    have hb := h.rb9
    have hC := hb.C
    have hjC : j < iC rho := by omega
    have hak := h.ak9 j hjC
    have e8 : l8_X8_endLateCalls_2 (n8 + 1) 0 (nI j) m = if rho 37 j ≤ 2 then (if rho 0 0 < rho 38 j then l8_X8_endLateCalls_2 n8 0 (nI (j + 1)) m else cb (f8_X8_end 8 0 j 5 0 m) fun _ m16 => l8_X8_endLateCalls_2 n8 0 (nI (j + 1)) m16) else l8_X8_endLateCalls_2 n8 0 (nI (j + 1)) m := by
      rw [l8_X8_endLateCalls_2, h.a09.2.2.2.2.2.1, od_s, h.al9.2.2.1, List.length_range, if_neg (cle (by omega) hjC), if_pos (nI_pos (by omega)), nI_clamp (by omega), rg_lt hjC, od_s, e8_hasEnded h hjC, cb_s0, h.now, hak.2.2.2.1, nI_1]
      by_cases z : rho 37 j ≤ 2
      · rw [if_pos z, if_pos z, if_pos rfl]
      · rw [if_neg z, if_neg z, if_neg (by decide)]
    have e9 : l9_passes_68 (n9 + 1) (nI j) rho = if rho 37 j ≤ 2 then (if rho 0 0 < rho 38 j then l9_passes_68 n9 (nI (j + 1)) rho else ob (f9_endsCall (nI j) 5 rho) fun _ rho9 => l9_passes_68 n9 (nI (j + 1)) rho9) else l9_passes_68 n9 (nI (j + 1)) rho := by
      rw [l9_passes_68, hC.1, if_neg (cle (by omega) hjC), e9_hasEnded (by omega), ob_s, if_pos (vq_nI (n := 400) (by omega) (by omega)), nI_clamp (by omega), nI_1]
      by_cases z : rho 37 j ≤ 2
      · rw [if_pos z, if_pos z, if_pos rfl]
      · rw [if_neg z, if_neg z, if_neg (by decide)]
    rw [e8, e9]
    by_cases h1 : rho 37 j ≤ 2
    · by_cases h2 : rho 0 0 < rho 38 j
      · rw [if_pos h1, if_pos h1, if_pos h2, if_pos h2]
        exact ih (j + 1) m rho n8 n9 (by omega) h (by omega) (by omega)
      · rw [if_pos h1, if_pos h1, if_neg h2, if_neg h2]
        obtain ⟨m1, g1, r1, k1, k2, k3, k4, k5, k6, k7⟩ := end_both h hjC h1 (e := 5) (Or.inr (Or.inr (Or.inl rfl))) (fun z => absurd z (by decide))
        have k3' : INV m1 r1 := k3.mono (fun _ z => z.1) (fun _ z => z)
        have hC1 : iC r1 = iC rho := k5.C
        obtain ⟨m2, g2, r2, i1, i2, i3, i4, i5, i6⟩ := ih (j + 1) m1 r1 n8 n9 (by omega) k3' (by omega) (by omega)
        exact ⟨m2, g1 + g2, r2, cb_r k1 i1, by rw [k2, ob_s]; exact i2, i3, by omega, (k5.toC hb).tr i5, i6.trans hC1⟩
    · rw [if_neg h1, if_neg h1]
      exact ih (j + 1) m rho n8 n9 (by omega) h (by omega) (by omega)
/-- a call that has done its work goes through its steps -/
theorem cl_inv (h : INV m rho) {k : Nat} (hk : k < iC rho) (h37 : rho 37 k = 1) (hp : 0 < nv (rho 2 (iS rho k))) : INV (sI m 133 k 2) (up2 rho 37 k 2) := by
  have hb := h.rb9
  have e37 : ∀ j, up2 rho 37 k 2 37 j = if j = k then 2 else rho 37 j := fun _ => rfl
  have h0 := (hb.rw9 k hk).2.2.2 (Or.inr h37)
  obtain ⟨b1, b2, b3, b4, b5, b6, b7, b8, b9, b10, b11, b12, b13, b14, b15, b16, c0, cs, ci, cp, cr, cq, ck, cw, cz⟩ := h
  refine ⟨b1, b2, b3, b4, b5, b6, fun i hi => ?_, b8, b9, b10, fun j hj => ?_, b12, b13, ⟨fun o n ho hn => ?_, fun j hj z => ?_⟩, b15, b16, c0, cs, ci, cp, cr, cq, ck, fun j hj => ?_, cz⟩
  · have hh := b7 i hi
    constructor
    · refine hh.1.trans ?_
      congr 2
      apply fl_same
      intro j _
      show _ = decide (iX rho j = i ∧ (up2 rho 37 k 2 37 j = 1 ∨ up2 rho 37 k 2 37 j = 2))
      rw [e37]
      by_cases z : j = k
      · rw [if_pos z, z, h37]
        simp
      · rw [if_neg z]
    · refine hh.2.trans ?_
      apply fl_same
      intro j _
      show _ = decide (iX rho j = i ∧ up2 rho 37 k 2 37 j = 0)
      rw [e37]
      by_cases z : j = k
      · rw [if_pos z, z, h37]
        simp
      · rw [if_neg z]
  · have hh := b11 j hj
    rw [e37]
    by_cases z : j = k
    · subst z
      rw [if_pos rfl]
      refine ⟨by rw [gI_sI, if_pos rfl, if_pos rfl], fun y => absurd y (by decide), hh.2.2.1, fun _ => ?_, fun y => absurd (by decide) y⟩
      exact hh.2.2.2.1 (Or.inl (by rw [h37]; decide))
    · rw [if_neg z]
      refine ⟨?_, hh.2⟩
      rw [gI_sI, if_pos rfl, if_neg z]
      exact hh.1
  · have hn2 : n < sc rho o := hn
    have hok : o ≠ k := fun z => by
      rw [z, h0] at hn2
      omega
    have hh := b14.1 o n ho hn2
    have hgo : Go (up2 rho 37 k 2) o ↔ Go rho o := by
      unfold Go goB
      rw [e37, if_neg hok]
      exact Iff.rfl
    rw [hgo]
    exact hh
  · rw [e37] at z
    by_cases y : j = k
    · rw [if_pos y] at z
      exact absurd z (by decide)
    · rw [if_neg y] at z
      exact b14.2 j hj z
  · have hh := cw j hj
    rw [e37]
    by_cases z : j = k
    · subst z
      rw [if_pos rfl]
      exact ⟨⟨2, by omega, rfl⟩, fun _ => hh.2.1 (by rw [h37]; decide), fun _ => hp, fun y => absurd y (by decide)⟩
    · rw [if_neg z]
      exact hh
theorem work_loop : ∀ (d j : Nat) (m : CM) (rho : RH) (n8 n9 : Nat), j + d = iC rho → INV m rho → d < n8 → d < n9 → ∃ m' g rho', l8_X8_endWork_2 n8 0 (nI j) m = some (0, m', g) ∧ l9_passes_111 n9 (nI j) rho = l9_passes_160 FU (rho' 31 0) 0 rho' ∧ INV m' rho' ∧ g + pot m' ≤ pot m ∧ iC rho' = iC rho ∧ (∀ F j, stF F → rho' F j = rho F j) := by
  intro d
  induction d with
  | zero =>
    intro j m rho n8 n9 hj h h8 h9
    obtain ⟨n8, rfl⟩ : ∃ n', n8 = n' + 1 := ⟨n8 - 1, by omega⟩
    obtain ⟨n9, rfl⟩ : ∃ n', n9 = n' + 1 := ⟨n9 - 1, by omega⟩
    have hC := h.rb9.C
    refine ⟨m, 0, rho, ?_, ?_, h, by omega, rfl, fun _ _ _ => rfl⟩
    · rw [l8_X8_endWork_2, h.a09.2.2.2.2.2.1, od_s, h.al9.2.2.1, List.length_range, if_pos (nI_le (by omega) (by omega))]
    · rw [l9_passes_111, if_pos (by rw [hC.1]; exact nI_le (by omega) (by omega))]
  | succ d ih =>
    intro j m rho n8 n9 hj h h8 h9
    obtain ⟨n8, rfl⟩ : ∃ n', n8 = n' + 1 := ⟨n8 - 1, by omega⟩
    obtain ⟨n9, rfl⟩ : ∃ n', n9 = n' + 1 := ⟨n9 - 1, by omega⟩
    have hb := h.rb9
    have hC := hb.C
    have hjC : j < iC rho := by omega
    have hak := h.ak9 j hjC
    have haw := h.aw9 j hjC
    have hXx := hb.Xi hjC
    have hI := hb.I
    have hS := hb.S hjC
    have hai := h.ai9 _ hXx.2
    have ha := h.a09
    have hrk := hb.rk9 j hjC
    have ht := h.at9 _ _ hrk.2.1 hrk.2.2.2.2.1
    have has := h.as9 _ hS.2
    have e897 : gI m 897 (sid rho j) = nI (iS rho j) := ht.2.1.trans (hrk.2.2.2.2.2.2.2.2.1.symm.trans hS.1)
    have e1 : (1 : Int32).toNatClampNeg = 1 := rfl
    have qj := vq_nI (k := j) (n := 400) (by omega) (by omega)
    have cj := nI_clamp (n := j) (by omega)
    by_cases h1 : rho 37 j = 1
    · have e134 := haw.2.1 h1
      by_cases h2 : rho 0 0 < rho 39 j
      · have e8 : l8_X8_endWork_2 (n8 + 1) 0 (nI j) m = l8_X8_endWork_2 n8 0 (nI (j + 1)) m := by
          rw [l8_X8_endWork_2, ha.2.2.2.2.2.1, od_s, h.al9.2.2.1, List.length_range, if_neg (cle (by omega) hjC), if_pos (nI_pos (by omega)), cj, rg_lt hjC, od_s, haw.1, if_pos h1, e134, h.now, if_neg (not_le32.mpr h2), nI_1]
        have e9 : l9_passes_111 (n9 + 1) (nI j) rho = l9_passes_111 n9 (nI (j + 1)) rho := by
          rw [l9_passes_111, if_neg (by rw [hC.1]; exact cle (by omega) hjC), if_pos qj, cj, if_pos h1, if_pos h2, nI_1]
        rw [e8, e9]
        exact ih (j + 1) m rho n8 n9 (by omega) h (by omega) (by omega)
      · have hl2 : rho 37 j ≤ 2 := by rw [h1]; decide
        have e8 : l8_X8_endWork_2 (n8 + 1) 0 (nI j) m = if rho 13 (4 * iX rho j + 1) = 0 then (if rho 2 (iS rho j) = 0 then (cb (f8_X8_end 8 0 j 3 0 m) fun _ m23 => l8_X8_endWork_2 n8 0 (nI (j + 1)) m23) else l8_X8_endWork_2 n8 0 (nI (j + 1)) (sI m 133 j 2)) else (cb (f8_X8_end 8 0 j 4 0 m) fun _ m31 => l8_X8_endWork_2 n8 0 (nI (j + 1)) m31) := by
          rw [l8_X8_endWork_2, ha.2.2.2.2.2.1, od_s, h.al9.2.2.1, List.length_range, if_neg (cle (by omega) hjC), if_pos (nI_pos (by omega)), cj, rg_lt hjC, od_s, haw.1, if_pos h1, e134, h.now, if_pos (not_lt32.mp h2), hak.2.2.1, od_s, hai.1, od_s, e1, hai.2.2.2.2.2.2.2.2.2.2.2.2.1 1 (by omega), ha.2.1, od_s, hak.2.1, od_s, e897, if_pos (vq_nI hS.2 (by omega)), nI_clamp (by omega), (ha.2.2.2.2.2.2.2.2.2 _ hS.2).1, od_s, has.2.1, nI_1]
          rfl
        have hf01 : rho 13 (4 * iX rho j + 1) = 0 ∨ rho 13 (4 * iX rho j + 1) = 1 := by
          obtain ⟨a, z1, z2⟩ := (hb.ri9 _ hXx.2).2.2.2.2.2.2.2.2.1 1 (by omega) (by omega)
          have : a = 0 ∨ a = 1 := by omega
          rcases this with rfl | rfl
          · exact Or.inl z2
          · exact Or.inr z2
        have q48 := vq_nI (k := 4 * iX rho j + 1) (n := 48) (by omega) (by omega)
        have c48 := nI_clamp (n := 4 * iX rho j + 1) (by omega)
        have e43 : (4 : Int32) * nI (iX rho j) + 1 = nI (4 * iX rho j + 1) := by rw [l4, pk_mul, nI_1]
        have e9 : l9_passes_111 (n9 + 1) (nI j) rho = if rho 13 (4 * iX rho j + 1) = 0 then (if rho 2 (iS rho j) = 0 then (ob (f9_endsCall (nI j) 3 rho) fun _ r => l9_passes_111 n9 (nI (j + 1)) r) else l9_passes_111 n9 (nI (j + 1)) (up2 rho 37 j 2)) else (ob (f9_endsCall (nI j) 4 rho) fun _ r => l9_passes_111 n9 (nI (j + 1)) r) := by
          have efw : f9_finishesWork (nI j) rho = if rho 13 (4 * iX rho j + 1) = 0 then (if rho 2 (iS rho j) = 0 then (ob (f9_endsCall (nI j) 3 rho) fun _ r => some (0, r)) else some (0, up2 rho 37 j 2)) else (ob (f9_endsCall (nI j) 4 rho) fun _ r => some (0, r)) := by
            unfold f9_finishesWork
            rw [if_pos qj, cj, hXx.1, e43, if_pos q48, c48, hS.1, if_pos (vq_nI hS.2 (by omega)), nI_clamp (by omega), wr_s]
            rcases hf01 with z | z
            · rw [z, if_neg (by decide), if_pos rfl]
            · rw [z, if_pos rfl, if_neg (by decide)]
          have hob : ∀ (o : Option (Int32 × RH)) (K : RH → Option (Int32 × RH)), (ob (ob o fun _ r => some (0, r)) fun _ r => K r) = ob o fun _ r => K r := fun o K => by
            cases o <;> rfl
          rw [l9_passes_111, if_neg (by rw [hC.1]; exact cle (by omega) hjC), if_pos qj, cj, if_pos h1, if_neg h2, efw, nI_1]
          by_cases z1 : rho 13 (4 * iX rho j + 1) = 0
          · rw [if_pos z1, if_pos z1]
            by_cases z2 : rho 2 (iS rho j) = 0
            · rw [if_pos z2, if_pos z2]
              exact hob _ _
            · rw [if_neg z2, if_neg z2, ob_s]
          · rw [if_neg z1, if_neg z1]
            exact hob _ _
        rw [e8, e9]
        by_cases z1 : rho 13 (4 * iX rho j + 1) = 0
        · rw [if_pos z1, if_pos z1]
          by_cases z2 : rho 2 (iS rho j) = 0
          · rw [if_pos z2, if_pos z2]
            obtain ⟨m1, g1, r1, k1, k2, k3, k4, k5, k6, k7⟩ := end_both h hjC hl2 (e := 3) (Or.inl rfl) (fun z => absurd z (by decide))
            have hC1 : iC r1 = iC rho := k5.C
            obtain ⟨m2, g2, r2, i1, i2, i3, i4, i5, i6⟩ := ih (j + 1) m1 r1 n8 n9 (by omega) (k3.mono (fun _ z => z.1) (fun _ z => z)) (by omega) (by omega)
            exact ⟨m2, g1 + g2, r2, cb_r k1 i1, by rw [k2, ob_s]; exact i2, i3, by omega, i5.trans hC1, fun F j a => (i6 F j a).trans ((k5.toG hb).1 F j a)⟩
          · rw [if_neg z2, if_neg z2]
            have hpl : 0 < nv (rho 2 (iS rho j)) := by
              have := (hb.rs9 _ hS.2).1.eq (by omega)
              apply Nat.pos_of_ne_zero
              intro z9
              rw [z9] at this
              exact z2 this
            obtain ⟨m2, g2, r2, i1, i2, i3, i4, i5, i6⟩ := ih (j + 1) (sI m 133 j 2) (up2 rho 37 j 2) n8 n9 (by show j + 1 + d = iC rho; omega) (cl_inv h hjC h1 hpl) (by omega) (by omega)
            exact ⟨m2, g2, r2, i1, i2, i3, i4, i5, fun F j' a => (i6 F j' a).trans (up2_f _ _ _ _ (by unfold stF at a; omega))⟩
        · rw [if_neg z1, if_neg z1]
          obtain ⟨m1, g1, r1, k1, k2, k3, k4, k5, k6, k7⟩ := end_both h hjC hl2 (e := 4) (Or.inr (Or.inl rfl)) (fun z => absurd z (by decide))
          have hC1 : iC r1 = iC rho := k5.C
          obtain ⟨m2, g2, r2, i1, i2, i3, i4, i5, i6⟩ := ih (j + 1) m1 r1 n8 n9 (by omega) (k3.mono (fun _ z => z.1) (fun _ z => z)) (by omega) (by omega)
          exact ⟨m2, g1 + g2, r2, cb_r k1 i1, by rw [k2, ob_s]; exact i2, i3, by omega, i5.trans hC1, fun F j a => (i6 F j a).trans ((k5.toG hb).1 F j a)⟩
    · have e8 : l8_X8_endWork_2 (n8 + 1) 0 (nI j) m = l8_X8_endWork_2 n8 0 (nI (j + 1)) m := by
        rw [l8_X8_endWork_2, ha.2.2.2.2.2.1, od_s, h.al9.2.2.1, List.length_range, if_neg (cle (by omega) hjC), if_pos (nI_pos (by omega)), cj, rg_lt hjC, od_s, haw.1, if_neg h1, nI_1]
      have e9 : l9_passes_111 (n9 + 1) (nI j) rho = l9_passes_111 n9 (nI (j + 1)) rho := by
        rw [l9_passes_111, if_neg (by rw [hC.1]; exact cle (by omega) hjC), if_pos qj, cj, if_neg h1, nI_1]
      rw [e8, e9]
      exact ih (j + 1) m rho n8 n9 (by omega) h (by omega) (by omega)
end QG
