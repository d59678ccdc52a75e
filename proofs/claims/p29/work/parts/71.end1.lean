/-! a call ends: its slot or place, its state, what is known of it -/
section PH
variable {X Y : Nat → Prop} {m : CM} {rho : RH}
theorem fl_del {p q : Nat → Bool} {k : Nat} (hp : p k = true) (hq : q k = false) (heq : ∀ j, j ≠ k → p j = q j) : ∀ N, ((List.range N).filter p).length = ((List.range N).filter q).length + (if k < N then 1 else 0) := by
  intro N
  induction N with
  | zero => rfl
  | succ N ih =>
    rw [List.range_succ, List.filter_append, List.filter_append, List.length_append, List.length_append, ih]
    by_cases h : N = k
    · subst h
      rw [List.filter_cons_of_pos hp, List.filter_cons_of_neg (by simp [hq]), if_neg (by omega), if_pos (by omega)]
      simp
    · have e : [N].filter p = [N].filter q := by
        cases h9 : q N with
        | true => rw [List.filter_cons_of_pos (by rw [heq N h, h9]), List.filter_cons_of_pos h9]; rfl
        | false => rw [List.filter_cons_of_neg (by rw [heq N h, h9]; decide), List.filter_cons_of_neg (by rw [h9]; decide)]; rfl
      rw [e]
      by_cases h2 : k < N
      · rw [if_pos h2, if_pos (by omega)]; omega
      · rw [if_neg h2, if_neg (by omega)]; omega
theorem fl_rm {p q : Nat → Bool} {k N : Nat} {a b : List Nat} (hq : q k = false) (heq : ∀ j, j ≠ k → p j = q j) (h : (List.range N).filter p = a ++ k :: b) : (List.range N).filter q = a ++ b := by
  have hnd : ((List.range N).filter p).Nodup := List.nodup_range.filter _
  rw [h] at hnd
  have h2 : (List.range N).filter q = ((List.range N).filter p).filter (fun j => decide (j ≠ k)) := by
    rw [List.filter_filter]
    apply List.filter_congr
    intro j hj
    by_cases hjk : j = k
    · subst hjk
      simp [hq]
    · simp [hjk, heq j hjk]
  rw [h2, h, List.filter_append, List.filter_cons_of_neg (by simp)]
  have hn := List.nodup_append.mp hnd
  have ha : ∀ x ∈ a, x ≠ k := fun x hx z => hn.2.2 x hx k List.mem_cons_self z
  have hb : ∀ x ∈ b, x ≠ k := fun x hx z => (List.nodup_cons.mp hn.2.1).1 (z ▸ hx)
  rw [List.filter_eq_self.mpr (fun x hx => by simp [ha x hx]), List.filter_eq_self.mpr (fun x hx => by simp [hb x hx])]
theorem fl_same {p q : Nat → Bool} {N : Nat} (heq : ∀ j, j < N → p j = q j) : (List.range N).filter p = (List.range N).filter q :=
  List.filter_congr (fun j hj => heq j (List.mem_range.mp hj))
def losV (rho : RH) (k : Nat) (e : Int32) : Int32 := if rho 13 (4 * iX rho k + 2) = 1 ∧ (e = 3 ∨ e = 4 ∨ e = 6) then 1 else 0
def seR (rho : RH) (k : Nat) (e : Int32) : RH := up2 (up2 rho 37 k e) 42 k (losV rho k e)
theorem e9_setsEnd (hb : RB rho) {k : Nat} {e : Int32} (hk : k < iC rho) : f9_setsEnd (nI k) e rho = some (0, seR rho k e) := by
  have hC := hb.C
  have hXx := hb.Xi hk
  have hI := hb.I
  have q1 := vq_nI (k := k) (n := 400) (by omega) (by omega)
  have c1 := nI_clamp (n := k) (by omega)
  have q2 := vq_nI (k := 4 * iX rho k + 2) (n := 48) (by omega) (by omega)
  have c2 := nI_clamp (n := 4 * iX rho k + 2) (by omega)
  have e1 : up2 rho 37 k e 36 k = nI (iX rho k) := hXx.1
  have e2 : up2 rho 37 k e 13 (4 * iX rho k + 2) = rho 13 (4 * iX rho k + 2) := rfl
  have e3 : (4 : Int32) * nI (iX rho k) + 2 = nI (4 * iX rho k + 2) := by rw [l4, pk_mul, l2, nI_add]
  unfold f9_setsEnd seR losV
  simp only [if_pos q1, wr_s]
  simp only [c1, e1, e3]
  simp only [if_pos q2]
  simp only [c2, e2]
  by_cases h1 : rho 13 (4 * iX rho k + 2) = 1
  · by_cases h2 : e = 3
    · simp [h1, h2]
    · by_cases h3 : e = 4
      · simp [h1, h3]
      · by_cases h4 : e = 6
        · simp [h1, h4]
        · simp [h1, h2, h3, h4]
  · simp [h1]
/-- its slot, or its place in the queue -/
theorem e8_release0 (h : INVX X Y m rho) {i k : Nat} (hi : i < iI rho) : ∀ (suf pre : List Nat) (n : Nat), gL m 54 i = pre ++ suf → (pre ++ suf).length ≤ 400 → k ∈ suf → suf.length < n → ∃ a b, gL m 54 i = a ++ k :: b ∧ l8_X4_release_29 n i k (nI pre.length) m = some (0, sL m 54 i (a ++ b), 0) := by
  have hz := h.ai9 i hi
  intro suf
  induction suf with
  | nil => intro pre n _ _ hk; cases hk
  | cons x suf ih =>
    intro pre n hq hlen hk hn
    obtain ⟨n, rfl⟩ : ∃ n', n = n' + 1 := ⟨n - 1, by omega⟩
    have hl : (pre ++ x :: suf).length = pre.length + (suf.length + 1) := by rw [List.length_append, List.length_cons]
    have hat : (pre ++ x :: suf)[pre.length]? = some x := by rw [List.getElem?_append_right (Nat.le_refl _), Nat.sub_self]; rfl
    have he : l8_X4_release_29 (n + 1) i k (nI pre.length) m = if x = k then some (0, sL m 54 i ((pre ++ x :: suf).eraseIdx pre.length), 0) else l8_X4_release_29 n i k (nI (pre.length + 1)) m := by
      rw [l8_X4_release_29, hz.2.2.2.1, od_s, hq, if_neg (cle (by omega) (by omega)), if_pos (nI_pos (by omega)), nI_clamp (by omega), hat, od_s, nI_1]
      rfl
    rw [he]
    by_cases hx : x = k
    · subst hx
      refine ⟨pre, suf, hq, ?_⟩
      rw [if_pos rfl, List.eraseIdx_append_of_length_le (Nat.le_refl _), Nat.sub_self]
      rfl
    · rw [if_neg hx]
      have hk' : k ∈ suf := by
        rcases List.mem_cons.mp hk with z | z
        · exact absurd z.symm hx
        · exact z
      have := ih (pre ++ [x]) n (by rw [hq, List.append_assoc]; rfl) (by rw [List.append_assoc]; exact hlen) hk' (by rw [List.length_cons] at hn; omega)
      rw [List.length_append, List.length_singleton] at this
      exact this
theorem st_cases (hb : RB rho) {k : Nat} (hk : k < iC rho) (hl : rho 37 k ≤ 2) : rho 37 k = 0 ∨ rho 37 k = 1 ∨ rho 37 k = 2 := by
  obtain ⟨a, ha, hq⟩ := (hb.rw9 k hk).1
  rw [hq, l2, nI_leI (by omega) (by omega)] at hl
  have : a = 0 ∨ a = 1 ∨ a = 2 := by omega
  rcases this with rfl | rfl | rfl
  · exact Or.inl hq
  · exact Or.inr (Or.inl hq)
  · exact Or.inr (Or.inr hq)
def leM (m : CM) (rho : RH) (k : Nat) (e : Int32) : CM := if e = 7 then m else if losV rho k e = 0 then sI (sI m 135 k e) 136 k (rho 0 0) else sI (sI m 135 k 5) 136 k (rho 38 k)
theorem e8_learnEnd (h : INVX X Y m rho) {k : Nat} (hk : k < iC rho) {m5 : CM} {e : Int32} (he : e = 3 ∨ e = 4 ∨ e = 5 ∨ e = 6 ∨ e = 7) (h1 : gR m5 = gR m) (h2 : gA m5 = gA m) (h3 : gI m5 133 k = e) (h4 : gI m5 131 k = rho 38 k) : f8_X1_learnEnd k (rho 0 0) m5 = some (0, leM m5 rho k e, 0) := by
  have hak := h.ak9 k hk
  have hXx := h.rb9.Xi hk
  have hai := h.ai9 _ hXx.2
  have hlo : ∃ a, a < 2 ∧ rho 13 (4 * iX rho k + 2) = nI a := (h.rb9.ri9 _ hXx.2).2.2.2.2.2.2.2.2.1 2 (by omega) (by omega)
  obtain ⟨a, ha, hla⟩ := hlo
  have e2 : (2 : Int32).toNatClampNeg = 2 := rfl
  unfold f8_X1_learnEnd leM
  rw [h3]
  by_cases h7 : e = 7
  · rw [if_pos h7, if_pos h7]
  · rw [if_neg h7, if_neg h7, h1, hak.2.2.1, od_s, hai.1, od_s, h2, e2, hai.2.2.2.2.2.2.2.2.2.2.2.2.1 2 (by omega)]
    have ha2 : a = 0 ∨ a = 1 := by omega
    rcases ha2 with rfl | rfl
    · have hL : losV rho k e = 0 := by
        unfold losV
        rw [hla]
        exact if_neg (fun z => absurd z.1 (by decide))
      rw [hla, if_pos (show nI 0 = (0 : Int32) from rfl), if_pos hL]
      rfl
    · rw [hla, if_neg (show ¬ nI 1 = (0 : Int32) by decide)]
      by_cases h5 : e = 5
      · have hL : losV rho k e = 0 := by
          unfold losV
          exact if_neg (fun z => by rw [h5] at z; exact absurd z.2 (by decide))
        rw [if_pos h5, if_pos hL]
        rfl
      · have hL : ¬ losV rho k e = 0 := by
          unfold losV
          rw [if_pos ⟨hla, by rcases he with z | z | z | z | z <;> simp_all⟩]
          decide
        rw [if_neg h5, if_neg hL, wr_s, wr_s]
        have e9 : gI (sI m5 135 k 5) 131 k = rho 38 k := h4
        rw [e9]
/-- the relation behind a call's own end: state, lost or not, slot or place, what is known; its own steps are spared -/
theorem end1_inv (h : INVX X Y m rho) {k : Nat} (hk : k < iC rho) (hl : rho 37 k ≤ 2) {e : Int32} (he : e = 3 ∨ e = 4 ∨ e = 5 ∨ e = 7) (h7 : e = 7 → gI m 911 (sid rho k) ≠ 8) :
    ∃ m5 m13, f8_X4_release (iX rho k) k m = some (0, m5, 0) ∧ f8_X1_learnEnd k (rho 0 0) (sI m5 133 k e) = some (0, m13, 0) ∧ gI m5 1024 0 = rho 0 0 ∧ INVX (fun o => X o ∨ o = k) Y m13 (seR rho k e) ∧ pot m13 = pot m ∧ ∀ j, gI m13 911 j = gI m 911 j := by
  have hb := h.rb9
  have hC := hb.C
  have hXx := hb.Xi hk
  have hI := hb.I
  have hst := st_cases hb hk hl
  have haq := h.aq9 _ hXx.2
  have haw := h.aw9 k hk
  have hek : ¬ e = 0 ∧ ¬ e = 1 ∧ ¬ e = 2 ∧ ¬ e ≤ 2 ∧ Ix e 8 := by
    rcases he with rfl | rfl | rfl | rfl
    · exact ⟨by decide, by decide, by decide, by decide, ⟨3, by omega, rfl⟩⟩
    · exact ⟨by decide, by decide, by decide, by decide, ⟨4, by omega, rfl⟩⟩
    · exact ⟨by decide, by decide, by decide, by decide, ⟨5, by omega, rfl⟩⟩
    · exact ⟨by decide, by decide, by decide, by decide, ⟨7, by omega, rfl⟩⟩
  -- the slot or the place
  have rel : ∃ m5, f8_X4_release (iX rho k) k m = some (0, m5, 0) ∧ gR m5 = gR m ∧ gA m5 = gA m ∧ gO m5 = gO m ∧ gV m5 = gV m ∧ (∀ f j, f ≠ 523 → gI m5 f j = gI m f j) ∧ (∀ c j, c ≠ 54 → gL m5 c j = gL m c j) ∧ pot m5 = pot m ∧ AQ m5 (seR rho k e) := by
    have aqo : ∀ m5 : CM, (∀ i', i' ≠ iX rho k → gI m5 523 i' = gI m 523 i' ∧ gL m5 54 i' = gL m 54 i') → (gI m5 523 (iX rho k) = nI ((List.range (iC rho)).filter fun q => decide (iX rho q = iX rho k ∧ (seR rho k e 37 q = 1 ∨ seR rho k e 37 q = 2))).length ∧ gL m5 54 (iX rho k) = (List.range (iC rho)).filter fun q => decide (iX rho q = iX rho k ∧ seR rho k e 37 q = 0)) → AQ m5 (seR rho k e) := fun m5 g1 g2 => by
      intro i' hi'
      have hi2 : i' < iI rho := hi'
      by_cases hii : i' = iX rho k
      · subst hii
        exact g2
      · rw [(g1 i' hii).1, (g1 i' hii).2, (h.aq9 i' hi2).1, (h.aq9 i' hi2).2]
        have e1 : ∀ q, iX rho q = i' → seR rho k e 37 q = rho 37 q := fun q hq => by
          show (if q = k then e else rho 37 q) = _
          rw [if_neg (fun z => hii (by rw [← hq, z]))]
        constructor
        · congr 2
          apply fl_same
          intro q _
          show _ = decide (iX rho q = i' ∧ _)
          by_cases hq : iX rho q = i'
          · rw [e1 q hq]
            rfl
          · simp [hq]
        · apply fl_same
          intro q _
          show _ = decide (iX rho q = i' ∧ _)
          by_cases hq : iX rho q = i'
          · rw [e1 q hq]
            rfl
          · simp [hq]
    have e37 : ∀ q, seR rho k e 37 q = if q = k then e else rho 37 q := fun q => rfl
    by_cases hz : rho 37 k = 0
    · -- queued
      have hmem : k ∈ gL m 54 (iX rho k) := by
        rw [haq.2, List.mem_filter, List.mem_range]
        exact ⟨hk, by simp [hz]⟩
      have hlen : (gL m 54 (iX rho k)).length ≤ 400 := by
        rw [haq.2]
        have := List.length_filter_le (fun q => decide (iX rho q = iX rho k ∧ rho 37 q = 0)) (List.range (iC rho))
        rw [List.length_range] at this
        omega
      obtain ⟨a, b, ha, hr⟩ := e8_release0 h hXx.2 (gL m 54 (iX rho k)) [] FU rfl hlen hmem (by have : FU = 1000 := rfl; omega)
      refine ⟨sL m 54 (iX rho k) (a ++ b), ?_, rfl, rfl, rfl, rfl, fun f j _ => rfl, fun c j hc => ?_, rfl, aqo _ (fun i' hii => ⟨rfl, ?_⟩) ⟨?_, ?_⟩⟩
      · unfold f8_X4_release
        rw [haw.1, hz, if_neg (by decide), if_neg (by decide)]
        exact hr
      · rw [gL_sL, if_neg hc]
      · rw [gL_sL, if_pos rfl, if_neg hii]
      · show gI m 523 _ = _
        rw [haq.1]
        congr 2
        apply fl_same
        intro q _
        rw [e37]
        by_cases hq : q = k
        · rw [if_pos hq, hq, hz]
          simp [hek.1, hek.2.1, hek.2.2.1]
        · rw [if_neg hq]
      · rw [gL_sL, if_pos rfl, if_pos rfl]
        refine (fl_rm (p := fun q => decide (iX rho q = iX rho k ∧ rho 37 q = 0)) (k := k) ?_ (fun j hj => ?_) (haq.2.symm.trans ha)).symm
        · rw [e37, if_pos rfl]
          simp [hek.1]
        · rw [e37, if_neg hj]
    · -- it has a slot
      have h12 : rho 37 k = 1 ∨ rho 37 k = 2 := hst.resolve_left hz
      have hf : f8_X4_release (iX rho k) k m = some (0, sI m 523 (iX rho k) (gI m 523 (iX rho k) - 1), 0) := by
        unfold f8_X4_release
        rw [haw.1]
        rcases h12 with z | z
        · rw [if_pos z]; rfl
        · rw [if_neg (by rw [z]; decide), if_pos z]; rfl
      refine ⟨_, hf, rfl, rfl, rfl, rfl, fun f j hf => ?_, fun c j _ => rfl, rfl, aqo _ (fun i' hii => ⟨?_, rfl⟩) ⟨?_, ?_⟩⟩
      · rw [gI_sI, if_neg hf]
      · rw [gI_sI, if_pos rfl, if_neg hii]
      · rw [gI_sI, if_pos rfl, if_pos rfl, haq.1]
        have := fl_del (p := fun q => decide (iX rho q = iX rho k ∧ (rho 37 q = 1 ∨ rho 37 q = 2))) (q := fun q => decide (iX rho q = iX rho k ∧ (seR rho k e 37 q = 1 ∨ seR rho k e 37 q = 2))) (k := k) (by simp [h12]) (by rw [e37, if_pos rfl]; simp [hek.2.1, hek.2.2.1]) (fun j hj => by rw [e37, if_neg hj]) (iC rho)
        rw [this, if_pos hk, nI_pred]
      · show gL m 54 _ = _
        rw [haq.2]
        apply fl_same
        intro q _
        rw [e37]
        by_cases hq : q = k
        · rw [if_pos hq, hq]
          simp [hz, hek.1]
        · rw [if_neg hq]
  obtain ⟨m5, hr, r1, r2, r3, r4, r5, r6, r7, r8⟩ := rel
  have hle := e8_learnEnd h hk (m5 := sI m5 133 k e) (e := e) (by rcases he with z | z | z | z <;> simp [z]) r1 r2 (by rw [gI_sI, if_pos rfl, if_pos rfl]) (by
    show gI m5 131 k = _
    rw [r5 _ _ (by decide)]
    exact (h.ak9 k hk).2.2.2.1)
  refine ⟨m5, _, hr, hle, ?_, ?_, ?_, ?_⟩
  · rw [r5 _ _ (by decide)]
    exact h.now
  · -- all groups
    generalize hM : leM (sI m5 133 k e) rho k e = M
    have g1 : gR M = gR m := by rw [← hM, ← r1]; unfold leM; split; rfl; split <;> rfl
    have g2 : gA M = gA m := by rw [← hM, ← r2]; unfold leM; split; rfl; split <;> rfl
    have g3 : gO M = gO m := by rw [← hM, ← r3]; unfold leM; split; rfl; split <;> rfl
    have g4 : gV M = gV m := by rw [← hM, ← r4]; unfold leM; split; rfl; split <;> rfl
    have g5 : ∀ f j, f ≠ 523 → f ≠ 133 → f ≠ 135 → f ≠ 136 → gI M f j = gI m f j := fun f j f1 f2 f3 f4 => by
      rw [← hM, ← r5 f j f1]
      unfold leM
      split
      · rw [gI_sI, if_neg f2]
      · split <;> rw [gI_sI, if_neg f4, gI_sI, if_neg f3, gI_sI, if_neg f2]
    have g6 : ∀ c j, c ≠ 54 → gL M c j = gL m c j := fun c j hc => by
      rw [← r6 c j hc, ← hM]; unfold leM; split; rfl; split <;> rfl
    have g7 : ∀ j, gI M 523 j = gI m5 523 j := fun j => by
      rw [← hM]; unfold leM; split; rfl; split <;> rfl
    have g8 : ∀ j, gL M 54 j = gL m5 54 j := fun j => by
      rw [← hM]; unfold leM; split; rfl; split <;> rfl
    have g9 : ∀ f j, j ≠ k → (f = 133 ∨ f = 135 ∨ f = 136) → gI M f j = gI m f j := fun f j hj hf => by
      rw [← hM, ← r5 f j (by omega)]
      unfold leM
      split
      · rw [gI_sI, if_neg hj, ite_self]
      · split <;> rw [gI_sI, if_neg hj, ite_self, gI_sI, if_neg hj, ite_self, gI_sI, if_neg hj, ite_self]
    have g133 : gI M 133 k = e := by
      rw [← hM]
      unfold leM
      split
      · rw [gI_sI, if_pos rfl, if_pos rfl]
      · split <;> rw [gI_sI, if_neg (by decide), gI_sI, if_neg (by decide), gI_sI, if_pos rfl, if_pos rfl]
    obtain ⟨b1, b2, b3, b4, b5, b6, b7, b8, b9, b10, b11, b12, b13, b14, b15, b16, c0, cs, ci, cp, cr, cq, ck, cw, cz⟩ := h
    refine ⟨?_, ?_, ?_, ?_, ?_, ?_, ?_, ?_, ?_, ?_, ?_, ?_, ?_, ?_, ?_, ?_, c0, cs, ci, cp, cr, cq, ck, ?_, cz⟩
    · unfold A0
      rw [g1, g3]
      exact b1
    · unfold AGl
      rw [g5 _ _ (by decide) (by decide) (by decide) (by decide), g5 _ _ (by decide) (by decide) (by decide) (by decide), g5 _ _ (by decide) (by decide) (by decide) (by decide), g5 _ _ (by decide) (by decide) (by decide) (by decide)]
      exact b2
    · unfold AP
      rw [g2]
      exact b3
    · intro s hs
      rw [g5 _ _ (by decide) (by decide) (by decide) (by decide), g5 _ _ (by decide) (by decide) (by decide) (by decide), g5 _ _ (by decide) (by decide) (by decide) (by decide), g5 _ _ (by decide) (by decide) (by decide) (by decide), g2]
      exact b4 s hs
    · intro c hc
      rw [g5 _ _ (by decide) (by decide) (by decide) (by decide), g5 _ _ (by decide) (by decide) (by decide) (by decide), g5 _ _ (by decide) (by decide) (by decide) (by decide), g5 _ _ (by decide) (by decide) (by decide) (by decide)]
      exact b5 c hc
    · intro i hi
      have hh := b6 i hi
      rw [g1, g2, g3]
      refine ⟨hh.1, hh.2.1, hh.2.2.1, hh.2.2.2.1, ?_, ?_, ?_, ?_, ?_, ?_, ?_, ?_, hh.2.2.2.2.2.2.2.2.2.2.2.2.1, fun c hc => ?_⟩
      · rw [g5 _ _ (by decide) (by decide) (by decide) (by decide)]; exact hh.2.2.2.2.1
      · rw [g5 _ _ (by decide) (by decide) (by decide) (by decide)]; exact hh.2.2.2.2.2.1
      · rw [g5 _ _ (by decide) (by decide) (by decide) (by decide)]; exact hh.2.2.2.2.2.2.1
      · rw [g5 _ _ (by decide) (by decide) (by decide) (by decide)]; exact hh.2.2.2.2.2.2.2.1
      · rw [g5 _ _ (by decide) (by decide) (by decide) (by decide)]; exact hh.2.2.2.2.2.2.2.2.1
      · rw [g5 _ _ (by decide) (by decide) (by decide) (by decide)]; exact hh.2.2.2.2.2.2.2.2.2.1
      · rw [g5 _ _ (by decide) (by decide) (by decide) (by decide)]; exact hh.2.2.2.2.2.2.2.2.2.2.1
      · rw [g5 _ _ (by decide) (by decide) (by decide) (by decide)]; exact hh.2.2.2.2.2.2.2.2.2.2.2.1
      · have hq := hh.2.2.2.2.2.2.2.2.2.2.2.2.2 c hc
        rw [g5 _ _ (by decide) (by decide) (by decide) (by decide), g5 _ _ (by decide) (by decide) (by decide) (by decide), g5 _ _ (by decide) (by decide) (by decide) (by decide)]
        exact hq
    · intro i hi
      rw [g7, g8]
      exact r8 i hi
    · intro r hr
      rw [g1, g5 _ _ (by decide) (by decide) (by decide) (by decide), g5 _ _ (by decide) (by decide) (by decide) (by decide), g5 _ _ (by decide) (by decide) (by decide) (by decide), g5 _ _ (by decide) (by decide) (by decide) (by decide)]
      exact b8 r hr
    · unfold AL
      rw [g6 _ _ (by decide), g6 _ _ (by decide), g6 _ _ (by decide), g6 _ _ (by decide)]
      exact b9
    · intro q hq
      rw [g1, g6 _ _ (by decide), g5 _ _ (by decide) (by decide) (by decide) (by decide), g5 _ _ (by decide) (by decide) (by decide) (by decide)]
      exact b10 q hq
    · intro q hq
      have hq2 : q < iC rho := hq
      have hh := b11 q hq2
      rw [g5 137 _ (by decide) (by decide) (by decide) (by decide), g5 134 _ (by decide) (by decide) (by decide) (by decide)]
      by_cases hqk : q = k
      · subst hqk
        have s1 : seR rho q e 37 q = e := by show (if q = q then e else rho 37 q) = e; rw [if_pos rfl]
        have s2 : seR rho q e 42 q = losV rho q e := by unfold seR; rw [up2_s]
        rw [g133, s1, s2]
        refine ⟨rfl, fun z => absurd z hek.2.1, hh.2.2.1, fun z => ?_, fun z1 z2 => ⟨fun z3 => ?_, fun z3 => ?_⟩⟩
        · have z9 : e = 7 := z.resolve_left hek.2.2.2.1
          rw [← hM]
          unfold leM
          rw [if_pos z9, gI_sI, if_neg (by decide), r5 _ _ (by decide)]
          exact hh.2.2.2.1 (Or.inl hl)
        · have hT := hb.T
          rw [← hM]
          unfold leM
          rw [if_neg z2, if_pos z3, gI_sI, if_neg (by decide), gI_sI, if_pos rfl, if_pos rfl, gI_sI, if_pos rfl, if_pos rfl]
          exact ⟨rfl, nv (rho 0 0), Nat.le_refl _, hT.1⟩
        · rw [← hM]
          unfold leM
          rw [if_neg z2, if_neg z3, gI_sI, if_neg (by decide), gI_sI, if_pos rfl, if_pos rfl, gI_sI, if_pos rfl, if_pos rfl]
          exact ⟨rfl, rfl⟩
      · have s1 : seR rho k e 37 q = rho 37 q := by show (if q = k then e else rho 37 q) = _; rw [if_neg hqk]
        have s2 : seR rho k e 42 q = rho 42 q := by show (if q = k then _ else _) = _; rw [if_neg hqk]; rfl
        rw [s1, s2, g9 133 q hqk (by omega), g9 135 q hqk (by omega), g9 136 q hqk (by omega)]
        exact hh
    · intro o n ho hn
      rw [g1]
      rw [g5 896 _ (by decide) (by decide) (by decide) (by decide), g5 897 _ (by decide) (by decide) (by decide) (by decide), g5 898 _ (by decide) (by decide) (by decide) (by decide), g5 899 _ (by decide) (by decide) (by decide) (by decide), g5 900 _ (by decide) (by decide) (by decide) (by decide), g5 901 _ (by decide) (by decide) (by decide) (by decide), g5 902 _ (by decide) (by decide) (by decide) (by decide), g5 903 _ (by decide) (by decide) (by decide) (by decide)]
      exact b12 o n ho hn
    · intro o n ho hn
      rw [g6 _ _ (by decide), g5 _ _ (by decide) (by decide) (by decide) (by decide)]
      exact b13 o n ho hn
    · refine ⟨fun o n ho hn => ?_, fun q hq z => ?_⟩
      · rw [g5 _ _ (by decide) (by decide) (by decide) (by decide)]
        have hh := b14.1 o n ho hn
        refine ⟨hh.1, fun z1 z2 => ?_⟩
        have z3 := hh.2 z1 (fun z => z2 (Or.inl z))
        have hok : o ≠ k := fun z => z2 (Or.inr z)
        have hgo : Go (seR rho k e) o ↔ Go rho o := by
          unfold Go goB
          have : seR rho k e 37 o = rho 37 o := by show (if o = k then e else rho 37 o) = _; rw [if_neg hok]
          rw [this]
          exact Iff.rfl
        rw [hgo]
        exact z3
      · have hq2 : q < iC rho := hq
        rw [g5 _ _ (by decide) (by decide) (by decide) (by decide)]
        by_cases hqk : q = k
        · subst hqk
          have s1 : seR rho q e 37 q = e := by show (if q = q then e else rho 37 q) = e; rw [if_pos rfl]
          rw [s1] at z
          exact Or.inr (h7 z)
        · have s1 : seR rho k e 37 q = rho 37 q := by show (if q = k then e else rho 37 q) = _; rw [if_neg hqk]
          rw [s1] at z
          exact (b14.2 q hq2 z).imp Or.inl id
    · intro o n ho ho4 hn
      rw [g5 906 _ (by decide) (by decide) (by decide) (by decide), g5 907 _ (by decide) (by decide) (by decide) (by decide), g5 908 _ (by decide) (by decide) (by decide) (by decide), g5 909 _ (by decide) (by decide) (by decide) (by decide)]
      exact b15 o n ho ho4 hn
    · unfold AF
      rw [g4]
      exact b16
    · intro q hq
      have hq2 : q < iC rho := hq
      have hh := cw q hq2
      by_cases hqk : q = k
      · subst hqk
        have s1 : seR rho q e 37 q = e := by show (if q = q then e else rho 37 q) = e; rw [if_pos rfl]
        rw [s1]
        exact ⟨hek.2.2.2.2, fun z => absurd z hek.2.2.2.1, fun z => absurd z hek.2.2.1, fun z => z.elim (fun y => absurd y hek.1) (fun y => absurd y hek.2.1)⟩
      · have s1 : seR rho k e 37 q = rho 37 q := by show (if q = k then e else rho 37 q) = _; rw [if_neg hqk]
        rw [s1]
        exact hh
  · rw [← r7]
    unfold leM
    split
    · rfl
    · split <;> rfl
  · intro j
    rw [← r5 911 j (by decide)]
    unfold leM
    split
    · rfl
    · split <;> rfl
end PH
