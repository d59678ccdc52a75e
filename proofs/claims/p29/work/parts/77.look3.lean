/-! looking at the ends of a step: both sides -/
section PQQ
variable {X Y : Nat → Prop} {m : CM} {rho : RH}
theorem la_inv (h : INVX X Y m rho) {o n k : Nat} (hk : k ∈ TR rho o n) (ho : OE rho o) (hn : n + 1 = sc rho o) {e : Int32} : INVX X Y (sI (sI m 137 k 1) 909 (4 * o + n) e) (up2 (up2 rho 43 k 1) 50 o e) := by
  have hb := h.rb9
  have hkT := TR_mem.mp hk
  have hs := hb.sce ho
  obtain ⟨b1, b2, b3, b4, b5, b6, b7, b8, b9, b10, b11, b12, b13, b14, b15, b16, c0, cs, ci, cp, cr, cq, ck, cw, cz⟩ := h
  refine ⟨b1, b2, b3, b4, b5, b6, b7, b8, b9, b10, fun q hq => ?_, b12, b13, b14, fun o' n' ho' ho4 hn' => ?_, b16, c0, cs, ci, cp, cr, cq, ck, cw, fun q q1 q2 => ?_, cz.2⟩
  · have hh := b11 q hq
    refine ⟨hh.1, hh.2.1, ?_, hh.2.2.2⟩
    show (if q = k then 1 else gI m 137 q) = (if q = k then 1 else rho 43 q)
    rw [hh.2.2.1]
  · have hh := b15 o' n' ho' ho4 hn'
    refine ⟨hh.1, hh.2.1, hh.2.2.1, fun z => ?_⟩
    have h4 := hh.2.2.2 z
    have hs' := hb.sce ho'
    refine ⟨h4.1, ?_⟩
    by_cases hoo : o' = o
    · subst hoo
      have hnn : n' = n := by
        have : n' + 1 = sc rho o' := hn'
        omega
      subst hnn
      right
      left
      rw [gI_sI, if_pos rfl, if_pos rfl, up2_s]
    · rw [gI_sI, if_pos rfl, if_neg (by have : n' + 1 = sc rho o' := hn'; omega), up2_i _ _ _ _ hoo]
      rcases h4.2 with z0 | z1 | ⟨z1, k', z2, z3⟩
      · exact Or.inl z0
      · exact Or.inr (Or.inl z1)
      · refine Or.inr (Or.inr ⟨z1, k', z2, ?_⟩)
        have hne : k' ≠ k := fun z9 => hoo (by rw [← (TR_mem.mp z2).2.1, ← hkT.2.1, z9])
        show (if k' = k then 1 else rho 43 k') = 0
        rw [if_neg hne]
        exact z3
  · refine ⟨(cz.1 q q1 q2).1, ?_⟩
    have q1' : iC rho ≤ q := q1
    have hne : q ≠ k := by omega
    show (if q = k then 1 else rho 43 q) = 0
    rw [if_neg hne]
    exact (cz.1 q q1 q2).2
def lkA (m : CM) (rho : RH) (o n k : Nat) (c s : Nat) : CM := jdM (cnM (sI (sI m 137 k 1) 909 (4 * o + n) (enR rho k)) (7 * iX rho k + c) (decide (enR rho k = 3)) (rho 0 0)) s (nv (rho 12 (iX rho k))) (decide (enR rho k = 3))
def lkB (rho : RH) (o k : Nat) (c s : Nat) : RH := jdR (cnR (up2 (up2 rho 43 k 1) 50 o (enR rho k)) (12 * c + iX rho k) (decide (enR rho k = 3))) s (nv (rho 12 (iX rho k))) (decide (enR rho k = 3))
theorem lkB_fr (rho : RH) (o k c s : Nat) {F j : Nat} (h1 : F ≠ 21) (h2 : F ≠ 22) (h3 : F ≠ 23) (h4 : F ≠ 25) (h5 : F ≠ 27) (h6 : F ≠ 28) (h7 : F ≠ 50) : lkB rho o k c s F j = if F = 43 ∧ j = k then 1 else rho F j := by
  unfold lkB
  rw [jd_fr _ _ _ _ h4 h5 h6, cn_fr _ _ _ h1 h2 h3, up2_f _ _ _ _ h7, up2_a]
  by_cases h8 : F = 43
  · by_cases h9 : j = k
    · simp [h8, h9]
    · simp [h8, h9]
  · simp [h8]
theorem gI_jdM {s v : Nat} {ok : Bool} {f j : Nat} (hf : f ≠ 384) : gI (jdM m s v ok) f j = gI m f j := by
  unfold jdM
  split
  · rfl
  · rw [wr_s]
    have e9 : ∀ (c : Prop) [Decidable c] (r : CM), gI (if c then r else sI r 384 s 0) f j = gI r f j := fun c _ r => by
      split
      · rfl
      · rw [gI_sI, if_neg hf]
    rw [e9]
    split <;> rfl
theorem gI_cnM {b : Nat} {ok : Bool} {now : Int32} {f j : Nat} (hf : 2 < f) : gI (cnM m b ok now) f j = gI m f j := by
  unfold cnM
  split
  · rfl
  · split
    · rw [gI_sI, if_neg (by omega), gI_sI, if_neg (by omega)]
    · split
      · rw [gI_sI, if_neg (by omega), gI_sI, if_neg (by omega), gI_sI, if_neg (by omega)]
      · rw [gI_sI, if_neg (by omega)]
theorem lk_inv (h : INVX X Y m rho) {o n k c s : Nat} (hk : k ∈ TR rho o n) (ho : OE rho o) (hn : n + 1 = sc rho o) (hc : cal rho o = nI c) (hs : cld rho o n = nI s) (hc7 : c < 7) (hs6 : s < 6) :
    INVX X Y (lkA m rho o n k c s) (lkB rho o k c s) ∧ pot (lkA m rho o n k c s) = pot m ∧ f9_looksAt (nI k) rho = some (if enR rho k = 3 then 1 else 0, lkB rho o k c s) ∧ (∀ j, gI (lkA m rho o n k c s) 911 j = gI m 911 j) := by
  have hb := h.rb9
  have hC := hb.C
  have hkT := TR_mem.mp hk
  have hXx := hb.Xi hkT.1
  have hv := (hb.ri9 _ hXx.2).2.2.2.2.2.2.1
  have hv2 := hv.lt (by omega)
  have hrk := hb.rk9 k hkT.1
  rw [hkT.2.1, hkT.2.2, hs, hc] at hrk
  have h1 := la_inv h hk ho hn (e := enR rho k)
  have h2 := cn_inv h1 hXx.2 hc7 (decide (enR rho k = 3))
  have h3 := jd_inv h2.1 hs6 hv2 (decide (enR rho k = 3))
  refine ⟨h3.1, h3.2.trans h2.2, ?_, fun j => ?_⟩
  · rw [e9_looksAt0 (by omega), e9_look26 (rho := up2 rho 43 k 1) (show RB (up2 rho 43 k 1) from ?_) hkT.1 c hrk.2.2.2.2.2.2.2.2.2.1 hc7, show iO (up2 rho 43 k 1) k = o from hkT.2.1, show iX (up2 rho 43 k 1) k = iX rho k from rfl, e9_look175 h2.1.rb9]
    · have e1 : iS (cnR (up2 (up2 rho 43 k 1) 50 o (enR rho k)) (12 * c + iX rho k) (decide (enR rho k = 3))) k = s := by
        unfold iS
        rw [cn_fr _ _ _ (by decide) (by decide) (by decide)]
        show nv (rho 34 k) = s
        rw [hrk.2.2.2.2.2.2.2.2.1, nv_nI (by omega)]
      have e2 : iX (cnR (up2 (up2 rho 43 k 1) 50 o (enR rho k)) (12 * c + iX rho k) (decide (enR rho k = 3))) k = iX rho k := by
        unfold iX
        rw [cn_fr _ _ _ (by decide) (by decide) (by decide)]
        rfl
      have e3 : cnR (up2 (up2 rho 43 k 1) 50 o (enR rho k)) (12 * c + iX rho k) (decide (enR rho k = 3)) 12 (iX rho k) = rho 12 (iX rho k) := by
        rw [cn_fr _ _ _ (by decide) (by decide) (by decide)]
        rfl
      rw [e1, e2, e3]
      rfl
    · unfold iC
      rw [cn_fr _ _ _ (by decide) (by decide) (by decide)]
      exact hkT.1
    · have hz := (la_inv h hk ho hn (e := rho 50 o)).rb9
      rw [show up2 (up2 rho 43 k 1) 50 o (rho 50 o) = up2 rho 43 k 1 from up2_self (up2 rho 43 k 1) 50 o] at hz
      exact hz
  · unfold lkA
    rw [gI_jdM (by decide), gI_cnM (by decide)]
    rfl
theorem en_135 (h : INVX X Y m rho) {k : Nat} (hk : k < iC rho) (hkn : knB rho k = true) : gI m 135 k = enR rho k := by
  unfold knB at hkn
  have hkn := of_decide_eq_true hkn
  have hw := (h.aw9 k hk).2.2.2.2 hkn.1 hkn.2.1
  unfold enR
  by_cases h1 : rho 42 k = 0
  · rw [if_pos h1]
    exact (hw.1 h1).1
  · rw [if_neg h1]
    exact (hw.2 h1).1
/-- the class's step of the loop at a try whose end is to be looked at -/
theorem e8_look1 (h : INVX X Y m rho) {o n k c s : Nat} (hk : k ∈ TR rho o n) (ho : OE rho o) (hn : n + 1 = sc rho o) (hc : cal rho o = nI c) (hs : cld rho o n = nI s) (hc7 : c < 7) (hs6 : s < 6) (h911 : gI m 911 (4 * o + n) = 8) (h43 : rho 43 k = 0) (hkn : knB rho k = true) {j q : Nat} (hj : (TR rho o n)[j]? = some k) :
    l8_X8_lookAtEnds_2 (q + 1) 0 (4 * o + n) (nI j) m = if enR rho k = 3 then (cb (f8_X8_close (f8_X8_end 8) 0 (4 * o + n) 0 (sI (lkA m rho o n k c s) 911 (4 * o + n) 3)) fun _ m52 => l8_X8_lookAtEnds_2 q 0 (4 * o + n) (nI (j + 1)) m52) else l8_X8_lookAtEnds_2 q 0 (4 * o + n) (nI (j + 1)) (lkA m rho o n k c s) := by
  have hb := h.rb9
  have hkT := TR_mem.mp hk
  have hXx := hb.Xi hkT.1
  have hI := hb.I
  have hv := (hb.ri9 _ hXx.2).2.2.2.2.2.2.1
  have hv2 := hv.lt (by omega)
  have ht := h.at9 o n ho (by omega)
  have hh := h.ah9 o n ho (by omega)
  have hlen := TR_len hb o n
  have hjl : j < (TR rho o n).length := (List.getElem?_eq_some_iff.mp hj).1
  have hw := h.aw9 k hkT.1
  have h1 := la_inv h hk ho hn (e := enR rho k)
  have h2 := cn_inv h1 hXx.2 hc7 (decide (enR rho k = 3))
  have hak := h.ak9 k hkT.1
  have hai := h.ai9 _ hXx.2
  have hai2 := hai.2.2.2.2.2.2.2.2.2.2.2.2.2 c hc7
  have ha := h.a09
  have ha2 : A0 (cnM (sI (sI m 137 k 1) 909 (4 * o + n) (enR rho k)) (7 * iX rho k + c) (decide (enR rho k = 3)) (rho 0 0)) := h2.1.a09
  have q1 := vq_nI hc7 (show 7 < 2 ^ 31 by omega)
  have c1 := nI_clamp (n := c) (by omega)
  have q2 := vq_nI hs6 (show 6 < 2 ^ 31 by omega)
  have c2 := nI_clamp (n := s) (by omega)
  have hz := ha2.2.2.2.2.2.2.2.2.2 s hs6
  generalize hm18 : sI (sI m 137 k 1) 909 (4 * o + n) (enR rho k) = m18 at *
  have e135 : gI (sI m 137 k 1) 135 k = enR rho k := en_135 h hkT.1 hkn
  have e135b : gI m18 135 k = enR rho k := by rw [← hm18]; exact e135
  have e130 : gR m18 130 k = some (iX rho k) := by rw [← hm18]; exact hak.2.2.1
  have e520 : gR m18 520 (iX rho k) = some (iX rho k) := by rw [← hm18]; exact hai.2.1
  have e896 : gI m18 896 (4 * o + n) = nI c := by rw [← hm18, ← hc]; exact ht.1
  have e43 : gO m18 43 (iX rho k) c = some (7 * iX rho k + c) := by rw [← hm18]; exact hai2.1
  have e1024 : gI m18 1024 0 = rho 0 0 := by rw [← hm18]; exact h.now
  have hcnR : ∀ b ok now, gR (cnM m18 b ok now) = gR m18 := fun b ok now => by unfold cnM; split; rfl; split; rfl; split <;> rfl
  have e130b : ∀ b ok now, gR (cnM m18 b ok now) 130 k = some (iX rho k) := fun b ok now => by rw [hcnR]; exact e130
  have e897 : ∀ b ok now, gI (cnM m18 b ok now) 897 (4 * o + n) = nI s := fun b ok now => by rw [gI_cnM (by decide), ← hm18, ← hs]; exact ht.2.1
  have e518 : ∀ b ok now, gI (cnM m18 b ok now) 518 (iX rho k) = nI (nv (rho 12 (iX rho k))) := fun b ok now => by rw [gI_cnM (by decide), ← hm18, ← hv.eq (by omega)]; exact hai.2.2.2.2.2.2.2.2.2.2.1
  have hjd : ∀ (x : Int32), x = (if decide (enR rho k = 3) = true then 1 else 0) → f8_X3_judge s (nI (nv (rho 12 (iX rho k)))) x (cnM m18 (7 * iX rho k + c) (decide (enR rho k = 3)) (rho 0 0)) = some (0, lkA m rho o n k c s, 0) := fun x hx => by
    rw [hx, e8_judge ha2 hs6 hv2]
    unfold lkA
    rw [hm18]
  rw [l8_X8_lookAtEnds_2, ht.2.2.2.2.2.2.2.2.2, od_s, hh.1, if_neg (cle (by omega) hjl), if_pos h911, if_pos (nI_pos (by omega)), nI_clamp (by omega), hj, od_s, hw.2.2.1, if_pos h43, h.now, e8_isKnown h hkT.1, cb_s0, hkn, if_pos rfl, if_neg (by decide), wr_s, e135, hm18, wr_s, e135b, nI_1]
  by_cases h3 : enR rho k = 3
  · have hct := e8_count m18 (7 * iX rho k + c) (decide (enR rho k = 3)) (rho 0 0)
    have hd : (if decide (enR rho k = 3) = true then (1 : Int32) else 0) = 1 := by simp [h3]
    rw [hd] at hct
    rw [if_pos h3, if_pos h3, e130, od_s, e520, od_s, e896, if_pos q1, c1, e43, od_s, e1024, hct, cb_s0, ha2.2.1, od_s, e897, if_pos q2, c2, hz.1, od_s, hz.2.2.2.2.1, od_s, e130b, od_s, e518, hjd 1 hd.symm, cb_s0, wr_s]
  · have hct := e8_count m18 (7 * iX rho k + c) (decide (enR rho k = 3)) (rho 0 0)
    have hd : (if decide (enR rho k = 3) = true then (1 : Int32) else 0) = 0 := by simp [h3]
    rw [hd] at hct
    rw [if_neg h3, if_neg h3, e130, od_s, e520, od_s, e896, if_pos q1, c1, e43, od_s, e1024, hct, cb_s0, ha2.2.1, od_s, e897, if_pos q2, c2, hz.1, od_s, hz.2.2.2.2.1, od_s, e130b, od_s, e518, hjd 0 hd.symm, cb_s0]
end PQQ
