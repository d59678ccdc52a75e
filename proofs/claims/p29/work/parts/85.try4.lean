/-! a try, both sides -/
section PY
variable {X Y : Nat → Prop} {m : CM} {rho : RH}
theorem e9_callerOf (hb : RB rho) {o : Nat} (ho : OE rho o) : f9_callerOf (nI o) rho = some (cal rho o, rho) := by
  have hR := hb.R
  have hP := hb.P
  unfold f9_callerOf cal
  rcases hb.E ho with ⟨h1, h2⟩ | ⟨h1, h2, h3⟩ | ⟨h1, h2, h3⟩
  · rw [if_neg (n400 h1), if_pos (vq_nI h1 (by omega)), nI_clamp (by omega), if_pos h1]
  · rw [if_pos (y400 h1 (by omega)), if_neg (n440 h2), if_neg (show ¬ o < 400 by omega), if_pos h2]
  · rw [if_pos (y400 (o := o) (by omega) h2), if_pos (y440 h1 h2), l400, pk_sub (by omega), l40, pk_sub (by omega), show o - 400 - 40 = o - 440 by omega, if_pos (vq_nI (by omega) (by omega)), nI_clamp (by omega), if_neg (show ¬ o < 400 by omega), if_neg (show ¬ o < 440 by omega)]
theorem e9_calledBy (hb : RB rho) {o n : Nat} (ho : OE rho o) (hn : n + 1 = sc rho o) : f9_calledBy (nI o) rho = some (cld rho o n, rho) := by
  have hR := hb.R
  have hP := hb.P
  have hss := hb.sce ho
  unfold f9_calledBy cld
  rcases hb.E ho with ⟨h1, h2⟩ | ⟨h1, h2, h3⟩ | ⟨h1, h2, h3⟩
  · have hS := hb.S h2
    have q1 := vq_nI (k := 4 * iS rho o + n) (n := 24) (by omega) (by omega)
    have c1 := nI_clamp (n := 4 * iS rho o + n) (by omega)
    have e1 : rho 46 o = nI n := by rw [hss.1, ← hn, nI_pred]
    have qa := vq_nI (k := o) (n := 400) h1 (by omega)
    have qb := vq_nI (k := o) (n := 540) (by omega) (by omega)
    have co := nI_clamp (n := o) (by omega)
    rw [if_neg (n400 h1), if_pos qa, if_pos qb, co, hS.1, e1, l4, pk_mul, nI_add, if_pos q1, c1, if_pos h1]
  · rw [if_pos (y400 h1 (by omega)), if_neg (n440 h2), l400, pk_sub h1, if_pos (vq_nI (by omega) (by omega)), nI_clamp (by omega), if_neg (show ¬ o < 400 by omega), if_pos h2]
  · rw [if_pos (y400 (o := o) (by omega) h2), if_pos (y440 h1 h2), l400, pk_sub (by omega), l40, pk_sub (by omega), show o - 400 - 40 = o - 440 by omega, if_pos (vq_nI (by omega) (by omega)), nI_clamp (by omega), if_neg (show ¬ o < 400 by omega), if_neg (show ¬ o < 440 by omega)]
def tcR (rho : RH) (c what : Nat) : RH := if what = 3 then rho else acR rho c (decide (what ≠ 0))
def tcM (m : CM) (c what : Nat) : CM := if what = 3 then m else acM m c (decide (what ≠ 0))
def w1 (what : Nat) : Int32 := if what = 1 then 1 else 0
def taR (rho : RH) (o c what : Nat) : RH := a2R (tcR rho c what) o (if tcR rho c what 48 o = 0 then tcR rho c what 0 0 else tcR rho c what 47 o) (tcR rho c what 48 o + 1) (tcR rho c what 49 o + w1 what)
def taM (m : CM) (s c what : Nat) : CM := a2M (tcM m c what) s (gI (tcM m c what) 907 s + w1 what) (if gI (tcM m c what) 906 s = 0 then gI (tcM m c what) 1024 0 else gI (tcM m c what) 908 s) (gI (tcM m c what) 906 s + 1)
theorem e9_b100 {o : Nat} (ho : o < 540) (what : Nat) (hw : what < 4) (x3 x4 : Int32) (r : RH) : b9_tries_100 (nI o) (nI what) x3 x4 r = R9 (nI o) x3 x4 (a2R r o (if r 48 o = 0 then r 0 0 else r 47 o) (r 48 o + 1) (r 49 o + w1 what)) := by
  have qo := vq_nI (k := o) (n := 540) ho (by omega)
  have co := nI_clamp (n := o) (by omega)
  have h127 : ∀ s2 : Int32, b9_tries_127 (nI o) (nI what) x3 x4 (nI o) s2 r = R9 (nI o) x3 x4 (a2R r o s2 (r 48 o + 1) (r 49 o + w1 what)) := fun s2 => by
    unfold b9_tries_127
    simp only [if_pos qo, wr_s]
    simp only [co]
    have e48 : up2 r 47 o s2 48 o = r 48 o := rfl
    rw [e48]
    have e49 : up2 (up2 r 47 o s2) 48 o (r 48 o + 1) 49 o = r 49 o := rfl
    rw [e49]
    unfold w1
    by_cases h1 : what = 1
    · rw [if_pos h1, if_pos (by rw [h1]; rfl), b155_e ho]
      rfl
    · rw [if_neg h1, if_neg (fun z => h1 (by rw [l1, nI_eq (by omega) (by omega)] at z; exact z)), b155_e ho]
      rfl
  unfold b9_tries_100
  rw [if_pos qo, co]
  by_cases h0 : r 48 o = 0
  · rw [if_pos h0, if_pos h0, h127]
  · rw [if_neg h0, if_neg h0, h127]
theorem e9_tries0 (hb : RB rho) {o n c s what : Nat} (ho : OE rho o) (hn : n + 1 = sc rho o) (hc : cal rho o = nI c) (hs : cld rho o n = nI s) (hc7 : c < 7) (hw : what < 4) : f9_tries (nI o) (nI what) rho = R9 (nI o) (nI c) (nI s) (taR rho o c what) := by
  have ho5 : o < 540 := by have := hb.E ho; omega
  have qc := vq_nI (k := c) (n := 7) hc7 (by omega)
  have cc := nI_clamp (n := c) (by omega)
  unfold f9_tries taR
  rw [e9_callerOf hb ho, ob_s, e9_calledBy hb ho hn, ob_s, hc, hs]
  have hw4 : what = 0 ∨ what = 1 ∨ what = 2 ∨ what = 3 := by omega
  have hext : ∀ w, w = 1 ∨ w = 2 → (wr (up2 rho 17 c (rho 17 c - 100)) fun rho12 => wr (up2 rho12 19 c (rho12 19 c + 1)) fun rho14 => b9_tries_100 (nI o) (nI w) (nI c) (nI s) rho14) = R9 (nI o) (nI c) (nI s) (a2R (tcR rho c w) o (if tcR rho c w 48 o = 0 then tcR rho c w 0 0 else tcR rho c w 47 o) (tcR rho c w 48 o + 1) (tcR rho c w 49 o + w1 w)) := fun w hw => by
    rw [wr_s, wr_s, e9_b100 ho5 w (by omega)]
    rcases hw with rfl | rfl <;> rfl
  rcases hw4 with rfl | rfl | rfl | rfl
  · rw [if_pos (show nI 0 = (0 : Int32) from rfl), if_pos qc, cc]
    have h60 : ∀ v : Int32, b9_tries_60 (nI o) (nI 0) (nI c) (nI s) (nI c) v rho = b9_tries_100 (nI o) (nI 0) (nI c) (nI s) (up2 (up2 rho 17 c v) 18 c (rho 18 c + 1)) := fun v => by
      unfold b9_tries_60
      simp only [if_pos qc, wr_s]
      simp only [cc]
      rfl
    rw [h60, h60, e9_b100 ho5 0 (by omega), e9_b100 ho5 0 (by omega)]
    unfold tcR acR
    rw [if_neg (show ¬ (0 : Nat) = 3 by decide), if_neg (show ¬ decide ((0 : Nat) ≠ 0) = true by decide)]
    by_cases h1 : rho 17 c + rho 16 c ≤ 1000
    · rw [if_pos h1, if_pos h1]
    · rw [if_neg h1, if_neg h1]
  · rw [if_neg (show ¬ nI 1 = (0 : Int32) by decide), if_neg (show ¬ nI 1 = (3 : Int32) by decide), if_pos qc, cc]
    exact hext 1 (Or.inl rfl)
  · rw [if_neg (show ¬ nI 2 = (0 : Int32) by decide), if_neg (show ¬ nI 2 = (3 : Int32) by decide), if_pos qc, cc]
    exact hext 2 (Or.inr rfl)
  · rw [if_neg (show ¬ nI 3 = (0 : Int32) by decide), if_pos (show nI 3 = (3 : Int32) from rfl), e9_b100 ho5 3 (by omega)]
    rfl
theorem a2_self (m : CM) (s : Nat) (x : Int32) : a2M m s (gI m 907 s) (gI m 908 s) x = sI m 906 s x := by
  unfold a2M
  rw [sI_self m 907 s, sI_self m 908 s]
theorem e8_b21 (M : CM) (s : Nat) : b8_X8_tryOnce_21 0 s M = R8 0 s (sI (if gI M 906 s = 0 then sI M 908 s (gI M 1024 0) else M) 906 s (gI M 906 s + 1)) := by
  unfold b8_X8_tryOnce_21
  by_cases h : gI M 906 s = 0
  · rw [if_pos h, if_pos h, wr_s, b36_e]
    rfl
  · rw [if_neg h, if_neg h, b36_e]
theorem a2_fin (M : CM) (s : Nat) (v : Int32) : sI (if gI (sI M 907 s v) 906 s = 0 then sI (sI M 907 s v) 908 s (gI (sI M 907 s v) 1024 0) else sI M 907 s v) 906 s (gI (sI M 907 s v) 906 s + 1) = a2M M s v (if gI M 906 s = 0 then gI M 1024 0 else gI M 908 s) (gI M 906 s + 1) := by
  have e1 : gI (sI M 907 s v) 906 s = gI M 906 s := rfl
  have e2 : gI (sI M 907 s v) 1024 0 = gI M 1024 0 := rfl
  rw [e1, e2]
  unfold a2M
  by_cases h : gI M 906 s = 0
  · rw [if_pos h, if_pos h]
  · rw [if_neg h, if_neg h]
    have e3 : gI M 908 s = gI (sI M 907 s v) 908 s := rfl
    rw [e3, sI_self]
theorem e8_try0 (h : INVX X Y m rho) {o n c what : Nat} (ho : OE rho o) (hn : n + 1 = sc rho o) (hc : cal rho o = nI c) (hc7 : c < 7) (hw : what < 4) (hw3 : what = 3 ↔ 440 ≤ o) : f8_X8_tryOnce 0 (4 * o + n) (if what = 1 ∨ what = 2 then 1 else 0) (if what = 1 then sI m 907 (4 * o + n) (gI m 907 (4 * o + n) + 1) else m) = R8 0 (4 * o + n) (taM m (4 * o + n) c what) := by
  have hE := h.rb9.E ho
  have hP := h.rb9.P
  have ht := h.at9 o n ho (by omega)
  have ha := h.a09
  have hw4 : what = 0 ∨ what = 1 ∨ what = 2 ∨ what = 3 := by omega
  have qc := vq_nI (k := c) (n := 7) hc7 (by omega)
  have cc := nI_clamp (n := c) (by omega)
  have e907 : ∀ M : CM, sI (if gI M 906 (4 * o + n) = 0 then sI M 908 (4 * o + n) (gI M 1024 0) else M) 906 (4 * o + n) (gI M 906 (4 * o + n) + 1) = a2M M (4 * o + n) (gI M 907 (4 * o + n) + 0) (if gI M 906 (4 * o + n) = 0 then gI M 1024 0 else gI M 908 (4 * o + n)) (gI M 906 (4 * o + n) + 1) := fun M => by
    have := a2_fin M (4 * o + n) (gI M 907 (4 * o + n))
    rw [sI_self] at this
    rw [this, add0]
  have hno3 : ∀ (M : CM) (ext : Bool), gI M 903 (4 * o + n) = rpo o → gI M 896 (4 * o + n) = nI c → gR M 1030 0 = some 0 → gO M 42 0 c = some c → o < 440 → f8_X8_tryOnce 0 (4 * o + n) (if ext = true then 1 else 0) M = b8_X8_tryOnce_21 0 (4 * o + n) (acM M c ext) := fun M ext k1 k2 k3 k4 k5 => by
    unfold f8_X8_tryOnce
    have : rpo o = -1 := if_pos k5
    rw [k1, this, if_pos rfl, k3, od_s, k2, if_pos qc, cc, k4, od_s, e8_account, cb_s0]
  rcases hw4 with rfl | rfl | rfl | rfl
  · rw [if_neg (by decide), if_neg (by decide)]
    have := hno3 m false ht.2.2.2.2.2.2.2.1 (ht.1.trans hc) ha.2.2.1 (ha.2.2.2.2.2.2.2.2.1 c hc7) (by omega)
    rw [if_neg (by decide)] at this
    rw [this, e8_b21, e907]
    rfl
  · rw [if_pos (by decide), if_pos rfl]
    have := hno3 (sI m 907 (4 * o + n) (gI m 907 (4 * o + n) + 1)) true ht.2.2.2.2.2.2.2.1 (ht.1.trans hc) ha.2.2.1 (ha.2.2.2.2.2.2.2.2.1 c hc7) (by omega)
    rw [if_pos rfl] at this
    have e : acM (sI m 907 (4 * o + n) (gI m 907 (4 * o + n) + 1)) c true = sI (acM m c true) 907 (4 * o + n) (gI m 907 (4 * o + n) + 1) := by
      unfold acM
      rw [if_pos rfl, if_pos rfl]
      have e1 : gI (sI m 907 (4 * o + n) (gI m 907 (4 * o + n) + 1)) 259 c = gI m 259 c := rfl
      have e2 : gI (sI m 907 (4 * o + n) (gI m 907 (4 * o + n) + 1)) 256 c = gI m 256 c := rfl
      rw [e1, e2, sI_comm m _ _ _ _ (show (907 : Nat) ≠ 259 by decide), sI_comm _ _ _ _ _ (show (907 : Nat) ≠ 256 by decide)]
    rw [this, e8_b21, e, a2_fin]
    rfl
  · rw [if_pos (by decide), if_neg (by decide)]
    have := hno3 m true ht.2.2.2.2.2.2.2.1 (ht.1.trans hc) ha.2.2.1 (ha.2.2.2.2.2.2.2.2.1 c hc7) (by omega)
    rw [if_pos rfl] at this
    rw [this, e8_b21, e907]
    rfl
  · rw [if_neg (by decide), if_neg (by decide)]
    unfold f8_X8_tryOnce
    have h4 : 440 ≤ o := hw3.mp rfl
    have : rpo o = nI (o - 440) := if_neg (by omega)
    rw [ht.2.2.2.2.2.2.2.1, this, if_neg (nI_ne1 (by omega)), e8_b21, e907]
    rfl
theorem look_skip (h : INVX X Y m rho) {o n : Nat} (ho : OE rho o) (hn : n + 1 = sc rho o) (h911 : gI m 911 (4 * o + n) = 8) : ∀ (l pre r : List Nat) (q : Nat), TR rho o n = pre ++ (l ++ r) → (∀ x, x ∈ l → rho 43 x = 0 → knB rho x = false) → l8_X8_lookAtEnds_2 (q + l.length) 0 (4 * o + n) (nI pre.length) m = l8_X8_lookAtEnds_2 q 0 (4 * o + n) (nI (pre.length + l.length)) m := by
  intro l
  induction l with
  | nil => intro pre r q _ _; rfl
  | cons k l ih =>
    intro pre r q hT hl
    have hat : (TR rho o n)[pre.length]? = some k := by rw [hT, List.cons_append, List.getElem?_append_right (Nat.le_refl _), Nat.sub_self]; rfl
    have hkT : k ∈ TR rho o n := List.mem_of_getElem? hat
    have := ih (pre ++ [k]) r q (by rw [hT, List.append_assoc]; rfl) (fun x hx => hl x (List.mem_cons_of_mem _ hx))
    rw [List.length_append, List.length_singleton] at this
    rw [List.length_cons, ← Nat.add_assoc, e8_look0 h hkT ho hn h911 (fun z => by rw [hl k List.mem_cons_self z.1] at z; exact absurd z.2 (by decide)) hat, this, Nat.add_assoc, Nat.add_comm 1 l.length]
theorem e8_lookNone (h : INVX X Y m rho) {o n : Nat} (ho : OE rho o) (hn : n + 1 = sc rho o) (h911 : gI m 911 (4 * o + n) = 8) (hL : LKd rho o n) : f8_X8_lookAtEnds 0 (4 * o + n) m = some (0, m, 0) := by
  have hlen := TR_len h.rb9 o n
  have hF : FU = 1000 := rfl
  have := look_skip h ho hn h911 (TR rho o n) [] [] (FU - (TR rho o n).length) (by rw [List.append_nil]; rfl) (fun x hx => hL x hx)
  unfold f8_X8_lookAtEnds
  rw [show FU - (TR rho o n).length + (TR rho o n).length = FU by omega] at this
  refine Eq.trans this ?_
  obtain ⟨q, hq⟩ : ∃ q, FU - (TR rho o n).length = q + 1 := ⟨FU - (TR rho o n).length - 1, by omega⟩
  rw [hq]
  exact e8_lookE h ho (by omega) (Or.inr (by simp)) (by simp; omega)
theorem e8_lookLast (h : INVX X Y m rho) {o n k c s : Nat} {T0 : List Nat} (ho : OE rho o) (hn : n + 1 = sc rho o) (h911 : gI m 911 (4 * o + n) = 8) (hc : cal rho o = nI c) (hs : cld rho o n = nI s) (hc7 : c < 7) (hs6 : s < 6) (hT : TR rho o n = T0 ++ [k]) (h0 : ∀ x, x ∈ T0 → rho 43 x = 0 → knB rho x = false) (h43 : rho 43 k = 0) (hkn : knB rho k = true) (h3 : ¬ enR rho k = 3) : f8_X8_lookAtEnds 0 (4 * o + n) m = some (0, lkA m rho o n k c s, 0) := by
  have hlen := TR_len h.rb9 o n
  have hF : FU = 1000 := rfl
  have hl1 : (TR rho o n).length = T0.length + 1 := by rw [hT, List.length_append, List.length_singleton]
  have := look_skip h ho hn h911 T0 [] [k] (FU - T0.length) hT h0
  unfold f8_X8_lookAtEnds
  rw [show FU - T0.length + T0.length = FU by omega] at this
  refine Eq.trans this ?_
  obtain ⟨q, hq⟩ : ∃ q, FU - T0.length = q + 1 + 1 := ⟨FU - T0.length - 2, by omega⟩
  have hat : (TR rho o n)[0 + T0.length]? = some k := by rw [hT, Nat.zero_add, List.getElem?_append_right (Nat.le_refl _), Nat.sub_self]; rfl
  have hkT : k ∈ TR rho o n := List.mem_of_getElem? hat
  have hL := lk_inv h hkT ho hn hc hs hc7 hs6
  have hfr := lkB_L rho o k c s
  rw [hq]
  show l8_X8_lookAtEnds_2 (q + 1 + 1) 0 (4 * o + n) (nI (0 + T0.length)) m = _
  rw [e8_look1 (q := q + 1) h hkT ho hn hc hs hc7 hs6 h911 h43 hkn hat, if_neg h3]
  exact e8_lookE hL.1 (hfr.OE9 ho) (by rw [hfr.sc9]; omega) (Or.inr (by rw [hfr.T, hl1]; omega)) (by omega)
end PY
