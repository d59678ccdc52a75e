/-! looking at the ends of a step: the loop -/
section PR2
variable {X Y : Nat → Prop} {m : CM} {rho : RH}
def FrL (rho rho' : RH) : Prop := ∀ F j, F ≠ 21 → F ≠ 22 → F ≠ 23 → F ≠ 25 → F ≠ 27 → F ≠ 28 → F ≠ 43 → F ≠ 50 → rho' F j = rho F j
theorem FrL.rf (rho : RH) : FrL rho rho := fun _ _ _ _ _ _ _ _ _ _ => rfl
theorem FrL.tr {r1 r2 r3 : RH} (h : FrL r1 r2) (g : FrL r2 r3) : FrL r1 r3 := fun F j a b c d e f p q => (g F j a b c d e f p q).trans (h F j a b c d e f p q)
theorem FrL.T {r1 r2 : RH} (h : FrL r1 r2) (o n : Nat) : TR r2 o n = TR r1 o n := by
  unfold TR iC iO iN
  rw [h 31 0 (by decide) (by decide) (by decide) (by decide) (by decide) (by decide) (by decide) (by decide)]
  apply List.filter_congr
  intro x _
  rw [h 32 x (by decide) (by decide) (by decide) (by decide) (by decide) (by decide) (by decide) (by decide), h 33 x (by decide) (by decide) (by decide) (by decide) (by decide) (by decide) (by decide) (by decide)]
theorem FrL.kn {r1 r2 : RH} (h : FrL r1 r2) (k : Nat) : knB r2 k = knB r1 k := by
  unfold knB
  rw [h 37 k (by decide) (by decide) (by decide) (by decide) (by decide) (by decide) (by decide) (by decide), h 42 k (by decide) (by decide) (by decide) (by decide) (by decide) (by decide) (by decide) (by decide), h 38 k (by decide) (by decide) (by decide) (by decide) (by decide) (by decide) (by decide) (by decide), h 0 0 (by decide) (by decide) (by decide) (by decide) (by decide) (by decide) (by decide) (by decide)]
theorem FrL.C {r1 r2 : RH} (h : FrL r1 r2) : iC r2 = iC r1 := by
  unfold iC
  rw [h 31 0 (by decide) (by decide) (by decide) (by decide) (by decide) (by decide) (by decide) (by decide)]
theorem FrL.OE9 {r1 r2 : RH} (h : FrL r1 r2) {o : Nat} (ho : OE r1 o) : OE r2 o := by
  unfold OE iR iP at ho ⊢
  rw [h.C, h 51 0 (by decide) (by decide) (by decide) (by decide) (by decide) (by decide) (by decide) (by decide), h 59 0 (by decide) (by decide) (by decide) (by decide) (by decide) (by decide) (by decide) (by decide)]
  exact ho
theorem FrL.sc9 {r1 r2 : RH} (h : FrL r1 r2) (o : Nat) : sc r2 o = sc r1 o := by
  unfold sc
  rw [h 46 o (by decide) (by decide) (by decide) (by decide) (by decide) (by decide) (by decide) (by decide)]
theorem FrL.cal9 {r1 r2 : RH} (h : FrL r1 r2) (o : Nat) : cal r2 o = cal r1 o := by
  unfold cal
  rw [h 34 o (by decide) (by decide) (by decide) (by decide) (by decide) (by decide) (by decide) (by decide), h 61 (o - 440) (by decide) (by decide) (by decide) (by decide) (by decide) (by decide) (by decide) (by decide)]
theorem FrL.cld9 {r1 r2 : RH} (h : FrL r1 r2) (o n : Nat) : cld r2 o n = cld r1 o n := by
  unfold cld iS
  rw [h 34 o (by decide) (by decide) (by decide) (by decide) (by decide) (by decide) (by decide) (by decide), h 3 _ (by decide) (by decide) (by decide) (by decide) (by decide) (by decide) (by decide) (by decide), h 52 (o - 400) (by decide) (by decide) (by decide) (by decide) (by decide) (by decide) (by decide) (by decide), h 62 (o - 440) (by decide) (by decide) (by decide) (by decide) (by decide) (by decide) (by decide) (by decide)]
theorem lkB_L (rho : RH) (o k c s : Nat) : FrL rho (lkB rho o k c s) := fun F j a b c' d e f p q => by
  rw [lkB_fr rho o k c s a b c' d e f q, if_neg (fun z => p z.1)]
theorem e8_look0 (h : INVX X Y m rho) {o n k : Nat} (hk : k ∈ TR rho o n) (ho : OE rho o) (hn : n + 1 = sc rho o) (h911 : gI m 911 (4 * o + n) = 8) (h43 : ¬ (rho 43 k = 0 ∧ knB rho k = true)) {j q : Nat} (hj : (TR rho o n)[j]? = some k) :
    l8_X8_lookAtEnds_2 (q + 1) 0 (4 * o + n) (nI j) m = l8_X8_lookAtEnds_2 q 0 (4 * o + n) (nI (j + 1)) m := by
  have hkT := TR_mem.mp hk
  have ht := h.at9 o n ho (by omega)
  have hh := h.ah9 o n ho (by omega)
  have hlen := TR_len h.rb9 o n
  have hjl : j < (TR rho o n).length := (List.getElem?_eq_some_iff.mp hj).1
  have hw := h.aw9 k hkT.1
  rw [l8_X8_lookAtEnds_2, ht.2.2.2.2.2.2.2.2.2, od_s, hh.1, if_neg (cle (by omega) hjl), if_pos h911, if_pos (nI_pos (by omega)), nI_clamp (by omega), hj, od_s, hw.2.2.1, h.now, e8_isKnown h hkT.1, cb_s0, nI_1]
  by_cases h1 : rho 43 k = 0
  · cases h2 : knB rho k with
    | true => exact absurd ⟨h1, h2⟩ h43
    | false => rw [if_pos h1, if_neg (show ¬ false = true by decide), if_pos rfl]
  · rw [if_neg h1]
theorem e8_lookE (h : INVX X Y m rho) {o n : Nat} (ho : OE rho o) (hn : n < sc rho o) {j q : Nat} (hj : gI m 911 (4 * o + n) ≠ 8 ∨ (TR rho o n).length = j) (hj4 : j ≤ 400) : l8_X8_lookAtEnds_2 (q + 1) 0 (4 * o + n) (nI j) m = some (0, m, 0) := by
  have ht := h.at9 o n ho hn
  have hh := h.ah9 o n ho hn
  have hlen := TR_len h.rb9 o n
  rw [l8_X8_lookAtEnds_2, ht.2.2.2.2.2.2.2.2.2, od_s, hh.1]
  by_cases h1 : (TR rho o n).length ≤ j
  · rw [if_pos (nI_le h1 (by omega))]
  · rw [if_neg (cle (by omega) (by omega)), if_neg (hj.resolve_right (by omega))]
theorem e9_looks_no (hb : RB rho) {o n j q : Nat} (ho : OE rho o) (hn : n + 1 = sc rho o) (hj : j < iC rho) (hp : ¬ (iO rho j = o ∧ iN rho j = n ∧ rho 43 j = 0 ∧ knB rho j = true)) : l9_looks_2 (q + 1) (nI o) (nI j) rho = l9_looks_2 q (nI o) (nI (j + 1)) rho := by
  have hC := hb.C
  have hO := hb.O hj
  have hN := hb.N hj
  have hE := hb.E ho
  have hat := hb.at ho hN.2
  rw [← hN.1] at hat
  have e1 : nI (iO rho j) = nI o ↔ iO rho j = o := nI_eq (by omega) (by omega)
  rw [l9_looks_2, hC.1, if_neg (cle (by omega) hj), if_pos (vq_nI (n := 400) (by omega) (by omega)), nI_clamp (by omega), hO.1, if_pos (vq_nI (n := 540) (by omega) (by omega)), nI_clamp (by omega), e9_isKnown (by omega), ob_s, nI_1]
  by_cases h1 : iO rho j = o
  · rw [if_pos (e1.mpr h1)]
    by_cases h2 : iN rho j = n
    · rw [if_pos (hat.mpr (by omega)).symm]
      by_cases h3 : rho 43 j = 0
      · cases h4 : knB rho j with
        | true => exact absurd ⟨h1, h2, h3, h4⟩ hp
        | false => rw [if_pos h3, if_neg (show ¬ false = true by decide), if_pos rfl]
      · rw [if_neg h3]
    · rw [if_neg (fun z => h2 (by have := hat.mp z.symm; omega))]
  · rw [if_neg (fun z => h1 (e1.mp z))]
theorem e9_looks_yes (hb : RB rho) {o n j q : Nat} {r : Int32} {rho' : RH} (ho : OE rho o) (hn : n + 1 = sc rho o) (hj : j < iC rho) (h1 : iO rho j = o) (h2 : iN rho j = n) (h3 : rho 43 j = 0) (h4 : knB rho j = true) (hl : f9_looksAt (nI j) rho = some (r, rho')) : l9_looks_2 (q + 1) (nI o) (nI j) rho = if r = 0 then l9_looks_2 q (nI o) (nI (j + 1)) rho' else some (1, rho') := by
  have hC := hb.C
  have hO := hb.O hj
  have hN := hb.N hj
  have hE := hb.E ho
  have hat := hb.at ho hN.2
  rw [← hN.1] at hat
  rw [l9_looks_2, hC.1, if_neg (cle (by omega) hj), if_pos (vq_nI (n := 400) (by omega) (by omega)), nI_clamp (by omega), hO.1, if_pos (by rw [h1]), if_pos (vq_nI (n := 540) (by omega) (by omega)), nI_clamp (by omega), if_pos (hat.mpr (by omega)).symm, if_pos h3, e9_isKnown (by omega), ob_s, h4, if_pos rfl, if_neg (by decide), hl, ob_s, nI_1]
theorem look_loop {o n c s : Nat} (hc7 : c < 7) (hs6 : s < 6) : ∀ (d j : Nat) (pre : List Nat) (m : CM) (rho : RH) (n8 n9 : Nat), j + d = iC rho → TR rho o n = pre ++ ((List.range (iC rho)).drop j).filter (fun k => decide (iO rho k = o ∧ iN rho k = n)) → (∀ x, x ∈ pre → rho 43 x = 0 → knB rho x = false) → INVX X Y m rho → OE rho o → n + 1 = sc rho o → cal rho o = nI c → cld rho o n = nI s → gI m 911 (4 * o + n) = 8 → (TR rho o n).length - pre.length < n8 → d < n9 →
    ∃ m1 rho1, FrL rho rho1 ∧ pot m1 = pot m ∧ ((l9_looks_2 n9 (nI o) (nI j) rho = some (0, rho1) ∧ l8_X8_lookAtEnds_2 n8 0 (4 * o + n) (nI pre.length) m = some (0, m1, 0) ∧ INVX X Y m1 rho1 ∧ (∀ i, gI m1 911 i = gI m 911 i) ∧ (∀ k, k ∈ TR rho o n → rho1 43 k = 0 → knB rho1 k = false)) ∨
      (l9_looks_2 n9 (nI o) (nI j) rho = some (1, rho1) ∧ INVX (fun x => X x ∨ x = o) Y m1 rho1 ∧ gI m1 911 (4 * o + n) = 3 ∧ (∀ i, i ≠ 4 * o + n → gI m1 911 i = gI m 911 i) ∧ 
        ∀ (Z W : Nat → Prop) (m2 : CM) (g : Nat) (rho2 : RH), f8_X8_close (f8_X8_end 8) 0 (4 * o + n) 0 m1 = some (0, m2, g) → INVX Z W m2 rho2 → OE rho2 o → n < sc rho2 o → gI m2 911 (4 * o + n) ≠ 8 → l8_X8_lookAtEnds_2 n8 0 (4 * o + n) (nI pre.length) m = some (0, m2, g))) := by
  intro d
  induction d with
  | zero =>
    intro j pre m rho n8 n9 hj hT hpre h ho hn hc hs h911 h8 h9
    obtain ⟨n8, rfl⟩ : ∃ n', n8 = n' + 1 := ⟨n8 - 1, by omega⟩
    obtain ⟨n9, rfl⟩ : ∃ n', n9 = n' + 1 := ⟨n9 - 1, by omega⟩
    have hC := h.rb9.C
    have hlen := TR_len h.rb9 o n
    rw [List.drop_eq_nil_of_le (by rw [List.length_range]; omega), List.filter_nil, List.append_nil] at hT
    refine ⟨m, rho, FrL.rf rho, rfl, Or.inl ⟨?_, e8_lookE h ho (by omega) (Or.inr (by rw [hT])) (by rw [hT] at hlen; exact hlen), h, fun _ => rfl, fun k hk z => hpre k (hT ▸ hk) z⟩⟩
    rw [l9_looks_2, hC.1, if_pos (nI_le (by omega) (by omega))]
  | succ d ih =>
    intro j pre m rho n8 n9 hj hT hpre h ho hn hc hs h911 h8 h9
    obtain ⟨n9, rfl⟩ : ∃ n', n9 = n' + 1 := ⟨n9 - 1, by omega⟩
    have hb := h.rb9
    have hC := hb.C
    have hlen := TR_len hb o n
    have hjC : j < iC rho := by omega
    rw [rg_cons hjC] at hT
    by_cases hp : iO rho j = o ∧ iN rho j = n
    · rw [List.filter_cons_of_pos (by simp [hp])] at hT
      have hjT : j ∈ TR rho o n := TR_mem.mpr ⟨hjC, hp.1, hp.2⟩
      have hl2 : (TR rho o n).length = pre.length + (((List.range (iC rho)).drop (j + 1)).filter (fun k => decide (iO rho k = o ∧ iN rho k = n))).length + 1 := by
        rw [hT, List.length_append, List.length_cons]
        omega
      obtain ⟨n8, rfl⟩ : ∃ n', n8 = n' + 1 := ⟨n8 - 1, by omega⟩
      have hat : (TR rho o n)[pre.length]? = some j := by rw [hT, List.getElem?_append_right (Nat.le_refl _), Nat.sub_self]; rfl
      have hT2 : TR rho o n = (pre ++ [j]) ++ ((List.range (iC rho)).drop (j + 1)).filter (fun k => decide (iO rho k = o ∧ iN rho k = n)) := by rw [hT, List.append_assoc]; rfl
      by_cases hlk : rho 43 j = 0 ∧ knB rho j = true
      · -- its end is looked at
        have hL := lk_inv h hjT ho hn hc hs hc7 hs6
        have h81 := e8_look1 (q := n8) h hjT ho hn hc hs hc7 hs6 h911 hlk.1 hlk.2 hat
        have h91 := e9_looks_yes (q := n9) hb ho hn hjC hp.1 hp.2 hlk.1 hlk.2 hL.2.2.1
        have hfr := lkB_L rho o j c s
        by_cases h3 : enR rho j = 3
        · rw [if_pos h3] at h81
          rw [if_pos h3, if_neg (show ¬ (1 : Int32) = 0 by decide)] at h91
          have hX : INVX (fun x => X x ∨ x = o) Y (lkA m rho o n j c s) (lkB rho o j c s) := hL.1.mono (fun _ z => Or.inl z) (fun _ z => z)
          refine ⟨sI (lkA m rho o n j c s) 911 (4 * o + n) 3, lkB rho o j c s, hfr, ?_, Or.inr ⟨h91, s911_inv hX (hfr.OE9 ho) (by rw [hfr.sc9]; exact hn) (Or.inr rfl) (by decide), ?_, fun i hi => ?_, fun Z W m2 g rho2 k1 k2 k3 k4 k5 => ?_⟩⟩
          · show pot (lkA m rho o n j c s) = pot m
            exact hL.2.1
          · rw [gI_sI, if_pos rfl, if_pos rfl]
          · rw [gI_sI, if_pos rfl, if_neg hi]
            exact hL.2.2.2 i
          · rw [h81]
            refine cb_r (g2 := 0) k1 ?_
            obtain ⟨n8, rfl⟩ : ∃ n', n8 = n' + 1 := ⟨n8 - 1, by omega⟩
            exact e8_lookE k2 k3 k4 (Or.inl k5) (by omega)
        · rw [if_neg h3] at h81
          rw [if_neg h3, if_pos rfl] at h91
          have hT1 := hfr.T o n
          have e1 : ∀ k, iO (lkB rho o j c s) k = iO rho k := fun k => by unfold iO; rw [hfr 32 k (by decide) (by decide) (by decide) (by decide) (by decide) (by decide) (by decide) (by decide)]
          have e2 : ∀ k, iN (lkB rho o j c s) k = iN rho k := fun k => by unfold iN; rw [hfr 33 k (by decide) (by decide) (by decide) (by decide) (by decide) (by decide) (by decide) (by decide)]
          obtain ⟨m1, rho1, f1, f2, f3⟩ := ih (j + 1) (pre ++ [j]) (lkA m rho o n j c s) (lkB rho o j c s) n8 n9 (by rw [hfr.C]; omega) (by rw [hT1, hT2, hfr.C]; simp only [e1, e2]) (fun x hx z => by
            rcases List.mem_append.mp hx with y | y
            · rw [hfr.kn]
              rw [lkB_fr rho o j c s (by decide) (by decide) (by decide) (by decide) (by decide) (by decide) (by decide)] at z
              by_cases hxj : x = j
              · rw [if_pos ⟨rfl, hxj⟩] at z
                exact absurd z (by decide)
              · rw [if_neg (fun q => hxj q.2)] at z
                exact hpre x y z
            · rw [List.mem_singleton] at y
              rw [lkB_fr rho o j c s (by decide) (by decide) (by decide) (by decide) (by decide) (by decide) (by decide), if_pos ⟨rfl, y⟩] at z
              exact absurd z (by decide)) hL.1 (hfr.OE9 ho) (by rw [hfr.sc9]; exact hn) (by rw [hfr.cal9]; exact hc) (by rw [hfr.cld9]; exact hs) (by rw [hL.2.2.2]; exact h911) (by rw [hT1, List.length_append, List.length_singleton]; omega) (by omega)
          refine ⟨m1, rho1, hfr.tr f1, f2.trans hL.2.1, ?_⟩
          rw [h81, h91]
          rw [List.length_append, List.length_singleton, hT1] at f3
          rcases f3 with ⟨g1, g2, g3, g4, g5⟩ | ⟨g1, g2, g3, g4, g5⟩
          · exact Or.inl ⟨g1, g2, g3, fun i => (g4 i).trans (hL.2.2.2 i), g5⟩
          · exact Or.inr ⟨g1, g2, g3, fun i hi => (g4 i hi).trans (hL.2.2.2 i), g5⟩
      · -- not to be looked at
        rw [e8_look0 h hjT ho hn h911 hlk hat, e9_looks_no hb ho hn hjC (fun z => hlk z.2.2)]
        have := ih (j + 1) (pre ++ [j]) m rho n8 n9 (by omega) hT2 (fun x hx z => by
          rcases List.mem_append.mp hx with y | y
          · exact hpre x y z
          · rw [List.mem_singleton] at y
            subst y
            cases hq : knB rho x with
            | false => rfl
            | true => exact absurd ⟨z, hq⟩ hlk) h ho hn hc hs h911 (by rw [List.length_append, List.length_singleton]; omega) (by omega)
        rw [List.length_append, List.length_singleton] at this
        exact this
    · rw [List.filter_cons_of_neg (by simp [hp])] at hT
      rw [e9_looks_no hb ho hn hjC (fun z => hp ⟨z.1, z.2.1⟩)]
      exact ih (j + 1) pre m rho n8 n9 (by omega) hT hpre h ho hn hc hs h911 h8 (by omega)
/-- all known ends of a step are looked at -/
def LKd (rho : RH) (o n : Nat) : Prop := ∀ k, k ∈ TR rho o n → rho 43 k = 0 → knB rho k = false
theorem look_both (h : INVX X Y m rho) {o n c s : Nat} (ho : OE rho o) (hn : n + 1 = sc rho o) (hc : cal rho o = nI c) (hs : cld rho o n = nI s) (hc7 : c < 7) (hs6 : s < 6) (h911 : gI m 911 (4 * o + n) = 8) :
    ∃ m1 rho1, FrL rho rho1 ∧ pot m1 = pot m ∧ ((f9_looks (nI o) rho = some (0, rho1) ∧ f8_X8_lookAtEnds 0 (4 * o + n) m = some (0, m1, 0) ∧ INVX X Y m1 rho1 ∧ (∀ i, gI m1 911 i = gI m 911 i) ∧ LKd rho1 o n) ∨
      (f9_looks (nI o) rho = some (1, rho1) ∧ INVX (fun x => X x ∨ x = o) Y m1 rho1 ∧ gI m1 911 (4 * o + n) = 3 ∧ (∀ i, i ≠ 4 * o + n → gI m1 911 i = gI m 911 i) ∧ 
        ∀ (Z W : Nat → Prop) (m2 : CM) (g : Nat) (rho2 : RH), f8_X8_close (f8_X8_end 8) 0 (4 * o + n) 0 m1 = some (0, m2, g) → INVX Z W m2 rho2 → OE rho2 o → n < sc rho2 o → gI m2 911 (4 * o + n) ≠ 8 → f8_X8_lookAtEnds 0 (4 * o + n) m = some (0, m2, g))) := by
  have hF : FU = 1000 := rfl
  have hlen := TR_len h.rb9 o n
  have hC := h.rb9.C
  obtain ⟨m1, rho1, f1, f2, f3⟩ := look_loop (X := X) (Y := Y) hc7 hs6 (iC rho) 0 [] m rho FU FU (by omega) (by rw [List.drop_zero]; rfl) (fun x hx => by cases hx) h ho hn hc hs h911 (by omega) (by omega)
  refine ⟨m1, rho1, f1, f2, ?_⟩
  rcases f3 with ⟨g1, g2, g3, g4, g5⟩ | ⟨g1, g2⟩
  · exact Or.inl ⟨g1, g2, g3, g4, fun k hk => g5 k (by rw [← f1.T]; exact hk)⟩
  · exact Or.inr ⟨g1, g2⟩
end PR2
