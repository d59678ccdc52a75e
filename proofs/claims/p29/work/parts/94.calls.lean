/-! calls that work through their steps -/
section QH
variable {m : CM} {rho : RH}
theorem dn (k : Nat) : nI (k + 1) + (-1) = nI k := by
  rw [← nI_1 k, Int32.add_assoc]
  exact Int32.add_zero _
theorem nI_ne_m1 {q : Nat} (h : q < 2 ^ 31) : ¬ nI q = -1 := fun z => by
  have z2 := congrArg Int32.toInt z
  rw [nI_toInt h] at z2
  have : (-1 : Int32).toInt = -1 := by decide
  omega
/-- what a call's loop reads of it -/
theorem wc_read {X Y : Nat → Prop} (h : INVX X Y m rho) {k : Nat} (hk : k < iC rho) : gR m 1029 0 = some 0 ∧ gR m 129 k = some (sid rho k) ∧ vq (gI m 897 (sid rho k)) 6 ∧ (gI m 897 (sid rho k)).toNatClampNeg = iS rho k ∧ gO m 41 0 (iS rho k) = some (iS rho k) ∧ gR m 132 k = some k ∧ gI m 769 (iS rho k) = nI (nv (rho 2 (iS rho k))) ∧ (gL m 56 k).length = sc rho k := by
  have hb := h.rb9
  have hS := hb.S hk
  have hak := h.ak9 k hk
  have hrk := hb.rk9 k hk
  have ht := h.at9 _ _ hrk.2.1 hrk.2.2.2.2.1
  have ha := h.a09
  have has := h.as9 _ hS.2
  have e1 : gI m 897 (sid rho k) = nI (iS rho k) := ht.2.1.trans (hrk.2.2.2.2.2.2.2.2.1.symm.trans hS.1)
  refine ⟨ha.2.1, hak.2.1, ?_, ?_, (ha.2.2.2.2.2.2.2.2.2 _ hS.2).1, hak.2.2.2.2.1, has.2.1.trans ((hb.rs9 _ hS.2).1.eq (by omega)), by rw [hak.2.2.2.2.2, List.length_map, List.length_range]⟩
  · rw [e1]
    exact vq_nI hS.2 (by omega)
  · rw [e1]
    exact nI_clamp (by omega)
theorem call_visit (h : INV m rho) {k : Nat} (hk : k < iC rho) (h37 : rho 37 k = 2) (n8 : Nat) : ∃ m' g rho', (∀ r m9 g9, l8_X8_goOnWithCalls_10 n8 0 (nI k + (-1)) m' = some (r, m9, g9) → l8_X8_goOnWithCalls_10 (n8 + 1) 0 (nI k) m = some (r, m9, g + g9)) ∧ f9_goesCall (nI k) rho = some (0, rho') ∧ INV m' rho' ∧ g + pot m' ≤ pot m ∧ FrC rho rho' := by
  have hX0 : ∀ x, ¬ N0 x := fun _ z => z
  have hb := h.rb9
  have hC := hb.C
  have hk4 : k < 400 := by omega
  have hok : OE rho k := Or.inl hk
  have hss := hb.sce hok
  have hS := hb.S hk
  have hp4 := (hb.rs9 _ hS.2).1.lt (by omega)
  have hplan := (hb.rw9 k hk).2.2.1 h37
  have hF : FU = 999 + 1 := rfl
  have qk := vq_nI (k := k) (n := 540) (by omega) (by omega)
  have ck := nI_clamp (n := k) (by omega)
  have hw := wc_read h hk
  have e10 : ∀ n, l8_X8_goOnWithCalls_10 (n + 1) 0 (nI k) m = if sc rho k = 0 then l8_X8_goOnWithCalls_77 (l8_X8_goOnWithCalls_10 n) FU 0 (nI k) k none (nI (nv (rho 2 (iS rho k)))) (nI 0) m else cb (f8_X8_goOn 0 (4 * k + (sc rho k - 1)) m) fun _ m27 =>
        od (gR m27 1029 0) fun j32 =>
        od (gR m27 129 k) fun j34 =>
        if vq ((gI m27 897 j34)) 6 then
        od (gO m27 41 j32 ((gI m27 897 j34)).toNatClampNeg) fun j37 =>
        od (gR m27 132 k) fun j39 =>
        l8_X8_goOnWithCalls_77 (l8_X8_goOnWithCalls_10 n) FU 0 (nI k) k (some (4 * k + (sc rho k - 1))) ((gI m27 769 j37)) ((nI (gL m27 56 j39).length)) m27
        else none := fun n => by
    rw [l8_X8_goOnWithCalls_10, if_neg (show ¬ nI k < 0 from nI_pos (by omega)), h.a09.2.2.2.2.2.1, od_s, if_pos (nI_pos (by omega)), h.al9.2.2.1, ck, rg_lt hk, od_s, (h.aw9 k hk).1, if_pos h37, e8_lastStep h hk, cb_s0]
    by_cases z : sc rho k = 0
    · rw [if_pos z, if_pos z, if_pos rfl, hw.1, od_s, hw.2.1, od_s, if_pos hw.2.2.1, hw.2.2.2.1, hw.2.2.2.2.1, od_s, hw.2.2.2.2.2.1, od_s, hw.2.2.2.2.2.2.1, hw.2.2.2.2.2.2.2, z]
    · rw [if_neg z, if_neg z, if_neg (by simp), od_s]
  by_cases hz : sc rho k = 0
  · -- its first step
    have h46 : rho 46 k = -1 := by rw [hss.1, hz]; rfl
    obtain ⟨m1, g1, m', rho', k1, k2, k3, k4, k5, k6, k7, k8, k9⟩ := begins_both (X := N0) (Y := N0) (h.mono (fun _ z => z.elim) (fun _ z => z)) hX0 hk h37 (by omega) (fun n hn => by omega) (fun j hj ho => by
      have := (hb.rk9 j hj).2.2.2.2.1
      rw [ho] at this
      omega)
    rw [hz] at k1 k2 k3 k8
    have hkC : k < iC rho' := Nat.lt_of_lt_of_le hk k7.2.2.1
    have hgo' : Go rho' k := by
      unfold Go goB
      rw [if_pos hk4]
      exact decide_eq_true k9
    obtain ⟨how, m2, g2, rho2, i1, i2, i3, i4, i5, i6⟩ := go_both k5 hX0 hX0 (show k < 440 by omega) (Or.inl hkC) (show 0 + 1 = sc rho' k from k8.symm) hgo'
    have e2 : nv (rho2 2 (iS rho2 k)) = nv (rho 2 (iS rho k)) := by
      rw [i5.toC.S hkC, k7.S hk, i5.1 2 _ (by unfold stF; omega), k7.1 2 _ (by unfold stF; omega)]
    obtain ⟨m3, g3, rho3, j1, j2, j3, j4, j5⟩ := call_loop hX0 hX0 (l8_X8_goOnWithCalls_10 n8) (nI k) 4 0 how m2 rho2 999 FU (Nat.lt_of_lt_of_le hkC i5.2.2.2.1) ((i5.sc9 (Or.inl hkC)).trans k8) e2 (by omega) ((i6 hk4).trans k9) i3 (by omega) (by omega)
    refine ⟨m3, g1 + (g2 + g3), rho3, fun r m9 g9 hK => ?_, ?_, j3, by omega, k7.tr (i5.toC.tr j5)⟩
    · rw [e10, if_pos hz, hF, l8_X8_goOnWithCalls_77, if_neg (cle (by omega) hplan), show f8_X8_isDone none m = some (1, m, 0) from rfl, cb_s0, if_neg (show ¬ (1 : Int32) = 0 by decide)]
      have hh := j1 r m9 g9 hK
      rw [show g1 + (g2 + g3) + g9 = g1 + (g2 + (g3 + g9)) by omega]
      refine cb_r k1 ?_
      rw [od_s, go_same k2 k3]
      refine cb_r i1 ?_
      show l8_X8_goOnWithCalls_77 (l8_X8_goOnWithCalls_10 n8) 999 0 (nI k) k (some (4 * k + 0)) (nI (nv (rho 2 (iS rho k)))) (nI 0 + 1) m2 = _
      rw [nI_1 0]
      exact hh
    · unfold f9_goesCall
      rw [if_pos qk, ck, if_pos h46, k4, ob_s, i2, ob_s]
      exact j2
  · obtain ⟨q, hq⟩ : ∃ q, sc rho k = q + 1 := ⟨sc rho k - 1, by omega⟩
    have h46 : ¬ rho 46 k = -1 := by
      rw [hss.1, hq, nI_pred]
      exact nI_ne_m1 (by omega)
    have hgo : Go rho k := by
      unfold Go goB
      rw [if_pos hk4]
      exact decide_eq_true h37
    obtain ⟨how, m2, g2, rho2, i1, i2, i3, i4, i5, i6⟩ := go_both h hX0 hX0 (show k < 440 by omega) hok hq.symm hgo
    have hkC : k < iC rho2 := Nat.lt_of_lt_of_le hk i5.2.2.2.1
    have e2 : nv (rho2 2 (iS rho2 k)) = nv (rho 2 (iS rho k)) := by
      rw [i5.toC.S hk, i5.1 2 _ (by unfold stF; omega)]
    have esc : sc rho2 k = q + 1 := (i5.sc9 hok).trans hq
    obtain ⟨X', hX'⟩ : ∃ X', INVX X' N0 m2 rho2 := by
      rcases i3 with ⟨-, z⟩ | ⟨-, z, -⟩ | ⟨-, z, -⟩
      · exact ⟨_, z⟩
      · exact ⟨_, z⟩
      · exact ⟨_, z⟩
    have hw2 := wc_read hX' hkC
    obtain ⟨m3, g3, rho3, j1, j2, j3, j4, j5⟩ := call_loop hX0 hX0 (l8_X8_goOnWithCalls_10 n8) (nI k) 4 q how m2 rho2 FU FU hkC esc e2 (by omega) ((i6 hk4).trans h37) i3 (by omega) (by omega)
    refine ⟨m3, g2 + g3, rho3, fun r m9 g9 hK => ?_, ?_, j3, by omega, i5.toC.tr j5⟩
    · have hh := j1 r m9 g9 hK
      rw [e10, if_neg hz, hq, show q + 1 - 1 = q from rfl, show g2 + g3 + g9 = g2 + (g3 + g9) by omega]
      refine cb_r i1 ?_
      show (od (gR m2 1029 0) _) = _
      rw [hw2.1, od_s, hw2.2.1, od_s, if_pos hw2.2.2.1, hw2.2.2.2.1, hw2.2.2.2.2.1, od_s, hw2.2.2.2.2.2.1, od_s, hw2.2.2.2.2.2.2.1, hw2.2.2.2.2.2.2.2, esc, e2]
      exact hh
    · unfold f9_goesCall
      rw [if_pos qk, ck, if_neg h46, i2, ob_s]
      exact j2
/-- the marks of calls that are in their steps -/
theorem marks : ∀ (d j q : Nat) (m : CM) (rho : RH), j + d = iC rho → INV m rho → d < q → (∀ i, i < j → rho 37 i = 2 → rho 44 i ≠ 0) → ∃ rho', l9_passes_160 q (nI (iC rho)) (nI j) rho = l9_passes_196 FU (nI (iC rho') + (-1)) rho' ∧ INV m rho' ∧ (∀ F i, F ≠ 44 → rho' F i = rho F i) ∧ (∀ i, i < iC rho' → rho' 37 i = 2 → rho' 44 i ≠ 0) := by
  intro d
  induction d with
  | zero =>
    intro j q m rho hj h hq hm
    obtain ⟨q, rfl⟩ : ∃ q', q = q' + 1 := ⟨q - 1, by omega⟩
    have hC := h.rb9.C
    refine ⟨rho, ?_, h, fun F j _ => rfl, fun i hi => hm i (by omega)⟩
    rw [l9_passes_160, if_pos (nI_le (by omega) (by omega)), Int32.sub_eq_add_neg]
  | succ d ih =>
    intro j q m rho hj h hq hm
    obtain ⟨q, rfl⟩ : ∃ q', q = q' + 1 := ⟨q - 1, by omega⟩
    have hC := h.rb9.C
    have qj := vq_nI (k := j) (n := 400) (by omega) (by omega)
    have cj := nI_clamp (n := j) (by omega)
    rw [l9_passes_160, if_neg (cle (by omega) (by omega)), if_pos qj, cj, wr_s, wr_s, nI_1]
    have fr : ∀ v F i, F ≠ 44 → up2 rho 44 j v F i = rho F i := fun v F i a => up2_f _ _ _ _ a
    by_cases z : rho 37 j = 2
    · rw [if_pos z]
      obtain ⟨r2, i1, i2, i3, i4⟩ := ih (j + 1) q m (up2 rho 44 j 1) (by show j + 1 + d = iC rho; omega) (th_44 h) (by omega) (fun i hi y => by
        by_cases x : i = j
        · rw [x, up2_s]
          decide
        · rw [up2_i _ _ _ _ x]
          exact hm i (by omega) y)
      exact ⟨r2, i1, i2, fun F i a => (i3 F i a).trans (fr 1 F i a), i4⟩
    · rw [if_neg z]
      obtain ⟨r2, i1, i2, i3, i4⟩ := ih (j + 1) q m (up2 rho 44 j 0) (by show j + 1 + d = iC rho; omega) (th_44 h) (by omega) (fun i hi y => by
        by_cases x : i = j
        · rw [x] at y
          exact absurd y z
        · rw [up2_i _ _ _ _ x]
          exact hm i (by omega) y)
      exact ⟨r2, i1, i2, fun F i a => (i3 F i a).trans (fr 0 F i a), i4⟩
/-- the loop over calls, from the last to the first -/
theorem calls_loop : ∀ (j : Nat) (m : CM) (rho : RH) (n8 n9 : Nat), j ≤ iC rho → INV m rho → j < n8 → j < n9 → (∀ i, i < j → rho 37 i = 2 → rho 44 i ≠ 0) → ∃ m' g rho', l8_X8_goOnWithCalls_10 n8 0 (nI j + (-1)) m = some (0, m', g) ∧ l9_passes_196 n9 (nI j + (-1)) rho = l9_passes_232 FU 0 rho' ∧ INV m' rho' ∧ g + pot m' ≤ pot m ∧ FrC rho rho' := by
  intro j
  induction j with
  | zero =>
    intro m rho n8 n9 hj h h8 h9 hm
    obtain ⟨n8, rfl⟩ : ∃ n', n8 = n' + 1 := ⟨n8 - 1, by omega⟩
    obtain ⟨n9, rfl⟩ : ∃ n', n9 = n' + 1 := ⟨n9 - 1, by omega⟩
    have hl : nI 0 + (-1) < 0 := by decide
    refine ⟨m, 0, rho, ?_, ?_, h, by omega, FrC.rf rho⟩
    · rw [l8_X8_goOnWithCalls_10, if_pos hl]
    · rw [l9_passes_196, if_pos hl]
  | succ j ih =>
    intro m rho n8 n9 hj h h8 h9 hm
    obtain ⟨n8, rfl⟩ : ∃ n', n8 = n' + 1 := ⟨n8 - 1, by omega⟩
    obtain ⟨n9, rfl⟩ : ∃ n', n9 = n' + 1 := ⟨n9 - 1, by omega⟩
    have hb := h.rb9
    have hC := hb.C
    have hjC : j < iC rho := by omega
    have qj := vq_nI (k := j) (n := 400) (by omega) (by omega)
    have cj := nI_clamp (n := j) (by omega)
    rw [dn]
    by_cases z : rho 37 j = 2
    · obtain ⟨m1, g1, r1, k1, k2, k3, k4, k5⟩ := call_visit h hjC z n8
      obtain ⟨m2, g2, r2, i1, i2, i3, i4, i5⟩ := ih m1 r1 n8 n9 (Nat.le_trans (by omega) k5.2.2.1) k3 (by omega) (by omega) (fun i hi y => by
        rw [k5.1 44 i (by unfold stF; omega)]
        refine hm i (by omega) ?_
        rcases k5.2.2.2.2 i (by omega) with x | x
        · exact x.symm.trans y
        · rw [y] at x
          exact absurd (by decide) x)
      refine ⟨m2, g1 + g2, r2, k1 _ _ _ i1, ?_, i3, by omega, k5.tr i5⟩
      rw [l9_passes_196, if_neg (nI_pos (by omega)), if_pos qj, cj, if_neg (hm j (by omega) z), if_pos z, k2, ob_s]
      exact i2
    · obtain ⟨m2, g2, r2, i1, i2, i3, i4, i5⟩ := ih m rho n8 n9 (by omega) h (by omega) (by omega) (fun i hi => hm i (by omega))
      refine ⟨m2, g2, r2, ?_, ?_, i3, i4, i5⟩
      · rw [l8_X8_goOnWithCalls_10, if_neg (nI_pos (by omega)), h.a09.2.2.2.2.2.1, od_s, if_pos (nI_pos (by omega)), h.al9.2.2.1, cj, rg_lt hjC, od_s, (h.aw9 j hjC).1, if_neg z]
        exact i1
      · rw [l9_passes_196, if_neg (nI_pos (by omega)), if_pos qj, cj, if_neg z, ite_self]
        exact i2
theorem calls_both (h : INV m rho) : ∃ m' g rho', f8_X8_goOnWithCalls 0 m = some (0, m', g) ∧ l9_passes_160 FU (rho 31 0) 0 rho = l9_passes_232 FU 0 rho' ∧ INV m' rho' ∧ g + pot m' ≤ pot m ∧ ∀ F j, stF F → F ≠ 44 → rho' F j = rho F j := by
  have hC := h.rb9.C
  have hF : FU = 1000 := rfl
  obtain ⟨r1, i1, i2, i3, i4⟩ := marks (iC rho) 0 FU m rho (by omega) h (by omega) (fun i hi => by omega)
  have e1 : iC r1 = iC rho := by
    unfold iC
    rw [i3 31 0 (by decide)]
  obtain ⟨m2, g2, r2, j1, j2, j3, j4, j5⟩ := calls_loop (iC r1) m r1 FU FU (Nat.le_refl _) i2 (by omega) (by omega) i4
  refine ⟨m2, g2, r2, ?_, ?_, j3, j4, fun F j a b => (j5.1 F j a).trans (i3 F j b)⟩
  · unfold f8_X8_goOnWithCalls
    rw [h.a09.2.2.2.2.2.1, od_s, h.al9.2.2.1, List.length_range, Int32.sub_eq_add_neg, ← e1]
    exact j1
  · rw [hC.1]
    exact i1.trans j2
end QH
