/-! repairs that are begun when a call ends -/
section PK
variable {X Y : Nat → Prop} {m : CM} {rho : RH}
def FrP (rho rho' : RH) : Prop := (∀ F j, F ≠ 46 → F ≠ 59 → F ≠ 61 → F ≠ 62 → rho' F j = rho F j) ∧ (∀ j, j < 440 + iP rho → rho' 46 j = rho 46 j) ∧ (∀ p, p < iP rho → rho' 61 p = rho 61 p ∧ rho' 62 p = rho 62 p) ∧ iP rho ≤ iP rho'
theorem FrP.rf (rho : RH) : FrP rho rho := ⟨fun _ _ _ _ _ _ => rfl, fun _ _ => rfl, fun _ _ => ⟨rfl, rfl⟩, Nat.le_refl _⟩
theorem FrP.tr {r1 r2 r3 : RH} (h : FrP r1 r2) (g : FrP r2 r3) : FrP r1 r3 :=
  ⟨fun F j a b c d => (g.1 F j a b c d).trans (h.1 F j a b c d), fun j hj => (g.2.1 j (by have := h.2.2.2; omega)).trans (h.2.1 j hj), fun p hp => ⟨(g.2.2.1 p (by have := h.2.2.2; omega)).1.trans (h.2.2.1 p hp).1, (g.2.2.1 p (by have := h.2.2.2; omega)).2.trans (h.2.2.1 p hp).2⟩, Nat.le_trans h.2.2.2 g.2.2.2⟩
theorem ar_fr (rho : RH) (c u : Int32) (hP : iP rho < 100) : FrP rho (arR rho (iP rho) c u) := by
  refine ⟨fun F j a b c' d => ?_, fun j hj => ?_, fun p hp => ⟨?_, ?_⟩, ?_⟩
  · unfold arR
    rw [up2_f _ _ _ _ b, up2_f _ _ _ _ a, up2_f _ _ _ _ d, up2_f _ _ _ _ c']
  · unfold arR
    rw [up2_f _ _ _ _ (by decide), up2_i _ _ _ _ (by omega)]
    rfl
  · unfold arR
    rw [up2_f _ _ _ _ (by decide), up2_f _ _ _ _ (by decide), up2_f _ _ _ _ (by decide), up2_i _ _ _ _ (by omega)]
  · unfold arR
    rw [up2_f _ _ _ _ (by decide), up2_f _ _ _ _ (by decide), up2_i _ _ _ _ (by omega)]
    rfl
  · have e : iP (arR rho (iP rho) c u) = iP rho + 1 := by
      generalize iP rho = P at hP
      unfold iP arR
      rw [up2_s, nv_nI (by omega)]
    omega
theorem e9_hasRunIn (hb : RB rho) {o n : Nat} (ho : o < 540) (hn : n < 4) : f9_hasRunIn (nI o) (nI n) rho = some (if (TR rho o n).any (fun k => decide (rho 41 k ≠ 0)) = true then 1 else 0, rho) := by
  have hC := hb.C
  unfold f9_hasRunIn
  have := anyL (F := fun q b j => l9_hasRunIn_5 q (nI o) (nI n) b j rho) (fin := fun b => some (b, rho)) (xs := List.range (iC rho)) (p := fun k => decide (iO rho k = o ∧ iN rho k = n) && decide (rho 41 k ≠ 0)) (fun q j x b hx h01 => by
    obtain ⟨hj, rfl⟩ := rg_at hx
    have hO := hb.O hj
    have hN := hb.N hj
    have e1 : nI (iO rho x) = nI o ↔ iO rho x = o := nI_eq (by omega) (by omega)
    have e2 : nI (iN rho x) = nI n ↔ iN rho x = n := nI_eq (by omega) (by omega)
    show l9_hasRunIn_5 (q + 1) (nI o) (nI n) b (nI x) rho = _
    rw [l9_hasRunIn_5, hC.1, if_neg (cle (by omega) hj), if_pos (vq_nI (n := 400) (by omega) (by omega)), nI_clamp (by omega), hO.1, hN.1, nI_1]
    rcases h01 with rfl | rfl
    · rw [if_pos rfl]
      by_cases h1 : iO rho x = o
      · by_cases h2 : iN rho x = n
        · by_cases h3 : rho 41 x = 0
          · simp [h1, h2, h3]
          · simp [h1, h2, h3]
        · simp [h1, e2, h2]
      · simp [h1, e1]
    · simp) (fun q b h01 => by
    show l9_hasRunIn_5 (q + 1) (nI o) (nI n) b (nI _) rho = _
    rw [l9_hasRunIn_5, hC.1, List.length_range, if_pos (nI_le (Nat.le_refl _) (by omega)), if_pos h01]) (iC rho) 0 FU 0 (by rw [List.length_range]; omega) (by have : FU = 1000 := rfl; omega) (Or.inl rfl)
  rw [List.drop_zero] at this
  refine this.trans ?_
  unfold TR
  rw [List.any_filter]
  simp
theorem nI_pm (n : Nat) : nI n + (-1) = nI n - 1 := (Int32.sub_eq_add_neg (nI n) 1).symm
/-- begun repairs, both sides -/
theorem rep_loop {k : Nat} (hk : k < 400) : ∀ (q : Nat) (m : CM) (rho : RH) (n8 n9 : Nat), INVX X Y m rho → k < iC rho → q ≤ sc rho k → q < n8 → q < n9 →
    ∃ m' g rho', l8_X8_beginRepairs_10 n8 0 k (nI q - 1) m = some (0, m', g) ∧ l9_repairsFor_7 n9 (nI k) (nI q - 1) rho = some (0, rho') ∧ INVX X Y m' rho' ∧ g + pot m' ≤ pot m ∧ FrP rho rho' ∧ (∀ f j, j < 4 * (440 + iP rho) → gI m' f j = gI m f j) := by
  intro q
  induction q with
  | zero =>
    intro m rho n8 n9 h hkc hq h8 h9
    obtain ⟨n8, rfl⟩ : ∃ n', n8 = n' + 1 := ⟨n8 - 1, by omega⟩
    obtain ⟨n9, rfl⟩ : ∃ n', n9 = n' + 1 := ⟨n9 - 1, by omega⟩
    refine ⟨m, 0, rho, ?_, ?_, h, by omega, FrP.rf rho, fun _ _ _ => rfl⟩
    · rw [l8_X8_beginRepairs_10, if_pos (by decide)]
    · rw [l9_repairsFor_7, if_pos (by decide)]
  | succ q ih =>
    intro m rho n8 n9 h hkc hq h8 h9
    obtain ⟨n8, rfl⟩ : ∃ n', n8 = n' + 1 := ⟨n8 - 1, by omega⟩
    obtain ⟨n9, rfl⟩ : ∃ n', n9 = n' + 1 := ⟨n9 - 1, by omega⟩
    have hb := h.rb9
    have hC := hb.C
    have hS := hb.S hkc
    have hak := h.ak9 k hkc
    have hok : OE rho k := Or.inl hkc
    have hs4 := (hb.sce hok).2.1
    have ha := h.a09
    have ht := h.at9 k q hok (by omega)
    have hh := h.ah9 k q hok (by omega)
    have hP := hb.P
    have hrk := hb.rk9 k hkc
    have hpl : ∀ n, n < sc rho k → (rho 5 (4 * iS rho k + n) = -1 ∨ Ix (rho 5 (4 * iS rho k + n)) 6) := fun n hn => ((hb.rs9 _ hS.2).2.2 n (by have := hrk.2.2.2.2.2.2.2.2.2.2.2.2; omega)).2.2
    have hund : und rho k q = rho 5 (4 * iS rho k + q) := if_pos hk
    have hl53 := h.al9.2.2.2
    have hlen : (gL m 53 0).length = iP rho := by rw [hl53, List.length_map, List.length_range]
    have hat : (gL m 56 k)[q]? = some (4 * k + q) := by
      rw [hak.2.2.2.2.2, List.getElem?_map, List.getElem?_range (by omega)]
      rfl
    have eX : nI (q + 1) - 1 = nI q := nI_pred q
    rw [eX]
    have hskip : ∀ (m1 : CM) (r1 : RH), m1 = m → r1 = rho → ∃ m' g rho', l8_X8_beginRepairs_10 n8 0 k (nI q + (-1)) m1 = some (0, m', g) ∧ l9_repairsFor_7 n9 (nI k) (nI q + (-1)) r1 = some (0, rho') ∧ INVX X Y m' rho' ∧ g + pot m' ≤ pot m ∧ FrP rho rho' ∧ (∀ f j, j < 4 * (440 + iP rho) → gI m' f j = gI m f j) := fun m1 r1 e1 e2 => by
      subst e1; subst e2
      rw [nI_pm]
      exact ih _ _ n8 n9 h hkc (by omega) (by omega) (by omega)
    have q1 := vq_nI (k := 4 * iS rho k + q) (n := 24) (by omega) (by omega)
    have e9 : ∀ (r : RH), l9_repairsFor_7 (n9 + 1) (nI k) (nI q) rho = some (0, r) ↔ (if rho 5 (4 * iS rho k + q) = -1 then l9_repairsFor_7 n9 (nI k) (nI q + (-1)) rho else if (if (TR rho k q).any (fun k => decide (rho 41 k ≠ 0)) = true then (1 : Int32) else 0) = 0 then l9_repairsFor_7 n9 (nI k) (nI q + (-1)) rho else if 100 ≤ rho 59 0 then l9_repairsFor_7 n9 (nI k) (nI q + (-1)) rho else l9_repairsFor_7 n9 (nI k) (nI q + (-1)) (arR rho (iP rho) (rho 34 k) (rho 5 (4 * iS rho k + q)))) = some (0, r) := fun r => by
      rw [l9_repairsFor_7, if_neg (nI_pos (by omega)), if_pos (vq_nI (n := 400) (by omega) (by omega)), nI_clamp (by omega), hS.1, l4, pk_mul, nI_add, if_pos q1, nI_clamp (by omega), e9_hasRunIn hb (by omega) (by omega), ob_s, hP.1]
      by_cases hP2 : iP rho < 100
      · have q2 := vq_nI (k := iP rho) (n := 100) hP2 (by omega)
        have c2 := nI_clamp (n := iP rho) (by omega)
        have q3 := vq_nI (k := 440 + iP rho) (n := 540) (by omega) (by omega)
        have c3 := nI_clamp (n := 440 + iP rho) (by omega)
        have hk34 : rho 34 k = nI (iS rho k) := hS.1
        simp only [if_pos q2, wr_s]
        simp only [c2]
        have e1 : ∀ (w : Int32), up2 rho 61 (iP rho) w 59 0 = nI (iP rho) := fun w => hP.1
        have e2 : ∀ (w w2 : Int32), up2 (up2 rho 61 (iP rho) w) 62 (iP rho) w2 59 0 = nI (iP rho) := fun w w2 => hP.1
        have e3 : ∀ (w w2 w3 : Int32) (j : Nat), up2 (up2 (up2 rho 61 (iP rho) w) 62 (iP rho) w2) 46 j w3 59 0 = nI (iP rho) := fun w w2 w3 j => hP.1
        simp only [e1, e2, e3, if_pos q2]
        simp only [c2, e2, l440, nI_add, e3, nI_1]
        simp only [if_pos q3]
        simp only [c3, e3, nI_1]
        unfold arR
        rw [hk34]
      · have hP3 : iP rho = 100 := by omega
        have hle : (100 : Int32) ≤ nI 100 := by decide
        simp only [hP3, if_pos hle]
    have e8 : ∀ (r : CM) (g : Nat), (if rho 5 (4 * iS rho k + q) = -1 then l8_X8_beginRepairs_10 n8 0 k (nI q + (-1)) m else if (if (TR rho k q).any (fun k => decide (rho 41 k ≠ 0)) = true then (1 : Int32) else 0) = 0 then l8_X8_beginRepairs_10 n8 0 k (nI q + (-1)) m else if 100 ≤ nI (iP rho) then l8_X8_beginRepairs_10 n8 0 k (nI q + (-1)) m else (if iP rho < 100 then cg 1 (cg 1 (cg 1 (l8_X8_beginRepairs_10 n8 0 k (nI q + (-1)) (arM m (iP rho) (rho 34 k) (rho 5 (4 * iS rho k + q)))))) else none)) = some (0, r, g) → l8_X8_beginRepairs_10 (n8 + 1) 0 k (nI q) m = some (0, r, g) := fun r g hh9 => by
      rw [l8_X8_beginRepairs_10, if_neg (nI_pos (by omega)), hak.2.2.2.2.1, od_s, if_pos (nI_pos (by omega)), nI_clamp (by omega), hat, od_s, ht.2.2.2.1, hund, hh.2]
      refine Eq.trans ?_ hh9
      by_cases h1 : rho 5 (4 * iS rho k + q) = -1
      · rw [if_pos h1, if_pos h1]
      · rw [if_neg h1, if_neg h1]
        by_cases h2 : (if (TR rho k q).any (fun k => decide (rho 41 k ≠ 0)) = true then (1 : Int32) else 0) = 0
        · rw [if_pos h2, if_pos h2]
        · rw [if_neg h2, if_neg h2, ha.2.2.2.2.2.2.1, od_s, hlen]
          by_cases h3 : (100 : Int32) ≤ nI (iP rho)
          · rw [if_pos h3, if_pos h3]
          · have h4 : iP rho < 100 := by
              apply Classical.byContradiction
              intro z
              exact h3 (nI_le (a := 100) (by omega) (by omega))
            have hfr := h.af9.2.2.2 (440 + iP rho) 0 (by omega) (by omega) (fun z => by have := hb.E z.1; omega)
            rw [Nat.add_zero] at hfr
            have hidk : 4 * k + q ≠ 4 * (440 + iP rho) := by omega
            have hids : sid rho k ≠ 4 * (440 + iP rho) := by
              have := hb.E hrk.2.1
              have := hb.N hkc
              unfold sid
              omega
            have ht2 := h.at9 _ _ hrk.2.1 hrk.2.2.2.2.1
            rw [if_neg h3, if_neg h3, if_pos h4, if_pos hfr.1, wr_s, gR_sN, if_neg (by omega), hak.2.1, od_s]
            have a1 : gI (sN m 7 (4 * (440 + iP rho))) 897 (sid rho k) = rho 34 k := by
              rw [gI_sN, if_neg (fun z => hids z.2)]
              exact ht2.2.1.trans hrk.2.2.2.2.2.2.2.2.1.symm
            have a2 : gI (sN m 7 (4 * (440 + iP rho))) 899 (4 * k + q) = rho 5 (4 * iS rho k + q) := by
              rw [gI_sN, if_neg (fun z => hidk z.2), ht.2.2.2.1, hund]
            rw [a1, a2, e8_X7init (m := sN m 7 (4 * (440 + iP rho))) (by rw [gV_sN, if_neg (by decide)]; exact hfr.2) (Or.inl rfl)]
            have a3 : gR (nsM (sN m 7 (4 * (440 + iP rho))) (4 * (440 + iP rho)) (rho 34 k) (rho 5 (4 * iS rho k + q)) 0) 1034 0 = some 0 := by
              rw [(ns_out m _ _ _ _).2.1 _ _ (by omega)]
              exact ha.2.2.2.2.2.2.1
            have a4 : gL (nsM (sN m 7 (4 * (440 + iP rho))) (4 * (440 + iP rho)) (rho 34 k) (rho 5 (4 * iS rho k + q)) 0) 53 0 = gL m 53 0 := ns_L m _ _ _ _ (by omega)
            have a5 : (od (gR (nsM (sN m 7 (4 * (440 + iP rho))) (4 * (440 + iP rho)) (rho 34 k) (rho 5 (4 * iS rho k + q)) 0) 1034 0) fun j25 => wr (sI (nsM (sN m 7 (4 * (440 + iP rho))) (4 * (440 + iP rho)) (rho 34 k) (rho 5 (4 * iS rho k + q)) 0) 903 (4 * (440 + iP rho)) (nI (gL (nsM (sN m 7 (4 * (440 + iP rho))) (4 * (440 + iP rho)) (rho 34 k) (rho 5 (4 * iS rho k + q)) 0) 53 j25).length)) fun m27 => od (gR m27 1034 0) fun j29 => if (gL m27 53 j29).length ≤ 450 then cg 1 (wr (sL m27 53 j29 (gL m27 53 j29 ++ [4 * (440 + iP rho)])) fun m34 => l8_X8_beginRepairs_10 n8 0 k (nI q + (-1)) m34) else none) = cg 1 (l8_X8_beginRepairs_10 n8 0 k (nI q + (-1)) (arM m (iP rho) (rho 34 k) (rho 5 (4 * iS rho k + q)))) := by
              rw [a3, od_s, a4, hlen, wr_s, gR_sI, a3, od_s, gL_sI, a4, hlen, if_pos (by omega), wr_s]
              rfl
            show cg 1 (cb (some (0, _, 1)) _) = _
            refine congrArg (cg 1) ?_
            show Option.map _ (od _ _) = _
            refine (congrArg _ a5).trans ?_
            cases cg 1 (l8_X8_beginRepairs_10 n8 0 k (nI q + (-1)) (arM m (iP rho) (rho 34 k) (rho 5 (4 * iS rho k + q)))) with
            | none => rfl
            | some p =>
              show some (p.1, p.2.1, 1 + p.2.2) = some (p.1, p.2.1, p.2.2 + 1)
              rw [Nat.add_comm]
    by_cases h1 : rho 5 (4 * iS rho k + q) = -1
    · obtain ⟨m', g, rho', k1, k2, k3⟩ := hskip m rho rfl rfl
      exact ⟨m', g, rho', e8 _ _ (by rw [if_pos h1]; exact k1), (e9 _).mpr (by rw [if_pos h1]; exact k2), k3⟩
    · by_cases h2 : (if (TR rho k q).any (fun k => decide (rho 41 k ≠ 0)) = true then (1 : Int32) else 0) = 0
      · obtain ⟨m', g, rho', k1, k2, k3⟩ := hskip m rho rfl rfl
        exact ⟨m', g, rho', e8 _ _ (by rw [if_neg h1, if_pos h2]; exact k1), (e9 _).mpr (by rw [if_neg h1, if_pos h2]; exact k2), k3⟩
      · by_cases h4 : iP rho < 100
        · have h3 : ¬ (100 : Int32) ≤ nI (iP rho) := cle (b := 100) (by omega) h4
          have hu : Ix (rho 5 (4 * iS rho k + q)) 6 := (hpl q (by omega)).resolve_left h1
          have hR : 0 < iR rho := hb.1.2.2.2.2.2.1 (Or.inl (by omega))
          have har := ar_inv h h4 hR (c := rho 34 k) (u := rho 5 (4 * iS rho k + q)) hrk.2.2.2.2.2.1 hu
          have hfr := ar_fr rho (rho 34 k) (rho 5 (4 * iS rho k + q)) h4
          obtain ⟨m', g, rho', k1, k2, k3, k4, k5, k6⟩ := ih (arM m (iP rho) (rho 34 k) (rho 5 (4 * iS rho k + q))) (arR rho (iP rho) (rho 34 k) (rho 5 (4 * iS rho k + q))) n8 n9 har.1 hkc (by rw [ar_sc (by omega)]; omega) (by omega) (by omega)
          refine ⟨m', g + 1 + 1 + 1, rho', e8 _ _ ?_, (e9 _).mpr ?_, k3, ?_, hfr.tr k5, fun f j hj => ?_⟩
          · rw [if_neg h1, if_neg h2, if_neg h3, if_pos h4, nI_pm]
            exact cg_r (cg_r (cg_r k1))
          · rw [if_neg h1, if_neg h2, hP.1, if_neg h3, nI_pm]
            exact k2
          · have := har.2.1
            omega
          · rw [k6 f j (by rw [har.2.2.2]; omega)]
            exact har.2.2.1 f j (by omega)
        · have h3 : (100 : Int32) ≤ nI (iP rho) := nI_le (a := 100) (by omega) (by omega)
          obtain ⟨m', g, rho', k1, k2, k3⟩ := hskip m rho rfl rfl
          exact ⟨m', g, rho', e8 _ _ (by rw [if_neg h1, if_neg h2, if_pos h3]; exact k1), (e9 _).mpr (by rw [if_neg h1, if_neg h2, hP.1, if_pos h3]; exact k2), k3⟩
theorem rep_both (h : INVX X Y m rho) {k : Nat} (hk : k < iC rho) : ∃ m' g rho', f8_X8_beginRepairs 0 k m = some (0, m', g) ∧ f9_repairsFor (nI k) rho = some (0, rho') ∧ INVX X Y m' rho' ∧ g + pot m' ≤ pot m ∧ FrP rho rho' ∧ (∀ f j, j < 4 * (440 + iP rho) → gI m' f j = gI m f j) := by
  have hb := h.rb9
  have hC := hb.C
  have hs := hb.sce (o := k) (Or.inl hk)
  have hak := h.ak9 k hk
  have hF : FU = 1000 := rfl
  obtain ⟨m', g, rho', k1, k2, k3⟩ := rep_loop (X := X) (Y := Y) (k := k) (by omega) (sc rho k) m rho FU FU h hk (Nat.le_refl _) (by omega) (by omega)
  refine ⟨m', g, rho', ?_, ?_, k3⟩
  · unfold f8_X8_beginRepairs
    rw [hak.2.2.2.2.1, od_s, hak.2.2.2.2.2, List.length_map, List.length_range]
    exact k1
  · unfold f9_repairsFor
    rw [if_pos (vq_nI (by omega) (by omega)), nI_clamp (by omega), hs.1]
    exact k2
end PK
