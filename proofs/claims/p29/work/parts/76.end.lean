/-! a call's end: the theorem -/
section PO
variable {X Y : Nat → Prop} {m : CM} {rho : RH}
theorem Bel_self (rho : RH) (k : Nat) : Bel rho k k := Or.inl rfl
/-- repairs of a call that has ended, and its sparing is over -/
theorem endFin {k : Nat} {e : Int32} (h : INVX (fun o => X o ∨ o = k) Y m rho) (hk : k < iC rho) (he : rho 37 k = e) (he2 : e = 3 ∨ e = 4 ∨ e = 5 ∨ e = 7) (h911 : ∀ n, n + 1 = sc rho k → gI m 911 (4 * k + n) ≠ 8) :
    ∃ m' g rho', (if e = 3 then some ((0 : Int32), m, 0) else cb (f8_X8_beginRepairs 0 k m) fun _ m42 => some (0, m42, 0)) = some (0, m', g) ∧ (∀ (γ : Type) (K : RH → Option γ), (if e = 3 then K rho else ob (f9_repairsFor (nI k) rho) fun _ r => K r) = K rho') ∧ INVX (fun o => X o ∧ o ≠ k) Y m' rho' ∧ g + pot m' ≤ pot m ∧ FrP rho rho' ∧ (∀ f j, j < 4 * (440 + iP rho) → gI m' f j = gI m f j) := by
  have drop : ∀ (m' : CM) (rho' : RH), INVX (fun o => X o ∨ o = k) Y m' rho' → FrP rho rho' → (∀ f j, j < 4 * (440 + iP rho) → gI m' f j = gI m f j) → INVX (fun o => X o ∧ o ≠ k) Y m' rho' := fun m' rho' h' hf hg => by
    have hb := h'.rb9
    have hb0 := h.rb9
    have hC0 := hb0.C
    have e37 : rho' 37 k = rho 37 k := hf.1 37 k (by decide) (by decide) (by decide) (by decide)
    have eC : iC rho' = iC rho := by unfold iC; rw [hf.1 31 0 (by decide) (by decide) (by decide) (by decide)]
    have e46 : sc rho' k = sc rho k := by unfold sc; rw [hf.2.1 k (by omega)]
    have hs := hb0.sce (o := k) (Or.inl hk)
    have h9 : ∀ n, n + 1 = sc rho k → gI m' 911 (4 * k + n) ≠ 8 := fun n hn => by
      rw [hg 911 _ (by omega)]
      exact h911 n hn
    have d1 : ∀ n, OE rho' k → n + 1 = sc rho' k → (Go rho' k → gI m' 911 (4 * k + n) = 8) ∧ (¬ Go rho' k → gI m' 911 (4 * k + n) ≠ 8 ∧ (440 ≤ k → gI m' 911 (4 * k + n) = 3)) := fun n ho hn => ⟨fun z => by
      exfalso
      unfold Go goB at z
      rw [if_pos (by omega), e37, he] at z
      rcases he2 with rfl | rfl | rfl | rfl <;> exact absurd z (by decide), fun _ => ⟨h9 n (by rw [← e46]; exact hn), fun z => by omega⟩⟩
    have d2 : ∀ q, q < iC rho' → rho' 37 q = 7 → iO rho' q = k → gI m' 911 (sid rho' q) ≠ 8 := fun q hq z hqk => by
      have hrk := (hb.rk9 q hq).2.2.2.2.1
      have hok := (hb.rk9 q hq).2.1
      rw [hqk] at hrk hok
      unfold sid
      rw [hqk]
      by_cases h1 : iN rho' q + 1 = sc rho' k
      · exact h9 _ (by rw [← e46]; exact h1)
      · exact (h'.ax9.1 k _ hok hrk).1 (by omega)
    exact (h'.drop2 d1 d2).mono (fun _ z => ⟨z.1.resolve_right z.2, z.2⟩) (fun _ z => z)
  by_cases h3 : e = 3
  · exact ⟨m, 0, rho, by rw [if_pos h3], fun γ K => by rw [if_pos h3], drop m rho h (FrP.rf rho) (fun _ _ _ => rfl), by omega, FrP.rf rho, fun _ _ _ => rfl⟩
  · obtain ⟨m', g, rho', k1, k2, k3, k4, k5, k6⟩ := rep_both h hk
    exact ⟨m', g, rho', by rw [if_neg h3]; exact cb_r (k := fun _ m42 => some (0, m42, 0)) k1 rfl, fun γ K => by rw [if_neg h3, ob_r k2], drop m' rho' k3 k5 k6, k4, k5, k6⟩
theorem nI_p1m1 (d : Nat) : nI (d + 1) + (-1) = nI d := pk_m1 d
/-- the stack's top has nothing live below it: it is popped -/
theorem e9_pop {k d q : Nat} {e : Int32} {rho : RH} (hb : RB rho) (hk : k < iC rho) (hd : d < 300) (h45 : rho 45 d = nI k) (he : rho 37 k = e) (hfd : (List.range (iC rho)).find? (fun j => decide (iO rho j = k) && livB rho j) = none) {rho' : RH} (hfin : ∀ (γ : Type) (K : RH → Option γ), (if e = 3 then K rho else ob (f9_repairsFor (nI k) rho) fun _ r => K r) = K rho') : l9_endsCall_15 (q + 1) (nI (d + 1)) rho = l9_endsCall_15 q (nI d) rho' := by
  have hC := hb.C
  have q1 := vq_nI (k := d) (n := 400) (by omega) (by omega)
  have c1 := nI_clamp (n := d) (by omega)
  have q2 := vq_nI (k := k) (n := 400) (by omega) (by omega)
  have c2 := nI_clamp (n := k) (by omega)
  rw [l9_endsCall_15, if_neg (nI_nle (by omega) (by omega)), nI_pred, if_pos q1, c1, h45, e9_liveOf hb (by omega), ob_s, hfd]
  rw [show oi none = (-1 : Int32) from rfl, if_pos rfl, nI_p1m1, if_pos q1, c1, h45, if_pos q2, c2, he]
  exact hfin _ _
theorem END : ∀ fe, EndS fe := by
  intro fe
  induction fe with
  | zero =>
    intro X Y m rho k d e h hk hl he h7 h6 hd
    have := h.rb9.S hk
    omega
  | succ fe ih =>
    intro X Y m rho k d e h hk hl he h7 h6 hd
    have hb := h.rb9
    have hC := hb.C
    have hS := hb.S hk
    have hak := h.ak9 k hk
    have hs := hb.sce (o := k) (Or.inl hk)
    have hek : ¬ e ≤ 2 := by rcases he with rfl | rfl | rfl | rfl <;> decide
    obtain ⟨m5, m13, r1, r2, r3, r4, r5, r6⟩ := end1_inv h hk hl he h7
    have r4' : INVX (fun o => X o ∨ o = k) Y m13 (up2 (seR rho k e) 45 d (nI k)) := th_45 r4
    have hfr := se_fr (d := d) hl hek
    generalize hr1 : up2 (seR rho k e) 45 d (nI k) = rho1 at *
    have hLv : Liv rho = Liv rho1 + 1 := by
      rw [Liv_se hk hl hek, ← hr1]
      rfl
    have e45 : rho1 45 d = nI k := by rw [← hr1, up2_s]
    have e45' : ∀ i, i < d → rho1 45 i = rho 45 i := fun i hi => by
      rw [← hr1, up2_i _ _ _ _ (by omega)]
      unfold seR
      rw [up2_f _ _ _ _ (by decide), up2_f _ _ _ _ (by decide)]
    have e37 : rho1 37 k = e := by
      rw [← hr1]
      show (if k = k then e else _) = e
      rw [if_pos rfl]
    have e42 : rho1 42 k = losV rho k e := by
      rw [← hr1]
      show (if k = k then _ else _) = _
      rw [if_pos rfl]
    have hC1 : iC rho1 = iC rho := hfr.C
    have hok1 := hfr.sc9 hb (Or.inl hk : OE rho k)
    have hcl1 : ClE (Bel rho k) rho m m13 := fun o n _ _ _ => r6 _
    have hf8 : ∀ (r : CM) (g : Nat), (if sc rho k = 0 then (if e = 3 then some ((0 : Int32), m13, 0) else cb (f8_X8_beginRepairs 0 k m13) fun _ m27 => some (0, m27, 0)) else cb (f8_X8_close (f8_X8_end fe) 0 (4 * k + (sc rho k - 1)) (nI (d + 1)) m13) fun _ m35 => (if e = 3 then some (0, m35, 0) else cb (f8_X8_beginRepairs 0 k m35) fun _ m42 => some (0, m42, 0))) = some (0, r, g) → f8_X8_end (fe + 1) 0 k e (nI d) m = some (0, r, g) := fun r g hh => by
      rw [f8_X8_end, if_pos (show nI d ≤ (6 : Int32) from nI_le (b := 6) (by omega) (by omega)), hak.2.2.1, od_s, r1, cb_s0, wr_s]
      have e0 : gI (sI m5 133 k e) 1024 0 = rho 0 0 := r3
      rw [e0, r2, cb_s0, e8_lastStep r4' (by rw [hC1]; exact hk), cb_s0, hok1.1]
      refine Eq.trans ?_ hh
      by_cases h0 : sc rho k = 0
      · rw [if_pos h0, if_pos h0, if_pos rfl]
      · rw [if_neg h0, if_neg h0, if_neg (by simp), od_s, nI_1]
    by_cases h0 : sc rho k = 0
    · obtain ⟨m', g, rho', k1, k2, k3, k4, k5, k6⟩ := endFin (k := k) (e := e) r4' (by rw [hC1]; exact hk) e37 he (fun n hn => by rw [hok1.1] at hn; omega)
      refine ⟨m', g, rho', 1, hf8 _ _ (by rw [if_pos h0]; exact k1), fun q => ?_, k3, by omega, ?_, hfr.tr (k5.toE (B := Bel rho k)) (fun x hx => hx), fun o n ho hn hB => ?_, fun i hi => ?_, ?_, ?_⟩
      · rw [hr1]
        exact e9_pop r4'.rb9 (by rw [hC1]; exact hk) (by omega) e45 e37 (live_0 r4'.rb9 (by rw [hok1.1]; exact h0)) k2
      · rw [Liv_fr (fun j => k5.1 31 j (by decide) (by decide) (by decide) (by decide)) (fun j => k5.1 37 j (by decide) (by decide) (by decide) (by decide))]
        omega
      · have hE := hb.E ho
        have hs' := hb.sce ho
        have hP := hfr.2.2.2.1
        rw [k6 911 _ (by omega)]
        exact hcl1 o n ho hn hB
      · rw [k5.1 45 i (by decide) (by decide) (by decide) (by decide)]
        exact e45' i hi
      · rw [k5.1 37 k (by decide) (by decide) (by decide) (by decide)]
        exact e37
      · rw [k5.1 42 k (by decide) (by decide) (by decide) (by decide)]
        exact e42
    · obtain ⟨n, hn⟩ : ∃ n, n + 1 = sc rho k := ⟨sc rho k - 1, by omega⟩
      have hn1 : n + 1 = sc rho1 k := by rw [hok1.1]; exact hn
      have e911 : ∃ m14, f8_X8_close (f8_X8_end fe) 0 (4 * k + n) (nI (d + 1)) m13 = l8_X8_close_17 (f8_X8_end fe) FU 0 (4 * k + n) (nI (d + 1)) (nI 0) m14 ∧ INVX (fun o => X o ∨ o = k) Y m14 rho1 ∧ pot m14 = pot m13 ∧ gI m14 911 (4 * k + n) ≠ 8 ∧ ∀ o' n', n' < 4 → o' ≠ k → gI m14 911 (4 * o' + n') = gI m13 911 (4 * o' + n') := by
        unfold f8_X8_close
        by_cases h8 : gI m13 911 (4 * k + n) = 8
        · rw [if_pos h8, wr_s]
          refine ⟨_, rfl, s911_inv r4' hok1.2 hn1 (Or.inr rfl) (by decide), rfl, ?_, fun o' n' hn' ho' => ?_⟩
          · rw [gI_sI, if_pos rfl, if_pos rfl]
            decide
          · rw [gI_sI, if_pos rfl, if_neg (by omega)]
        · rw [if_neg h8]
          exact ⟨m13, rfl, r4', rfl, h8, fun _ _ _ _ => rfl⟩
      obtain ⟨m14, c1, c2, c3, c4, c5⟩ := e911
      have hT := TR_len r4'.rb9 k n
      have hck : ∀ j, j ∈ TR rho1 k n → iS rho1 k < iS rho1 j := fun j hj => by
        have hj2 := TR_mem.mp hj
        have := ((r4'.rb9.rk9 j hj2.1).2.2.1)
        rw [hj2.2.1] at this
        exact (this (by omega)).2
      obtain ⟨m2, g2, rho2, ct, j1, j2, j3, j4, j5, j6, j7, j8, j9⟩ := close_loop ih (fun q r => l9_endsCall_15 q (nI (d + 1)) r) (fun c => c + 1) (fun c => Nat.le_refl _) (d + 1) k n rho1 (fun q r j r1 c a1 a2 a3 a4 a5 a6 a7 a8 => by
          have hCr := a2.C
          have q1 := vq_nI (k := d) (n := 400) (by omega) (by omega)
          have cc1 := nI_clamp (n := d) (by omega)
          have q2 := vq_nI (k := d + 1) (n := 400) (by omega) (by omega)
          have cc2 := nI_clamp (n := d + 1) (by omega)
          show l9_endsCall_15 (q + (c + 1)) (nI (d + 1)) r = _
          rw [← Nat.add_assoc, l9_endsCall_15, if_neg (nI_nle (by omega) (by omega)), nI_pred, if_pos q1, cc1, a1 d (by omega), e45, e9_liveOf a2 (by omega), ob_s, live_T a2 a4, a6]
          rw [show oi (some j) = nI j from rfl, if_neg (nI_ne1 (by omega)), e9_setsEnd a2 a5, ob_s, if_pos q2, cc2, wr_s, nI_1]
          exact a8 q) (TR rho1 k n) [] m14 rho1 FU rfl (fun x hx => by cases hx) c2 hok1.2 hn1 c4 (fun i _ => rfl) (by have : FU = 1000 := rfl; omega) (fun j hj => by
          have := hck j hj
          have := hfr.S k
          omega)
      have hok2 := j6.sc9 r4'.rb9 hok1.2
      have hC2 : iC rho2 = iC rho1 := j6.C
      have hBk : ¬ Bch rho1 k k := fun z => by
        have := z.2 z.1
        omega
      have e37b := (j6.2.2.2.2.2.2 k hBk).1.trans e37
      have e42b := (j6.2.2.2.2.2.2 k hBk).2.trans e42
      have e45b : rho2 45 d = nI k := (j8 d (by omega)).trans e45
      have h9112 : gI m2 911 (4 * k + n) ≠ 8 := by
        rw [j7 k n hok1.2 (by omega) hBk]
        exact c4
      obtain ⟨m', g, rho', k1, k2, k3, k4, k5, k6⟩ := endFin (k := k) (e := e) j3 (by rw [hC2, hC1]; exact hk) e37b he (fun n' hn' => by
        rw [hok2.1, ← hn1] at hn'
        have : n' = n := by omega
        rw [this]
        exact h9112)
      have hnone : (List.range (iC rho2)).find? (fun j => decide (iO rho2 j = k) && livB rho2 j) = none := by
        rw [live_T j3.rb9 (n := n) (by rw [hok2.1]; exact hn1), j6.T]
        apply fd_none
        intro x hx
        exact decide_eq_false (j9 x hx)
      refine ⟨m', g2 + g, rho', ct + 1, hf8 _ _ ?_, fun q => ?_, k3, by omega, ?_, (hfr.tr (j6.mono (B' := Bel rho k) (fun x hx => Or.inr ((hfr.B9 k x).mp hx))) (fun x hx => hx)).tr (k5.toE (B := Bel rho k)) (fun x hx => hx), fun o n' ho hn' hB => ?_, fun i hi => ?_, ?_, ?_⟩
      · rw [if_neg h0, show sc rho k - 1 = n by omega, c1]
        exact cb_r j1 k1
      · rw [hr1, ← Nat.add_assoc, Nat.add_right_comm, j2]
        exact e9_pop j3.rb9 (by rw [hC2, hC1]; exact hk) (by omega) e45b e37b hnone k2
      · rw [Liv_fr (fun j => k5.1 31 j (by decide) (by decide) (by decide) (by decide)) (fun j => k5.1 37 j (by decide) (by decide) (by decide) (by decide))]
        omega
      · have hE := hb.E ho
        have hs' := hb.sce ho
        have hP := hfr.2.2.2.1
        have hP2 := j6.2.2.2.1
        have ho1 := hfr.sc9 hb ho
        rw [k6 911 _ (by omega), j7 o n' ho1.2 (by rw [ho1.1]; exact hn') (fun z => hB (Or.inr ((hfr.B9 k o).mp z))), c5 o n' (by omega) (fun z => hB (Or.inl z))]
        exact hcl1 o n' ho hn' hB
      · rw [k5.1 45 i (by decide) (by decide) (by decide) (by decide), j8 i (by omega)]
        exact e45' i hi
      · rw [k5.1 37 k (by decide) (by decide) (by decide) (by decide)]
        exact e37b
      · rw [k5.1 42 k (by decide) (by decide) (by decide) (by decide)]
        exact e42b
theorem se_45 (rho : RH) (k : Nat) (e : Int32) (d : Nat) (v : Int32) : seR (up2 rho 45 d v) k e = up2 (seR rho k e) 45 d v := by
  funext F j
  have e1 : losV (up2 rho 45 d v) k e = losV rho k e := rfl
  unfold seR
  rw [e1]
  simp only [up2_a]
  by_cases h1 : F = 42
  · subst h1
    simp
  · by_cases h2 : F = 37
    · subst h2
      simp
    · simp [h1, h2]
theorem e9_endsRun {j c : Nat} {e : Int32} {rho1 : RH} (hb : RB rho) (hj : j < iC rho) (hc : c + 2 * Liv rho1 + 1 ≤ 2 * Liv rho) (h : ∀ q, l9_endsCall_15 (q + c) (nI (0 + 1)) (up2 (seR rho j e) 45 0 (nI j)) = l9_endsCall_15 q (nI 0) rho1) : f9_endsCall (nI j) e rho = some (0, rho1) := by
  have hL := Liv_le hb
  have hF : FU = 1000 := rfl
  unfold f9_endsCall
  rw [wr_s, show (0 : Int32).toNatClampNeg = 0 from rfl, e9_setsEnd (rho := up2 rho 45 0 (nI j)) hb hj, ob_s, se_45]
  have := h (FU - c)
  rw [show FU - c + c = FU by omega] at this
  refine this.trans ?_
  obtain ⟨q, hq⟩ : ∃ q, FU - c = q + 1 := ⟨FU - c - 1, by omega⟩
  rw [hq, l9_endsCall_15, if_pos (by decide)]
/-- a call's end, both sides, from without -/
theorem end_both (h : INVX X Y m rho) {k : Nat} {e : Int32} (hk : k < iC rho) (hl : rho 37 k ≤ 2) (he : e = 3 ∨ e = 4 ∨ e = 5 ∨ e = 7) (h7 : e = 7 → gI m 911 (sid rho k) ≠ 8) : ∃ m' g rho', f8_X8_end 8 0 k e 0 m = some (0, m', g) ∧ f9_endsCall (nI k) e rho = some (0, rho') ∧ INVX (fun o => X o ∧ o ≠ k) Y m' rho' ∧ g + pot m' ≤ pot m ∧ FrE (Bel rho k) rho rho' ∧ ClE (Bel rho k) rho m m' ∧ rho' 37 k = e := by
  obtain ⟨m', g, rho', c, k1, k2, k3, k4, k5, k6, k7, k8, k9, k10⟩ := END 8 X Y m rho k 0 e h hk hl he h7 (by omega) (by omega)
  exact ⟨m', g, rho', k1, e9_endsRun h.rb9 hk k5 k2, k3, k4, k6, k7, k9⟩
/-- a step's tries end, both sides -/
theorem close_both (h : INVX X Y m rho) {o n : Nat} (ho : OE rho o) (hn : n + 1 = sc rho o) (h911 : gI m 911 (4 * o + n) ≠ 8) : ∃ m' g rho', f8_X8_close (f8_X8_end 8) 0 (4 * o + n) 0 m = some (0, m', g) ∧ f9_turnsOff (nI o) rho = some (0, rho') ∧ INVX X Y m' rho' ∧ g + pot m' ≤ pot m ∧ FrE (Bch rho o) rho rho' ∧ ClE (Bch rho o) rho m m' ∧ (∀ x, x ∈ TR rho o n → ¬ rho' 37 x ≤ 2) := by
  have hb := h.rb9
  have ho5 : o < 540 := by have := hb.E ho; omega
  have hF : FU = 1000 := rfl
  have hT := TR_len hb o n
  have hL := Liv_le hb
  obtain ⟨m', g, rho', ct, j1, j2, j3, j4, j5, j6, j7, j8, j9⟩ := close_loop (END 8) (fun q r => ob (f9_liveOf (nI o) (-1) r) fun r1 r2 => l9_turnsOff_7 q (nI o) r1 r2) (fun _ => 1) (fun c => by omega) 0 o n rho (fun q r j r1 c a1 a2 a3 a4 a5 a6 a7 a8 => by
      have hCr := a2.C
      show (ob (f9_liveOf (nI o) (-1) r) fun r1 r2 => l9_turnsOff_7 (q + 1) (nI o) r1 r2) = _
      rw [e9_liveOf a2 ho5, ob_s, live_T a2 a4, a6]
      rw [show oi (some j) = nI j from rfl, l9_turnsOff_7, if_neg (nI_ne1 (by omega)), e9_endsRun a2 a5 a7 a8, ob_s]) (TR rho o n) [] m rho FU rfl (fun x hx => by cases hx) h ho hn h911 (fun i hi => by omega) (by omega) (fun j hj => ⟨by omega, by omega⟩)
  refine ⟨m', g, rho', ?_, ?_, j3, j4, j6, j7, j9⟩
  · unfold f8_X8_close
    rw [if_neg h911]
    exact j1
  · unfold f9_turnsOff
    have := j2 (FU - ct)
    rw [show FU - ct + ct = FU by omega] at this
    refine this.trans ?_
    obtain ⟨q, hq⟩ : ∃ q, FU - ct = q + 1 := ⟨FU - ct - 1, by omega⟩
    have hs2 := j6.sc9 hb ho
    rw [e9_liveOf j3.rb9 ho5, ob_s, live_T j3.rb9 (n := n) (by rw [hs2.1]; exact hn), j6.T, fd_none (p := livB rho') (fun x hx => decide_eq_false (j9 x hx)), hq, show oi none = (-1 : Int32) from rfl, l9_turnsOff_7, if_pos rfl]
end PO
