/-! a new instance -/
section QT
variable {m : CM} {rho : RH}
theorem x4_loop {I : Nat} : ∀ (d c : Nat) (m : CM) (q : Nat), c + d = 7 → d < q → gR m 520 I = some I → (∀ k, c ≤ k → k < 7 → gV m 0 (7 * I + k) = false) → ∃ m', l8_X4_init_81 q I (nI c) m = some (0, m', d) ∧ (∀ f j, (128 ≤ f ∨ j < 7 * I + c ∨ 7 * I + 7 ≤ j) → gI m' f j = gI m f j) ∧ (∀ f k, f < 128 → c ≤ k → k < 7 → gI m' f (7 * I + k) = 0) ∧ (∀ f j, 128 ≤ f → gR m' f j = gR m f j) ∧ (∀ a b c', gA m' a b c' = gA m a b c') ∧ (∀ a b k, ¬ (a = 43 ∧ b = I ∧ c ≤ k ∧ k < 7) → gO m' a b k = gO m a b k) ∧ (∀ k, c ≤ k → k < 7 → gO m' 43 I k = some (7 * I + k)) ∧ (∀ a b, gL m' a b = gL m a b) ∧ (∀ a b, ¬ (a = 0 ∧ 7 * I + c ≤ b ∧ b < 7 * I + 7) → gV m' a b = gV m a b) := by
  intro d
  induction d with
  | zero =>
    intro c m q hc hq h520 hv
    obtain ⟨q, rfl⟩ : ∃ q', q = q' + 1 := ⟨q - 1, by omega⟩
    refine ⟨m, ?_, fun _ _ _ => rfl, fun f k _ h1 h2 => by omega, fun _ _ _ => rfl, fun _ _ _ => rfl, fun _ _ _ _ => rfl, fun k h1 h2 => by omega, fun _ _ => rfl, fun _ _ _ => rfl⟩
    rw [l8_X4_init_81, l7, if_pos (nI_le (by omega) (by omega))]
  | succ d ih =>
    intro c m q hc hq h520 hv
    obtain ⟨q, rfl⟩ : ∃ q', q = q' + 1 := ⟨q - 1, by omega⟩
    have hc7 : c < 7 := by omega
    have qc := vq_nI (k := c) (n := 7) hc7 (by omega)
    have cc := nI_clamp (n := c) (by omega)
    obtain ⟨m', i1, i2, i3, i4, i5, i6, i7, i8, i9⟩ := ih (c + 1) (sO (sI (sN m 0 (7 * I + c)) 0 (7 * I + c) 0) 43 I c (some (7 * I + c))) q (by omega) (by omega) (by
      rw [gR_sO, gR_sI, gR_sN, if_neg (by omega)]
      exact h520) (fun k h1 h2 => by
      rw [gV_sO, gV_sI, gV_sN, if_pos rfl, if_neg (by omega)]
      exact hv k (by omega) h2)
    refine ⟨m', ?_, fun f j h => ?_, fun f k f1 h1 h2 => ?_, fun f j h => ?_, fun a b c' => ?_, fun a b k h => ?_, fun k h1 h2 => ?_, fun a b => ?_, fun a b h => ?_⟩
    · rw [l8_X4_init_81, l7, if_neg (cle (by omega) hc7), h520, od_s]
      simp only [cc]
      rw [if_pos (hv c (by omega) hc7), wr_s]
      refine cg_r (g2 := d) ?_
      rw [show f8_X0_init (7 * I + c) (sN m 0 (7 * I + c)) = some (0, sI (sN m 0 (7 * I + c)) 0 (7 * I + c) 0, 0) from rfl, cb_s0, if_pos qc, wr_s, nI_1]
      exact i1
    · rw [i2 f j (by omega), gI_sO, gI_sI]
      have e : gI (sN m 0 (7 * I + c)) f j = gI m f j := by rw [gI_sN, if_neg (by omega)]
      by_cases z : f = 0
      · rw [if_pos z, if_neg (by omega), e]
      · rw [if_neg z, e]
    · by_cases z : k = c
      · rw [z, i2 f _ (by omega), gI_sO, gI_sI]
        by_cases y : f = 0
        · rw [if_pos y, if_pos rfl]
        · rw [if_neg y, gI_sN, if_pos (by omega)]
      · exact i3 f k f1 (by omega) h2
    · rw [i4 f j h, gR_sO, gR_sI, gR_sN, if_neg (by omega)]
    · rw [i5]
      rfl
    · rw [i6 a b k (by omega), gO_sO]
      by_cases z : a = 43
      · rw [if_pos z]
        by_cases y : b = I
        · rw [if_pos y, if_neg (by omega)]
          rfl
        · rw [if_neg y]
          rfl
      · rw [if_neg z]
        rfl
    · by_cases z : k = c
      · rw [z, i6 43 I c (by omega), gO_sO, if_pos rfl, if_pos rfl, if_pos rfl]
      · exact i7 k (by omega) h2
    · rw [i8]
      rfl
    · rw [i9 a b (by omega), gV_sO, gV_sI, gV_sN]
      by_cases z : a = 0
      · rw [if_pos z, if_neg (by omega)]
      · rw [if_neg z]
def inB (m : CM) (I : Nat) (x1 x2 x3 x4 x5 x6 : Int32) : CM := sI (sI (sI (sI (sI (sI (sI (sR (sNL (sR (sNA (sR (sNO (sR (sNA (sN m 4 I) 30 I) 519 I (some I)) 43 I) 520 I (some I)) 31 I) 521 I (some I)) 54 I) 522 I (some I)) 512 I (nI I)) 513 I x1) 514 I x2) 515 I x3) 516 I x4) 517 I x5) 518 I x6
def inR (rho : RH) (I : Nat) (x1 x2 x3 x4 x5 x6 : Int32) : RH := up2 (up2 (up2 (up2 (up2 (up2 (up2 rho 7 I x1) 8 I x2) 9 I x3) 10 I x4) 11 I x5) 12 I x6) 6 0 (nI (I + 1))
theorem inB_I (m : CM) (I : Nat) (x1 x2 x3 x4 x5 x6 : Int32) {f j : Nat} (h : ¬ (f / 128 = 4 ∧ j = I)) : gI (inB m I x1 x2 x3 x4 x5 x6) f j = gI m f j := by
  have e : ∀ F, F / 128 = 4 → ∀ v M, gI (sI M F I v) f j = gI M f j := fun F hF v M => by
    rw [gI_sI]
    by_cases z : f = F
    · rw [if_pos z, if_neg (by omega)]
    · rw [if_neg z]
  unfold inB
  rw [e 518 (by decide), e 517 (by decide), e 516 (by decide), e 515 (by decide), e 514 (by decide), e 513 (by decide), e 512 (by decide)]
  show gI (sN m 4 I) f j = _
  rw [gI_sN, if_neg h]
theorem inB_R (m : CM) (I : Nat) (x1 x2 x3 x4 x5 x6 : Int32) {f j : Nat} (h : ¬ (f / 128 = 4 ∧ j = I)) : gR (inB m I x1 x2 x3 x4 x5 x6) f j = gR m f j := by
  have e : ∀ F, F / 128 = 4 → ∀ v M, gR (sR M F I v) f j = gR M f j := fun F hF v M => by
    rw [gR_sR]
    by_cases z : f = F
    · rw [if_pos z, if_neg (by omega)]
    · rw [if_neg z]
  unfold inB
  rw [gR_sI, gR_sI, gR_sI, gR_sI, gR_sI, gR_sI, gR_sI, e 522 (by decide), gR_sNL, e 521 (by decide), gR_sNA, e 520 (by decide), gR_sNO, e 519 (by decide), gR_sNA, gR_sN, if_neg h]
theorem inB_V (m : CM) (I : Nat) (x1 x2 x3 x4 x5 x6 : Int32) {a b : Nat} (h : ¬ ((a = 4 ∨ a = 30 ∨ a = 43 ∨ a = 31 ∨ a = 54) ∧ b = I)) : gV (inB m I x1 x2 x3 x4 x5 x6) a b = gV m a b := by
  have e : ∀ (A : Nat) (x : Bool), (A = 4 ∨ A = 30 ∨ A = 43 ∨ A = 31 ∨ A = 54) → (if a = A then (if b = I then true else x) else x) = x := fun A x hA => by
    by_cases z : a = A
    · rw [if_pos z, if_neg (by omega)]
    · rw [if_neg z]
  unfold inB
  rw [gV_sI, gV_sI, gV_sI, gV_sI, gV_sI, gV_sI, gV_sI, gV_sR, gV_sNL, e 54 _ (by omega), gV_sR, gV_sNA, e 31 _ (by omega), gV_sR, gV_sNO, e 43 _ (by omega), gV_sR, gV_sNA, e 30 _ (by omega), gV_sN, e 4 _ (by omega)]
/-- what is made of a new instance -/
theorem in_both (h : INV m rho) (hI12 : iI rho < 12) {x1 x2 x3 x4 x5 x6 : Int32} (h1 : Ix x1 6) (h2 : Ix x2 3) (h3 : Ix x3 10 ∧ x3 ≠ 0) (h4 : Ix x4 10) (h5 : Ix x5 10) (h6 : Ix x6 2) : ∃ M, b8_X8_instance_93 0 x1 x2 x3 x4 x5 x6 1 m = some (.inl (nI (iI rho)), M, 13) ∧ INV M (inR rho (iI rho) x1 x2 x3 x4 x5 x6) ∧ 13 + pot M = pot m := by
  have ha := INVX.a09 h
  have hb := INVX.rb9 h
  have hI := hb.I
  have hC := hb.C
  have haf := (INVX.af9 h).2.2.1 (iI rho) (Nat.le_refl _) hI12
  have hlen : (gL m 50 0).length = iI rho := by rw [(INVX.al9 h).1, List.length_range]
  have hz := hb.rz9.2.2 (iI rho) (Nat.le_refl _) hI12
  have hF : FU = 1000 := rfl
  generalize hIg : iI rho = I at *
  obtain ⟨m', k1, k2, k3, k4, k5, k6, k7, k8, k9⟩ := x4_loop (I := I) 7 0 (inB m I x1 x2 x3 x4 x5 x6) FU (by omega) (by omega) (by
    unfold inB
    rw [gR_sI, gR_sI, gR_sI, gR_sI, gR_sI, gR_sI, gR_sI, gR_sR, if_neg (by decide), gR_sNL, gR_sR, if_neg (by decide), gR_sNA, gR_sR, if_pos rfl, if_pos rfl]) (fun k _ hk => by
    rw [inB_V _ _ _ _ _ _ _ _ (by omega)]
    exact haf.2.2.2.2.2 k hk)
  have L50 : gL m' 50 0 = List.range I := by
    rw [k8]
    exact (INVX.al9 h).1.trans (by rw [hIg])
  have gIM : ∀ f j, 128 ≤ f → ¬ (f / 128 = 4 ∧ j = I) → gI m' f j = gI m f j := fun f j a b => (k2 f j (Or.inl a)).trans (inB_I m I x1 x2 x3 x4 x5 x6 b)
  have gIB : ∀ f j, f < 128 → (j < 7 * I ∨ 7 * I + 7 ≤ j) → gI m' f j = gI m f j := fun f j a b => (k2 f j (Or.inr b)).trans (inB_I m I x1 x2 x3 x4 x5 x6 (by omega))
  have gIn : ∀ f, 128 ≤ f → gI m' f I = gI (inB m I x1 x2 x3 x4 x5 x6) f I := fun f a => k2 f I (Or.inl a)
  have gRM : ∀ f j, 128 ≤ f → ¬ (f / 128 = 4 ∧ j = I) → gR m' f j = gR m f j := fun f j a b => (k4 f j a).trans (inB_R m I x1 x2 x3 x4 x5 x6 b)
  have gAM : ∀ a b c', gA m' a b c' = if a = 31 then (if b = I then 0 else gA m a b c') else if a = 30 then (if b = I then 0 else gA m a b c') else gA m a b c' := fun a b c' => by
    rw [k5]
    unfold inB
    rw [gA_sI, gA_sI, gA_sI, gA_sI, gA_sI, gA_sI, gA_sI, gA_sR, gA_sNL, gA_sR, gA_sNA, gA_sR, gA_sNO, gA_sR, gA_sNA, gA_sN]
    by_cases z : a = 31
    · rw [if_pos z, if_pos z, if_neg (show ¬ a = 30 by omega)]
    · rw [if_neg z, if_neg z]
  have gOM : ∀ a b k, ¬ (a = 43 ∧ b = I) → gO m' a b k = gO m a b k := fun a b k z => by
    rw [k6 a b k (fun y => z ⟨y.1, y.2.1⟩)]
    unfold inB
    rw [gO_sI, gO_sI, gO_sI, gO_sI, gO_sI, gO_sI, gO_sI, gO_sR, gO_sNL, gO_sR, gO_sNA, gO_sR, gO_sNO, gO_sR, gO_sNA, gO_sN]
    by_cases y : a = 43
    · rw [if_pos y, if_neg (fun x => z ⟨y, x⟩)]
    · rw [if_neg y]
  have gLM : ∀ a b, gL m' a b = if a = 54 then (if b = I then [] else gL m a b) else gL m a b := fun a b => by
    rw [k8]
    rfl
  have gVM : ∀ a b, ¬ ((a = 4 ∨ a = 30 ∨ a = 43 ∨ a = 31 ∨ a = 54) ∧ b = I) → ¬ (a = 0 ∧ 7 * I ≤ b ∧ b < 7 * I + 7) → gV m' a b = gV m a b := fun a b z y => (k9 a b (by omega)).trans (inB_V m I x1 x2 x3 x4 x5 x6 z)
  have n512 : gI m' 512 I = nI I := (gIn 512 (by decide)).trans (by
    unfold inB
    rw [gI_sI, if_neg (by decide), gI_sI, if_neg (by decide), gI_sI, if_neg (by decide), gI_sI, if_neg (by decide), gI_sI, if_neg (by decide), gI_sI, if_neg (by decide), gI_sI, if_pos rfl, if_pos rfl])
  refine ⟨sL m' 50 0 (gL m' 50 0 ++ [I]), ?_, ?_, ?_⟩
  · have v30 : gV (sN m 4 I) 30 I = false := by
      rw [gV_sN, if_neg (by decide)]
      exact haf.2.1
    have v43 : gV (sR (sNA (sN m 4 I) 30 I) 519 I (some I)) 43 I = false := by
      rw [gV_sR, gV_sNA, if_neg (by decide), gV_sN, if_neg (by decide)]
      exact haf.2.2.2.1
    have v31 : gV (sR (sNO (sR (sNA (sN m 4 I) 30 I) 519 I (some I)) 43 I) 520 I (some I)) 31 I = false := by
      rw [gV_sR, gV_sNO, if_neg (by decide), gV_sR, gV_sNA, if_neg (by decide), gV_sN, if_neg (by decide)]
      exact haf.2.2.1
    have v54 : gV (sR (sNA (sR (sNO (sR (sNA (sN m 4 I) 30 I) 519 I (some I)) 43 I) 520 I (some I)) 31 I) 521 I (some I)) 54 I = false := by
      rw [gV_sR, gV_sNA, if_neg (by decide), gV_sR, gV_sNO, if_neg (by decide), gV_sR, gV_sNA, if_neg (by decide), gV_sN, if_neg (by decide)]
      exact haf.2.2.2.2.1
    have e4 : f8_X4_init I (nI I) x1 x2 x3 x4 x5 x6 (sN m 4 I) = some (0, m', 11) := by
      unfold f8_X4_init
      rw [if_pos v30]
      refine cg_r (g2 := 10) ?_
      rw [wr_s, wr_s, if_pos v43]
      refine cg_r (g2 := 9) ?_
      rw [wr_s, wr_s, if_pos v31]
      refine cg_r (g2 := 8) ?_
      rw [wr_s, wr_s, if_pos v54]
      refine cg_r (g2 := 7) ?_
      rw [wr_s, wr_s, wr_s, wr_s, wr_s, wr_s, wr_s, wr_s, wr_s]
      exact k1
    have r1 : gR (sN m 4 I) 1031 0 = some 0 := by
      rw [gR_sN, if_neg (by omega)]
      exact ha.2.2.2.1
    have r2 : gR m' 1031 0 = some 0 := (gRM 1031 0 (by decide) (by omega)).trans ha.2.2.2.1
    have l1 : (gL (sN m 4 I) 50 0).length = I := hlen
    have l2 : (gL m' 50 0).length ≤ 450 := by
      rw [L50, List.length_range]
      omega
    unfold b8_X8_instance_93
    rw [if_neg i10]
    simp only [hlen]
    rw [if_pos haf.1]
    refine cg_r (g2 := 12) ?_
    rw [wr_s, r1, od_s, l1]
    refine cb_r (g1 := 11) (g2 := 1) e4 ?_
    show (od (gR m' 1031 0) _) = _
    rw [r2, od_s, if_pos l2]
    refine cg_r (g2 := 0) ?_
    rw [wr_s, gI_sL, n512]
  · have nI_ : ∀ f v, gI (inB m I x1 x2 x3 x4 x5 x6) f I = v → 128 ≤ f → gI m' f I = v := fun f v a b => (gIn f b).trans a
    have n513 := nI_ 513 x1 (by unfold inB; rw [gI_sI, if_neg (by decide), gI_sI, if_neg (by decide), gI_sI, if_neg (by decide), gI_sI, if_neg (by decide), gI_sI, if_neg (by decide), gI_sI, if_pos rfl, if_pos rfl]) (by decide)
    have n514 := nI_ 514 x2 (by unfold inB; rw [gI_sI, if_neg (by decide), gI_sI, if_neg (by decide), gI_sI, if_neg (by decide), gI_sI, if_neg (by decide), gI_sI, if_pos rfl, if_pos rfl]) (by decide)
    have n515 := nI_ 515 x3 (by unfold inB; rw [gI_sI, if_neg (by decide), gI_sI, if_neg (by decide), gI_sI, if_neg (by decide), gI_sI, if_pos rfl, if_pos rfl]) (by decide)
    have n516 := nI_ 516 x4 (by unfold inB; rw [gI_sI, if_neg (by decide), gI_sI, if_neg (by decide), gI_sI, if_pos rfl, if_pos rfl]) (by decide)
    have n517 := nI_ 517 x5 (by unfold inB; rw [gI_sI, if_neg (by decide), gI_sI, if_pos rfl, if_pos rfl]) (by decide)
    have n518 := nI_ 518 x6 (by unfold inB; rw [gI_sI, if_pos rfl, if_pos rfl]) (by decide)
    have n0 : ∀ f, 518 < f → f / 128 = 4 → gI m' f I = 0 := fun f a b => nI_ f 0 (by
      unfold inB
      rw [gI_sI, if_neg (by omega), gI_sI, if_neg (by omega), gI_sI, if_neg (by omega), gI_sI, if_neg (by omega), gI_sI, if_neg (by omega), gI_sI, if_neg (by omega), gI_sI, if_neg (by omega)]
      show gI (sN m 4 I) f I = 0
      rw [gI_sN, if_pos ⟨b, rfl⟩]) (by omega)
    have r_ : ∀ f v, gR (inB m I x1 x2 x3 x4 x5 x6) f I = v → 128 ≤ f → gR m' f I = v := fun f v a b => (k4 f I b).trans a
    have r519 := r_ 519 (some I) (by unfold inB; rw [gR_sI, gR_sI, gR_sI, gR_sI, gR_sI, gR_sI, gR_sI, gR_sR, if_neg (by decide), gR_sNL, gR_sR, if_neg (by decide), gR_sNA, gR_sR, if_neg (by decide), gR_sNO, gR_sR, if_pos rfl, if_pos rfl]) (by decide)
    have r520 := r_ 520 (some I) (by unfold inB; rw [gR_sI, gR_sI, gR_sI, gR_sI, gR_sI, gR_sI, gR_sI, gR_sR, if_neg (by decide), gR_sNL, gR_sR, if_neg (by decide), gR_sNA, gR_sR, if_pos rfl, if_pos rfl]) (by decide)
    have r521 := r_ 521 (some I) (by unfold inB; rw [gR_sI, gR_sI, gR_sI, gR_sI, gR_sI, gR_sI, gR_sI, gR_sR, if_neg (by decide), gR_sNL, gR_sR, if_pos rfl, if_pos rfl]) (by decide)
    have r522 := r_ 522 (some I) (by unfold inB; rw [gR_sI, gR_sI, gR_sI, gR_sI, gR_sI, gR_sI, gR_sI, gR_sR, if_pos rfl, if_pos rfl]) (by decide)
    have hiI : iI (inR rho I x1 x2 x3 x4 x5 x6) = I + 1 := nv_nI (by omega)
    have f7 : ∀ j, inR rho I x1 x2 x3 x4 x5 x6 7 j = if j = I then x1 else rho 7 j := fun j => rfl
    have f8 : ∀ j, inR rho I x1 x2 x3 x4 x5 x6 8 j = if j = I then x2 else rho 8 j := fun j => rfl
    have f9 : ∀ j, inR rho I x1 x2 x3 x4 x5 x6 9 j = if j = I then x3 else rho 9 j := fun j => rfl
    have f10 : ∀ j, inR rho I x1 x2 x3 x4 x5 x6 10 j = if j = I then x4 else rho 10 j := fun j => rfl
    have f11 : ∀ j, inR rho I x1 x2 x3 x4 x5 x6 11 j = if j = I then x5 else rho 11 j := fun j => rfl
    have f12 : ∀ j, inR rho I x1 x2 x3 x4 x5 x6 12 j = if j = I then x6 else rho 12 j := fun j => rfl
    have hX : ∀ k, k < iC rho → iX rho k < I := fun k hk => by
      have := (hb.Xi hk).2
      omega
    have gLs : ∀ a b, ¬ (a = 50 ∧ b = 0) → ¬ (a = 54 ∧ b = I) → gL (sL m' 50 0 (gL m' 50 0 ++ [I])) a b = gL m a b := fun a b z y => by
      have e : gL m' a b = gL m a b := by
        rw [gLM]
        by_cases w2 : a = 54
        · rw [if_pos w2, if_neg (fun q => y ⟨w2, q⟩)]
        · rw [if_neg w2]
      rw [gL_sL, e]
      by_cases w : a = 50
      · rw [if_pos w, if_neg (fun q => z ⟨w, q⟩)]
      · rw [if_neg w]
    have gl50 : gL (sL m' 50 0 (gL m' 50 0 ++ [I])) 50 0 = List.range (I + 1) := by
      rw [gL_sL, if_pos rfl, if_pos rfl, L50, List.range_succ]
    have gl54 : ∀ i, gL (sL m' 50 0 (gL m' 50 0 ++ [I])) 54 i = if i = I then [] else gL m 54 i := fun i => (gLM 54 i).trans (if_pos rfl)
    have gAs : ∀ a b c', gA (sL m' 50 0 (gL m' 50 0 ++ [I])) a b c' = gA m' a b c' := fun _ _ _ => rfl
    have gAo : ∀ a b c', a ≠ 30 → a ≠ 31 → gA m' a b c' = gA m a b c' := fun a b c' p q => by rw [gAM, if_neg q, if_neg p]
    obtain ⟨b1, b2, b3, b4, b5, b6, b7, b8, b9, b10, b11, b12, b13, b14, b15, b16, c0, cs, ci, cp, cr, cq, ck, cw, cz⟩ := h
    have A : ∀ f j, 640 ≤ f → gI (sL m' 50 0 (gL m' 50 0 ++ [I])) f j = gI m f j := fun f j z => gIM f j (by omega) (by omega)
    have A1 : ∀ f j, 128 ≤ f → f < 512 → gI (sL m' 50 0 (gL m' 50 0 ++ [I])) f j = gI m f j := fun f j z y => gIM f j (by omega) (by omega)
    have B : ∀ f j, 640 ≤ f → gR (sL m' 50 0 (gL m' 50 0 ++ [I])) f j = gR m f j := fun f j z => gRM f j (by omega) (by omega)
    have B1 : ∀ f j, 128 ≤ f → f < 512 → gR (sL m' 50 0 (gL m' 50 0 ++ [I])) f j = gR m f j := fun f j z y => gRM f j (by omega) (by omega)
    have O : ∀ a b k, a ≠ 43 → gO (sL m' 50 0 (gL m' 50 0 ++ [I])) a b k = gO m a b k := fun a b k z => gOM a b k (fun y => z y.1)
    refine ⟨?_, ?_, ?_, ?_, ?_, ?_, ?_, ?_, ?_, ?_, ?_, ?_, ?_, ?_, ?_, ?_, ?_, cs, ?_, cp, cr, cq, ?_, cw, cz.1, cz.2.1, ?_⟩
    · unfold A0
      rw [B 1028 0 (by decide), B 1029 0 (by decide), B 1030 0 (by decide), B 1031 0 (by decide), B 1032 0 (by decide), B 1033 0 (by decide), B 1034 0 (by decide)]
      refine ⟨b1.1, b1.2.1, b1.2.2.1, b1.2.2.2.1, b1.2.2.2.2.1, b1.2.2.2.2.2.1, b1.2.2.2.2.2.2.1, fun p hp => (O 40 0 p (by decide)).trans (b1.2.2.2.2.2.2.2.1 p hp), fun c hc => (O 42 0 c (by decide)).trans (b1.2.2.2.2.2.2.2.2.1 c hc), fun s hs => ?_⟩
      have hq := b1.2.2.2.2.2.2.2.2.2 s hs
      exact ⟨(O 41 0 s (by decide)).trans hq.1, (B 770 s (by decide)).trans hq.2.1, (B 771 s (by decide)).trans hq.2.2.1, (B 772 s (by decide)).trans hq.2.2.2.1, (B 773 s (by decide)).trans hq.2.2.2.2.1, (B1 386 s (by decide) (by decide)).trans hq.2.2.2.2.2.1, (B1 387 s (by decide) (by decide)).trans hq.2.2.2.2.2.2⟩
    · unfold AGl
      rw [A 1024 0 (by decide), A 1025 0 (by decide), A 1026 0 (by decide), A 1027 0 (by decide)]
      exact b2
    · intro p hp
      have hh := b3 p hp
      exact ⟨(gAo 37 p _ (by decide) (by decide)).trans hh.1, fun s hs => (gAo 37 p _ (by decide) (by decide)).trans (hh.2.1 s hs), fun c hc s hs => (gAo 37 p _ (by decide) (by decide)).trans (hh.2.2 c hc s hs)⟩
    · intro s hs
      have hh := b4 s hs
      exact ⟨(A 768 s (by decide)).trans hh.1, (A 769 s (by decide)).trans hh.2.1, (A1 384 s (by decide) (by decide)).trans hh.2.2.1, (A1 385 s (by decide) (by decide)).trans hh.2.2.2.1, fun v hv => ⟨(gAo 35 s v (by decide) (by decide)).trans (hh.2.2.2.2.1 v hv).1, (gAo 36 s v (by decide) (by decide)).trans (hh.2.2.2.2.1 v hv).2⟩, fun n hn => ⟨(gAo 32 s n (by decide) (by decide)).trans (hh.2.2.2.2.2 n hn).1, (gAo 34 s n (by decide) (by decide)).trans (hh.2.2.2.2.2 n hn).2.1, (gAo 33 s n (by decide) (by decide)).trans (hh.2.2.2.2.2 n hn).2.2⟩⟩
    · intro c hc
      have hh := b5 c hc
      exact ⟨(A1 256 c (by decide) (by decide)).trans hh.1, (A1 257 c (by decide) (by decide)).trans hh.2.1, (A1 258 c (by decide) (by decide)).trans hh.2.2.1, (A1 259 c (by decide) (by decide)).trans hh.2.2.2⟩
    · intro i hi
      rw [hiI] at hi
      rw [f7, f8, f9, f10, f11, f12]
      by_cases z : i = I
      · subst z
        rw [if_pos rfl, if_pos rfl, if_pos rfl, if_pos rfl, if_pos rfl, if_pos rfl]
        refine ⟨r519, r520, r521, r522, n512, n513, n514, n515, n516, n517, n518, (n0 524 (by decide) (by decide)).trans hz.2.1.symm, fun w hw => ?_, fun c hc => ⟨k7 c (by omega) hc, ?_, (k3 0 c (by decide) (by omega) hc).trans (hz.2.2 c hc).1.symm, (k3 1 c (by decide) (by omega) hc).trans (hz.2.2 c hc).2.1.symm, (k3 2 c (by decide) (by omega) hc).trans (hz.2.2 c hc).2.2.1.symm⟩⟩
        · refine Eq.trans ?_ (hz.1 w hw).symm
          rw [gAs, gAM, if_neg (by decide), if_pos rfl, if_pos rfl]
        · refine Eq.trans ?_ (hz.2.2 c hc).2.2.2.symm
          rw [gAs, gAM, if_pos rfl, if_pos rfl]
      · rw [if_neg z, if_neg z, if_neg z, if_neg z, if_neg z, if_neg z]
        have hi2 : i < iI rho := by omega
        have hh := b6 i hi2
        have A4 : ∀ f, 128 ≤ f → gI (sL m' 50 0 (gL m' 50 0 ++ [I])) f i = gI m f i := fun f y => gIM f i y (fun q => z q.2)
        have B4 : ∀ f, 128 ≤ f → gR (sL m' 50 0 (gL m' 50 0 ++ [I])) f i = gR m f i := fun f y => gRM f i y (fun q => z q.2)
        refine ⟨(B4 519 (by decide)).trans hh.1, (B4 520 (by decide)).trans hh.2.1, (B4 521 (by decide)).trans hh.2.2.1, (B4 522 (by decide)).trans hh.2.2.2.1, (A4 512 (by decide)).trans hh.2.2.2.2.1, (A4 513 (by decide)).trans hh.2.2.2.2.2.1, (A4 514 (by decide)).trans hh.2.2.2.2.2.2.1, (A4 515 (by decide)).trans hh.2.2.2.2.2.2.2.1, (A4 516 (by decide)).trans hh.2.2.2.2.2.2.2.2.1, (A4 517 (by decide)).trans hh.2.2.2.2.2.2.2.2.2.1, (A4 518 (by decide)).trans hh.2.2.2.2.2.2.2.2.2.2.1, (A4 524 (by decide)).trans hh.2.2.2.2.2.2.2.2.2.2.2.1, fun w hw => ?_, fun c hc => ?_⟩
        · refine Eq.trans ?_ (hh.2.2.2.2.2.2.2.2.2.2.2.2.1 w hw)
          rw [gAs, gAM, if_neg (by decide), if_pos rfl, if_neg z]
        · have hq := hh.2.2.2.2.2.2.2.2.2.2.2.2.2 c hc
          refine ⟨(gOM 43 i c (fun q => z q.2)).trans hq.1, ?_, (gIB 0 _ (by decide) (by omega)).trans hq.2.2.1, (gIB 1 _ (by decide) (by omega)).trans hq.2.2.2.1, (gIB 2 _ (by decide) (by omega)).trans hq.2.2.2.2⟩
          refine Eq.trans ?_ hq.2.1
          rw [gAs, gAM, if_pos rfl, if_neg z]
    · intro i hi
      rw [hiI] at hi
      by_cases z : i = I
      · subst z
        constructor
        · refine (n0 523 (by decide) (by decide)).trans ?_
          rw [List.filter_eq_nil_iff.mpr (fun k hk => by
            have := hX k (List.mem_range.mp hk)
            simp only [decide_eq_true_eq]
            intro q
            have q1 : iX rho k = i := q.1
            omega)]
          rfl
        · rw [gl54, if_pos rfl]
          exact (List.filter_eq_nil_iff.mpr (fun k hk => by
            have := hX k (List.mem_range.mp hk)
            simp only [decide_eq_true_eq]
            intro q
            have q1 : iX rho k = i := q.1
            omega)).symm
      · have hh := b7 i (by omega)
        exact ⟨(gIM 523 i (by decide) (fun q => z q.2)).trans hh.1, ((gl54 i).trans (if_neg z)).trans hh.2⟩
    · intro r hr
      rw [B 640 r (by decide), A 641 r (by decide), A 642 r (by decide), A 643 r (by decide), A 644 r (by decide)]
      exact b8 r hr
    · refine ⟨?_, (gLs 51 0 (by omega) (by omega)).trans b9.2.1, (gLs 52 0 (by omega) (by omega)).trans b9.2.2.1, (gLs 53 0 (by omega) (by omega)).trans b9.2.2.2⟩
      rw [hiI]
      exact gl50
    · intro k hk
      rw [A1 128 k (by decide) (by decide), B1 129 k (by decide) (by decide), B1 130 k (by decide) (by decide), A1 131 k (by decide) (by decide), B1 132 k (by decide) (by decide), gLs 56 k (by omega) (by omega)]
      exact b10 k hk
    · intro k hk
      rw [A1 133 k (by decide) (by decide), A1 134 k (by decide) (by decide), A1 135 k (by decide) (by decide), A1 136 k (by decide) (by decide), A1 137 k (by decide) (by decide)]
      exact b11 k hk
    · intro o n ho hn
      rw [A 896 _ (by decide), A 897 _ (by decide), A 898 _ (by decide), A 899 _ (by decide), A 900 _ (by decide), A 901 _ (by decide), A 902 _ (by decide), A 903 _ (by decide), B 904 _ (by decide), B 905 _ (by decide)]
      have hz0 : zon (inR rho I x1 x2 x3 x4 x5 x6) o = zon rho o := by
        unfold zon
        by_cases y : o < 400
        · have hoC : o < iC rho := by
            rcases hb.E ho with q | q | q <;> omega
          have := hX o hoC
          rw [if_pos y, if_pos y, f8]
          exact if_neg (show ¬ iX rho o = I by omega)
        · rw [if_neg y, if_neg y]
      rw [hz0]
      exact b12 o n ho hn
    · intro o n ho hn
      rw [gLs 55 _ (by omega) (by omega), A 910 _ (by decide)]
      exact b13 o n ho hn
    · refine ⟨fun o n ho hn => ?_, fun k hk y => ?_⟩
      · rw [A 911 _ (by decide)]
        exact b14.1 o n ho hn
      · rw [A 911 _ (by decide)]
        exact b14.2 k hk y
    · intro o n ho h4 hn
      rw [A 906 _ (by decide), A 907 _ (by decide), A 908 _ (by decide), A 909 _ (by decide)]
      exact b15 o n ho h4 hn
    · have V : ∀ a b, ¬ ((a = 4 ∨ a = 30 ∨ a = 43 ∨ a = 31 ∨ a = 54) ∧ b = I) → ¬ (a = 0 ∧ 7 * I ≤ b ∧ b < 7 * I + 7) → gV (sL m' 50 0 (gL m' 50 0 ++ [I])) a b = gV m a b := fun a b p q => gVM a b p q
      refine ⟨fun k hk h4 => ?_, fun r hr h4 => ?_, fun i hi h12 => ?_, fun o n ho hn q => ?_⟩
      · rw [V 1 k (by omega) (by omega), V 56 k (by omega) (by omega)]
        exact b16.1 k hk h4
      · rw [V 5 r (by omega) (by omega)]
        exact b16.2.1 r hr h4
      · rw [hiI] at hi
        rw [V 4 i (by omega) (by omega), V 30 i (by omega) (by omega), V 31 i (by omega) (by omega), V 43 i (by omega) (by omega), V 54 i (by omega) (by omega)]
        have hh := b16.2.2.1 i (by omega) h12
        exact ⟨hh.1, hh.2.1, hh.2.2.1, hh.2.2.2.1, hh.2.2.2.2.1, fun c hc => (V 0 _ (by omega) (by omega)).trans (hh.2.2.2.2.2 c hc)⟩
      · rw [V 7 _ (by omega) (by omega), V 55 _ (by omega) (by omega)]
        exact b16.2.2.2 o n ho hn q
    · exact ⟨c0.1, ⟨I + 1, by omega, rfl⟩, c0.2.2⟩
    · intro i hi
      rw [hiI] at hi
      rw [f7, f8, f9, f10, f11, f12]
      by_cases z : i = I
      · subst z
        rw [if_pos rfl, if_pos rfl, if_pos rfl, if_pos rfl, if_pos rfl, if_pos rfl]
        refine ⟨h1, h2, h3.1, h3.2, h4, h5, h6, ⟨0, by omega, hz.2.1⟩, fun w w1 w4 => ⟨0, by omega, hz.1 w w4⟩, fun c hc => ⟨⟨0, by omega, (hz.2.2 c hc).1⟩, ⟨0, by omega, (hz.2.2 c hc).2.2.2⟩⟩⟩
      · rw [if_neg z, if_neg z, if_neg z, if_neg z, if_neg z, if_neg z]
        exact ci i (by omega)
    · intro k hk
      have hh := ck k hk
      refine ⟨hh.1, hh.2.1, hh.2.2.1, hh.2.2.2.1, hh.2.2.2.2.1, hh.2.2.2.2.2.1, hh.2.2.2.2.2.2.1, ?_, hh.2.2.2.2.2.2.2.2⟩
      rw [hiI]
      exact hh.2.2.2.2.2.2.2.1.up (by omega)
    · intro i hi h12
      rw [hiI] at hi
      exact cz.2.2 i (by omega) h12
  · have e52 : gL (sL m' 50 0 (gL m' 50 0 ++ [I])) 52 0 = gL m 52 0 := (gLM 52 0).trans (if_neg (by decide))
    have e51 : gL (sL m' 50 0 (gL m' 50 0 ++ [I])) 51 0 = gL m 51 0 := (gLM 51 0).trans (if_neg (by decide))
    have e53 : gL (sL m' 50 0 (gL m' 50 0 ++ [I])) 53 0 = gL m 53 0 := (gLM 53 0).trans (if_neg (by decide))
    have e56 : ∀ k, gL (sL m' 50 0 (gL m' 50 0 ++ [I])) 56 k = gL m 56 k := fun k => (gLM 56 k).trans (if_neg (by decide))
    have e50 : (gL (sL m' 50 0 (gL m' 50 0 ++ [I])) 50 0).length = I + 1 := by
      rw [gL_sL, if_pos rfl, if_pos rfl, L50, List.length_append, List.length_range]
      rfl
    unfold pot
    simp only [e52, e51, e53, e56, e50, hlen]
    generalize ((List.range (gL m 52 0).length).map fun k => 4 - (gL m 56 k).length).sum = s
    omega
end QT
