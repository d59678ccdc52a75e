/-! what is set, and requests -/
section PK9
variable {rho rho' : RH} {P S PR : Nat → Prop}
/-- the whole of it, between two calls -/
def JA (rho : RH) : Prop := JJ AL9 NO9 AL9 rho
theorem nb {a lo hi : Nat} (h1 : lo ≤ a) (h2 : a ≤ hi) (h3 : hi ≤ 1000000) : ¬ (nI a < nI lo ∨ nI hi < nI a) := by
  rw [Int32.lt_iff_toInt_lt, Int32.lt_iff_toInt_lt, nI_toInt (by omega), nI_toInt (by omega), nI_toInt (by omega)]
  omega
theorem pc_work {s v : Nat} (hj : JA rho) (hs : s < 6) (hv : v ≤ 50) : PC (f9_work (nI s) (nI v) rho) (fun b m => JA m ∧ TT rho m ∧ m 64 0 = 0 ∧ Ix b 51) := by
  have h1 : ¬ (nI s < 0 ∨ 5 < nI s) := nb (lo := 0) (hi := 5) (by omega) (by omega) (by omega)
  have h2 : ¬ (nI v < 0 ∨ 50 < nI v) := nb (lo := 0) (hi := 50) (by omega) (by omega) (by omega)
  unfold f9_work
  rw [e9_isService, ob_s, e9_in, ob_s, if_neg h1, if_neg h2, go1, ob_s, if_neg i10, if_pos (vq_nI hs (by omega)), nI_clamp (by omega)]
  refine pc_wr (pc_some ⟨⟨hj.1, hj.2.1, hj.2.2.1, hj.2.2.2.1, hj.2.2.2.2.1, ⟨hj.2.2.2.2.2.1.1, fun q hq => ?_, hj.2.2.2.2.2.1.2.2⟩, hj.2.2.2.2.2.2⟩, TT.rf, rfl, (hj.2.2.2.2.2.1.2.1 s hs).1⟩)
  have h9 := hj.2.2.2.2.2.1.2.1 q hq
  refine ⟨?_, h9.2⟩
  show Ix (if q = s then nI v else rho 1 q) 51
  by_cases e : q = s
  · rw [if_pos e]
    exact ⟨v, by omega, rfl⟩
  · rw [if_neg e]
    exact h9.1
theorem pc_share {c v : Nat} (hj : JA rho) (hc : c < 7) (hv : v ≤ 100) : PC (f9_share (nI c) (nI v) rho) (fun b m => JA m ∧ TT rho m ∧ m 64 0 = 0 ∧ Ix b 101) := by
  have h1 : ¬ (nI c < 0 ∨ 6 < nI c) := nb (lo := 0) (hi := 6) (by omega) (by omega) (by omega)
  have h2 : ¬ (nI v < 0 ∨ 100 < nI v) := nb (lo := 0) (hi := 100) (by omega) (by omega) (by omega)
  unfold f9_share
  rw [e9_isCaller, ob_s, e9_in, ob_s, if_neg h1, if_neg h2, go1, ob_s, if_neg i10, if_pos (vq_nI hc (by omega)), nI_clamp (by omega)]
  refine pc_wr (pc_some ⟨⟨hj.1, hj.2.1, hj.2.2.1, fun q hq => ?_, hj.2.2.2.2.1, hj.2.2.2.2.2.1, hj.2.2.2.2.2.2⟩, TT.rf, rfl, (hj.2.2.2.1 c hc).1⟩)
  have h9 := hj.2.2.2.1 q hq
  refine ⟨?_, h9.2⟩
  show Ix (if q = c then nI v else rho 16 q) 101
  by_cases e : q = c
  · rw [if_pos e]
    exact ⟨v, by omega, rfl⟩
  · rw [if_neg e]
    exact h9.1
theorem pc_eyes {v : Nat} (hj : JA rho) (h1 : 1 ≤ v) (hv : v ≤ 7) : PC (f9_eyes (nI v) rho) (fun b m => JA m ∧ TT rho m ∧ m 64 0 = 0 ∧ Ix b 8 ∧ b ≠ 0) := by
  have h2 : ¬ (nI v < 1 ∨ 7 < nI v) := nb (lo := 1) (hi := 7) (by omega) (by omega) (by omega)
  have h9 := hj.2.2.2.2.2.1
  unfold f9_eyes
  rw [e9_in, ob_s, if_neg h2, go1, ob_s, if_neg i10]
  refine pc_wr (pc_some ⟨⟨hj.1, hj.2.1, hj.2.2.1, hj.2.2.2.1, hj.2.2.2.2.1, ⟨h9.1, h9.2.1, h9.2.2.1, h9.2.2.2.1, ⟨⟨v, by omega, rfl⟩, fun z => ?_⟩, h9.2.2.2.2.2⟩, hj.2.2.2.2.2.2⟩, TT.rf, rfl, h9.2.2.2.2.1⟩)
  have z2 : nI v = 0 := z
  rw [l0] at z2
  have := (nI_inj (by omega) (by omega)).mp z2
  omega
theorem pc_canL {x1 x3 : Int32} {rho0 : RH} : ∀ (n : Nat) (x4 : Int32) (rho : RH), EqD rho0 rho → rho 64 0 = 0 → PC (l9_canary_47 n x1 x3 x4 rho) (fun b m => b = x3 ∧ EqD rho0 m ∧ m 25 = rho 25 ∧ m 64 0 = 0) := by
  intro n
  induction n with
  | zero =>
    intro x4 rho h h6
    rw [l9_canary_47]
    exact pc_none
  | succ n ih =>
    intro x4 rho h h6
    rw [l9_canary_47]
    refine pc_if (fun _ => pc_some ⟨rfl, h, rfl, h6⟩) (fun _ => ?_)
    refine pc_ck (fun _ => ?_)
    refine pc_wr (pc_wr ?_)
    have key : ∀ M : RH, EqD rho0 M → M 64 0 = 0 → M 25 = rho 25 → PC (l9_canary_47 n x1 x3 (x4 + 1) M) (fun b m => b = x3 ∧ EqD rho0 m ∧ m 25 = rho 25 ∧ m 64 0 = 0) := fun M a b c => (ih _ M a b).mono (fun _ _ q => ⟨q.1, q.2.1, q.2.2.1.trans c, q.2.2.2⟩)
    refine key _ ?_ ?_ ?_
    · exact eqd_w (eqd_w h rfl) rfl
    · exact h6
    · rfl
theorem pc_canary {s v : Nat} (hj : JA rho) (hs : s < 6) (hv : v ≤ 100) : PC (f9_canary (nI s) (nI v) rho) (fun b m => JA m ∧ TT rho m ∧ m 64 0 = 0 ∧ b = rho 25 s ∧ m 25 s = nI v) := by
  have h1 : ¬ (nI s < 0 ∨ 5 < nI s) := nb (lo := 0) (hi := 5) (by omega) (by omega) (by omega)
  have h2 : ¬ (nI v < 0 ∨ 100 < nI v) := nb (lo := 0) (hi := 100) (by omega) (by omega) (by omega)
  unfold f9_canary
  rw [e9_isService, ob_s, e9_in, ob_s, if_neg h1, if_neg h2, go1, ob_s, if_neg i10, if_pos (vq_nI hs (by omega)), nI_clamp (by omega)]
  refine pc_wr (pc_wr ?_)
  refine (pc_canL (rho0 := up2 rho 64 0 0) FU _ _ (eqd_w (eqd_w EqD.rf rfl) rfl) rfl).mono (fun b m q => ?_)
  obtain ⟨e1, e2, e3, e4⟩ := q
  refine ⟨e2.jJ (show JJ AL9 NO9 AL9 (up2 rho 64 0 0) from hj), TT.tr (TT.rf : TT rho (up2 rho 64 0 0)) e2.qs.tT, e4, e1, ?_⟩
  rw [e3]
  show (if s = s then nI v else rho 25 s) = nI v
  rw [if_pos rfl]
theorem fa_J {i w : Nat} {x : Int32} (hj : JA rho) (hw : w < 4) (hx : w = 0 → Ix x 51) : JA (up2 (up2 rho 64 0 0) 13 (4 * i + w) x) := by
  have h9 := hj.2.2.2.2.2.1
  refine ⟨hj.1, hj.2.1, hj.2.2.1, hj.2.2.2.1, hj.2.2.2.2.1, ⟨h9.1, h9.2.1, fun q hq => ?_, h9.2.2.2⟩, hj.2.2.2.2.2.2⟩
  show Ix (if 4 * q = 4 * i + w then x else rho 13 (4 * q)) 51
  by_cases e : 4 * q = 4 * i + w
  · rw [if_pos e]
    exact hx (by omega)
  · rw [if_neg e]
    exact h9.2.2.1 q hq
theorem pc_fault {i w v : Nat} (hj : JA rho) (hi9 : i < 12) (hw : w < 4) (hv : v ≤ (if w = 0 then 50 else 1)) (hr : ∀ i w, i < iI rho → 1 ≤ w → w < 4 → Ix (rho 13 (4 * i + w)) 2) : PC (f9_fault (nI i) (nI w) (nI v) rho) (fun b m => JA m ∧ TT rho m ∧ ((i < iI rho ∧ m 64 0 = 0 ∧ Ix b 51) ∨ (iI rho ≤ i ∧ m 64 0 = 1))) := by
  have hI := hj.1.I
  have h9 := hj.2.2.2.2.2.1
  have hw3 : ¬ (nI w < 0 ∨ 3 < nI w) := nb (lo := 0) (hi := 3) (by omega) (by omega) (by omega)
  have w0 : nI w = 0 ↔ w = 0 := by rw [l0]; exact nI_eq (by omega) (by omega)
  have hvv : w = 0 → ¬ (nI v < 0 ∨ 50 < nI v) := fun z => by
    rw [if_pos z] at hv
    exact nb (lo := 0) (hi := 50) (by omega) (by omega) (by omega)
  have hv1 : w ≠ 0 → ¬ (nI v < 0 ∨ 1 < nI v) := fun z => by
    rw [if_neg z] at hv
    exact nb (lo := 0) (hi := 1) (by omega) (by omega) (by omega)
  have hv50 : w = 0 → Ix (nI v) 51 := fun z => by
    rw [if_pos z] at hv
    exact ⟨v, by omega, rfl⟩
  unfold f9_fault
  rw [e9_isInstance, ob_s, e9_in, ob_s, if_neg hw3, if_neg i10, hI.1]
  by_cases h1 : nI i < 0 ∨ nI (iI rho) - 1 < nI i
  · have hle : iI rho ≤ i := by
      refine Nat.le_of_not_lt (fun z => ?_)
      rcases h1 with y | y
      · rw [l0, Int32.lt_iff_toInt_lt, nI_toInt (by omega), nI_toInt (by omega)] at y
        omega
      · obtain ⟨q, hq⟩ : ∃ q, iI rho = q + 1 := ⟨iI rho - 1, by omega⟩
        rw [hq, nI_pred, Int32.lt_iff_toInt_lt, nI_toInt (by omega), nI_toInt (by omega)] at y
        omega
    have fin : PC (some (0, up2 rho 64 0 1)) (fun b m => JA m ∧ TT rho m ∧ ((i < iI rho ∧ m 64 0 = 0 ∧ Ix b 51) ∨ (iI rho ≤ i ∧ m 64 0 = 1))) := pc_some ⟨hj, TT.rf, Or.inr ⟨hle, rfl⟩⟩
    rw [if_pos h1]
    by_cases hw0 : w = 0
    · rw [if_pos (w0.mpr hw0), e9_in, ob_s, if_neg (hvv hw0), if_neg i10, go0, ob_s, if_pos rfl]
      exact fin
    · rw [if_neg (fun y => hw0 (w0.mp y)), e9_in, ob_s, if_neg (hv1 hw0), if_neg i10, go0, ob_s, if_pos rfl]
      exact fin
  · obtain ⟨i', hi', e⟩ := ix_last hj.1.2.1 (by omega) (fun z => h1 (Or.inl z)) (fun z => h1 (Or.inr (by rw [← hI.1]; exact z)))
    have e2 : i = i' := (nI_inj (by omega) (by have := hI.2; unfold iI at this; omega)).mp e
    subst e2
    have e4 : (4 : Int32) * nI i + nI w = nI (4 * i + w) := by rw [l4, pk_mul, nI_add]
    have q48 := vq_nI (k := 4 * i + w) (n := 48) (by omega) (by omega)
    have c48 := nI_clamp (n := 4 * i + w) (by omega)
    have hold : Ix (rho 13 (4 * i + w)) 51 := by
      by_cases hw0 : w = 0
      · rw [hw0]
        exact h9.2.2.1 i hi9
      · obtain ⟨a, ha, ea⟩ := hr i w hi' (by omega) hw
        exact ⟨a, by omega, ea⟩
    have fin : PC (wr (up2 (up2 rho 64 0 0) 13 (4 * i + w) (nI v)) fun m => some (up2 rho 64 0 0 13 (4 * i + w), m)) (fun b m => JA m ∧ TT rho m ∧ ((i < iI rho ∧ m 64 0 = 0 ∧ Ix b 51) ∨ (iI rho ≤ i ∧ m 64 0 = 1))) := pc_wr (pc_some ⟨fa_J hj hw hv50, TT.rf, Or.inl ⟨hi', rfl, hold⟩⟩)
    rw [if_neg h1]
    by_cases hw0 : w = 0
    · rw [if_pos (w0.mpr hw0), e9_in, ob_s, if_neg (hvv hw0), if_neg i10, go1, ob_s, if_neg i10, e4, if_pos q48, c48]
      exact fin
    · rw [if_neg (fun y => hw0 (w0.mp y)), e9_in, ob_s, if_neg (hv1 hw0), if_neg i10, go1, ob_s, if_neg i10, e4, if_pos q48, c48]
      exact fin
theorem pc_policy {x1 x2 : Int32} {p v : Nat} (hj : JA rho) (h1 : ¬ (x1 < -1 ∨ 6 < x1)) (h2 : ¬ (x2 < -1 ∨ 5 < x2)) (h3 : x1 = -1 ∨ x2 ≠ -1) (hp : p < 3) (hv : (p = 0 → 1 ≤ v ∧ v ≤ 100) ∧ (p = 1 → v ≤ 3) ∧ (p = 2 → v ≤ 50)) (hr : ∀ q, q < 49 → rho 15 (3 * q + 1) = -1 ∨ Ix (rho 15 (3 * q + 1)) 4) (m0 : CM) : PC (f9_policy x1 x2 (nI p) (nI v) rho) (fun b m => JA m ∧ TT rho m ∧ m 64 0 = 0 ∧ (b = -1 ∨ Ix b 101)) := by
  have h9 := hj.2.2.2.2.2.1
  have e29 : b9_policy_29 x1 x2 (nI p) (nI v) 1 rho = b9_policy_41 x1 x2 (nI p) (nI v) 1 rho := by
    unfold b9_policy_29
    rcases h3 with z | z
    · rw [if_pos z]
    · rw [if_neg z, ite_self]
  have hlo : ¬ (nI v < lo9 p ∨ hi9 p < nI v) := by
    have : p = 0 ∨ p = 1 ∨ p = 2 := by omega
    rcases this with rfl | rfl | rfl
    · exact nb (lo := 1) (hi := 100) (hv.1 rfl).1 (hv.1 rfl).2 (by omega)
    · exact nb (lo := 0) (hi := 3) (by omega) (hv.2.1 rfl) (by omega)
    · exact nb (lo := 0) (hi := 50) (by omega) (hv.2.2 rfl) (by omega)
  obtain ⟨x, y, hxy, -, k2⟩ := place_both' h1 h2 h3 m0 (up2 rho 64 0 0)
  have hl := hxy.lt
  have e3 : (3 : Int32) * nI y + nI p = nI (3 * y + p) := by rw [l3, pk_mul, nI_add]
  rw [e9_policy, if_neg (fun z => z.elim h1 h2), e29, e9_41 _ _ _ hp, if_neg hlo]
  unfold b9_policy_92
  rw [go1, ob_s, if_neg i10, k2, ob_s, e3, if_pos (vq_nI (by omega) (by omega)), nI_clamp (by omega)]
  refine pc_wr (pc_some ⟨⟨hj.1, hj.2.1, hj.2.2.1, hj.2.2.2.1, hj.2.2.2.2.1, ⟨h9.1, h9.2.1, h9.2.2.1, fun q hq => ?_, h9.2.2.2.2⟩, hj.2.2.2.2.2.2⟩, TT.rf, rfl, ?_⟩)
  · have g := h9.2.2.2.1 q hq
    refine ⟨?_, ?_⟩
    · show (if 3 * q = 3 * y + p then nI v else rho 15 (3 * q)) = -1 ∨ (Ix (if 3 * q = 3 * y + p then nI v else rho 15 (3 * q)) 101 ∧ (if 3 * q = 3 * y + p then nI v else rho 15 (3 * q)) ≠ 0)
      by_cases e : 3 * q = 3 * y + p
      · rw [if_pos e]
        have hv0 := hv.1 (by omega)
        refine Or.inr ⟨⟨v, by omega, rfl⟩, fun z => ?_⟩
        rw [l0] at z
        have := (nI_inj (by omega) (by omega)).mp z
        omega
      · rw [if_neg e]
        exact g.1
    · show (if 3 * q + 2 = 3 * y + p then nI v else rho 15 (3 * q + 2)) = -1 ∨ Ix (if 3 * q + 2 = 3 * y + p then nI v else rho 15 (3 * q + 2)) 51
      by_cases e : 3 * q + 2 = 3 * y + p
      · rw [if_pos e]
        exact Or.inr ⟨v, by have := hv.2.2 (by omega); omega, rfl⟩
      · rw [if_neg e]
        exact g.2
  · show rho 15 (3 * y + p) = -1 ∨ Ix (rho 15 (3 * y + p)) 101
    have g := h9.2.2.2.1 y (by omega)
    have : p = 0 ∨ p = 1 ∨ p = 2 := by omega
    rcases this with rfl | rfl | rfl
    · exact g.1.imp id (fun z => z.1)
    · exact (hr y (by omega)).imp id (fun z => z.up (by omega))
    · exact g.2.imp id (fun z => z.up (by omega))
theorem in_J {I : Nat} {x1 x2 x3 x4 x5 x6 : Int32} (hj : JA rho) (hI : iI rho = I) (hI9 : I < 12) (h1 : Ix x1 6) (h14 : rho 14 I = 0) : JA (inR (up2 rho 64 0 0) I x1 x2 x3 x4 x5 x6) ∧ TT rho (inR (up2 rho 64 0 0) I x1 x2 x3 x4 x5 x6) := by
  have h9 := hj.2.2.2.2.2.1
  have f7 : ∀ j, inR (up2 rho 64 0 0) I x1 x2 x3 x4 x5 x6 7 j = if j = I then x1 else rho 7 j := fun j => rfl
  have f10 : ∀ j, inR (up2 rho 64 0 0) I x1 x2 x3 x4 x5 x6 10 j = if j = I then x4 else rho 10 j := fun j => rfl
  have f11 : ∀ j, inR (up2 rho 64 0 0) I x1 x2 x3 x4 x5 x6 11 j = if j = I then x5 else rho 11 j := fun j => rfl
  have f14 : ∀ j, inR (up2 rho 64 0 0) I x1 x2 x3 x4 x5 x6 14 j = rho 14 j := fun j => rfl
  have f6 : inR (up2 rho 64 0 0) I x1 x2 x3 x4 x5 x6 6 0 = nI (I + 1) := rfl
  have eI : iI (inR (up2 rho 64 0 0) I x1 x2 x3 x4 x5 x6) = I + 1 := by
    unfold iI
    rw [f6, nv_nI (by omega)]
  have eC : iC (inR (up2 rho 64 0 0) I x1 x2 x3 x4 x5 x6) = iC rho := rfl
  have eX : ∀ k, iX (inR (up2 rho 64 0 0) I x1 x2 x3 x4 x5 x6) k = iX rho k := fun k => rfl
  refine ⟨⟨⟨hj.1.1, ⟨I + 1, by omega, f6⟩, hj.1.2.2.1, fun k hk => ?_⟩, hj.2.1, fun i hi => ?_, hj.2.2.2.1, hj.2.2.2.2.1, ⟨h9.1, h9.2.1, h9.2.2.1, h9.2.2.2.1, h9.2.2.2.2.1, fun i hi => ?_⟩, hj.2.2.2.2.2.2⟩, ⟨Nat.le_refl _, by rw [eI]; omega, Nat.le_refl _, Nat.le_refl _, fun k _ => ⟨rfl, rfl, rfl, rfl, rfl, fun _ => rfl⟩, fun _ _ _ => rfl, fun _ z => z, fun _ _ => ⟨Nat.le_refl _, Nat.le_refl _⟩, fun i hi => ?_⟩, fun _ => rfl⟩
  · obtain ⟨a1, a2, a3, a4, a5⟩ := hj.1.2.2.2 k hk
    have hx := (hj.1.Xi hk).2
    refine ⟨a1, ?_, ?_, a4, a5⟩
    · rw [eI]
      exact a2.up (by omega)
    · rw [eX, f7, if_neg (by omega)]
      exact a3
  · rw [eI] at hi
    rw [f10, f11, f14]
    by_cases e : i = I
    · have hz : ∀ lo hi : Int32, cntI rho (nI i) lo hi = 0 := fun lo hi => by
        unfold cntI
        rw [List.length_eq_zero_iff, List.filter_eq_nil_iff]
        intro k hk hc
        have hc := (of_decide_eq_true hc).1
        have hk := List.mem_range.mp hk
        have hx := hj.1.Xi hk
        rw [hx.1] at hc
        have := (nI_inj (by omega) (by omega)).mp hc
        omega
      have z1 := hz 1 2
      have z2 := hz 0 0
      rw [if_pos e, if_pos e]
      refine ⟨?_, ?_, ?_⟩
      · show cntI rho (nI i) 1 2 ≤ _
        rw [z1]
        exact Nat.zero_le _
      · show cntI rho (nI i) 0 0 ≤ _
        rw [z2]
        exact Nat.zero_le _
      · rw [e, h14]
        exact Nat.zero_le _
    · rw [if_neg e, if_neg e]
      exact hj.2.2.1 i (by omega)
  · rw [eI] at hi
    rw [f7]
    by_cases e : i = I
    · rw [if_pos e]
      exact h1
    · rw [if_neg e]
      exact h9.2.2.2.2.2 i (by omega)
  · rw [f7, f10, f11, if_neg (by omega), if_neg (by omega), if_neg (by omega)]
    exact ⟨rfl, rfl, rfl⟩
theorem pc_inst {s u2 u3 u4 u5 u6 : Nat} (hj : JA rho) (hs : s < 6) (h2 : u2 ≤ 2) (h3 : 1 ≤ u3 ∧ u3 ≤ 9) (h4 : 1 ≤ u4 ∧ u4 ≤ 9) (h5 : u5 ≤ 9) (h6 : u6 ≤ 1) (h14 : iI rho < 12 → rho 14 (iI rho) = 0) : PC (f9_instance (nI s) (nI u2) (nI u3) (nI u4) (nI u5) (nI u6) rho) (fun b m => JA m ∧ TT rho m ∧ ((iI rho < 12 ∧ m 64 0 = 0 ∧ b = nI (iI rho) ∧ iI m = iI rho + 1 ∧ m 7 (iI rho) = nI s ∧ m 10 (iI rho) = nI u4 ∧ m 11 (iI rho) = nI u5 ∧ m 14 (iI rho) = 0) ∨ (iI rho = 12 ∧ m 64 0 = 3))) := by
  have hI := hj.1.I
  have h1 : ¬ (nI s < 0 ∨ 5 < nI s) := nb (lo := 0) (hi := 5) (by omega) (by omega) (by omega)
  have hz : ¬ inBad (nI u2) (nI u3) (nI u4) (nI u5) (nI u6) := by
    unfold inBad
    intro z
    rcases z with z | z | z | z | z
    · exact nb (lo := 0) (hi := 2) (by omega) h2 (by omega) z
    · exact nb (lo := 1) (hi := 9) h3.1 h3.2 (by omega) z
    · exact nb (lo := 1) (hi := 9) h4.1 h4.2 (by omega) z
    · exact nb (lo := 0) (hi := 9) (by omega) h5 (by omega) z
    · exact nb (lo := 0) (hi := 1) (by omega) h6 (by omega) z
  rw [(e9_inst _ _ _ _ _ _ rho).2 hz]
  unfold b9_instance_56
  rw [e9_isService, ob_s, if_neg h1, hI.1]
  by_cases z12 : (12 : Int32) ≤ nI (iI rho)
  · rw [if_pos z12, j79_2]
    rw [l12, nI_leI (by omega) (by omega)] at z12
    exact pc_some ⟨hj, TT.rf, Or.inr ⟨by omega, rfl⟩⟩
  · have hlt : iI rho < 12 := Nat.lt_of_not_le (fun y => z12 (by rw [l12]; exact nI_le y (by omega)))
    rw [if_neg z12, j79_3 _ _ _ _ _ _ rho hI.1 hlt]
    obtain ⟨b1, b2⟩ := in_J (x1 := nI s) (x2 := nI u2) (x3 := nI u3) (x4 := nI u4) (x5 := nI u5) (x6 := nI u6) hj rfl hlt ⟨s, hs, rfl⟩ (h14 hlt)
    refine pc_some ⟨b1, b2, Or.inl ⟨hlt, rfl, rfl, ?_, ?_, ?_, ?_, h14 hlt⟩⟩
    · show nv (nI (iI rho + 1)) = _
      rw [nv_nI (by omega)]
    · exact if_pos rfl
    · exact if_pos rfl
    · exact if_pos rfl
theorem sp_J {s p : Nat} {x2 x3 x4 : Int32} (hj : JA rho) (hs : s < 6) (hp : p < 4) : JA (spR (up2 rho 64 0 0) s p x2 x3 x4) ∧ TT0 rho (spR (up2 rho 64 0 0) s p x2 x3 x4) := by
  have h9 := hj.2.2.2.2.2.1
  have f2 : ∀ j, spR (up2 rho 64 0 0) s p x2 x3 x4 2 j = if j = s then nI (p + 1) else rho 2 j := fun j => rfl
  refine ⟨⟨hj.1, hj.2.1, hj.2.2.1, hj.2.2.2.1, hj.2.2.2.2.1, ⟨h9.1, fun q hq => ⟨(h9.2.1 q hq).1, ?_⟩, h9.2.2⟩, hj.2.2.2.2.2.2⟩, TT0.rf⟩
  rw [f2]
  by_cases e : q = s
  · rw [if_pos e]
    exact ⟨p + 1, by omega, rfl⟩
  · rw [if_neg e]
    exact (h9.2.1 q hq).2
theorem pc_step {s c : Nat} {x3 x4 : Int32} (hj : JA rho) (hs : s < 6) (hc : c < 6) (hsc : s < c) (h3 : x3 = 0 ∨ x3 = 1) (h4 : x4 = -1 ∨ ∃ u, u < 6 ∧ s < u ∧ x4 = nI u) (hR : iR rho = 0) : PC (f9_step (nI s) (nI c) x3 x4 rho) (fun b m => JA m ∧ TT0 rho m ∧ ((∃ p, p < 4 ∧ rho 2 s = nI p ∧ m 64 0 = 0 ∧ b = nI (p + 1) ∧ ∀ j, m 2 j = if j = s then nI (p + 1) else rho 2 j) ∨ (rho 2 s = nI 4 ∧ m 64 0 = 3 ∧ ∀ j, m 2 j = rho 2 j))) := by
  have h9 := hj.2.2.2.2.2.1
  have hRR := hj.1.R
  obtain ⟨p, hp, ep⟩ := (h9.2.1 s hs).2
  have g1 : ¬ ((nI s < 0 ∨ 5 < nI s) ∨ (nI c < 0 ∨ 5 < nI c) ∨ (x4 < -1 ∨ 5 < x4)) := by
    intro z
    rcases z with z | z | z
    · exact nb (lo := 0) (hi := 5) (by omega) (by omega) (by omega) z
    · exact nb (lo := 0) (hi := 5) (by omega) (by omega) (by omega) z
    · rcases h4 with rfl | ⟨u, hu, -, rfl⟩
      · exact absurd z (by decide)
      · refine nb (a := u) (lo := 0) (hi := 5) (by omega) (by omega) (by omega) (z.imp (fun y => ?_) id)
        rw [Int32.lt_iff_toInt_lt] at y ⊢
        have e0 : (-1 : Int32).toInt = -1 := by decide
        rw [nI_toInt (by omega)] at y ⊢
        omega
  have qs := vq_nI (k := s) (n := 6) hs (by omega)
  have cs := nI_clamp (n := s) (by omega)
  have main : PC (b9_step_60 (nI s) (nI c) x3 x4 1 1 1 rho) (fun b m => JA m ∧ TT0 rho m ∧ ((∃ p, p < 4 ∧ rho 2 s = nI p ∧ m 64 0 = 0 ∧ b = nI (p + 1) ∧ ∀ j, m 2 j = if j = s then nI (p + 1) else rho 2 j) ∨ (rho 2 s = nI 4 ∧ m 64 0 = 3 ∧ ∀ j, m 2 j = rho 2 j))) := by
    unfold b9_step_60
    rw [if_neg i10, if_pos qs, cs, ep]
    by_cases z4 : (4 : Int32) ≤ nI p
    · rw [if_pos z4, s87_2]
      rw [l4, nI_leI (by omega) (by omega)] at z4
      have : p = 4 := by omega
      exact pc_some ⟨hj, TT0.rf, Or.inr ⟨by rw [this], rfl, fun _ => rfl⟩⟩
    · rw [if_neg z4]
      have hp4 : p < 4 := Nat.lt_of_not_le (fun y => z4 (by rw [l4]; exact nI_le y (by omega)))
      rw [if_pos (by rw [hRR.1, hR]; rfl)]
      have e4s : (4 : Int32) * nI s + nI p = nI (4 * s + p) := by rw [l4, pk_mul, nI_add]
      unfold b9_step_87
      have ep' : up2 rho 64 0 0 2 s = nI p := ep
      have t3 : ∀ v w u, up2 (up2 (up2 (up2 rho 64 0 0) 3 (4 * s + p) v) 4 (4 * s + p) w) 5 (4 * s + p) u 2 s = nI p := fun v w u => ep
      rw [go1, ob_s, if_neg i10, if_pos qs, cs, ep', e4s, if_pos (vq_nI (by omega) (by omega)), nI_clamp (by omega), wr_s, if_pos h3, wr_s, wr_s, t3, wr_s, nI_1, up2_s]
      obtain ⟨b1, b2⟩ := sp_J (x2 := nI c) (x3 := x3) (x4 := x4) hj hs hp4
      exact pc_some ⟨b1, b2, Or.inl ⟨p, hp4, rfl, rfl, rfl, fun _ => rfl⟩⟩
  have n2 : ¬ nI c ≤ nI s := by
    rw [nI_leI (by omega) (by omega)]
    omega
  rw [e9_step, if_neg g1]
  unfold b9_step_33
  rw [if_neg n2]
  rcases h4 with rfl | ⟨u, hu, hu2, rfl⟩
  · rw [if_pos rfl]
    exact main
  · rw [if_neg (nI_ne1 (by omega)), if_neg (by rw [nI_leI (by omega) (by omega)]; omega)]
    exact main
end PK9
