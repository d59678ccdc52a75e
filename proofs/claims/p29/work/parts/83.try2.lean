/-! a try: the choice and the new call, both sides -/
section PW
variable {X Y : Nat → Prop} {m : CM} {rho : RH}
theorem Go_fr {o : Nat} {r1 r2 : RH} (h1 : o < 400 → r2 37 o = r1 37 o) (h2 : r2 56 (o - 400) = r1 56 (o - 400)) (h3 : r2 63 (o - 440) = r1 63 (o - 440)) : Go r2 o ↔ Go r1 o := by
  unfold Go goB
  by_cases h4 : o < 400
  · rw [if_pos h4, if_pos h4, h1 h4]
  · rw [if_neg h4, if_neg h4, h2, h3]
theorem pol_lt (hb : RB rho) {c s : Nat} (hc : c < 7) (hs : s < 6) : ∃ x, x ≤ 100 ∧ pol rho c s 0 = nI x := by
  have h1 := fun p hp => (hb.rp9 p hp).1
  unfold pol
  have e : ∀ p, p < 49 → rho 15 (3 * p + 0) ≠ -1 → ∃ x, x ≤ 100 ∧ rho 15 (3 * p + 0) = nI x := fun p hp hz => by
    rcases h1 p hp with z | ⟨x, z1, z2⟩
    · exact absurd z hz
    · exact ⟨x, by omega, z2⟩
  split
  · split
    · split
      · exact ⟨20, by omega, rfl⟩
      · rename_i z
        exact e _ (by omega) z
    · rename_i z
      exact e _ (by omega) z
  · rename_i z
    exact e _ (by omega) z
def LOOKT (k : Nat) (r : RH) : Option (Int32 × RH) := ob (f9_isKnown (nI k) r) fun r4 rho5 => if r4 = 0 then some (0, rho5) else ob (f9_looksAt (nI k) rho5) fun _ rho9 => some (0, rho9)
def FrB (rho rho' : RH) : Prop := (∀ F j, F ≠ 24 → F ≠ 26 → F ≠ 31 → F ≠ 50 → (F < 32 ∨ 43 < F) → F ≠ 46 → rho' F j = rho F j) ∧ (∀ F j, F ≠ 39 → ((32 ≤ F ∧ F ≤ 43) ∨ F = 46) → (j ≠ iC rho ∨ 400 ≤ iC rho) → rho' F j = rho F j) ∧ (∀ j, rho' 43 j = rho 43 j) ∧ iC rho ≤ iC rho' ∧ iC rho' ≤ iC rho + 1
theorem e9_b189n {o : Nat} (ho : o < 540) (x3 x4 : Int32) (rho : RH) : b9_tries_189 (nI o) x3 x4 (-1) rho = some (0, up2 rho 50 o 6) := by
  unfold b9_tries_189
  rw [if_pos rfl, if_pos (vq_nI ho (by omega)), nI_clamp (by omega), wr_s]
theorem e9_b189 (hb : RB rho) {o n c s i : Nat} (ho : OE rho o) (hn : n + 1 = sc rho o) (hc7 : c < 7) (hs6 : s < 6) (hi : i < iI rho) (hk : iC rho < 400) : ∃ dl, (∀ L : Int32, L = rho 0 0 + pol rho c s 0 → dl = if L < dlo rho o then L else dlo rho o) ∧
    b9_tries_189 (nI o) (nI c) (nI s) (nI i) rho = (ob (f9_countOf (nI i) 1 2 (crR rho o n (iC rho) s c i (rqo rho o) dl)) fun r10 rho11 => ob (f9_countOf (nI i) 0 0 rho11) fun r13 rho14 => if vq (((4 * nI i) + 3)) 48 then if (rho14 13 (((4 * nI i) + 3)).toNatClampNeg) = 0 then if vq (nI i) 12 then if (rho14 10 (nI i).toNatClampNeg) ≤ r10 then b9_tries_477 (nI i) (nI (iC rho)) (r13) rho14 else if r13 = 0 then ob (f9_runs (nI (iC rho)) rho14) fun _ rho22 => some (0, rho22) else b9_tries_477 (nI i) (nI (iC rho)) (r13) rho14 else none else b9_tries_477 (nI i) (nI (iC rho)) (r13) rho14 else none) := by
  have hC := hb.C
  have hI := hb.I
  have hT := hb.T
  have hE := hb.E ho
  have hss := hb.sce ho
  have hR := hb.R
  have hP := hb.P
  have ho5 : o < 540 := by omega
  generalize hkk : iC rho = k at *
  have hn46 : rho 46 o = nI n := by rw [hss.1, ← hn, nI_pred]
  have qk := vq_nI (k := k) (n := 400) hk (by omega)
  have qk5 := vq_nI (k := k) (n := 540) (by omega) (by omega)
  have ck := nI_clamp (n := k) (by omega)
  have qo := vq_nI (k := o) (n := 540) ho5 (by omega)
  have co := nI_clamp (n := o) (by omega)
  have q84 := vq_nI (k := 12 * c + i) (n := 84) (by omega) (by omega)
  have c84 := nI_clamp (n := 12 * c + i) (by omega)
  -- the tail, from the deadline on
  have tail : ∀ (r : RH) (dl : Int32), b9_tries_391 (nI c) (nI i) (nI k) (nI k) dl r = (ob (f9_countOf (nI i) 1 2 (up2 (up2 (up2 r 38 k dl) 24 (12 * c + i) (r 24 (12 * c + i) + 1)) 37 k 7)) fun r10 rho11 => ob (f9_countOf (nI i) 0 0 rho11) fun r13 rho14 => if vq (((4 * nI i) + 3)) 48 then if (rho14 13 (((4 * nI i) + 3)).toNatClampNeg) = 0 then if vq (nI i) 12 then if (rho14 10 (nI i).toNatClampNeg) ≤ r10 then b9_tries_477 (nI i) (nI k) (r13) rho14 else if r13 = 0 then ob (f9_runs (nI k) rho14) fun _ rho22 => some (0, rho22) else b9_tries_477 (nI i) (nI k) (r13) rho14 else none else b9_tries_477 (nI i) (nI k) (r13) rho14 else none) := fun r dl => by
    have e1 : (12 : Int32) * nI c + nI i = nI (12 * c + i) := by rw [l12, pk_mul, nI_add]
    unfold b9_tries_391
    rw [e1]
    simp only [if_pos qk, if_pos q84, wr_s]
    simp only [ck, c84]
    rfl
  have t369 : ∀ (r : RH) (x8 s0 : Int32), b9_tries_369 (nI c) (nI i) (nI k) x8 s0 r = b9_tries_391 (nI c) (nI i) (nI k) (nI k) (if x8 < s0 then x8 else s0) r := fun r x8 s0 => by
    unfold b9_tries_369
    by_cases z : s0 ≤ x8
    · rw [if_pos z, if_neg (fun q => not_le32.mpr q z)]
    · rw [if_neg z, if_pos (not_le32.mp z)]
  have epol : ∀ (r : RH), (∀ j, r 15 j = rho 15 j) → pol r c s 0 = pol rho c s 0 := fun r hr => by
    unfold pol
    simp only [hr]
  have t315 : ∀ (r : RH), (∀ j, r 15 j = rho 15 j) → (∀ j, r 54 j = rho 54 j) → r 0 0 = rho 0 0 → (o < 400 → r 38 o = rho 38 o) → b9_tries_315 (nI o) (nI c) (nI s) (nI i) (nI k) (nI k) (rqo rho o) r = b9_tries_391 (nI c) (nI i) (nI k) (nI k) (if rho 0 0 + pol rho c s 0 < dlo rho o then rho 0 0 + pol rho c s 0 else dlo rho o) (up2 r 40 k (rqo rho o)) := fun r h15 h54 h00 h38 => by
    unfold b9_tries_315
    have ep0 : f9_policyOf (nI c) (nI s) 0 (up2 r 40 k (rqo rho o)) = some (pol (up2 r 40 k (rqo rho o)) c s 0, up2 r 40 k (rqo rho o)) := e9_policyOf (p := 0) hc7 hs6 (by omega)
    rw [if_pos qk, ck, wr_s, ep0, ob_s, epol (up2 r 40 k (rqo rho o)) h15]
    have e00 : up2 r 40 k (rqo rho o) 0 0 = rho 0 0 := h00
    rw [e00]
    rcases hE with ⟨h1, h2⟩ | ⟨h1, h2, h3⟩ | ⟨h1, h2, h3⟩
    · have e38 : up2 r 40 k (rqo rho o) 38 o = rho 38 o := h38 h1
      rw [if_neg (n400 h1), if_pos (vq_nI h1 (by omega)), co, e38, t369]
      unfold dlo
      rw [if_pos h1]
    · have e54 : up2 r 40 k (rqo rho o) 54 (o - 400) = rho 54 (o - 400) := h54 _
      rw [if_pos (y400 h1 ho5), if_neg (n440 h2), l400, pk_sub h1, if_pos (vq_nI (by omega) (by omega)), nI_clamp (by omega), e54, t369]
      unfold dlo
      rw [if_neg (show ¬ o < 400 by omega), if_pos h2]
    · rw [if_pos (y400 (o := o) (by omega) ho5), if_pos (y440 h1 ho5), t369]
      unfold dlo
      rw [if_neg (show ¬ o < 400 by omega), if_neg (show ¬ o < 440 by omega)]
      obtain ⟨x, hx, hx2⟩ := pol_lt hb hc7 hs6
      rw [hx2, hT.1, nI_add]
      have z1 : nI (nv (rho 0 0) + x) < 1000000 := nI_lt (b := 1000000) (by omega) (by omega)
      have z2 : ¬ nI (nv (rho 0 0) + x) < nI (nv (rho 0 0) + x) := nI_nlt (Nat.le_refl _) (by omega)
      rw [if_pos z1, if_neg z2]
  refine ⟨if rho 0 0 + pol rho c s 0 < dlo rho o then rho 0 0 + pol rho c s 0 else dlo rho o, fun L hL => by rw [hL], ?_⟩
  unfold b9_tries_189
  rw [if_neg (nI_ne1 (by omega)), wr_s, hC.1]
  simp only [if_pos qk, if_pos qo, if_pos qk5, wr_s]
  simp only [ck, nI_1]
  have hok : o ≠ k := by omega
  have e46 : up2 (up2 rho 31 0 (nI (k + 1))) 32 k (nI o) 46 (nI o).toNatClampNeg = nI n := by rw [co]; exact hn46
  simp only [e46]
  have fin := (t315 (up2 (up2 (up2 (up2 (up2 (up2 (up2 rho 31 0 (nI (k + 1))) 32 k (nI o)) 33 k (nI n)) 34 k (nI s)) 35 k (nI c)) 36 k (nI i)) 46 k (-1)) (fun _ => rfl) (fun _ => rfl) rfl (fun _ => rfl)).trans (tail _ _)
  have e24 : up2 (up2 (up2 (up2 (up2 (up2 (up2 (up2 rho 31 0 (nI (k + 1))) 32 k (nI o)) 33 k (nI n)) 34 k (nI s)) 35 k (nI c)) 36 k (nI i)) 46 k (-1)) 40 k (rqo rho o) 24 (12 * c + i) = rho 24 (12 * c + i) := rfl
  rw [e24] at fin
  unfold crR
  rcases hE with ⟨h1, h2⟩ | ⟨h1, h2, h3⟩ | ⟨h1, h2, h3⟩
  · rw [if_neg (n400 h1), if_pos (vq_nI h1 (by omega))]
    rw [← fin]
    refine congrArg (fun rq => b9_tries_315 (nI o) (nI c) (nI s) (nI i) (nI k) (nI k) rq (up2 (up2 (up2 (up2 (up2 (up2 (up2 rho 31 0 (nI (k + 1))) 32 k (nI o)) 33 k (nI n)) 34 k (nI s)) 35 k (nI c)) 36 k (nI i)) 46 k (-1))) ?_
    unfold rqo
    rw [if_pos h1, co]
    rfl
  · rw [if_pos (y400 h1 ho5), if_neg (n440 h2), l400, pk_sub h1]
    rw [← fin]
    refine congrArg (fun rq => b9_tries_315 (nI o) (nI c) (nI s) (nI i) (nI k) (nI k) rq (up2 (up2 (up2 (up2 (up2 (up2 (up2 rho 31 0 (nI (k + 1))) 32 k (nI o)) 33 k (nI n)) 34 k (nI s)) 35 k (nI c)) 36 k (nI i)) 46 k (-1))) ?_
    unfold rqo
    rw [if_neg (show ¬ o < 400 by omega), if_pos h2]
  · rw [if_pos (y400 (o := o) (by omega) ho5), if_pos (y440 h1 ho5)]
    rw [← fin]
    refine congrArg (fun rq => b9_tries_315 (nI o) (nI c) (nI s) (nI i) (nI k) (nI k) rq (up2 (up2 (up2 (up2 (up2 (up2 (up2 rho 31 0 (nI (k + 1))) 32 k (nI o)) 33 k (nI n)) 34 k (nI s)) 35 k (nI c)) 36 k (nI i)) 46 k (-1))) ?_
    unfold rqo
    rw [if_neg (show ¬ o < 400 by omega), if_neg (show ¬ o < 440 by omega)]
end PW
