/-! looking at an end: the class's side, and the relation behind it -/
section PG
variable {X Y : Nat → Prop} {m : CM} {rho : RH}
theorem cm_ext {m m' : CM} (h1 : m'.1 = m.1) (h2 : m'.2.1 = m.2.1) (h3 : ∀ f j, gI m' f j = gI m f j) (h4 : m'.2.2.2 = m.2.2.2) : m' = m := by
  obtain ⟨a, b, c, d⟩ := m
  obtain ⟨a', b', c', d'⟩ := m'
  have e : c' = c := by
    funext f j
    exact h3 f j
  cases h1; cases h2; cases h4; cases e
  rfl
theorem up2_self (f : Nat → Nat → Int32) (F j : Nat) : up2 f F j (f F j) = f := by
  funext g i
  by_cases h : g = F ∧ i = j
  · rw [h.1, h.2, up2_s]
  · rw [up2_n _ _ h]
theorem brk_inv (h : INVX X Y m rho) {i c : Nat} (hi : i < iI rho) (hc : c < 7) {x y z : Int32} (hx : Ix x 3) : INVX X Y (sI (sI (sI m 1 (7 * i + c) y) 0 (7 * i + c) x) 2 (7 * i + c) z) (up2 (up2 (up2 rho 22 (12 * c + i) y) 21 (12 * c + i) x) 23 (12 * c + i) z) := by
  have hI := h.rb9.I
  obtain ⟨b1, b2, b3, b4, b5, b6, b7, b8, b9, b10, b11, b12, b13, b14, b15, b16, c0, cs, ci, cp, cr, cq, ck, cw, cz⟩ := h
  refine ⟨b1, b2, b3, b4, b5, fun i' hi' => ?_, b7, b8, b9, b10, b11, b12, b13, b14, b15, b16, c0, cs, fun i' hi' => ?_, cp, cr, cq, ck, cw, cz.1, cz.2.1, fun i' h1 h2 => ?_⟩
  · have hi2 : i' < iI rho := hi'
    have hh := b6 i' hi'
    refine ⟨hh.1, hh.2.1, hh.2.2.1, hh.2.2.2.1, hh.2.2.2.2.1, hh.2.2.2.2.2.1, hh.2.2.2.2.2.2.1, hh.2.2.2.2.2.2.2.1, hh.2.2.2.2.2.2.2.2.1, hh.2.2.2.2.2.2.2.2.2.1, hh.2.2.2.2.2.2.2.2.2.2.1, hh.2.2.2.2.2.2.2.2.2.2.2.1, hh.2.2.2.2.2.2.2.2.2.2.2.2.1, fun c' hc' => ?_⟩
    have hq := hh.2.2.2.2.2.2.2.2.2.2.2.2.2 c' hc'
    have hx2 : 7 * i' + c' = 7 * i + c ↔ 12 * c' + i' = 12 * c + i := by omega
    refine ⟨hq.1, hq.2.1, ?_, ?_, ?_⟩
    · show (if 7 * i' + c' = 7 * i + c then x else gI m 0 (7 * i' + c')) = (if 12 * c' + i' = 12 * c + i then x else rho 21 (12 * c' + i'))
      simp only [hx2, hq.2.2.1]
    · show (if 7 * i' + c' = 7 * i + c then y else gI m 1 (7 * i' + c')) = (if 12 * c' + i' = 12 * c + i then y else rho 22 (12 * c' + i'))
      simp only [hx2, hq.2.2.2.1]
    · show (if 7 * i' + c' = 7 * i + c then z else gI m 2 (7 * i' + c')) = (if 12 * c' + i' = 12 * c + i then z else rho 23 (12 * c' + i'))
      simp only [hx2, hq.2.2.2.2]
  · have hh := ci i' hi'
    refine ⟨hh.1, hh.2.1, hh.2.2.1, hh.2.2.2.1, hh.2.2.2.2.1, hh.2.2.2.2.2.1, hh.2.2.2.2.2.2.1, hh.2.2.2.2.2.2.2.1, hh.2.2.2.2.2.2.2.2.1, fun c' hc' => ⟨?_, (hh.2.2.2.2.2.2.2.2.2 c' hc').2⟩⟩
    show Ix (if 12 * c' + i' = 12 * c + i then x else rho 21 (12 * c' + i')) 3
    split
    · exact hx
    · exact (hh.2.2.2.2.2.2.2.2.2 c' hc').1
  · have h1' : iI rho ≤ i' := h1
    have hh := cz.2.2 i' h1 h2
    refine ⟨hh.1, hh.2.1, fun c' hc' => ?_⟩
    have hq := hh.2.2 c' hc'
    have hne : ¬ 12 * c' + i' = 12 * c + i := by omega
    refine ⟨?_, ?_, ?_, hq.2.2.2⟩
    · show (if 12 * c' + i' = 12 * c + i then x else rho 21 (12 * c' + i')) = 0
      rw [if_neg hne]
      exact hq.1
    · show (if 12 * c' + i' = 12 * c + i then y else rho 22 (12 * c' + i')) = 0
      rw [if_neg hne]
      exact hq.2.1
    · show (if 12 * c' + i' = 12 * c + i then z else rho 23 (12 * c' + i')) = 0
      rw [if_neg hne]
      exact hq.2.2.1
def cnM (m : CM) (b : Nat) (ok : Bool) (now : Int32) : CM := if gI m 0 b = 1 then m else if ok = true then sI (sI m 0 b 0) 1 b 0 else if gI m 0 b = 2 ∨ ¬ gI m 1 b + 1 < 3 then sI (sI (sI m 1 b (gI m 1 b + 1)) 0 b 1) 2 b now else sI m 1 b (gI m 1 b + 1)
theorem e8_count (m : CM) (b : Nat) (ok : Bool) (now : Int32) : f8_X0_count b (if ok = true then 1 else 0) now m = some (0, cnM m b ok now, 0) := by
  unfold f8_X0_count cnM
  by_cases h1 : gI m 0 b = 1
  · rw [if_pos h1, if_pos h1]
  · rw [if_neg h1, if_neg h1]
    cases ok with
    | true => simp [wr_s]
    | false =>
      simp only [Bool.false_eq_true, if_false, if_true, wr_s, gI_sI, show ¬ (0 : Nat) = 1 by decide]
      by_cases h2 : gI m 1 b + 1 < 3
      · rw [if_neg (not_le32.mpr h2)]
        by_cases h3 : gI m 0 b = 2
        · rw [if_pos h3, if_pos (Or.inl h3)]
        · rw [if_neg h3, if_neg (fun z => z.elim h3 (fun z => z h2))]
      · rw [if_pos (not_lt32.mp h2), if_pos (Or.inr h2)]
theorem cn_inv (h : INVX X Y m rho) {i c : Nat} (hi : i < iI rho) (hc : c < 7) (ok : Bool) : INVX X Y (cnM m (7 * i + c) ok (rho 0 0)) (cnR rho (12 * c + i) ok) ∧ pot (cnM m (7 * i + c) ok (rho 0 0)) = pot m := by
  have hq := (h.ai9 i hi).2.2.2.2.2.2.2.2.2.2.2.2.2 c hc
  unfold cnM cnR
  rw [hq.2.2.1, hq.2.2.2.1]
  split
  · exact ⟨h, rfl⟩
  · split
    · have e : sI (sI m 0 (7 * i + c) 0) 1 (7 * i + c) 0 = sI (sI (sI m 1 (7 * i + c) 0) 0 (7 * i + c) 0) 2 (7 * i + c) (gI m 2 (7 * i + c)) := by
        refine cm_ext rfl rfl (fun f j => ?_) rfl
        simp only [gI_sI]
        by_cases hj : j = 7 * i + c
        · subst hj
          by_cases f0 : f = 0
          · simp [f0]
          · by_cases f1 : f = 1
            · simp [f1]
            · by_cases f2 : f = 2
              · simp [f2]
              · simp [f0, f1, f2]
        · simp [hj]
      rw [e, hq.2.2.2.2]
      exact ⟨brk_inv h hi hc ⟨0, by omega, rfl⟩, rfl⟩
    · split
      · exact ⟨brk_inv h hi hc ⟨1, by omega, rfl⟩, rfl⟩
      · have e : sI m 1 (7 * i + c) (rho 22 (12 * c + i) + 1) = sI (sI (sI m 1 (7 * i + c) (rho 22 (12 * c + i) + 1)) 0 (7 * i + c) (gI m 0 (7 * i + c))) 2 (7 * i + c) (gI m 2 (7 * i + c)) := by
          refine cm_ext rfl rfl (fun f j => ?_) rfl
          simp only [gI_sI]
          by_cases hj : j = 7 * i + c
          · subst hj
            by_cases f0 : f = 0
            · simp [f0]
            · by_cases f1 : f = 1
              · simp [f1]
              · by_cases f2 : f = 2
                · simp [f2]
                · simp [f0, f1, f2]
          · simp [hj]
        rw [e, hq.2.2.2.2, hq.2.2.1]
        exact ⟨brk_inv h hi hc ((h.rb9.ri9 i hi).2.2.2.2.2.2.2.2.2 c hc).1, rfl⟩
theorem cn_fr (rho : RH) (a : Nat) (ok : Bool) {F j : Nat} (h1 : F ≠ 21) (h2 : F ≠ 22) (h3 : F ≠ 23) : cnR rho a ok F j = rho F j := by
  unfold cnR
  split
  · rfl
  · split
    · rw [up2_f _ _ _ _ h3, up2_f _ _ _ _ h1, up2_f _ _ _ _ h2]
    · split
      · rw [up2_f _ _ _ _ h3, up2_f _ _ _ _ h1, up2_f _ _ _ _ h2]
      · rw [up2_f _ _ _ _ h3, up2_f _ _ _ _ h1, up2_f _ _ _ _ h2]
/-- ends that are counted -/
theorem cnt_inv (h : INVX X Y m rho) {s v : Nat} (hs : s < 6) (hv : v < 2) {x y : Int32} : INVX X Y (sA (sA m 35 s v x) 36 s v y) (up2 (up2 rho 27 (2 * s + v) x) 28 (2 * s + v) y) := by
  obtain ⟨b1, b2, b3, b4, b5, b6, b7, b8, b9, b10, b11, b12, b13, b14, b15, b16, b17⟩ := h
  refine ⟨b1, b2, b3, fun s' hs' => ?_, b5, b6, b7, b8, b9, b10, b11, b12, b13, b14, b15, b16, b17⟩
  have hh := b4 s' hs'
  refine ⟨hh.1, hh.2.1, hh.2.2.1, hh.2.2.2.1, fun v' hv' => ?_, hh.2.2.2.2.2⟩
  have hq := hh.2.2.2.2.1 v' hv'
  by_cases h1 : s' = s ∧ v' = v
  · obtain ⟨rfl, rfl⟩ := h1
    exact ⟨(up3_s m.2.2.2.1 35 s' v' x).trans (up2_s rho 27 _ x).symm, (up3_s (sA m 35 s' v' x).2.2.2.1 36 s' v' y).trans (up2_s _ 28 _ y).symm⟩
  · have h2 : ¬ 2 * s' + v' = 2 * s + v := by omega
    constructor
    · refine (up3_n m.2.2.2.1 x (fun z => h1 ⟨z.2.1, z.2.2⟩) : up3 m.2.2.2.1 35 s v x 35 s' v' = _).trans (hq.1.trans ?_)
      exact (up2_n rho x (fun z => h2 z.2) : up2 rho 27 (2 * s + v) x 27 (2 * s' + v') = _).symm
    · refine (up3_n m.2.2.2.1 y (fun z => h1 ⟨z.2.1, z.2.2⟩) : up3 m.2.2.2.1 36 s v y 36 s' v' = _).trans (hq.2.trans ?_)
      exact (up2_n rho y (fun z => h2 z.2) : up2 rho 28 (2 * s + v) y 28 (2 * s' + v') = _).symm
theorem shr_inv (h : INVX X Y m rho) {s : Nat} {x : Int32} (hx : Ix x 101) : INVX X Y (sI m 384 s x) (up2 rho 25 s x) := by
  obtain ⟨b1, b2, b3, b4, b5, b6, b7, b8, b9, b10, b11, b12, b13, b14, b15, b16, c0, cs, ci, cp, cr, cq, ck, cw, cz⟩ := h
  refine ⟨b1, b2, b3, fun s' hs' => ?_, b5, b6, b7, b8, b9, b10, b11, b12, b13, b14, b15, b16, c0, fun s' hs' => ?_, ci, cp, cr, cq, ck, cw, cz⟩
  · have hh := b4 s' hs'
    refine ⟨hh.1, hh.2.1, ?_, hh.2.2.2⟩
    show (if s' = s then x else gI m 384 s') = (if s' = s then x else rho 25 s')
    rw [hh.2.2.1]
  · have hh := cs s' hs'
    refine ⟨hh.1, ?_, hh.2.2⟩
    show Ix (if s' = s then x else rho 25 s') 101
    split
    · exact hx
    · exact hh.2.1
def jdM (m : CM) (s v : Nat) (ok : Bool) : CM := if gI m 384 s = 0 then m else
  wr (if ok = true then sA m 35 s v (gA m 35 s v + 1) else sA (sA m 35 s v (gA m 35 s v + 1)) 36 s v (gA m 36 s v + 1)) fun r => if gA r 35 s 1 < 5 ∨ gA r 36 s 1 < 2 ∨ gA r 36 s 1 * gA r 35 s 0 ≤ 2 * gA r 36 s 0 * gA r 35 s 1 then r else sI r 384 s 0
theorem e8_judge (ha : A0 m) {s v : Nat} (hs : s < 6) (hv : v < 2) (ok : Bool) : f8_X3_judge s (nI v) (if ok = true then 1 else 0) m = some (0, jdM m s v ok, 0) := by
  have hz := ha.2.2.2.2.2.2.2.2.2 s hs
  have e5 : (0 : Int32).toNatClampNeg = 0 := rfl
  have e6 : (1 : Int32).toNatClampNeg = 1 := rfl
  have fin : ∀ r : CM, (if gA r 36 s 1 * gA r 35 s 0 ≤ 2 * gA r 36 s 0 * gA r 35 s 1 then (if gA r 35 s 1 < 5 then some (0, r, 0) else if gA r 36 s 1 < 2 then some (0, r, 0) else some (0, r, 0)) else if gA r 35 s 1 < 5 then some (0, r, 0) else if gA r 36 s 1 < 2 then some (0, r, 0) else some (0, sI r 384 s 0, 0)) = some ((0 : Int32), (if gA r 35 s 1 < 5 ∨ gA r 36 s 1 < 2 ∨ gA r 36 s 1 * gA r 35 s 0 ≤ 2 * gA r 36 s 0 * gA r 35 s 1 then r else sI r 384 s 0), 0) := fun r => by
    by_cases h3 : gA r 36 s 1 * gA r 35 s 0 ≤ 2 * gA r 36 s 0 * gA r 35 s 1
    · rw [if_pos h3, if_pos (Or.inr (Or.inr h3))]
      split
      · rfl
      · split <;> rfl
    · by_cases h4 : gA r 35 s 1 < 5
      · rw [if_neg h3, if_pos h4, if_pos (Or.inl h4)]
      · by_cases h5 : gA r 36 s 1 < 2
        · rw [if_neg h3, if_neg h4, if_pos h5, if_pos (Or.inr (Or.inl h5))]
        · rw [if_neg h3, if_neg h4, if_neg h5, if_neg (fun z => z.elim h4 (fun z => z.elim h5 h3))]
  unfold f8_X3_judge jdM
  by_cases h1 : gI m 384 s = 0
  · rw [if_pos h1, if_pos h1]
  · rw [if_neg h1, if_neg h1, hz.2.2.2.2.2.1, od_s, if_pos (vq_nI hv (by omega)), nI_clamp (by omega)]
    simp only [wr_s, gR_sA, hz.2.2.2.2.2.2, hz.2.2.2.2.2.1, od_s, e5, e6]
    cases ok with
    | true =>
      simp only [if_true, show ¬ (1 : Int32) = 0 by decide, if_false]
      exact fin _
    | false =>
      simp only [if_true, Bool.false_eq_true, if_false]
      exact fin _
theorem jd_inv (h : INVX X Y m rho) {s v : Nat} (hs : s < 6) (hv : v < 2) (ok : Bool) : INVX X Y (jdM m s v ok) (jdR rho s v ok) ∧ pot (jdM m s v ok) = pot m := by
  have h4 := h.as9 s hs
  have hx := (h.rb9.rs9 s hs).2.1
  have e0 : rho 25 s ≤ 0 ↔ rho 25 s = 0 := by
    obtain ⟨a, ha, hq⟩ := hx
    rw [hq, l0, nI_leI (by omega) (by omega), nI_eq (by omega) (by omega)]
    omega
  have fin : ∀ (m' : CM) (r : RH), INVX X Y m' r → INVX X Y (if gA m' 35 s 1 < 5 ∨ gA m' 36 s 1 < 2 ∨ gA m' 36 s 1 * gA m' 35 s 0 ≤ 2 * gA m' 36 s 0 * gA m' 35 s 1 then m' else sI m' 384 s 0) (if r 27 (2 * s + 1) < 5 ∨ r 28 (2 * s + 1) < 2 ∨ r 28 (2 * s + 1) * r 27 (2 * s) ≤ 2 * r 28 (2 * s) * r 27 (2 * s + 1) then r else up2 r 25 s 0) := fun m' r h' => by
    have q := (h'.as9 s hs).2.2.2.2.1
    have hcd : (gA m' 35 s 1 < 5 ∨ gA m' 36 s 1 < 2 ∨ gA m' 36 s 1 * gA m' 35 s 0 ≤ 2 * gA m' 36 s 0 * gA m' 35 s 1) ↔ (r 27 (2 * s + 1) < 5 ∨ r 28 (2 * s + 1) < 2 ∨ r 28 (2 * s + 1) * r 27 (2 * s) ≤ 2 * r 28 (2 * s) * r 27 (2 * s + 1)) := by
      rw [(q 0 (by omega)).1, (q 0 (by omega)).2, (q 1 (by omega)).1, (q 1 (by omega)).2]
      exact Iff.rfl
    by_cases hc : r 27 (2 * s + 1) < 5 ∨ r 28 (2 * s + 1) < 2 ∨ r 28 (2 * s + 1) * r 27 (2 * s) ≤ 2 * r 28 (2 * s) * r 27 (2 * s + 1)
    · rw [if_pos hc, if_pos (hcd.mpr hc)]
      exact h'
    · rw [if_neg hc, if_neg (fun z => hc (hcd.mp z))]
      exact shr_inv h' ⟨0, by omega, rfl⟩
  unfold jdM jdR
  rw [h4.2.2.1]
  by_cases h1 : rho 25 s = 0
  · rw [if_pos h1, if_pos (e0.mpr h1)]
    exact ⟨h, rfl⟩
  · rw [if_neg h1, if_neg (fun z => h1 (e0.mp z))]
    have q := h4.2.2.2.2.1 v hv
    have hc := cnt_inv h hs hv (x := gA m 35 s v + 1) (y := gA m 36 s v + (if ok = true then 0 else 1))
    rw [← q.1, ← q.2]
    have e : (if ok = true then sA m 35 s v (gA m 35 s v + 1) else sA (sA m 35 s v (gA m 35 s v + 1)) 36 s v (gA m 36 s v + 1)) = sA (sA m 35 s v (gA m 35 s v + 1)) 36 s v (gA m 36 s v + (if ok = true then 0 else 1)) := by
      cases ok with
      | false => rfl
      | true =>
        have e2 : up3 (sA m 35 s v (gA m 35 s v + 1)).2.2.2.1 36 s v (gA m 36 s v + 0) = (sA m 35 s v (gA m 35 s v + 1)).2.2.2.1 := by
          funext a b c
          by_cases hq : a = 36 ∧ b = s ∧ c = v
          · obtain ⟨rfl, rfl, rfl⟩ := hq
            rw [up3_s, add0]
            rfl
          · rw [up3_n _ _ hq]
        show _ = ((sA m 35 s v (gA m 35 s v + 1)).1, _, _, up3 (sA m 35 s v (gA m 35 s v + 1)).2.2.2.1 36 s v (gA m 36 s v + 0), _)
        rw [e2]
        rfl
    rw [e, wr_s, wr_s]
    refine ⟨fin _ _ hc, ?_⟩
    have e9 : ∀ (c : Prop) [Decidable c] (r : CM), pot (if c then r else sI r 384 s 0) = pot r := fun c _ r => by split <;> rfl
    rw [e9]
    rfl
theorem jd_fr (rho : RH) (s v : Nat) (ok : Bool) {F j : Nat} (h1 : F ≠ 25) (h2 : F ≠ 27) (h3 : F ≠ 28) : jdR rho s v ok F j = rho F j := by
  unfold jdR
  split
  · rfl
  · rw [wr_s]
    have e9 : ∀ (c : Prop) [Decidable c] (r : RH), (if c then r else up2 r 25 s 0) F j = r F j := fun c _ r => by
      split
      · rfl
      · exact up2_f _ _ _ _ h1
    rw [e9, up2_f _ _ _ _ h3, up2_f _ _ _ _ h2]
end PG
