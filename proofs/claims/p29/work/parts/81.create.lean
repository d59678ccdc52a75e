/-! a call more -/
section PU
variable {X Y : Nat → Prop} {m : CM} {rho : RH}
def x1M (m : CM) (k : Nat) (x1 : Int32) (s i : Nat) (dl : Int32) : CM := sI (sR (sR (sI (sI (sI (sI (sI (sR (sNL m 56 k) 132 k (some k)) 133 k (-1)) 134 k 1000000) 135 k (-1)) 136 k 1000000) 128 k x1) 129 k (some s)) 130 k (some i)) 131 k dl
theorem e8_X1init {k s i : Nat} {x1 dl : Int32} (hv : gV m 56 k = false) : f8_X1_init k x1 s i dl m = some (0, x1M m k x1 s i dl, 1) := by
  unfold f8_X1_init
  rw [if_pos hv]
  rfl
def crM (m : CM) (k s i c : Nat) (dl v : Int32) : CM := sA (sL (sL (x1M (sN m 1 k) k (nI k) s i dl) 52 0 (gL m 52 0 ++ [k])) 55 s (gL m 55 s ++ [k])) 31 i c v
def crR (rho : RH) (o n k s c i : Nat) (rq dl : Int32) : RH := up2 (up2 (up2 (up2 (up2 (up2 (up2 (up2 (up2 (up2 (up2 rho 31 0 (nI (k + 1))) 32 k (nI o)) 33 k (nI n)) 34 k (nI s)) 35 k (nI c)) 36 k (nI i)) 46 k (-1)) 40 k rq) 38 k dl) 24 (12 * c + i) (rho 24 (12 * c + i) + 1)) 37 k 7
theorem cr_I {k s i c : Nat} {dl v : Int32} {f j : Nat} (h : ¬ (f / 128 = 1 ∧ j = k)) : gI (sI (crM m k s i c dl v) 133 k 7) f j = gI m f j := by
  unfold crM x1M
  simp only [gI_sI, gI_sA, gI_sL, gI_sR, gI_sNL, gI_sN]
  by_cases hj : j = k
  · have hf : ¬ f / 128 = 1 := fun z => h ⟨z, hj⟩
    have h1 : f ≠ 133 := fun z => hf (by omega)
    have h2 : f ≠ 134 := fun z => hf (by omega)
    have h3 : f ≠ 135 := fun z => hf (by omega)
    have h4 : f ≠ 136 := fun z => hf (by omega)
    have h5 : f ≠ 128 := fun z => hf (by omega)
    have h6 : f ≠ 131 := fun z => hf (by omega)
    simp [hf, h1, h2, h3, h4, h5, h6]
  · simp [hj]
theorem cr_Rf {k s i c : Nat} {dl v : Int32} {f j : Nat} (h : ¬ (f / 128 = 1 ∧ j = k)) : gR (sI (crM m k s i c dl v) 133 k 7) f j = gR m f j := by
  unfold crM x1M
  simp only [gR_sI, gR_sA, gR_sL, gR_sR, gR_sNL, gR_sN]
  by_cases hj : j = k
  · have hf : ¬ f / 128 = 1 := fun z => h ⟨z, hj⟩
    have h1 : f ≠ 132 := fun z => hf (by omega)
    have h2 : f ≠ 129 := fun z => hf (by omega)
    have h3 : f ≠ 130 := fun z => hf (by omega)
    simp [hf, h1, h2, h3]
  · simp [hj]
theorem cr_at {k s i c : Nat} {dl v : Int32} : (gI (sI (crM m k s i c dl v) 133 k 7) 128 k = nI k ∧ gI (sI (crM m k s i c dl v) 133 k 7) 131 k = dl ∧ gI (sI (crM m k s i c dl v) 133 k 7) 133 k = 7 ∧ gI (sI (crM m k s i c dl v) 133 k 7) 136 k = 1000000 ∧ gI (sI (crM m k s i c dl v) 133 k 7) 137 k = 0) ∧ gR (sI (crM m k s i c dl v) 133 k 7) 129 k = some s ∧ gR (sI (crM m k s i c dl v) 133 k 7) 130 k = some i ∧ gR (sI (crM m k s i c dl v) 133 k 7) 132 k = some k ∧ gL (sI (crM m k s i c dl v) 133 k 7) 56 k = [] := by
  unfold crM x1M
  simp only [gI_sI, gI_sA, gI_sL, gI_sR, gI_sNL, gI_sN, gR_sI, gR_sA, gR_sL, gR_sR, gR_sNL, gR_sN, gL_sI, gL_sA, gL_sL, gL_sR, gL_sNL, gL_sN]
  simp
theorem cr_L {k s i c : Nat} {dl v : Int32} {c' j : Nat} (h1 : ¬ (c' = 56 ∧ j = k)) (h2 : ¬ (c' = 52 ∧ j = 0)) (h3 : ¬ (c' = 55 ∧ j = s)) : gL (sI (crM m k s i c dl v) 133 k 7) c' j = gL m c' j := by
  unfold crM x1M
  simp only [gL_sI, gL_sA, gL_sL, gL_sR, gL_sNL, gL_sN]
  by_cases a : c' = 55
  · subst a
    have : j ≠ s := fun z => h3 ⟨rfl, z⟩
    simp [this]
  · by_cases b : c' = 52
    · subst b
      have : j ≠ 0 := fun z => h2 ⟨rfl, z⟩
      simp [this]
    · by_cases d : c' = 56
      · subst d
        have : j ≠ k := fun z => h1 ⟨rfl, z⟩
        simp [this]
      · simp [a, b, d]
theorem cr_L52 {k s i c : Nat} {dl v : Int32} : gL (sI (crM m k s i c dl v) 133 k 7) 52 0 = gL m 52 0 ++ [k] := by
  unfold crM x1M
  simp only [gL_sI, gL_sA, gL_sL, gL_sR, gL_sNL, gL_sN]
  simp
theorem cr_L55 {k s i c : Nat} {dl v : Int32} : gL (sI (crM m k s i c dl v) 133 k 7) 55 s = gL m 55 s ++ [k] := by
  unfold crM x1M
  simp only [gL_sI, gL_sA, gL_sL, gL_sR, gL_sNL, gL_sN]
  simp
theorem cr_V {k s i c : Nat} {dl v : Int32} {c' j : Nat} (h1 : ¬ ((c' = 56 ∨ c' = 1) ∧ j = k)) : gV (sI (crM m k s i c dl v) 133 k 7) c' j = gV m c' j := by
  unfold crM x1M
  simp only [gV_sI, gV_sA, gV_sL, gV_sR, gV_sNL, gV_sN]
  by_cases hj : j = k
  · have a : c' ≠ 56 := fun z => h1 ⟨Or.inl z, hj⟩
    have b : c' ≠ 1 := fun z => h1 ⟨Or.inr z, hj⟩
    simp [a, b]
  · simp [hj]
theorem cr_A {k s i c : Nat} {dl v : Int32} {c' j b : Nat} : gA (sI (crM m k s i c dl v) 133 k 7) c' j b = if c' = 31 then (if j = i then (if b = c then v else gA m c' j b) else gA m c' j b) else gA m c' j b := by
  unfold crM x1M
  simp only [gA_sI, gA_sA, gA_sL, gA_sR, gA_sNL, gA_sN]
theorem cr_inv (h : INVX X Y m rho) {o n c s i : Nat} {rq dl v : Int32} (ho : OE rho o) (hn : n + 1 = sc rho o) (hc : cal rho o = nI c) (hs : cld rho o n = nI s) (hc7 : c < 7) (hs6 : s < 6) (hi : i < iI rho) (hk4 : iC rho < 400) (hrq : rq = rqo rho o) (hv : v = rho 24 (12 * c + i) + 1) :
    INVX (fun x => X x ∨ x = o) Y (sI (crM m (iC rho) (4 * o + n) i c dl v) 133 (iC rho) 7) (crR rho o n (iC rho) s c i rq dl) := by
  have hb := h.rb9
  have hI := hb.I
  have hR := hb.R
  have hP := hb.P
  have hE := hb.E ho
  have hss := hb.sce ho
  have hOE0 : ∀ o', OE rho o' → o' ≠ iC rho := fun o' ho' => by have := hb.E ho'; omega
  have hidx : ∀ o' n', OE rho o' → n' < sc rho o' → (4 * o' + n' = 4 * o + n ↔ o' = o ∧ n' = n) := fun o' n' ho' hn' => by
    have := hb.sce ho'
    omega
  obtain ⟨b1, b2, b3, b4, b5, b6, b7, b8, b9, b10, b11, b12, b13, b14, b15, b16, c0, cs, ci, cp, cr, cq, ck, cw, cz⟩ := h
  generalize hkk : iC rho = k at *
  have a1 := cr_at (m := m) (k := k) (s := 4 * o + n) (i := i) (c := c) (dl := dl) (v := v)
  have i1 := fun f j (z : ¬ (f / 128 = 1 ∧ j = k)) => cr_I (m := m) (k := k) (s := 4 * o + n) (i := i) (c := c) (dl := dl) (v := v) z
  have i2 := fun f j (z : ¬ (f / 128 = 1 ∧ j = k)) => cr_Rf (m := m) (k := k) (s := 4 * o + n) (i := i) (c := c) (dl := dl) (v := v) z
  have i3 := fun c' j z1 z2 z3 => cr_L (m := m) (k := k) (s := 4 * o + n) (i := i) (c := c) (dl := dl) (v := v) (c' := c') (j := j) z1 z2 z3
  have i4 := cr_L52 (m := m) (k := k) (s := 4 * o + n) (i := i) (c := c) (dl := dl) (v := v)
  have i5 := cr_L55 (m := m) (k := k) (s := 4 * o + n) (i := i) (c := c) (dl := dl) (v := v)
  have i6 := fun c' j z => cr_V (m := m) (k := k) (s := 4 * o + n) (i := i) (c := c) (dl := dl) (v := v) (c' := c') (j := j) z
  have i7 := fun c' j b => cr_A (m := m) (k := k) (s := 4 * o + n) (i := i) (c := c) (dl := dl) (v := v) (c' := c') (j := j) (b := b)
  have i8 : gO (sI (crM m k (4 * o + n) i c dl v) 133 k 7) = gO m := rfl
  generalize sI (crM m k (4 * o + n) i c dl v) 133 k 7 = M at *
  have f32 : ∀ j, crR rho o n k s c i rq dl 32 j = if j = k then nI o else rho 32 j := fun _ => rfl
  have f33 : ∀ j, crR rho o n k s c i rq dl 33 j = if j = k then nI n else rho 33 j := fun _ => rfl
  have f34 : ∀ j, crR rho o n k s c i rq dl 34 j = if j = k then nI s else rho 34 j := fun _ => rfl
  have f35 : ∀ j, crR rho o n k s c i rq dl 35 j = if j = k then nI c else rho 35 j := fun _ => rfl
  have f36 : ∀ j, crR rho o n k s c i rq dl 36 j = if j = k then nI i else rho 36 j := fun _ => rfl
  have f46 : ∀ j, crR rho o n k s c i rq dl 46 j = if j = k then -1 else rho 46 j := fun _ => rfl
  have f40 : ∀ j, crR rho o n k s c i rq dl 40 j = if j = k then rq else rho 40 j := fun _ => rfl
  have f38 : ∀ j, crR rho o n k s c i rq dl 38 j = if j = k then dl else rho 38 j := fun _ => rfl
  have f37 : ∀ j, crR rho o n k s c i rq dl 37 j = if j = k then 7 else rho 37 j := fun _ => rfl
  have f24 : ∀ j, crR rho o n k s c i rq dl 24 j = if j = 12 * c + i then rho 24 (12 * c + i) + 1 else rho 24 j := fun _ => rfl
  have f31 : iC (crR rho o n k s c i rq dl) = k + 1 := by
    have : crR rho o n k s c i rq dl 31 0 = nI (k + 1) := rfl
    unfold iC
    rw [this, nv_nI (by omega)]
  have fR : iR (crR rho o n k s c i rq dl) = iR rho := rfl
  have fP : iP (crR rho o n k s c i rq dl) = iP rho := rfl
  have fI : iI (crR rho o n k s c i rq dl) = iI rho := rfl
  have gO' : ∀ j, j ≠ k → iO (crR rho o n k s c i rq dl) j = iO rho j := fun j hj => by unfold iO; rw [f32, if_neg hj]
  have gN' : ∀ j, j ≠ k → iN (crR rho o n k s c i rq dl) j = iN rho j := fun j hj => by unfold iN; rw [f33, if_neg hj]
  have gS' : ∀ j, j ≠ k → iS (crR rho o n k s c i rq dl) j = iS rho j := fun j hj => by unfold iS; rw [f34, if_neg hj]
  have gX' : ∀ j, j ≠ k → iX (crR rho o n k s c i rq dl) j = iX rho j := fun j hj => by unfold iX; rw [f36, if_neg hj]
  have gsc : ∀ j, j ≠ k → sc (crR rho o n k s c i rq dl) j = sc rho j := fun j hj => by unfold sc; rw [f46, if_neg hj]
  have gOk : iO (crR rho o n k s c i rq dl) k = o := by unfold iO; rw [f32, if_pos rfl, nv_nI (by omega)]
  have gNk : iN (crR rho o n k s c i rq dl) k = n := by unfold iN; rw [f33, if_pos rfl, nv_nI (by omega)]
  have gSk : iS (crR rho o n k s c i rq dl) k = s := by unfold iS; rw [f34, if_pos rfl, nv_nI (by omega)]
  have gXk : iX (crR rho o n k s c i rq dl) k = i := by unfold iX; rw [f36, if_pos rfl, nv_nI (by omega)]
  have gsck : sc (crR rho o n k s c i rq dl) k = 0 := by unfold sc; rw [f46, if_pos rfl]; rfl
  have hOE : ∀ o', OE (crR rho o n k s c i rq dl) o' → o' = k ∨ (OE rho o' ∧ o' ≠ k) := fun o' ho' => by
    by_cases z : o' = k
    · exact Or.inl z
    · refine Or.inr ⟨?_, z⟩
      rcases ho' with q | q | q
      · rw [f31] at q
        left
        omega
      · exact Or.inr (Or.inl q)
      · exact Or.inr (Or.inr q)
  have hOE2 : ∀ o', OE rho o' → OE (crR rho o n k s c i rq dl) o' := fun o' ho' => by
    rcases ho' with q | q | q
    · left
      rw [f31]
      omega
    · exact Or.inr (Or.inl q)
    · exact Or.inr (Or.inr q)
  have gcal : ∀ o', o' ≠ k → cal (crR rho o n k s c i rq dl) o' = cal rho o' := fun o' hz => by
    unfold cal
    rw [f34, if_neg hz]
    rfl
  have gcld : ∀ o' n', o' ≠ k → cld (crR rho o n k s c i rq dl) o' n' = cld rho o' n' := fun o' n' hz => by
    unfold cld
    rw [gS' o' hz]
    rfl
  have gsaf : ∀ o' n', o' ≠ k → saf (crR rho o n k s c i rq dl) o' n' = saf rho o' n' := fun o' n' hz => by
    unfold saf
    rw [gS' o' hz]
    rfl
  have gund : ∀ o' n', o' ≠ k → und (crR rho o n k s c i rq dl) o' n' = und rho o' n' := fun o' n' hz => by
    unfold und
    rw [gS' o' hz]
    rfl
  have gzon : ∀ o', o' ≠ k → zon (crR rho o n k s c i rq dl) o' = zon rho o' := fun o' hz => by
    unfold zon
    rw [gX' o' hz]
    rfl
  have gdlo : ∀ o', o' ≠ k → dlo (crR rho o n k s c i rq dl) o' = dlo rho o' := fun o' hz => by
    unfold dlo
    rw [f38, if_neg hz]
    rfl
  have grqo : ∀ o', o' ≠ k → rqo (crR rho o n k s c i rq dl) o' = rqo rho o' := fun o' hz => by
    unfold rqo
    rw [f40, if_neg hz]
  have gTR : ∀ o' n', TR (crR rho o n k s c i rq dl) o' n' = TR rho o' n' ++ (if o' = o ∧ n' = n then [k] else []) := fun o' n' => by
    unfold TR
    rw [f31, hkk, List.range_succ, List.filter_append]
    have q1 : (List.range k).filter (fun j => decide (iO (crR rho o n k s c i rq dl) j = o' ∧ iN (crR rho o n k s c i rq dl) j = n')) = (List.range k).filter (fun j => decide (iO rho j = o' ∧ iN rho j = n')) := by
      apply fl_same
      intro j hj
      rw [gO' j (by omega), gN' j (by omega)]
    rw [q1]
    by_cases hz : o' = o ∧ n' = n
    · rw [if_pos hz, List.filter_cons_of_pos (by rw [gOk, gNk, hz.1, hz.2]; simp)]
      rfl
    · rw [if_neg hz, List.filter_cons_of_neg (by rw [gOk, gNk]; simp only [decide_eq_true_eq]; exact fun q => hz ⟨q.1.symm, q.2.symm⟩)]
      rfl
  have z41 := cz.1 k (by omega) (by omega)
  have gtra : ∀ o' n', (TR (crR rho o n k s c i rq dl) o' n').any (fun q => decide (crR rho o n k s c i rq dl 41 q ≠ 0)) = (TR rho o' n').any (fun q => decide (rho 41 q ≠ 0)) := fun o' n' => by
    rw [gTR, List.any_append]
    have q2 : (if o' = o ∧ n' = n then [k] else []).any (fun q => decide (crR rho o n k s c i rq dl 41 q ≠ 0)) = false := by
      split
      · show (decide (rho 41 k ≠ 0) || false) = false
        simp [z41.1]
      · rfl
    rw [q2, Bool.or_false]
    rfl
  have hoR : 0 < iR rho := by
    rcases hE with q | q | q
    · exact c0.2.2.2.2.2.1 (Or.inl (by omega))
    · omega
    · exact c0.2.2.2.2.2.1 (Or.inr (by omega))
  have hon : o ≠ k := hOE0 o ho
  refine ⟨?_, ?_, ?_, ?_, ?_, ?_, ?_, ?_, ?_, ?_, ?_, ?_, ?_, ⟨?_, ?_⟩, ?_, ⟨?_, ?_, ?_, ?_⟩, ⟨c0.1, c0.2.1, ⟨k + 1, by omega, rfl⟩, c0.2.2.2.1, c0.2.2.2.2.1, fun _ => hoR, c0.2.2.2.2.2.2⟩, cs, ?_, cp, ?_, ?_, ?_, ?_, ⟨?_, cz.2.1, ?_⟩⟩
  · unfold A0
    rw [i8, i2 1028 _ (by omega), i2 1029 _ (by omega), i2 1030 _ (by omega), i2 1031 _ (by omega), i2 1032 _ (by omega), i2 1033 _ (by omega), i2 1034 _ (by omega)]
    refine ⟨b1.1, b1.2.1, b1.2.2.1, b1.2.2.2.1, b1.2.2.2.2.1, b1.2.2.2.2.2.1, b1.2.2.2.2.2.2.1, b1.2.2.2.2.2.2.2.1, b1.2.2.2.2.2.2.2.2.1, fun s' hs' => ?_⟩
    rw [i2 770 _ (by omega), i2 771 _ (by omega), i2 772 _ (by omega), i2 773 _ (by omega), i2 386 _ (by omega), i2 387 _ (by omega)]
    exact b1.2.2.2.2.2.2.2.2.2 s' hs'
  · unfold AGl
    rw [i1 _ _ (by omega), i1 _ _ (by omega), i1 _ _ (by omega), i1 _ _ (by omega)]
    exact b2
  · intro p hp
    have hh := b3 p hp
    refine ⟨?_, fun s' hs' => ?_, fun c' hc' s' hs' => ?_⟩
    · rw [i7, if_neg (by decide)]; exact hh.1
    · rw [i7, if_neg (by decide)]; exact hh.2.1 s' hs'
    · rw [i7, if_neg (by decide)]; exact hh.2.2 c' hc' s' hs'
  · intro s' hs'
    have hh := b4 s' hs'
    rw [i1 _ _ (by omega), i1 _ _ (by omega), i1 _ _ (by omega), i1 _ _ (by omega)]
    refine ⟨hh.1, hh.2.1, hh.2.2.1, hh.2.2.2.1, fun v' hv' => ?_, fun n' hn' => ?_⟩
    · rw [i7, if_neg (by decide), i7, if_neg (by decide)]
      exact hh.2.2.2.2.1 v' hv'
    · rw [i7, if_neg (by decide), i7, if_neg (by decide), i7, if_neg (by decide)]
      exact hh.2.2.2.2.2 n' hn'
  · intro c' hc'
    rw [i1 _ _ (by omega), i1 _ _ (by omega), i1 _ _ (by omega), i1 _ _ (by omega)]
    exact b5 c' hc'
  · intro i' hi'
    have hi2 : i' < iI rho := hi'
    have hh := b6 i' hi2
    rw [i8, i2 519 _ (by omega), i2 520 _ (by omega), i2 521 _ (by omega), i2 522 _ (by omega), i1 512 _ (by omega), i1 513 _ (by omega), i1 514 _ (by omega), i1 515 _ (by omega), i1 516 _ (by omega), i1 517 _ (by omega), i1 518 _ (by omega), i1 524 _ (by omega)]
    refine ⟨hh.1, hh.2.1, hh.2.2.1, hh.2.2.2.1, hh.2.2.2.2.1, hh.2.2.2.2.2.1, hh.2.2.2.2.2.2.1, hh.2.2.2.2.2.2.2.1, hh.2.2.2.2.2.2.2.2.1, hh.2.2.2.2.2.2.2.2.2.1, hh.2.2.2.2.2.2.2.2.2.2.1, hh.2.2.2.2.2.2.2.2.2.2.2.1, fun w hw => ?_, fun c' hc' => ?_⟩
    · rw [i7, if_neg (by decide)]
      exact hh.2.2.2.2.2.2.2.2.2.2.2.2.1 w hw
    · have hq := hh.2.2.2.2.2.2.2.2.2.2.2.2.2 c' hc'
      rw [i1 0 _ (by omega), i1 1 _ (by omega), i1 2 _ (by omega), i7, if_pos rfl, f24]
      refine ⟨hq.1, ?_, hq.2.2⟩
      by_cases z1 : i' = i
      · by_cases z2 : c' = c
        · rw [if_pos z1, if_pos z2, if_pos (by rw [z1, z2]), hv]
        · rw [if_pos z1, if_neg z2, if_neg (by omega)]
          exact hq.2.1
      · rw [if_neg z1, if_neg (by omega)]
        exact hq.2.1
  · intro i' hi'
    have hi2 : i' < iI rho := hi'
    have hh := b7 i' hi2
    rw [i1 _ _ (by omega), i3 _ _ (by omega) (by omega) (by omega), f31, List.range_succ, List.filter_append, List.filter_append, hh.1, hh.2, hkk]
    have q1 : [k].filter (fun j => decide (iX (crR rho o n k s c i rq dl) j = i' ∧ (crR rho o n k s c i rq dl 37 j = 1 ∨ crR rho o n k s c i rq dl 37 j = 2))) = [] := by
      rw [List.filter_cons_of_neg (by rw [f37, if_pos rfl]; simp)]
      rfl
    have q2 : [k].filter (fun j => decide (iX (crR rho o n k s c i rq dl) j = i' ∧ crR rho o n k s c i rq dl 37 j = 0)) = [] := by
      rw [List.filter_cons_of_neg (by rw [f37, if_pos rfl]; simp)]
      rfl
    rw [q1, q2, List.append_nil, List.append_nil]
    constructor
    · congr 2
      apply fl_same
      intro j hj
      rw [gX' j (by omega), f37, if_neg (by omega)]
    · apply fl_same
      intro j hj
      rw [gX' j (by omega), f37, if_neg (by omega)]
  · intro r hr
    rw [i2 640 _ (by omega), i1 641 _ (by omega), i1 642 _ (by omega), i1 643 _ (by omega), i1 644 _ (by omega)]
    exact b8 r hr
  · unfold AL
    rw [i3 50 _ (by omega) (by omega) (by omega), i3 51 _ (by omega) (by omega) (by omega), i3 53 _ (by omega) (by omega) (by omega), i4, f31, List.range_succ, b9.2.2.1, hkk]
    exact ⟨b9.1, b9.2.1, rfl, b9.2.2.2⟩
  · intro q hq
    rw [f31] at hq
    by_cases hqk : q = k
    · subst hqk
      rw [a1.1.1, a1.2.1, a1.2.2.1, a1.1.2.1, a1.2.2.2.1, a1.2.2.2.2, gsck, f38, if_pos rfl, gXk]
      refine ⟨rfl, ?_, rfl, rfl, rfl, rfl⟩
      unfold sid
      rw [gOk, gNk]
    · have hh := b10 q (by omega)
      rw [i1 _ _ (fun z => hqk z.2), i1 _ _ (fun z => hqk z.2), i2 _ _ (fun z => hqk z.2), i2 _ _ (fun z => hqk z.2), i2 _ _ (fun z => hqk z.2), i3 _ _ (by omega) (by omega) (by omega), gX' q hqk, f38, if_neg hqk, gsc q hqk]
      unfold sid at hh ⊢
      rw [gO' q hqk, gN' q hqk]
      exact hh
  · intro q hq
    rw [f31] at hq
    by_cases hqk : q = k
    · subst hqk
      rw [a1.1.2.2.1, a1.1.2.2.2.1, a1.1.2.2.2.2, f37, if_pos rfl]
      exact ⟨rfl, fun z => absurd z (by decide), z41.2.symm, fun _ => rfl, fun _ z => absurd rfl z⟩
    · have hh := b11 q (by omega)
      rw [i1 133 _ (fun z => hqk z.2), i1 134 _ (fun z => hqk z.2), i1 135 _ (fun z => hqk z.2), i1 136 _ (fun z => hqk z.2), i1 137 _ (fun z => hqk z.2), f37, if_neg hqk, f38, if_neg hqk]
      exact hh
  · intro o' n' ho' hn'
    rcases hOE o' ho' with rfl | ⟨ho2, hne⟩
    · rw [gsck] at hn'
      omega
    · rw [gsc o' hne] at hn'
      rw [i1 896 _ (by omega), i1 897 _ (by omega), i1 898 _ (by omega), i1 899 _ (by omega), i1 900 _ (by omega), i1 901 _ (by omega), i1 902 _ (by omega), i1 903 _ (by omega), i2 904 _ (by omega), i2 905 _ (by omega), gcal o' hne, gcld o' n' hne, gsaf o' n' hne, gund o' n' hne, gzon o' hne, gdlo o' hne, grqo o' hne]
      exact b12 o' n' ho2 hn'
  · intro o' n' ho' hn'
    rcases hOE o' ho' with rfl | ⟨ho2, hne⟩
    · rw [gsck] at hn'
      omega
    · rw [gsc o' hne] at hn'
      have hh := b13 o' n' ho2 hn'
      rw [gtra, i1 910 _ (by omega), gTR]
      refine ⟨?_, hh.2⟩
      by_cases hz : o' = o ∧ n' = n
      · rw [if_pos hz]
        obtain ⟨rfl, rfl⟩ := hz
        rw [i5, hh.1]
      · rw [if_neg hz, List.append_nil, i3 _ _ (by omega) (by omega) (fun q => hz ((hidx o' n' ho2 hn').mp q.2))]
        exact hh.1
  · intro o' n' ho' hn'
    rcases hOE o' ho' with rfl | ⟨ho2, hne⟩
    · rw [gsck] at hn'
      omega
    · rw [gsc o' hne] at hn' ⊢
      rw [i1 911 _ (by omega)]
      have hh := b14.1 o' n' ho2 hn'
      refine ⟨hh.1, fun z1 z2 => ?_⟩
      have hgo : Go (crR rho o n k s c i rq dl) o' ↔ Go rho o' := by
        unfold Go goB
        rw [f37, if_neg hne]
        exact Iff.rfl
      rw [hgo]
      exact hh.2 z1 (fun z => z2 (Or.inl z))
  · intro q hq z
    rw [f31] at hq
    by_cases hqk : q = k
    · subst hqk
      left
      right
      exact gOk
    · rw [f37, if_neg hqk] at z
      have hh := b14.2 q (by omega) z
      rw [gO' q hqk, i1 911 _ (by omega)]
      unfold sid at hh ⊢
      rw [gO' q hqk, gN' q hqk]
      exact hh.imp Or.inl id
  · intro o' n' ho' ho4 hn'
    rcases hOE o' ho' with rfl | ⟨ho2, hne⟩
    · rw [gsck] at hn'
      omega
    · rw [gsc o' hne] at hn'
      have hh := b15 o' n' ho2 ho4 hn'
      rw [i1 906 _ (by omega), i1 907 _ (by omega), i1 908 _ (by omega), i1 909 _ (by omega)]
      refine ⟨hh.1, hh.2.1, hh.2.2.1, fun z => ⟨(hh.2.2.2 z).1, ?_⟩⟩
      rcases (hh.2.2.2 z).2 with y | y | ⟨y, k', y1, y2⟩
      · exact Or.inl y
      · exact Or.inr (Or.inl y)
      · exact Or.inr (Or.inr ⟨y, k', by rw [gTR]; exact List.mem_append_left _ y1, y2⟩)
  · intro q q1 q2
    rw [f31] at q1
    rw [i6 _ _ (by omega), i6 _ _ (by omega)]
    exact b16.1 q (by omega) q2
  · intro r r1 r2
    rw [i6 _ _ (by omega)]
    exact b16.2.1 r r1 r2
  · intro i' i1' i2'
    have hh := b16.2.2.1 i' i1' i2'
    rw [i6 _ _ (by omega), i6 _ _ (by omega), i6 _ _ (by omega), i6 _ _ (by omega), i6 _ _ (by omega)]
    refine ⟨hh.1, hh.2.1, hh.2.2.1, hh.2.2.2.1, hh.2.2.2.2.1, fun c' hc' => ?_⟩
    rw [i6 _ _ (by omega)]
    exact hh.2.2.2.2.2 c' hc'
  · intro o' n' h1 h2 h3
    rw [i6 _ _ (by omega), i6 _ _ (by omega)]
    refine b16.2.2.2 o' n' h1 h2 (fun z => h3 ⟨hOE2 o' z.1, ?_⟩)
    rw [gsc o' (hOE0 o' z.1)]
    exact z.2
  · intro i' hi'
    have hi2 : i' < iI rho := hi'
    have hh := ci i' hi2
    refine ⟨hh.1, hh.2.1, hh.2.2.1, hh.2.2.2.1, hh.2.2.2.2.1, hh.2.2.2.2.2.1, hh.2.2.2.2.2.2.1, hh.2.2.2.2.2.2.2.1, hh.2.2.2.2.2.2.2.2.1, fun c' hc' => ⟨(hh.2.2.2.2.2.2.2.2.2 c' hc').1, ?_⟩⟩
    rw [f31, f24]
    have hx := (hh.2.2.2.2.2.2.2.2.2 c' hc').2
    rw [hkk] at hx
    split
    · rename_i z
      obtain ⟨x, hx1, hx2⟩ := hx
      rw [z] at hx2
      rw [hx2, nI_1]
      exact ⟨x + 1, by omega, rfl⟩
    · exact hx.up (by omega)
  · intro r hr
    have hr2 : r < iR rho := hr
    have hh := cr r hr2
    refine ⟨hh.1, hh.2.1, ?_⟩
    rw [f46, if_neg (by omega)]
    exact hh.2.2
  · intro p hp
    have hp2 : p < iP rho := hp
    have hh := cq p hp2
    refine ⟨hh.1, hh.2.1, ?_, hh.2.2.2⟩
    rw [f46, if_neg (by omega)]
    exact hh.2.2.1
  · intro q hq
    rw [f31] at hq
    by_cases hqk : q = k
    · subst hqk
      rw [f32, if_pos rfl, gOk, f33, if_pos rfl, gNk, f34, if_pos rfl, f35, if_pos rfl, f36, if_pos rfl, f46, if_pos rfl, gsck, gSk, gsc o hon, gcld o n hon, gcal o hon, grqo o hon, f40, if_pos rfl]
      refine ⟨⟨o, by omega, rfl⟩, hOE2 o ho, fun z => ⟨by omega, ?_⟩, ⟨n, by omega, rfl⟩, by omega, ⟨s, hs6, rfl⟩, ⟨c, hc7, rfl⟩, ⟨i, hi, rfl⟩, hs.symm, hc.symm, hrq, ⟨0, by omega, rfl⟩, Nat.zero_le _⟩
      rw [gS' o hon]
      have ho2 : o < iC rho := by omega
      have hrk := ck o ho2
      have hS6 := hb.S ho2
      obtain ⟨c9, h1, h2, h3⟩ := ((cs _ hS6.2).2.2 n (by have := hrk.2.2.2.2.2.2.2.2.2.2.2.2; omega)).1
      unfold cld at hs
      rw [if_pos z, h3, nI_eq (by omega) (by omega)] at hs
      omega
    · have hq2 : q < iC rho := by omega
      have hh := ck q hq2
      have hok := hOE0 _ hh.2.1
      rw [f32, if_neg hqk, gO' q hqk, f33, if_neg hqk, gN' q hqk, f34, if_neg hqk, f35, if_neg hqk, f36, if_neg hqk, f46, if_neg hqk, gsc q hqk, gS' q hqk, gsc _ hok, gcld _ _ hok, gcal _ hok, grqo _ hok, f40, if_neg hqk, gS' _ hok]
      exact ⟨hh.1, hOE2 _ hh.2.1, hh.2.2⟩
  · intro q hq
    rw [f31] at hq
    by_cases hqk : q = k
    · subst hqk
      rw [f37, if_pos rfl]
      exact ⟨⟨7, by omega, rfl⟩, fun z => absurd z (by decide), fun z => absurd z (by decide), fun z => absurd z (by decide)⟩
    · have hq2 : q < iC rho := by omega
      have hh := cw q hq2
      have hok := hOE0 _ (ck q hq2).2.1
      rw [f37, if_neg hqk, gO' q hqk, gN' q hqk, gsc _ hok, gS' q hqk, gsc q hqk]
      exact hh
  · intro q q1 q2
    rw [f31] at q1
    exact cz.1 q (by omega) q2
  · intro i' i1' i2'
    have hi2 : iI rho ≤ i' := i1'
    have hh := cz.2.2 i' i1' i2'
    refine ⟨hh.1, hh.2.1, fun c' hc' => ?_⟩
    have hq := hh.2.2 c' hc'
    rw [f24, if_neg (by omega)]
    exact hq
end PU
