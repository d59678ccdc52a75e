/-! a try: what it makes -/
section PT9
variable {rho rho' : RH} {P S PR : Nat → Prop}
theorem pc_countOf (hC : rho 31 0 = nI (iC rho) ∧ iC rho ≤ 400) {x1 x2 x3 : Int32} : PC (f9_countOf x1 x2 x3 rho) (fun r m => m = rho ∧ r = nI (cntI rho x1 x2 x3)) := by
  have main : ∀ (n j b : Nat), j ≤ iC rho → PC (l9_countOf_6 n x1 x2 x3 (nI b) (nI j) rho) (fun r m => m = rho ∧ r = nI (b + (((List.range (iC rho)).drop j).filter fun k => decide (rho 36 k = x1 ∧ ¬ (rho 37 k < x2 ∨ x3 < rho 37 k))).length)) := by
    intro n
    induction n with
    | zero =>
      intro j b hj
      rw [l9_countOf_6]
      exact pc_none
    | succ n ih =>
      intro j b hj
      rw [l9_countOf_6]
      refine pc_if (fun c => pc_some ⟨rfl, ?_⟩) (fun c => ?_)
      · rw [hC.1, nI_leI (by omega) (by omega)] at c
        have : j = (List.range (iC rho)).length := by rw [List.length_range]; omega
        rw [this, List.drop_length]
        rfl
      · rw [hC.1, nI_leI (by omega) (by omega)] at c
        have hlt : j < (List.range (iC rho)).length := by rw [List.length_range]; omega
        have hdr : (List.range (iC rho)).drop j = j :: (List.range (iC rho)).drop (j + 1) := by
          rw [List.drop_eq_getElem_cons hlt, List.getElem_range]
        refine pc_ck (fun _ => ?_)
        rw [nI_clamp (by omega), nI_1 j, hdr]
        have a0 : nI b + 0 = nI b := Int32.add_zero _
        refine pc_if (fun c3 => ?_) (fun c3 => ?_)
        · rw [e9_in]
          refine pc_is rfl ?_
          by_cases c4 : rho 37 j < x2 ∨ x3 < rho 37 j
          · rw [if_pos c4]
            refine pc_if (fun _ => ?_) (fun z => absurd rfl z)
            rw [a0, List.filter_cons_of_neg (by simp [c3, c4])]
            exact ih (j + 1) b (by omega)
          · rw [if_neg c4]
            refine pc_if (fun z => absurd z (by decide)) (fun _ => ?_)
            rw [nI_1 b, List.filter_cons_of_pos (by simp [c3, c4]), List.length_cons]
            refine (ih (j + 1) (b + 1) (by omega)).mono (fun r m h => ⟨h.1, ?_⟩)
            rw [h.2]
            congr 1
            omega
        · rw [a0, List.filter_cons_of_neg (by simp [c3])]
          exact ih (j + 1) b (by omega)
  refine (main FU 0 0 (by omega)).mono (fun r m h => ⟨h.1, ?_⟩)
  rw [h.2, Nat.zero_add]
  rfl
theorem pc_canChoose {x1 x2 : Int32} {j : Nat} (hj : j < 12) : PC (f9_canChoose x1 x2 (nI j) rho) (fun r m => m = rho ∧ (r = 0 ∨ rho 7 j = x2)) := by
  unfold f9_canChoose
  refine pc_ck (fun _ => ?_)
  refine pc_ck (fun _ => ?_)
  rw [nI_clamp (n := j) (by omega)]
  refine pc_if (fun c => ?_) (fun _ => pc_some ⟨rfl, Or.inl rfl⟩)
  have h : ∀ o : Option (Int32 × RH), RO o rho → PC o (fun r m => m = rho ∧ (r = 0 ∨ rho 7 j = x2)) := fun o ho => ho.mono (fun _ _ e => ⟨e, Or.inr c⟩)
  refine h _ ?_
  repeat' (with_reducible first | exact pc_none | exact pc_some rfl | (refine pc_if (fun _ => ?_) (fun _ => ?_)) | (refine pc_ro ro_f9_isAvoided (fun _ => ?_)) | (refine pc_ro ro_f9_hasOut (fun _ => ?_)))
theorem pc_chosen (hc : JC rho) {x1 x2 x3 x4 : Int32} : PC (f9_chosen x1 x2 x3 x4 rho) (fun r m => m = rho ∧ (r = -1 ∨ ∃ i, i < iI rho ∧ r = nI i ∧ rho 7 i = x3)) := by
  have hI := hc.I
  have main : ∀ (n : Nat) (x5 x6 : Int32) (j : Nat), j ≤ iI rho → (x5 = -1 ∨ ∃ i, i < iI rho ∧ x5 = nI i ∧ rho 7 i = x3) → PC (l9_chosen_9 n x1 x2 x3 x4 x5 x6 (nI j) rho) (fun r m => m = rho ∧ (r = -1 ∨ ∃ i, i < iI rho ∧ r = nI i ∧ rho 7 i = x3)) := by
    intro n
    induction n with
    | zero =>
      intro x5 x6 j hj h
      rw [l9_chosen_9]
      exact pc_none
    | succ n ih =>
      intro x5 x6 j hj h
      rw [l9_chosen_9]
      refine pc_if (fun c => pc_some ⟨rfl, h⟩) (fun c => ?_)
      rw [hI.1, nI_leI (by omega) (by omega)] at c
      refine pc_ob (pc_canChoose (by omega)) (fun r m h9 => ?_)
      obtain ⟨rfl, h9⟩ := h9
      rw [nI_1]
      have h5 : ∀ x6, PC (l9_chosen_9 n x1 x2 x3 x4 x5 x6 (nI (j + 1)) m) _ := fun x6 => ih x5 x6 (j + 1) (by omega) h
      refine pc_if (fun _ => h5 _) (fun cr => ?_)
      have h7 : ∀ x6, PC (l9_chosen_9 n x1 x2 x3 x4 (nI j) x6 (nI (j + 1)) m) _ := fun x6 => ih (nI j) x6 (j + 1) (by omega) (Or.inr ⟨j, by omega, rfl, h9.resolve_left cr⟩)
      clear ih
      repeat' (with_reducible first | exact pc_none | exact h5 _ | exact h7 _ | (refine pc_if (fun _ => ?_) (fun _ => ?_)) | (refine pc_ro ro_f9_hasTried (fun _ => ?_)) | (refine pc_ro ro_f9_burden (fun _ => ?_)))
  exact main FU (-1) 0 0 (by omega) (Or.inl rfl)
/-- a new call -/
def NewC (o : Nat) (rho rho' : RH) : Prop := ∃ i, i < iI rho ∧ iC rho < 400 ∧ rho' 31 0 = nI (iC rho + 1) ∧ (∀ F j, DF F → F ≠ 31 → ((F = 32 ∨ F = 34 ∨ F = 36 ∨ F = 38 ∨ F = 40) → j ≠ iC rho) → rho' F j = rho F j) ∧
  (∀ j, j ≠ iC rho → rho' 46 j = rho 46 j ∧ rho' 37 j = rho 37 j) ∧ rho' 59 0 = rho 59 0 ∧ (∀ p, rho' 61 p = rho 61 p) ∧ rho' 32 (iC rho) = nI o ∧ rho' 36 (iC rho) = nI i ∧ rho' 34 (iC rho) = rho 7 i ∧ rho' 46 (iC rho) = -1 ∧
  (o < 400 → rho' 38 (iC rho) ≤ rho 38 o) ∧ rho 0 0 < rho' 38 (iC rho) ∧ (¬ rho' 37 (iC rho) ≤ 2 ∨ (rho' 37 (iC rho) = 1 ∧ cntI rho (nI i) 1 2 < nv (rho 10 i)) ∨ (rho' 37 (iC rho) = 0 ∧ cntI rho (nI i) 0 0 < nv (rho 11 i)))
/-- half of it: all but its deadline, its state -/
def HalfC (o i : Nat) (rho rho' : RH) : Prop := rho' 31 0 = nI (iC rho + 1) ∧ (∀ F j, DF F → F ≠ 31 → ((F = 32 ∨ F = 34 ∨ F = 36 ∨ F = 38 ∨ F = 40) → j ≠ iC rho) → rho' F j = rho F j) ∧
  (∀ j, j ≠ iC rho → rho' 46 j = rho 46 j ∧ rho' 37 j = rho 37 j) ∧ rho' 59 0 = rho 59 0 ∧ (∀ p, rho' 61 p = rho 61 p) ∧ rho' 32 (iC rho) = nI o ∧ rho' 36 (iC rho) = nI i ∧ rho' 34 (iC rho) = rho 7 i ∧ rho' 46 (iC rho) = -1
theorem half_w {o i F : Nat} {v : Int32} (h : HalfC o i rho rho') (hF : (F == 46 || (F == 59 || (F == 61 || [0, 1, 2, 6, 7, 10, 11, 13, 14, 15, 16, 17, 18, 19, 20, 31, 32, 34, 36, 51, 54, 55, 56, 57, 58, 63, 64].contains F))) = false) : HalfC o i rho (up2 rho' F (iC rho) v) := by
  rw [Bool.or_eq_false_iff, Bool.or_eq_false_iff, Bool.or_eq_false_iff] at hF
  obtain ⟨h1, h2, h3, h4⟩ := hF
  have ne : ∀ G, ([46, 59, 61, 0, 1, 2, 6, 7, 10, 11, 13, 14, 15, 16, 17, 18, 19, 20, 31, 32, 34, 36, 51, 54, 55, 56, 57, 58, 63, 64].contains G) = true → G ≠ F := fun G hG z => by
    subst z
    have : G ∈ [46, 59, 61, 0, 1, 2, 6, 7, 10, 11, 13, 14, 15, 16, 17, 18, 19, 20, 31, 32, 34, 36, 51, 54, 55, 56, 57, 58, 63, 64] := List.contains_iff_mem.mp hG
    rcases List.mem_cons.mp this with e | this
    · rw [e] at h1; cases h1
    · rcases List.mem_cons.mp this with e | this
      · rw [e] at h2; cases h2
      · rcases List.mem_cons.mp this with e | this
        · rw [e] at h3; cases h3
        · rw [List.contains_iff_mem.mpr this] at h4; cases h4
  obtain ⟨a1, a2, a3, a4, a5, a6, a7, a8, a9⟩ := h
  refine ⟨(up2_f _ _ _ _ (ne 31 rfl)).trans a1, fun G j hG hG1 hG2 => ?_, fun j hj => ⟨(up2_f _ _ _ _ (ne 46 rfl)).trans (a3 j hj).1, (up2_i _ _ _ _ hj).trans (a3 j hj).2⟩, (up2_f _ _ _ _ (ne 59 rfl)).trans a4, fun p => (up2_f _ _ _ _ (ne 61 rfl)).trans (a5 p), (up2_f _ _ _ _ (ne 32 rfl)).trans a6, (up2_f _ _ _ _ (ne 36 rfl)).trans a7, (up2_f _ _ _ _ (ne 34 rfl)).trans a8, (up2_f _ _ _ _ (ne 46 rfl)).trans a9⟩
  by_cases e : G = F
  · by_cases hj : j = iC rho
    · exfalso
      have hG9 : G = 38 ∨ G = 40 := by
        have hm : G ∈ [0, 1, 2, 6, 7, 10, 11, 13, 14, 15, 16, 17, 18, 19, 20, 31, 32, 34, 36, 38, 40, 51, 54, 55, 56, 57, 58, 63, 64] := hG
        simp only [List.mem_cons, List.not_mem_nil, or_false] at hm
        have hn := fun q => (ne G q) e
        rcases hm with z | z | z | z | z | z | z | z | z | z | z | z | z | z | z | z | z | z | z | z | z | z | z | z | z | z | z | z | z <;> first | exact Or.inl z | exact Or.inr z | exact absurd (by rw [z]; rfl) hn
      exact hG2 (by rcases hG9 with z | z <;> simp [z]) hj
    · exact (up2_i _ _ _ _ hj).trans (a2 G j hG hG1 hG2)
  · exact (up2_f _ _ _ _ e).trans (a2 G j hG hG1 hG2)
/-- a place beside the new call, in a field that does not count -/
theorem half_d {o i F j : Nat} {v : Int32} (h : HalfC o i rho rho') (hF : (F == 37 || (F == 46 || (F == 59 || (F == 61 || [0, 1, 2, 6, 7, 10, 11, 13, 14, 15, 16, 17, 18, 19, 20, 31, 32, 34, 36, 38, 40, 51, 54, 55, 56, 57, 58, 63, 64].contains F)))) = false) : HalfC o i rho (up2 rho' F j v) := by
  have hE : EqD rho' (up2 rho' F j v) := eqd_w EqD.rf hF
  obtain ⟨a1, a2, a3, a4, a5, a6, a7, a8, a9⟩ := h
  exact ⟨(hE.1 31 0 (df rfl)).trans a1, fun G q hG hG1 hG2 => (hE.1 G q hG).trans (a2 G q hG hG1 hG2), fun q hq => ⟨(hE.2.1 q).trans (a3 q hq).1, (hE.2.2.2.1 q).trans (a3 q hq).2⟩, hE.2.2.1.trans a4, fun p => (hE.2.2.2.2 p).trans (a5 p), (hE.1 32 _ (df rfl)).trans a6, (hE.1 36 _ (df rfl)).trans a7, (hE.1 34 _ (df rfl)).trans a8, (hE.2.1 _).trans a9⟩
theorem half_cnt {o i : Nat} (hc : JC rho) (h : HalfC o i rho rho') (h4 : iC rho < 400) (h7 : rho' 37 (iC rho) = 7) (x lo hi : Int32) (h2 : hi ≤ 2) : cntI rho' x lo hi = cntI rho x lo hi := by
  unfold cntI
  have e : iC rho' = iC rho + 1 := by
    unfold iC
    rw [h.1, nv_nI (by omega)]
    rfl
  rw [e, List.range_succ, List.filter_append, List.length_append]
  have hn : decide (rho' 36 (iC rho) = x ∧ ¬ (rho' 37 (iC rho) < lo ∨ hi < rho' 37 (iC rho))) = false := by
    refine decide_eq_false (fun z => z.2 (Or.inr ?_))
    rw [h7, Int32.lt_iff_toInt_lt]
    rw [Int32.le_iff_toInt_le] at h2
    have e2 : (2 : Int32).toInt = 2 := by decide
    have e7 : (7 : Int32).toInt = 7 := by decide
    omega
  rw [List.filter_cons_of_neg (by rw [hn]; decide), List.filter_nil, List.length_nil, Nat.add_zero]
  refine cnt_same (fun k hk => ?_)
  have hk := List.mem_range.mp hk
  rw [h.2.1 36 k (df rfl) (by decide) (fun _ => by omega), (h.2.2.1 k (by omega)).2]
theorem lt_nv {a : Nat} {x : Int32} (ha : a ≤ 1000) (h : ¬ x ≤ nI a) : a < nv x := by
  rw [Int32.le_iff_toInt_le, nI_toInt (by omega)] at h
  show a < x.toInt.toNat
  omega
theorem cnt_le {x lo hi : Int32} : cntI rho x lo hi ≤ iC rho := by
  unfold cntI
  exact Nat.le_trans (List.length_filter_le _ _) (by rw [List.length_range]; exact Nat.le_refl _)
theorem pc_runs {k : Nat} (hk : k < 400) : PC (f9_runs (nI k) rho) (fun _ m => ∃ v, m = up2 (up2 (up2 rho 37 k 1) 41 k 1) 39 k v) := by
  unfold f9_runs
  refine pc_ck (fun c => ?_)
  simp only [nI_clamp (n := k) (by omega)]
  repeat' (first | with_reducible exact pc_none | (with_reducible refine pc_wr ?_) | (with_reducible refine pc_if (fun _ => ?_) (fun _ => ?_)) | exact pc_some ⟨_, rfl⟩)
theorem new_of {o i : Nat} {b : RH} (h : HalfC o i rho b) (hi : i < iI rho) (h4 : iC rho < 400) (h1 : o < 400 → b 38 (iC rho) ≤ rho 38 o) (h2 : rho 0 0 < b 38 (iC rho)) (h3 : ¬ b 37 (iC rho) ≤ 2 ∨ (b 37 (iC rho) = 1 ∧ cntI rho (nI i) 1 2 < nv (rho 10 i)) ∨ (b 37 (iC rho) = 0 ∧ cntI rho (nI i) 0 0 < nv (rho 11 i))) : NewC o rho b := by
  obtain ⟨a1, a2, a3, a4, a5, a6, a7, a8, a9⟩ := h
  exact ⟨i, hi, h4, a1, a2, a3, a4, a5, a6, a7, a8, a9, h1, h2, h3⟩
def NQ (o : Nat) (rho m : RH) : Prop := ∃ b, NewC o rho b ∧ EqD b m
theorem pc_t514 {o i k : Nat} {M : RH} (hk : k = iC rho) (h : HalfC o i rho M) (hi : i < iI rho) (h4 : iC rho < 400) (h1 : o < 400 → M 38 k ≤ rho 38 o) (h2 : rho 0 0 < M 38 k) : PC (b9_tries_514 (nI k) M) (fun _ m => NQ o rho m) := by
  unfold b9_tries_514
  refine pc_ob pc_setsEnd (fun _ m2 q => ?_)
  obtain ⟨k', v, hk', e, rfl⟩ := q
  have e9 : k = k' := (nI_inj (by omega) (by omega)).mp e
  subst e9
  subst hk
  have hN : NewC o rho (up2 (up2 M 37 (iC rho) 6) 42 (iC rho) v) := by
    refine new_of (half_w (half_w h rfl) rfl) hi h4 h1 h2 (Or.inl ?_)
    show ¬ (if iC rho = iC rho then 6 else M 37 (iC rho)) ≤ (2 : Int32)
    rw [if_pos rfl]
    decide
  generalize up2 (up2 M 37 (iC rho) 6) 42 (iC rho) v = B at hN ⊢
  refine pc_ro ro_f9_isKnown (fun _ => ?_)
  refine pc_if (fun _ => pc_some ⟨B, hN, EqD.rf⟩) (fun _ => ?_)
  exact pc_ob (pcd_f9_looksAt (rho0 := B) EqD.rf) (fun _ m h9 => pc_some ⟨B, hN, h9⟩)
theorem pc_t477 {o i k b : Nat} {M : RH} (hk : k = iC rho) (h : HalfC o i rho M) (hi : i < iI rho) (h12 : iI rho ≤ 12) (h4 : iC rho < 400) (h1 : o < 400 → M 38 k ≤ rho 38 o) (h2 : rho 0 0 < M 38 k) (hb : b = cntI rho (nI i) 0 0) : PC (b9_tries_477 (nI i) (nI k) (nI b) M) (fun _ m => NQ o rho m) := by
  unfold b9_tries_477
  refine pc_ck (fun _ => ?_)
  refine pc_if (fun _ => ?_) (fun _ => pc_t514 hk h hi h4 h1 h2)
  refine pc_ck (fun _ => ?_)
  refine pc_if (fun _ => pc_t514 hk h hi h4 h1 h2) (fun c => ?_)
  refine pc_ck (fun _ => ?_)
  refine pc_wr ?_
  rw [nI_clamp (n := i) (by omega), h.2.1 11 i (df rfl) (by decide) (fun z => by omega)] at c
  rw [nI_clamp (n := k) (by omega)]
  subst hk
  refine pc_some ⟨up2 M 37 (iC rho) 0, new_of (half_w h rfl) hi h4 h1 h2 (Or.inr (Or.inr ⟨up2_s _ _ _ _, ?_⟩)), EqD.rf⟩
  rw [← hb]
  refine lt_nv ?_ c
  rw [hb]
  exact Nat.le_trans cnt_le (by omega)
theorem pc_t391 {o i k : Nat} {M : RH} {x3 s2 : Int32} (hC : rho 31 0 = nI (iC rho) ∧ iC rho ≤ 400) (hc : JC rho) (hk : k = iC rho) (h : HalfC o i rho M) (hi : i < iI rho) (h4 : iC rho < 400) (h1 : o < 400 → s2 ≤ rho 38 o) (h2 : rho 0 0 < s2) : PC (b9_tries_391 x3 (nI i) (nI k) (nI k) s2 M) (fun _ m => NQ o rho m) := by
  have hI := hc.I
  unfold b9_tries_391
  refine pc_ck (fun _ => ?_)
  refine pc_wr ?_
  refine pc_ck (fun _ => ?_)
  refine pc_wr ?_
  refine pc_ck (fun _ => ?_)
  refine pc_wr ?_
  simp only [nI_clamp (n := k) (by omega), nI_clamp (n := i) (by omega)]
  subst hk
  have hH : HalfC o i rho (up2 (up2 (up2 M 38 (iC rho) s2) 24 (12 * x3 + nI i).toNatClampNeg (up2 M 38 (iC rho) s2 24 (12 * x3 + nI i).toNatClampNeg + 1)) 37 (iC rho) 7) := half_w (half_d (half_w h rfl) rfl) rfl
  have h38 : (up2 (up2 (up2 M 38 (iC rho) s2) 24 (12 * x3 + nI i).toNatClampNeg (up2 M 38 (iC rho) s2 24 (12 * x3 + nI i).toNatClampNeg + 1)) 37 (iC rho) 7) 38 (iC rho) = s2 := by
    rw [up2_f _ _ _ _ (by decide), up2_f _ _ _ _ (by decide), up2_s]
  have h37 : (up2 (up2 (up2 M 38 (iC rho) s2) 24 (12 * x3 + nI i).toNatClampNeg (up2 M 38 (iC rho) s2 24 (12 * x3 + nI i).toNatClampNeg + 1)) 37 (iC rho) 7) 37 (iC rho) = 7 := up2_s _ _ _ _
  generalize up2 (up2 (up2 M 38 (iC rho) s2) 24 (12 * x3 + nI i).toNatClampNeg (up2 M 38 (iC rho) s2 24 (12 * x3 + nI i).toNatClampNeg + 1)) 37 (iC rho) 7 = B at hH h38 h37 ⊢
  have hB : iC B = iC rho + 1 := by
    unfold iC
    rw [hH.1, nv_nI (by omega)]
    rfl
  have hCB : B 31 0 = nI (iC B) ∧ iC B ≤ 400 := ⟨by rw [hB]; exact hH.1, by omega⟩
  refine pc_ob (pc_countOf hCB) (fun r m q => ?_)
  obtain ⟨rfl, rfl⟩ := q
  refine pc_ob (pc_countOf hCB) (fun r m2 q => ?_)
  obtain ⟨rfl, rfl⟩ := q
  rw [half_cnt hc hH h4 h37 _ _ _ (by decide), half_cnt hc hH h4 h37 _ _ _ (by decide)]
  have h477 : PC (b9_tries_477 (nI i) (nI (iC rho)) (nI (cntI rho (nI i) 0 0)) m2) (fun _ m => NQ o rho m) := pc_t477 rfl hH hi hI.2 h4 (by rw [h38]; exact h1) (by rw [h38]; exact h2) rfl
  refine pc_ck (fun _ => ?_)
  refine pc_if (fun _ => ?_) (fun _ => h477)
  refine pc_ck (fun _ => ?_)
  refine pc_if (fun _ => h477) (fun c => ?_)
  refine pc_if (fun _ => ?_) (fun _ => h477)
  rw [hH.2.1 10 i (df rfl) (by decide) (fun z => by omega)] at c
  refine pc_ob (pc_runs h4) (fun _ m3 q => ?_)
  obtain ⟨v, rfl⟩ := q
  refine pc_some ⟨_, new_of (half_w (half_w (half_w hH rfl) rfl) rfl) hi h4 ?_ ?_ (Or.inr (Or.inl ⟨?_, ?_⟩)), EqD.rf⟩
  · rw [up2_f _ _ _ _ (by decide), up2_f _ _ _ _ (by decide), up2_f _ _ _ _ (by decide), h38]
    exact h1
  · rw [up2_f _ _ _ _ (by decide), up2_f _ _ _ _ (by decide), up2_f _ _ _ _ (by decide), h38]
    exact h2
  · rw [up2_f _ _ _ _ (by decide), up2_f _ _ _ _ (by decide), up2_s]
  · exact lt_nv (Nat.le_trans cnt_le (by omega)) c
theorem pc_t369 {o i k : Nat} {M : RH} {x3 x8 s0 : Int32} (hc : JC rho) (hk : k = iC rho) (h : HalfC o i rho M) (hi : i < iI rho) (h4 : iC rho < 400) (h1 : o < 400 → s0 = rho 38 o) (h2 : rho 0 0 < s0) (h3 : rho 0 0 < x8) : PC (b9_tries_369 x3 (nI i) (nI k) x8 s0 M) (fun _ m => NQ o rho m) := by
  unfold b9_tries_369
  refine pc_if (fun c => pc_t391 hc.C hc hk h hi h4 (fun z => by rw [h1 z]; exact Int32.le_refl _) h2) (fun c => pc_t391 hc.C hc hk h hi h4 (fun z => ?_) h3)
  rw [← h1 z]
  rw [Int32.le_iff_toInt_le] at c ⊢
  omega
def JP (rho : RH) : Prop := ∀ p, p < 49 → (rho 15 (3 * p) = -1 ∨ (Ix (rho 15 (3 * p)) 101 ∧ rho 15 (3 * p) ≠ 0))
theorem pol_t (h : JP rho) {c s : Nat} (hc : c < 7) (hs : s < 6) : ∃ t, 1 ≤ t ∧ t ≤ 100 ∧ pol rho c s 0 = nI t := by
  have key : ∀ p, p < 49 → rho 15 (3 * p + 0) ≠ -1 → ∃ t, 1 ≤ t ∧ t ≤ 100 ∧ rho 15 (3 * p + 0) = nI t := fun p hp hn => by
    rw [Nat.add_zero] at hn ⊢
    obtain ⟨⟨a, ha, e⟩, h0⟩ := (h p hp).resolve_left hn
    refine ⟨a, ?_, by omega, e⟩
    refine Nat.pos_of_ne_zero (fun z => h0 ?_)
    rw [e, z]
    rfl
  unfold pol
  by_cases h1 : rho 15 (3 * (6 * c + s) + 0) = -1
  · rw [if_pos h1]
    by_cases h2 : rho 15 (3 * (42 + s) + 0) = -1
    · rw [if_pos h2]
      by_cases h3 : rho 15 (3 * 48 + 0) = -1
      · rw [if_pos h3]
        exact ⟨20, by omega, by omega, rfl⟩
      · rw [if_neg h3]
        exact key 48 (by omega) h3
    · rw [if_neg h2]
      exact key (42 + s) (by omega) h2
  · rw [if_neg h1]
    exact key (6 * c + s) (by omega) h1
/-- an owner that may try -/
def TP (o : Nat) (rho : RH) : Prop := (o < 400 ∧ o < iC rho ∧ rho 37 o = 2) ∨ (400 ≤ o ∧ o < 440 ∧ o - 400 < iR rho ∧ rho 0 0 < rho 54 (o - 400)) ∨ (440 ≤ o ∧ o < 540 ∧ o - 440 < iP rho)
theorem TP.lt {o : Nat} (h : TP o rho) : o < 540 := by
  rcases h with h | h | h <;> omega
theorem pc_t315 {o i k c s : Nat} {M : RH} {s2 : Int32} (hc : JC rho) (hl : JL AL9 NO9 rho) (hp : JP rho) (hT : Ix (rho 0 0) 601) (ht : TP o rho) (hk : k = iC rho) (h : HalfC o i rho M) (hi : i < iI rho) (h4 : iC rho < 400) (hc7 : c < 7) (hs6 : s < 6) : PC (b9_tries_315 (nI o) (nI c) (nI s) (nI i) (nI k) (nI k) s2 M) (fun _ m => NQ o rho m) := by
  have ho := ht.lt
  unfold b9_tries_315
  refine pc_ck (fun _ => ?_)
  refine pc_wr ?_
  rw [nI_clamp (n := k) (by omega)]
  subst hk
  have hH : HalfC o i rho (up2 M 40 (iC rho) s2) := half_w h rfl
  generalize up2 M 40 (iC rho) s2 = B at hH ⊢
  have hp2 : JP B := fun p q => by
    rw [hH.2.1 15 _ (df rfl) (by decide) (fun z => by omega)]
    exact hp p q
  refine pc_is (e9_policyOf (p := 0) hc7 hs6 (by omega)) ?_
  obtain ⟨t, ht1, ht2, e⟩ := pol_t hp2 hc7 hs6
  rw [e]
  have e0 : B 0 0 = rho 0 0 := hH.2.1 0 0 (df rfl) (by decide) (fun z => by omega)
  have hlate : rho 0 0 < B 0 0 + nI t := by
    obtain ⟨a, ha, ea⟩ := hT
    rw [e0, ea, nI_k, Int32.lt_iff_toInt_lt, nI_toInt (by omega), nI_toInt (by omega)]
    omega
  refine pc_if (fun c1 => ?_) (fun c1 => ?_)
  · have h40 : 400 ≤ o := by
      rw [l400, nI_leI (by omega) (by omega)] at c1
      exact c1
    refine pc_if (fun c2 => pc_t369 hc rfl hH hi h4 (fun z => by omega) hlate hlate) (fun c2 => ?_)
    have h44 : o < 440 := by
      rw [l440, nI_leI (by omega) (by omega)] at c2
      omega
    refine pc_ck (fun _ => ?_)
    rw [l400, nI_s h40, nI_clamp (by omega), hH.2.1 54 _ (df rfl) (by decide) (fun z => by omega)]
    refine pc_t369 hc rfl hH hi h4 (fun z => by omega) ?_ hlate
    rcases ht with z | z | z
    · omega
    · exact z.2.2.2
    · omega
  · have h40 : o < 400 := by
      rw [l400, nI_leI (by omega) (by omega)] at c1
      omega
    have h3 := ht.resolve_right (fun z => by rcases z with z | z <;> omega)
    refine pc_ck (fun _ => ?_)
    rw [nI_clamp (by omega), hH.2.1 38 _ (df rfl) (by decide) (fun z => by omega)]
    exact pc_t369 hc rfl hH hi h4 (fun _ => rfl) ((hl o h3.2.1 (by rw [h3.2.2]; decide)).1 trivial) hlate
theorem pc_t189 {o c : Nat} {x4 s0 : Int32} (hc : JC rho) (hoo : JO rho) (hl : JL AL9 NO9 rho) (hp : JP rho) (hT : Ix (rho 0 0) 601) (ht : TP o rho) (hc7 : c < 7) (hs : s0 = -1 ∨ ∃ i, i < iI rho ∧ s0 = nI i ∧ rho 7 i = x4) : PC (b9_tries_189 (nI o) (nI c) x4 s0 rho) (fun _ m => EqD rho m ∨ NQ o rho m) := by
  have ho := ht.lt
  have hC := hc.C
  unfold b9_tries_189
  refine pc_if (fun _ => pc_ck (fun _ => pc_wr (pc_some (Or.inl (eqd_w EqD.rf rfl))))) (fun cs => ?_)
  obtain ⟨i, hi, rfl, rfl⟩ := hs.resolve_left cs
  have hI := hc.I
  obtain ⟨s, hs6, es⟩ := hoo i hi
  refine pc_wr ?_
  refine pc_ck (fun c4 => ?_)
  have h4 : iC rho < 400 := by
    obtain ⟨a, ha, e⟩ := vq_ix c4 (by omega)
    rw [hC.1] at e
    have := (nI_inj (by omega) (by omega)).mp e
    omega
  refine pc_wr ?_
  refine pc_ck (fun _ => ?_)
  refine pc_wr ?_
  refine pc_wr ?_
  refine pc_wr ?_
  refine pc_wr ?_
  refine pc_ck (fun _ => ?_)
  refine pc_wr ?_
  have ek : (rho 31 0).toNatClampNeg = iC rho := rfl
  rw [ek]
  have hH : HalfC o i rho (up2 (up2 (up2 (up2 (up2 (up2 (up2 rho 31 0 (rho 31 0 + 1)) 32 (iC rho) (nI o)) 33 (iC rho) ((up2 (up2 rho 31 0 (rho 31 0 + 1)) 32 (iC rho) (nI o)) 46 (nI o).toNatClampNeg)) 34 (iC rho) (rho 7 i)) 35 (iC rho) (nI c)) 36 (iC rho) (nI i)) 46 (iC rho) (-1)) := by
    refine ⟨?_, fun F j hF h31 h9 => ?_, fun j hj => ⟨?_, rfl⟩, rfl, fun _ => rfl, ?_, ?_, ?_, ?_⟩
    · show rho 31 0 + 1 = nI (iC rho + 1)
      rw [← nI_1, ← hC.1]
    · rw [up2_f _ _ _ _ (df_n hF rfl), up2_n _ _ (fun z => h9 (by omega) z.2), up2_f _ _ _ _ (df_n hF rfl), up2_n _ _ (fun z => h9 (by omega) z.2), up2_f _ _ _ _ (df_n hF rfl), up2_n _ _ (fun z => h9 (by omega) z.2), up2_f _ _ _ _ h31]
    · rw [up2_i _ _ _ _ hj]
      rfl
    · show (if iC rho = iC rho then nI o else rho 32 (iC rho)) = nI o
      rw [if_pos rfl]
    · show (if iC rho = iC rho then nI i else rho 36 (iC rho)) = nI i
      rw [if_pos rfl]
    · show (if iC rho = iC rho then rho 7 i else rho 34 (iC rho)) = rho 7 i
      rw [if_pos rfl]
    · exact up2_s _ _ _ _
  generalize up2 (up2 (up2 (up2 (up2 (up2 (up2 rho 31 0 (rho 31 0 + 1)) 32 (iC rho) (nI o)) 33 (iC rho) ((up2 (up2 rho 31 0 (rho 31 0 + 1)) 32 (iC rho) (nI o)) 46 (nI o).toNatClampNeg)) 34 (iC rho) (rho 7 i)) 35 (iC rho) (nI c)) 36 (iC rho) (nI i)) 46 (iC rho) (-1) = B at hH ⊢
  rw [es, hC.1]
  have key : ∀ s2, PC (b9_tries_315 (nI o) (nI c) (nI s) (nI i) (nI (iC rho)) (nI (iC rho)) s2 B) (fun _ m => EqD rho m ∨ NQ o rho m) := fun s2 => (pc_t315 hc hl hp hT ht rfl hH hi h4 hc7 hs6).mono (fun _ _ q => Or.inr q)
  refine pc_if (fun _ => pc_if (fun _ => key _) (fun _ => key _)) (fun _ => pc_ck (fun _ => key _))
end PT9
