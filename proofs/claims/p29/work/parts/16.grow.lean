/-! a new cell -/
theorem kd9 {c : Nat} (h : kd c ≠ 9) : ¬ (60 ≤ c ∧ c < 67) ∧ ¬ (71 ≤ c ∧ c < 75) := by
  refine ⟨fun z => h ?_, fun z => h ?_⟩ <;>
  · unfold kd
    rw [if_neg (by omega), if_neg (by omega), if_neg (by omega), if_neg (by omega), if_neg (by omega), if_neg (by omega), if_pos (by omega)]
theorem live_kd {D : DD} {S : OM} {ad : Ad} {H : Heap} {c i : Nat} (hm : MM D S ad H) (h : S.1 c i = true) : kd c ≠ 9 := by
  intro e
  have := hm.1 c i h
  unfold cOK at this
  rw [e] at this
  exact this
theorem opt_map_eq {f g : Nat → Nat} : ∀ {o : Option Nat}, (∀ j, o = some j → f j = g j) → o.map f = o.map g
  | none, _ => rfl
  | some j, h => by show some (f j) = some (g j); rw [h j rfl]
/-- the same live cell, named behind a growth -/
theorem cOK_move {D : DD} {S S' : OM} {ad ad' : Ad} {H H1 : Heap} {c i : Nat} (hm : MM D S ad H) (hl : S.1 c i = true) (hH : ∀ q : Nat, q < H.size → H1[q]? = H[q]?)
    (hA : ∀ c i, S.1 c i = true → ad' c i = ad c i) (hA2 : kd c = 4 → ad' (c + 10) i = ad (c + 10) i)
    (hf : kd c = 0 → ∀ k, k < nF c → S'.2.1 (128 * c + k) i = S.2.1 (128 * c + k) i ∧ (c ≠ 9 → S'.2.2.1 (128 * c + k) i = S.2.2.1 (128 * c + k) i) ∧ (c = 9 → tg 9 k = 0 → S'.2.2.2.2.2.2.2 k 0 = S.2.2.2.2.2.2.2 k 0))
    (hi : kd c = 1 ∨ kd c = 2 → aI S'.2.2.2.2.2.2.2 S'.2.2.2.1 c i = aI S.2.2.2.2.2.2.2 S.2.2.2.1 c i) (hr : kd c = 3 → S'.2.2.2.2.1 c i = S.2.2.2.2.1 c i) (hls : kd c = 4 → S'.2.2.2.2.2.1 c i = S.2.2.2.2.2.1 c i) (ho : kd c = 5 → S'.2.2.2.2.2.2.1 = S.2.2.2.2.2.2.1) : cOK D S' ad' H1 c i := by
  have hq := cOK_lt (hm.1 c i hl)
  have hk1 := cOK_kept (H1 := H1) (hm.1 c i hl) (hH _ hq.1) (fun hk hne => hH _ (hq.2 hk hne))
  unfold cOK at hk1 ⊢
  have e1 := hA c i hl
  match hk : kd c, hk1 with
  | 0, h =>
    show t_OB (ad' c i) _ _ _ _ _
    rw [e1]
    refine t_OB.to h (fun y hy => ?_)
    obtain ⟨z1, z2, z3⟩ := hf hk y hy
    unfold fV
    split
    next ht =>
      by_cases h9 : c = 9
      · rw [if_pos h9, if_pos h9, z3 h9 (by rw [← h9]; exact ht)]
      · rw [if_neg h9, if_neg h9, z2 h9]
    next t ht =>
      rw [z1]
      exact congrArg va_rf (opt_map_eq (fun j hj => (hA t j (hm.2.2.1 c i y t j hl hk hy ht hj)).symm))
  | 1, h => show H1[ad' c i]? = _; rw [e1, hi (Or.inl hk)]; exact h
  | 2, h => show H1[ad' c i]? = _; rw [e1, hi (Or.inr hk)]; exact h
  | 3, h =>
    show H1[ad' c i]? = _
    rw [e1, hr hk]
    refine h.trans ?_
    congr 1
    rw [vp_cell_q, vp_cell_q]
    unfold arrV
    congr 1
    refine congrArg _ (funext fun j => ?_)
    exact congrArg va_rf (opt_map_eq (fun x hx => (hA (tA c) x (hm.2.2.2.1 c i j x hl hk j.2 hx)).symm))
  | 4, h =>
    show (∃ m : Int32, _) ∧ _
    rw [e1, hA2 hk, hls hk]
    refine ⟨h.1, ?_⟩
    rcases h.2 with z | ⟨z1, n, z2, z3, z4, z5⟩
    · exact Or.inl z
    · refine Or.inr ⟨z1, n, z2, z3, z4, z5.trans ?_⟩
      refine congrArg (fun f => some (vp_cell (D.2.1 7) (n, .inr (.inr (.inr (.inr f)))))) (funext fun j => ?_)
      exact opt_map_eq (fun x hx => (hA (tA c) x (hm.2.2.2.2.1 c i x hl hk (List.mem_of_getElem? hx))).symm)
  | 5, h => show H1[ad' c i]? = _; rw [e1, ho hk]; exact h
  | _ + 6, h => exact h.elim
theorem MM.grow {D : DD} {S S' : OM} {ad ad' : Ad} {H H1 : Heap} {c i : Nat} (hm : MM D S ad H) (hn : ¬ S.1 c i = true) (hk9 : kd c ≠ 9) (hH : ∀ q : Nat, q < H.size → H1[q]? = H[q]?) (hlv : S'.1 = up2 S.1 c i true)
    (hA : ∀ c i, S.1 c i = true → ad' c i = ad c i) (hA2 : ∀ c i, S.1 c i = true → kd c = 4 → ad' (c + 10) i = ad (c + 10) i) (hA3 : ∀ j, j < 4 → ad' (71 + j) 0 = ad (71 + j) 0) (hA4 : ad' c i = H.size) (hA5 : kd c = 4 → ad' (c + 10) i = D.2.2.1)
    (hself : cOK D S' ad' H1 c i) (hoth : ∀ c' i', S.1 c' i' = true → cOK D S' ad' H1 c' i') (h0 : (70 ≤ c ∨ c = 9) → i = 0)
    (hfr : ∀ c' i' k t j, S'.1 c' i' = true → kd c' = 0 → k < nF c' → tg c' k = t + 1 → S'.2.1 (128 * c' + k) i' = some j → S.1 t j = true)
    (har : ∀ c' i' k j, S'.1 c' i' = true → kd c' = 3 → k < len c' → S'.2.2.2.2.1 c' i' k = some j → S.1 (tA c') j = true)
    (hli : ∀ c' i' j, S'.1 c' i' = true → kd c' = 4 → j ∈ S'.2.2.2.2.2.1 c' i' → S.1 (tA c') j = true) : MM D S' ad' H1 := by
  have old : ∀ c' i', S'.1 c' i' = true → ¬ (c' = c ∧ i' = i) → S.1 c' i' = true := fun c' i' h hne => by
    rw [hlv, up2_n _ _ hne] at h
    exact h
  have up : ∀ c' i', S.1 c' i' = true → S'.1 c' i' = true := fun c' i' h => by
    rw [hlv]
    by_cases z : c' = c ∧ i' = i
    · rw [z.1, z.2, up2_s]
    · rw [up2_n _ _ z]; exact h
  have key : ∀ c' i', lvx D S'.1 ad' c' i' → (c' = c ∧ i' = i) ∨ (lvx D S.1 ad c' i' ∧ ad' c' i' = ad c' i') := by
    intro c' i' h
    rcases h with h | ⟨h1, h2, h3, h4⟩
    · by_cases z : c' = c ∧ i' = i
      · exact Or.inl z
      · exact Or.inr ⟨Or.inl (old _ _ h z), hA _ _ (old _ _ h z)⟩
    · have e : c' - 10 + 10 = c' := by omega
      by_cases z : c' - 10 = c ∧ i' = i
      · exfalso
        have hk4 := kd_list h1 h2
        rw [z.1] at hk4
        have := hA5 hk4
        rw [← z.1, e, ← z.2] at this
        exact h4 this
      · have o := old _ _ h3 z
        have ha := hA2 (c' - 10) i' o (kd_list h1 h2)
        rw [e] at ha
        exact Or.inr ⟨Or.inr ⟨h1, h2, o, by rw [← ha]; exact h4⟩, ha⟩
  refine ⟨fun c' i' h => ?_, fun c1 i1 c2 i2 h1 h2 he => ?_, fun c' i' k t j h1 h2 h3 h4 h5 => up _ _ (hfr c' i' k t j h1 h2 h3 h4 h5), fun c' i' k j h1 h2 h3 h4 => up _ _ (har c' i' k j h1 h2 h3 h4), fun c' i' j h1 h2 h3 => up _ _ (hli c' i' j h1 h2 h3), fun j hj => (hA3 j hj).trans (hm.2.2.2.2.2.1 j hj), fun c' i' h hz => ?_⟩
  · by_cases z : c' = c ∧ i' = i
    · rw [z.1, z.2]; exact hself
    · exact hoth c' i' (old c' i' h z)
  · rcases key c1 i1 h1 with z1 | ⟨z1, e1⟩ <;> rcases key c2 i2 h2 with z2 | ⟨z2, e2⟩
    · exact ⟨z1.1.trans z2.1.symm, z1.2.trans z2.2.symm⟩
    · rw [z1.1, z1.2, hA4, e2] at he
      have := lvx_lt hm z2
      omega
    · rw [z2.1, z2.2, hA4, e1] at he
      have := lvx_lt hm z1
      omega
    · exact hm.2.1 c1 i1 c2 i2 z1 z2 (by rw [← e1, ← e2]; exact he)
  · by_cases z : c' = c ∧ i' = i
    · rw [z.2]; exact h0 (by rw [← z.1]; exact hz)
    · exact hm.2.2.2.2.2.2 c' i' (old c' i' h z) hz
/-- the frame's facts, behind a growth -/
theorem Dyn.gr {D : DD} {A : Nat → Prop} {lv0 : Nat → Nat → Bool} {ad0 : Ad} {s : State} {R : Room} {n k k' cells' slots' : Nat} {L : List (Option sV)} {st st' : List sV} {S S' : OM} {H H1 : Heap} {locs : List Loc} {cells slots : Nat} {ls : Array Slot} {ad ad' : Ad}
    (h : Dyn D A lv0 ad0 s R n k L st S H locs cells slots ls ad) (hA9 : ∀ q, s.heap.size ≤ q → A q) (hm : MM D S' ad' H1) (hE : Ext D S.1 ad S'.1 ad') (hown : ∀ q, own D S'.1 ad' q → own D S.1 ad q ∨ H.size ≤ q) (z : H.size ≤ H1.size) (oq : ∀ q : Nat, q < H.size → H1[q]? = H[q]?) (hs : LvS S'.1 st') (hc : cells' + k' ≤ R.cells) (hsl : slots' + 700 * k' ≤ R.slots) : Dyn D A lv0 ad0 s R n k' L st' S' H1 locs cells' slots' ls ad' :=
  ⟨hm, fun q hq => (hown q hq).elim (h.2.1 q) (fun z => hA9 q (Nat.le_trans h.2.2.1.1 z)), ⟨Nat.le_trans h.2.2.1.1 z, fun q h1 h2 => (oq q (Nat.lt_of_lt_of_le h1 h.2.2.1.1)).trans (h.2.2.1.2.1 q h1 h2), h.2.2.1.2.2⟩, h.2.2.2.1.tr hE, hs, h.lh.ext hE h.1 hm, hc, hsl⟩
