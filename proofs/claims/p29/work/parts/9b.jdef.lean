/-! what the law asks of a run, as relations over the model's ints -/
section JD
theorem cnt_mono {l : List Nat} {p q : Nat → Bool} (h : ∀ x, x ∈ l → p x = true → q x = true) : (l.filter p).length ≤ (l.filter q).length := by
  rw [← List.countP_eq_length_filter, ← List.countP_eq_length_filter]
  exact List.countP_mono_left h
theorem cnt_same {l : List Nat} {p q : Nat → Bool} (h : ∀ x, x ∈ l → p x = q x) : (l.filter p).length = (l.filter q).length := by
  rw [List.filter_congr h]
def cntI (rho : RH) (i lo hi : Int32) : Nat := ((List.range (iC rho)).filter fun k => decide (rho 36 k = i ∧ ¬ (rho 37 k < lo ∨ hi < rho 37 k))).length
/-- calls: what they are -/
def JC (rho : RH) : Prop := Ix (rho 31 0) 401 ∧ Ix (rho 6 0) 13 ∧ Ix (rho 51 0) 41 ∧ ∀ k, k < iC rho → Ix (rho 32 k) 540 ∧ Ix (rho 36 k) (iI rho) ∧ rho 7 (iX rho k) = rho 34 k ∧ (iO rho k < 400 → iO rho k < k ∧ rho 38 k ≤ rho 38 (iO rho k)) ∧ Ix (rho 46 k + 1) 5
/-- calls that go on; S: owners whose calls are ended next -/
def JL (P S : Nat → Prop) (rho : RH) : Prop := ∀ k, k < iC rho → rho 37 k ≤ 2 → (P k → rho 0 0 < rho 38 k) ∧ (iO rho k < 400 → rho 37 (iO rho k) = 2 ∨ S (iO rho k))
/-- slots and queues -/
def JQ (rho : RH) : Prop := ∀ i, i < iI rho → cntI rho (nI i) 1 2 ≤ nv (rho 10 i) ∧ cntI rho (nI i) 0 0 ≤ nv (rho 11 i) ∧ nv (rho 14 i) ≤ nv (rho 10 i) + nv (rho 11 i)
def Fs (rho : RH) : Nat := ((List.range (iC rho)).map (sc rho)).sum
/-- budgets -/
def JB (F q : Nat) (rho : RH) : Prop := ∀ c, c < 7 → Ix (rho 16 c) 101 ∧ ∃ a b d, rho 18 c = nI a ∧ rho 19 c = nI b ∧ rho 17 c = nI d ∧ d ≤ 1000 ∧ d + 100 * b ≤ 1000 + 100 * a ∧ (c < 6 → a ≤ F) ∧ (c = 6 → a = q)
/-- requests -/
def JR (P : Nat → Prop) (rho : RH) : Prop := ∀ r, r < iR rho → (rho 56 r = 3 ∨ rho 56 r = 4 ∨ rho 56 r = 5 ∨ rho 56 r = 8) ∧ 0 ≤ (rho 55 r).toInt ∧ rho 55 r ≤ rho 0 0 ∧ (rho 54 r).toInt ≤ (rho 55 r).toInt + 200 ∧
  (rho 56 r = 8 → rho 0 0 ≤ rho 54 r ∧ (P r → rho 0 0 < rho 54 r)) ∧ (rho 56 r ≠ 8 → rho 55 r ≤ rho 57 r ∧ rho 57 r ≤ rho 54 r ∧ rho 57 r ≤ rho 0 0) ∧ (rho 56 r = 3 → ∃ k, k < iC rho ∧ rho 32 k = nI (400 + r)) ∧ (rho 56 r ≠ 8 → rho 56 r ≠ 3 → rho 58 r = 1)
/-- what is set -/
def JS (rho : RH) : Prop := Ix (rho 0 0) 601 ∧ (∀ s, s < 6 → Ix (rho 1 s) 51 ∧ Ix (rho 2 s) 5) ∧ (∀ i, i < 12 → Ix (rho 13 (4 * i)) 51) ∧ (∀ p, p < 49 → (rho 15 (3 * p) = -1 ∨ (Ix (rho 15 (3 * p)) 101 ∧ rho 15 (3 * p) ≠ 0)) ∧ (rho 15 (3 * p + 2) = -1 ∨ Ix (rho 15 (3 * p + 2)) 51)) ∧
  (Ix (rho 20 0) 8 ∧ rho 20 0 ≠ 0) ∧ ∀ i, i < iI rho → Ix (rho 7 i) 6
/-- what is repaired, and by whom -/
def JM (rho : RH) : Prop := ∀ p, p < iP rho → Ix (rho 61 p) 6
def AL9 : Nat → Prop := fun _ => True
def NO9 : Nat → Prop := fun _ => False
def JJ (P S PR : Nat → Prop) (rho : RH) : Prop := JC rho ∧ JL P S rho ∧ JQ rho ∧ JB (Fs rho) (iR rho) rho ∧ JR PR rho ∧ JS rho ∧ JM rho
/-- what a run keeps -/
def TT0 (rho rho' : RH) : Prop := iC rho ≤ iC rho' ∧ iI rho ≤ iI rho' ∧ iR rho ≤ iR rho' ∧ iP rho ≤ iP rho' ∧ (∀ k, k < iC rho → rho' 32 k = rho 32 k ∧ rho' 34 k = rho 34 k ∧ rho' 36 k = rho 36 k ∧ rho' 38 k = rho 38 k ∧ rho' 40 k = rho 40 k ∧ (¬ rho 37 k ≤ 2 → rho' 37 k = rho 37 k)) ∧
  (∀ r, r < iR rho → rho 56 r ≠ 8 → rho' 56 r = rho 56 r) ∧ (∀ p, rho 63 p ≠ 0 → rho' 63 p ≠ 0) ∧ (∀ c, c < 7 → nv (rho 18 c) ≤ nv (rho' 18 c) ∧ nv (rho 19 c) ≤ nv (rho' 19 c)) ∧ ∀ i, i < iI rho → rho' 7 i = rho 7 i ∧ rho' 10 i = rho 10 i ∧ rho' 11 i = rho 11 i
def TT (rho rho' : RH) : Prop := TT0 rho rho' ∧ ∀ s, rho' 2 s = rho 2 s
theorem TT0.rf {rho : RH} : TT0 rho rho := ⟨Nat.le_refl _, Nat.le_refl _, Nat.le_refl _, Nat.le_refl _, fun _ _ => ⟨rfl, rfl, rfl, rfl, rfl, fun _ => rfl⟩, fun _ _ _ => rfl, fun _ h => h, fun _ _ => ⟨Nat.le_refl _, Nat.le_refl _⟩, fun _ _ => ⟨rfl, rfl, rfl⟩⟩
theorem TT.rf {rho : RH} : TT rho rho := ⟨TT0.rf, fun _ => rfl⟩
theorem TT0.tr {a b c : RH} (h : TT0 a b) (h2 : TT0 b c) : TT0 a c := by
  obtain ⟨h1, hi, hr, hp, hk, hs, hm, hf, hz⟩ := h
  obtain ⟨g1, gi, gr, gp, gk, gs, gm, gf, gz⟩ := h2
  refine ⟨Nat.le_trans h1 g1, Nat.le_trans hi gi, Nat.le_trans hr gr, Nat.le_trans hp gp, fun k q => ?_, fun r q z => ?_, fun p q => gm p (hm p q), fun c q => ⟨Nat.le_trans (hf c q).1 (gf c q).1, Nat.le_trans (hf c q).2 (gf c q).2⟩, fun i q => ?_⟩
  · obtain ⟨a1, a2, a3, a4, a5, a6⟩ := hk k q
    obtain ⟨b1, b2, b3, b4, b5, b6⟩ := gk k (by omega)
    exact ⟨b1.trans a1, b2.trans a2, b3.trans a3, b4.trans a4, b5.trans a5, fun z => (b6 (by rw [a6 z]; exact z)).trans (a6 z)⟩
  · exact (gs r (by omega) (by rw [hs r q z]; exact z)).trans (hs r q z)
  · obtain ⟨a1, a2, a3⟩ := hz i q
    obtain ⟨b1, b2, b3⟩ := gz i (by omega)
    exact ⟨b1.trans a1, b2.trans a2, b3.trans a3⟩
theorem TT.tr {a b c : RH} (h : TT a b) (h2 : TT b c) : TT a c := ⟨h.1.tr h2.1, fun s => (h2.2 s).trans (h.2 s)⟩
/-- the fields that count -/
def DF (F : Nat) : Prop := F ∈ [0, 1, 2, 6, 7, 10, 11, 13, 14, 15, 16, 17, 18, 19, 20, 31, 32, 34, 36, 38, 40, 51, 54, 55, 56, 57, 58, 63, 64]
/-- calls may end, nothing else that counts changes -/
def EqS (rho rho' : RH) : Prop := (∀ F j, DF F → rho' F j = rho F j) ∧ (∀ j, j < 440 → rho' 46 j = rho 46 j) ∧ iP rho ≤ iP rho' ∧ ∀ j, rho' 37 j = rho 37 j ∨ (rho 37 j ≤ 2 ∧ ¬ rho' 37 j ≤ 2)
theorem EqS.rf {rho : RH} : EqS rho rho := ⟨fun _ _ _ => rfl, fun _ _ => rfl, Nat.le_refl _, fun _ => Or.inl rfl⟩
theorem EqS.tr {a b c : RH} (h : EqS a b) (h2 : EqS b c) : EqS a c := by
  refine ⟨fun F j q => (h2.1 F j q).trans (h.1 F j q), fun j q => (h2.2.1 j q).trans (h.2.1 j q), Nat.le_trans h.2.2.1 h2.2.2.1, fun j => ?_⟩
  rcases h.2.2.2 j with e | ⟨e1, e2⟩
  · rcases h2.2.2.2 j with f | ⟨f1, f2⟩
    · exact Or.inl (f.trans e)
    · exact Or.inr ⟨by rw [← e]; exact f1, f2⟩
  · rcases h2.2.2.2 j with f | ⟨f1, f2⟩
    · exact Or.inr ⟨e1, by rw [f]; exact e2⟩
    · exact absurd f1 e2
theorem df {F : Nat} (h : ([0, 1, 2, 6, 7, 10, 11, 13, 14, 15, 16, 17, 18, 19, 20, 31, 32, 34, 36, 38, 40, 51, 54, 55, 56, 57, 58, 63, 64].contains F) = true) : DF F := List.contains_iff_mem.mp h
variable {rho rho' : RH} {P S PR : Nat → Prop}
theorem EqS.f (h : EqS rho rho') (F : Nat) (hF : ([0, 1, 2, 6, 7, 10, 11, 13, 14, 15, 16, 17, 18, 19, 20, 31, 32, 34, 36, 38, 40, 51, 54, 55, 56, 57, 58, 63, 64].contains F) = true) : rho' F = rho F := funext fun j => h.1 F j (df hF)
theorem EqS.eC (h : EqS rho rho') : iC rho' = iC rho := by unfold iC; rw [h.f 31 rfl]
theorem EqS.eI (h : EqS rho rho') : iI rho' = iI rho := by unfold iI; rw [h.f 6 rfl]
theorem EqS.eR (h : EqS rho rho') : iR rho' = iR rho := by unfold iR; rw [h.f 51 rfl]
theorem EqS.eO (h : EqS rho rho') (k : Nat) : iO rho' k = iO rho k := by unfold iO; rw [h.f 32 rfl]
theorem EqS.eX (h : EqS rho rho') (k : Nat) : iX rho' k = iX rho k := by unfold iX; rw [h.f 36 rfl]
theorem EqS.esc (h : EqS rho rho') {k : Nat} (hk : k < 440) : sc rho' k = sc rho k := by unfold sc; rw [h.2.1 k hk]
theorem EqS.ecnt (h : EqS rho rho') (i lo hi : Int32) (h2 : hi ≤ 2) : cntI rho' i lo hi ≤ cntI rho i lo hi := by
  unfold cntI
  rw [h.eC, h.f 36 rfl]
  refine cnt_mono (fun x _ hx => ?_)
  have hx := of_decide_eq_true hx
  rcases h.2.2.2 x with e | ⟨-, e2⟩
  · rw [e] at hx
    exact decide_eq_true hx
  · refine absurd ?_ e2
    have h3 : ¬ hi < rho' 37 x := fun z => hx.2 (Or.inr z)
    rw [Int32.lt_iff_toInt_lt] at h3
    rw [Int32.le_iff_toInt_le] at h2 ⊢
    omega
theorem JC.C (h : JC rho) : rho 31 0 = nI (iC rho) ∧ iC rho ≤ 400 := ⟨h.1.eq (by omega), Nat.le_of_lt_succ (h.1.lt (by omega))⟩
theorem JC.I (h : JC rho) : rho 6 0 = nI (iI rho) ∧ iI rho ≤ 12 := ⟨h.2.1.eq (by omega), Nat.le_of_lt_succ (h.2.1.lt (by omega))⟩
theorem JC.R (h : JC rho) : rho 51 0 = nI (iR rho) ∧ iR rho ≤ 40 := ⟨h.2.2.1.eq (by omega), Nat.le_of_lt_succ (h.2.2.1.lt (by omega))⟩
theorem JC.O (h : JC rho) {k : Nat} (hk : k < iC rho) : rho 32 k = nI (iO rho k) ∧ iO rho k < 540 := ⟨(h.2.2.2 k hk).1.eq (by omega), (h.2.2.2 k hk).1.lt (by omega)⟩
theorem JC.Xi (h : JC rho) {k : Nat} (hk : k < iC rho) : rho 36 k = nI (iX rho k) ∧ iX rho k < iI rho := ⟨(h.2.2.2 k hk).2.1.eq (by have := h.I; omega), (h.2.2.2 k hk).2.1.lt (by have := h.I; omega)⟩
theorem EqS.eF (h : EqS rho rho') (hc : JC rho) : Fs rho' = Fs rho := by
  unfold Fs
  rw [h.eC]
  congr 1
  refine List.map_congr_left (fun k hk => h.esc ?_)
  have := hc.C
  have := List.mem_range.mp hk
  omega
theorem EqS.jC (h : EqS rho rho') (hc : JC rho) : JC rho' := by
  obtain ⟨a, b, c, d⟩ := hc
  refine ⟨by rw [h.f 31 rfl]; exact a, by rw [h.f 6 rfl]; exact b, by rw [h.f 51 rfl]; exact c, fun k hk => ?_⟩
  rw [h.eC] at hk
  have := a.lt (by omega)
  have hk' : k < nv (rho 31 0) := hk
  rw [h.f 32 rfl, h.f 36 rfl, h.eI, h.f 7 rfl, h.eX, h.f 34 rfl, h.eO, h.f 38 rfl, h.2.1 k (by omega)]
  exact d k hk
theorem EqS.jQ (h : EqS rho rho') (hq : JQ rho) : JQ rho' := by
  intro i hi
  rw [h.eI] at hi
  rw [h.f 10 rfl, h.f 11 rfl, h.f 14 rfl]
  have := hq i hi
  exact ⟨Nat.le_trans (h.ecnt _ _ _ (by decide)) this.1, Nat.le_trans (h.ecnt _ _ _ (by decide)) this.2.1, this.2.2⟩
theorem EqS.jB (h : EqS rho rho') {F q : Nat} (hb : JB F q rho) : JB F q rho' := by
  unfold JB
  rw [h.f 16 rfl, h.f 17 rfl, h.f 18 rfl, h.f 19 rfl]
  exact hb
theorem EqS.jR (h : EqS rho rho') (hr : JR PR rho) : JR PR rho' := by
  intro r q
  rw [h.eR] at q
  rw [h.f 56 rfl, h.f 55 rfl, h.f 54 rfl, h.f 57 rfl, h.f 58 rfl, h.f 0 rfl, h.eC, h.f 32 rfl]
  exact hr r q
theorem EqS.jS (h : EqS rho rho') (hs : JS rho) : JS rho' := by
  unfold JS
  rw [h.f 0 rfl, h.f 1 rfl, h.f 2 rfl, h.f 13 rfl, h.f 15 rfl, h.f 20 rfl, h.f 7 rfl, h.eI]
  exact hs
theorem EqS.tT (h : EqS rho rho') : TT rho rho' := by
  refine ⟨⟨by rw [h.eC]; exact Nat.le_refl _, by rw [h.eI]; exact Nat.le_refl _, by rw [h.eR]; exact Nat.le_refl _, h.2.2.1, fun k _ => ⟨h.1 32 k (df rfl), h.1 34 k (df rfl), h.1 36 k (df rfl), h.1 38 k (df rfl), h.1 40 k (df rfl), fun z => ?_⟩, fun r _ _ => h.1 56 r (df rfl), fun p z => by rw [h.1 63 p (df rfl)]; exact z, fun c _ => by rw [h.1 18 c (df rfl), h.1 19 c (df rfl)]; exact ⟨Nat.le_refl _, Nat.le_refl _⟩, fun i _ => ⟨h.1 7 i (df rfl), h.1 10 i (df rfl), h.1 11 i (df rfl)⟩⟩, fun s => h.1 2 s (df rfl)⟩
  rcases h.2.2.2 k with e | ⟨e1, -⟩
  · exact e
  · exact absurd e1 z
theorem EqS.jJ {P' S' : Nat → Prop} (h : EqS rho rho') (hj : JJ P S PR rho) (hl : JL P' S' rho') (hm : JM rho') : JJ P' S' PR rho' := by
  obtain ⟨a, b, c, d, e, f, -⟩ := hj
  refine ⟨h.jC a, hl, h.jQ c, ?_, h.jR e, h.jS f, hm⟩
  rw [h.eF a, h.eR]
  exact h.jB d
/-- nothing that counts changes -/
def EqD (rho rho' : RH) : Prop := (∀ F j, DF F → rho' F j = rho F j) ∧ (∀ j, rho' 46 j = rho 46 j) ∧ rho' 59 0 = rho 59 0 ∧ (∀ j, rho' 37 j = rho 37 j) ∧ ∀ j, rho' 61 j = rho 61 j
theorem EqD.rf : EqD rho rho := ⟨fun _ _ _ => rfl, fun _ => rfl, rfl, fun _ => rfl, fun _ => rfl⟩
theorem EqD.qs (h : EqD rho rho') : EqS rho rho' := ⟨h.1, fun j _ => h.2.1 j, by unfold iP; rw [h.2.2.1]; exact Nat.le_refl _, fun j => Or.inl (h.2.2.2.1 j)⟩
theorem EqD.tr {a b c : RH} (h : EqD a b) (h2 : EqD b c) : EqD a c := ⟨fun F j q => (h2.1 F j q).trans (h.1 F j q), fun j => (h2.2.1 j).trans (h.2.1 j), h2.2.2.1.trans h.2.2.1, fun j => (h2.2.2.2.1 j).trans (h.2.2.2.1 j), fun j => (h2.2.2.2.2 j).trans (h.2.2.2.2 j)⟩
theorem EqD.jL (h : EqD rho rho') (hl : JL P S rho) : JL P S rho' := by
  intro k hk
  rw [h.qs.eC] at hk
  rw [h.2.2.2.1 k, h.qs.f 0 rfl, h.qs.f 38 rfl, h.qs.eO, h.2.2.2.1]
  exact hl k hk
theorem EqD.jM (h : EqD rho rho') (hm : JM rho) : JM rho' := by
  intro p hp
  unfold iP at hp
  rw [h.2.2.1] at hp
  rw [h.2.2.2.2 p]
  exact hm p hp
theorem EqD.jJ (h : EqD rho rho') (hj : JJ P S PR rho) : JJ P S PR rho' := h.qs.jJ hj (h.jL hj.2.1) (h.jM hj.2.2.2.2.2.2)
/-- a field that does not count is written -/
theorem eqd_w {F j : Nat} {v : Int32} (h : EqD rho rho') (hF : (F == 37 || (F == 46 || (F == 59 || (F == 61 || [0, 1, 2, 6, 7, 10, 11, 13, 14, 15, 16, 17, 18, 19, 20, 31, 32, 34, 36, 38, 40, 51, 54, 55, 56, 57, 58, 63, 64].contains F)))) = false) : EqD rho (up2 rho' F j v) := by
  rw [Bool.or_eq_false_iff, Bool.or_eq_false_iff, Bool.or_eq_false_iff, Bool.or_eq_false_iff] at hF
  obtain ⟨h1, h2, h3, h5, h4⟩ := hF
  refine ⟨fun G i hG => ?_, fun i => ?_, ?_, fun i => ?_, fun i => ?_⟩
  · refine (up2_f _ _ _ _ (fun z => ?_)).trans (h.1 G i hG)
    subst z
    rw [List.contains_iff_mem.mpr hG] at h4
    cases h4
  · exact (up2_f _ _ _ _ (fun z => by rw [← z] at h2; cases h2)).trans (h.2.1 i)
  · exact (up2_f _ _ _ _ (fun z => by rw [← z] at h3; cases h3)).trans h.2.2.1
  · exact (up2_f _ _ _ _ (fun z => by rw [← z] at h1; cases h1)).trans (h.2.2.2.1 i)
  · exact (up2_f _ _ _ _ (fun z => by rw [← z] at h5; cases h5)).trans (h.2.2.2.2 i)
end JD
