/-! what the tables say of the classes -/
def cT (c : Nat) : u_T := match c with | 0 => TX0 | 1 => TX1 | 2 => TX2 | 3 => TX3 | 4 => TX4 | 5 => TX5 | 6 => TX6 | 7 => TX7 | _ => TX8
def cY (c : Nat) : Nat → FieldType := match c with | 0 => tyX0 | 1 => tyX1 | 2 => tyX2 | 3 => tyX3 | 4 => tyX4 | 5 => tyX5 | 6 => tyX6 | 7 => tyX7 | _ => tyX8
theorem c10 {P : Nat → Prop} (h0 : P 0) (h1 : P 1) (h2 : P 2) (h3 : P 3) (h4 : P 4) (h5 : P 5) (h6 : P 6) (h7 : P 7) (h8 : P 8) (h9 : P 9) {c : Nat} (h : c < 10) : P c := by
  match c, h with
  | 0, _ => exact h0 | 1, _ => exact h1 | 2, _ => exact h2 | 3, _ => exact h3 | 4, _ => exact h4 | 5, _ => exact h5 | 6, _ => exact h6 | 7, _ => exact h7 | 8, _ => exact h8 | 9, _ => exact h9
theorem kd0 {c : Nat} (h : kd c = 0) : c < 10 := by
  unfold kd at h
  split at h
  · assumption
  all_goals (repeat' split at h) <;> simp at h
theorem cls_at {c : Nat} (h : c < 10) : cls[c]? = some (cn c, cT c, nF c) := c10 (P := fun c => cls[c]? = some (cn c, cT c, nF c)) rfl rfl rfl rfl rfl rfl rfl rfl rfl rfl h
theorem nF_lt {c : Nat} (h : c < 10) : nF c < 128 := c10 (P := fun c => nF c < 128) (by decide) (by decide) (by decide) (by decide) (by decide) (by decide) (by decide) (by decide) (by decide) (by decide) h
theorem cY_ok {c : Nat} (h : c < 10) : ∀ k, k < nF c → parseFieldDescriptor (cT c k).2.2.1 = some (cY c k) := c10 (P := fun c => ∀ k, k < nF c → parseFieldDescriptor (cT c k).2.2.1 = some (cY c k)) tyX0_ok tyX1_ok tyX2_ok tyX3_ok tyX4_ok tyX5_ok tyX6_ok tyX7_ok tyX8_ok (fun _ h => absurd h (Nat.not_lt_zero _)) h
theorem cN_ok {c : Nat} (h : c < 10) : ∀ a, a < nF c → ∀ b, b < nF c → a ≠ b → (cT c a).2.1 ≠ (cT c b).2.1 := c10 (P := fun c => ∀ a, a < nF c → ∀ b, b < nF c → a ≠ b → (cT c a).2.1 ≠ (cT c b).2.1) nmX0 nmX1 nmX2 nmX3 nmX4 nmX5 nmX6 nmX7 nmX8 (fun _ h => absurd h (Nat.not_lt_zero _)) h
theorem TW_all {ws : List Cond} (h : ws.all (fun w => decide (w ∈ lw_tbl) && goodWord w) = true) : ∀ w ∈ ws, w ∈ TW := fun w hw => by
  have h1 := List.all_eq_true.mp h w hw
  rw [Bool.and_eq_true, decide_eq_true_eq] at h1
  exact TW_of h1.1 h1.2
theorem cW_ok {c : Nat} (h : c < 10) : ∀ w ∈ u_ws (cn c) (cT c) (nF c), w ∈ TW := c10 (P := fun c => ∀ w ∈ u_ws (cn c) (cT c) (nF c), w ∈ TW) (TW_all (by decide +kernel)) (TW_all (by decide +kernel)) (TW_all (by decide +kernel)) (TW_all (by decide +kernel)) (TW_all (by decide +kernel)) (TW_all (by decide +kernel)) (TW_all (by decide +kernel)) (TW_all (by decide +kernel)) (TW_all (by decide +kernel)) (TW_all (by decide +kernel)) h
/-! the memory, a write at a time -/
theorem cOK_congr {D : DD} {S S' : OM} {ad : Ad} {H : Heap} {c i : Nat} (h : cOK D S ad H c i) (hf : kd c = 0 → ∀ k, k < nF c → fV ad S'.2.2.2.2.2.2.2 S'.2.1 S'.2.2.1 c i k = fV ad S.2.2.2.2.2.2.2 S.2.1 S.2.2.1 c i k)
    (hi : kd c = 1 ∨ kd c = 2 → aI S'.2.2.2.2.2.2.2 S'.2.2.2.1 c i = aI S.2.2.2.2.2.2.2 S.2.2.2.1 c i) (hr : kd c = 3 → S'.2.2.2.2.1 c i = S.2.2.2.2.1 c i) (hl : kd c = 4 → S'.2.2.2.2.2.1 c i = S.2.2.2.2.2.1 c i) (ho : kd c = 5 → S'.2.2.2.2.2.2.1 = S.2.2.2.2.2.2.1) : cOK D S' ad H c i := by
  unfold cOK at h ⊢
  match hk : kd c, h with
  | 0, h => exact t_OB.to h (fun k hk2 => (hf hk k hk2).symm)
  | 1, h => show H[ad c i]? = _; rw [hi (Or.inl hk)]; exact h
  | 2, h => show H[ad c i]? = _; rw [hi (Or.inr hk)]; exact h
  | 3, h => show H[ad c i]? = _; rw [hr hk]; exact h
  | 4, h => show (∃ m : Int32, _) ∧ _; rw [hl hk]; exact h
  | 5, h => show H[ad c i]? = _; rw [ho hk]; exact h
  | _ + 6, h => exact h.elim
theorem cOK_kept {D : DD} {S : OM} {ad : Ad} {H H1 : Heap} {c i : Nat} (h : cOK D S ad H c i) (h1 : H1[ad c i]? = H[ad c i]?) (h2 : kd c = 4 → ad (c + 10) i ≠ D.2.2.1 → H1[ad (c + 10) i]? = H[ad (c + 10) i]?) : cOK D S ad H1 c i := by
  unfold cOK at h ⊢
  match hk : kd c, h with
  | 0, h => exact h.kept h1
  | 1, h => exact h1.trans h
  | 2, h => exact h1.trans h
  | 3, h => exact h1.trans h
  | 4, h =>
    obtain ⟨⟨m, hm⟩, hd⟩ := h
    refine ⟨⟨m, hm.kept h1⟩, ?_⟩
    rcases hd with hd | ⟨hne, n, a, b, c', e⟩
    · exact Or.inl hd
    · exact Or.inr ⟨hne, n, a, b, c', (h2 hk hne).trans e⟩
  | 5, h => exact h1.trans h
  | _ + 6, h => exact h.elim
theorem cOK_lt {D : DD} {S : OM} {ad : Ad} {H : Heap} {c i : Nat} (h : cOK D S ad H c i) : ad c i < H.size ∧ (kd c = 4 → ad (c + 10) i ≠ D.2.2.1 → ad (c + 10) i < H.size) := by
  unfold cOK at h
  match hk : kd c, h with
  | 0, h => obtain ⟨cell, h1, -⟩ := h; exact ⟨(Array.getElem?_eq_some_iff.mp h1).1, fun z => by cases z⟩
  | 1, h => exact ⟨(Array.getElem?_eq_some_iff.mp h).1, fun z => by cases z⟩
  | 2, h => exact ⟨(Array.getElem?_eq_some_iff.mp h).1, fun z => by cases z⟩
  | 3, h => exact ⟨(Array.getElem?_eq_some_iff.mp h).1, fun z => by cases z⟩
  | 4, h =>
    obtain ⟨⟨m, cell, h1, -⟩, hd⟩ := h
    refine ⟨(Array.getElem?_eq_some_iff.mp h1).1, fun _ hne => ?_⟩
    rcases hd with hd | ⟨-, n, a, b, c', e⟩
    · exact absurd hd.1 hne
    · exact (Array.getElem?_eq_some_iff.mp e).1
  | 5, h => exact ⟨(Array.getElem?_eq_some_iff.mp h).1, fun z => by cases z⟩
  | _ + 6, h => exact h.elim
theorem kd_list {c : Nat} (h : 60 ≤ c) (h2 : c < 67) : kd (c - 10) = 4 := by
  unfold kd
  have h3 : ¬ c - 10 < 10 := by omega
  have h4 : ¬ c - 10 < 30 := by omega
  have h5 : ¬ c - 10 < 40 := by omega
  have h6 : ¬ c - 10 < 50 := by omega
  have h7 : c - 10 < 57 := by omega
  rw [if_neg h3, if_neg h4, if_neg h5, if_neg h6, if_pos h7]
theorem kd4 {c : Nat} (h : kd c = 4) : 50 ≤ c ∧ c < 57 := by
  unfold kd at h
  repeat' split at h
  all_goals (first | (simp at h; done) | omega)
theorem lvx_lt {D : DD} {S : OM} {ad : Ad} {H : Heap} {c i : Nat} (hm : MM D S ad H) (h : lvx D S.1 ad c i) : ad c i < H.size := by
  rcases h with h | ⟨h1, h2, h3, h4⟩
  · exact (cOK_lt (hm.1 c i h)).1
  · have e : c - 10 + 10 = c := by omega
    have h5 := (cOK_lt (hm.1 (c - 10) i h3)).2 (kd_list h1 h2)
    rw [e] at h5
    exact h5 h4
/-- one cell is written: the live cell (c, i), or the row behind the list (c, i) -/
theorem MM.write {D : DD} {S S' : OM} {ad : Ad} {H H1 : Heap} {c i c0 : Nat} (hm : MM D S ad H) (hl : S.1 c i = true) (h0 : c0 = c ∨ (c0 = c + 10 ∧ kd c = 4 ∧ ad (c + 10) i ≠ D.2.2.1)) (hlv : S'.1 = S.1) (oq : ∀ q : Nat, q ≠ ad c0 i → H1[q]? = H[q]?)
    (hself : cOK D S' ad H1 c i) (hoth : ∀ c' i', S.1 c' i' = true → ¬ (c' = c ∧ i' = i) → cOK D S ad H c' i' → cOK D S' ad H c' i')
    (hfr : ∀ c i k t j, S.1 c i = true → kd c = 0 → k < nF c → tg c k = t + 1 → S'.2.1 (128 * c + k) i = some j → S.1 t j = true)
    (har : ∀ c i k j, S.1 c i = true → kd c = 3 → k < len c → S'.2.2.2.2.1 c i k = some j → S.1 (tA c) j = true)
    (hli : ∀ c i j, S.1 c i = true → kd c = 4 → j ∈ S'.2.2.2.2.2.1 c i → S.1 (tA c) j = true) : MM D S' ad H1 := by
  have hw : lvx D S.1 ad c0 i := by
    rcases h0 with rfl | ⟨rfl, hk, hne⟩
    · exact Or.inl hl
    · have := kd4 hk
      exact Or.inr ⟨by omega, by omega, by rw [Nat.add_sub_cancel]; exact hl, hne⟩
  have key : ∀ c' i', lvx D S.1 ad c' i' → ¬ (c' = c0 ∧ i' = i) → H1[ad c' i']? = H[ad c' i']? := fun c' i' h hne => oq _ (fun z => hne (hm.2.1 c' i' c0 i h hw z))
  refine ⟨fun c' i' h => ?_, by rw [hlv]; exact hm.2.1, by rw [hlv]; exact hfr, by rw [hlv]; exact har, by rw [hlv]; exact hli, hm.2.2.2.2.2.1, by rw [hlv]; exact hm.2.2.2.2.2.2⟩
  rw [hlv] at h
  by_cases hs : c' = c ∧ i' = i
  · obtain ⟨rfl, rfl⟩ := hs
    exact hself
  · refine cOK_kept (hoth c' i' h hs (hm.1 c' i' h)) (key c' i' (Or.inl h) ?_) (fun hk hne => key (c' + 10) i' ?_ ?_)
    · rintro ⟨e1, e2⟩
      rcases h0 with e | ⟨e, hk, -⟩
      · exact hs ⟨e1.trans e, e2⟩
      · have := kd4 hk
        have hz := hm.1 c' i' h
        unfold cOK at hz
        have hk9 : kd c' = 9 ∨ kd c' = 5 ∨ True := Or.inr (Or.inr trivial)
        have e9 : kd c' = 9 := by
          unfold kd
          rw [if_neg (by omega), if_neg (by omega), if_neg (by omega), if_neg (by omega), if_neg (by omega), if_neg (by omega), if_pos (by omega)]
        rw [e9] at hz
        exact hz
    · have := kd4 hk
      exact Or.inr ⟨by omega, by omega, by rw [Nat.add_sub_cancel]; exact h, hne⟩
    · rintro ⟨e1, e2⟩
      rcases h0 with e | ⟨e, -, -⟩
      · have := kd4 hk
        have hz := hm.1 c i hl
        unfold cOK at hz
        have e9 : kd c = 9 := by
          unfold kd
          rw [if_neg (by omega), if_neg (by omega), if_neg (by omega), if_neg (by omega), if_neg (by omega), if_neg (by omega), if_pos (by omega)]
        rw [e9] at hz
        exact hz
      · exact hs ⟨by omega, e2⟩
theorem fc_inj {c c' k k' : Nat} (hk : k < 128) (hk' : k' < 128) (h : 128 * c' + k' = 128 * c + k) : c' = c ∧ k' = k := by omega
