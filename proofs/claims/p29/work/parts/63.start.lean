/-! reading behind writing; the relation at the start -/
section PM
theorem gV_sR (m : CM) (f i : Nat) (o : Option Nat) (d a : Nat) : gV (sR m f i o) d a = gV m d a := rfl
theorem gV_sI (m : CM) (f i : Nat) (v : Int32) (d a : Nat) : gV (sI m f i v) d a = gV m d a := rfl
theorem gV_sA (m : CM) (c i j : Nat) (v : Int32) (d a : Nat) : gV (sA m c i j v) d a = gV m d a := rfl
theorem gV_sO (m : CM) (c i j : Nat) (o : Option Nat) (d a : Nat) : gV (sO m c i j o) d a = gV m d a := rfl
theorem gV_sL (m : CM) (c i : Nat) (xs : List Nat) (d a : Nat) : gV (sL m c i xs) d a = gV m d a := rfl
theorem gV_sN (m : CM) (c i : Nat)  (d a : Nat) : gV (sN m c i) d a = if d = c then (if a = i then true else gV m d a) else gV m d a := rfl
theorem gV_sNA (m : CM) (c i : Nat)  (d a : Nat) : gV (sNA m c i) d a = if d = c then (if a = i then true else gV m d a) else gV m d a := rfl
theorem gV_sNO (m : CM) (c i : Nat)  (d a : Nat) : gV (sNO m c i) d a = if d = c then (if a = i then true else gV m d a) else gV m d a := rfl
theorem gV_sNL (m : CM) (c i : Nat)  (d a : Nat) : gV (sNL m c i) d a = if d = c then (if a = i then true else gV m d a) else gV m d a := rfl
theorem gR_sR (m : CM) (f i : Nat) (o : Option Nat) (d a : Nat) : gR (sR m f i o) d a = if d = f then (if a = i then o else gR m d a) else gR m d a := rfl
theorem gR_sI (m : CM) (f i : Nat) (v : Int32) (d a : Nat) : gR (sI m f i v) d a = gR m d a := rfl
theorem gR_sA (m : CM) (c i j : Nat) (v : Int32) (d a : Nat) : gR (sA m c i j v) d a = gR m d a := rfl
theorem gR_sO (m : CM) (c i j : Nat) (o : Option Nat) (d a : Nat) : gR (sO m c i j o) d a = gR m d a := rfl
theorem gR_sL (m : CM) (c i : Nat) (xs : List Nat) (d a : Nat) : gR (sL m c i xs) d a = gR m d a := rfl
theorem gR_sN (m : CM) (c i : Nat)  (d a : Nat) : gR (sN m c i) d a = if d / 128 = c ∧ a = i then none else gR m d a := rfl
theorem gR_sNA (m : CM) (c i : Nat)  (d a : Nat) : gR (sNA m c i) d a = gR m d a := rfl
theorem gR_sNO (m : CM) (c i : Nat)  (d a : Nat) : gR (sNO m c i) d a = gR m d a := rfl
theorem gR_sNL (m : CM) (c i : Nat)  (d a : Nat) : gR (sNL m c i) d a = gR m d a := rfl
theorem gI_sR (m : CM) (f i : Nat) (o : Option Nat) (d a : Nat) : gI (sR m f i o) d a = gI m d a := rfl
theorem gI_sI (m : CM) (f i : Nat) (v : Int32) (d a : Nat) : gI (sI m f i v) d a = if d = f then (if a = i then v else gI m d a) else gI m d a := rfl
theorem gI_sA (m : CM) (c i j : Nat) (v : Int32) (d a : Nat) : gI (sA m c i j v) d a = gI m d a := rfl
theorem gI_sO (m : CM) (c i j : Nat) (o : Option Nat) (d a : Nat) : gI (sO m c i j o) d a = gI m d a := rfl
theorem gI_sL (m : CM) (c i : Nat) (xs : List Nat) (d a : Nat) : gI (sL m c i xs) d a = gI m d a := rfl
theorem gI_sN (m : CM) (c i : Nat)  (d a : Nat) : gI (sN m c i) d a = if d / 128 = c ∧ a = i then 0 else gI m d a := rfl
theorem gI_sNA (m : CM) (c i : Nat)  (d a : Nat) : gI (sNA m c i) d a = gI m d a := rfl
theorem gI_sNO (m : CM) (c i : Nat)  (d a : Nat) : gI (sNO m c i) d a = gI m d a := rfl
theorem gI_sNL (m : CM) (c i : Nat)  (d a : Nat) : gI (sNL m c i) d a = gI m d a := rfl
theorem gA_sR (m : CM) (f i : Nat) (o : Option Nat) (d a b : Nat) : gA (sR m f i o) d a b = gA m d a b := rfl
theorem gA_sI (m : CM) (f i : Nat) (v : Int32) (d a b : Nat) : gA (sI m f i v) d a b = gA m d a b := rfl
theorem gA_sA (m : CM) (c i j : Nat) (v : Int32) (d a b : Nat) : gA (sA m c i j v) d a b = if d = c then (if a = i then (if b = j then v else gA m d a b) else gA m d a b) else gA m d a b := rfl
theorem gA_sO (m : CM) (c i j : Nat) (o : Option Nat) (d a b : Nat) : gA (sO m c i j o) d a b = gA m d a b := rfl
theorem gA_sL (m : CM) (c i : Nat) (xs : List Nat) (d a b : Nat) : gA (sL m c i xs) d a b = gA m d a b := rfl
theorem gA_sN (m : CM) (c i : Nat)  (d a b : Nat) : gA (sN m c i) d a b = gA m d a b := rfl
theorem gA_sNA (m : CM) (c i : Nat)  (d a b : Nat) : gA (sNA m c i) d a b = if d = c then (if a = i then 0 else gA m d a b) else gA m d a b := by
  show (if d = c then (if a = i then (fun _ => 0) else _) else _) b = _
  by_cases h : d = c
  · by_cases h2 : a = i
    · simp [h, h2]
    · simp [h, h2, gA]
  · simp [h, gA]
theorem gA_sNO (m : CM) (c i : Nat)  (d a b : Nat) : gA (sNO m c i) d a b = gA m d a b := rfl
theorem gA_sNL (m : CM) (c i : Nat)  (d a b : Nat) : gA (sNL m c i) d a b = gA m d a b := rfl
theorem gO_sR (m : CM) (f i : Nat) (o : Option Nat) (d a b : Nat) : gO (sR m f i o) d a b = gO m d a b := rfl
theorem gO_sI (m : CM) (f i : Nat) (v : Int32) (d a b : Nat) : gO (sI m f i v) d a b = gO m d a b := rfl
theorem gO_sA (m : CM) (c i j : Nat) (v : Int32) (d a b : Nat) : gO (sA m c i j v) d a b = gO m d a b := rfl
theorem gO_sO (m : CM) (c i j : Nat) (o : Option Nat) (d a b : Nat) : gO (sO m c i j o) d a b = if d = c then (if a = i then (if b = j then o else gO m d a b) else gO m d a b) else gO m d a b := rfl
theorem gO_sL (m : CM) (c i : Nat) (xs : List Nat) (d a b : Nat) : gO (sL m c i xs) d a b = gO m d a b := rfl
theorem gO_sN (m : CM) (c i : Nat)  (d a b : Nat) : gO (sN m c i) d a b = gO m d a b := rfl
theorem gO_sNA (m : CM) (c i : Nat)  (d a b : Nat) : gO (sNA m c i) d a b = gO m d a b := rfl
theorem gO_sNO (m : CM) (c i : Nat)  (d a b : Nat) : gO (sNO m c i) d a b = if d = c then (if a = i then none else gO m d a b) else gO m d a b := by
  show (if d = c then (if a = i then (fun _ => none) else _) else _) b = _
  by_cases h : d = c
  · by_cases h2 : a = i
    · simp [h, h2]
    · simp [h, h2, gO]
  · simp [h, gO]
theorem gO_sNL (m : CM) (c i : Nat)  (d a b : Nat) : gO (sNL m c i) d a b = gO m d a b := rfl
theorem gL_sR (m : CM) (f i : Nat) (o : Option Nat) (d a : Nat) : gL (sR m f i o) d a = gL m d a := rfl
theorem gL_sI (m : CM) (f i : Nat) (v : Int32) (d a : Nat) : gL (sI m f i v) d a = gL m d a := rfl
theorem gL_sA (m : CM) (c i j : Nat) (v : Int32) (d a : Nat) : gL (sA m c i j v) d a = gL m d a := rfl
theorem gL_sO (m : CM) (c i j : Nat) (o : Option Nat) (d a : Nat) : gL (sO m c i j o) d a = gL m d a := rfl
theorem gL_sL (m : CM) (c i : Nat) (xs : List Nat) (d a : Nat) : gL (sL m c i xs) d a = if d = c then (if a = i then xs else gL m d a) else gL m d a := rfl
theorem gL_sN (m : CM) (c i : Nat)  (d a : Nat) : gL (sN m c i) d a = gL m d a := rfl
theorem gL_sNA (m : CM) (c i : Nat)  (d a : Nat) : gL (sNA m c i) d a = gL m d a := rfl
theorem gL_sNO (m : CM) (c i : Nat)  (d a : Nat) : gL (sNO m c i) d a = gL m d a := rfl
theorem gL_sNL (m : CM) (c i : Nat)  (d a : Nat) : gL (sNL m c i) d a = if d = c then (if a = i then [] else gL m d a) else gL m d a := rfl
theorem up2_a {α : Type} (m : Nat → Nat → α) (f i : Nat) (v : α) (g j : Nat) : up2 m f i v g j = if g = f then (if j = i then v else m g j) else m g j := rfl
theorem rS_15 {j : Nat} (h : j < 147) : rhoS 15 j = -1 := by
  unfold rhoS fill
  simp [h]
theorem mS_plans : ∀ s, s < 6 → ∀ n, n < 4 → gA mS 32 s n = 0 ∧ gA mS 34 s n = 0 ∧ gA mS 33 s n = 0 := by decide +kernel
theorem mS_56 : ∀ k, k < 400 → gL mS 56 k = [] := by decide +kernel
theorem rS_C : iC rhoS = 0 := by decide
theorem rS_I : iI rhoS = 0 := by decide
theorem rS_R : iR rhoS = 0 := by decide
theorem rS_P : iP rhoS = 0 := by decide
theorem rS_OE {o : Nat} : ¬ OE rhoS o := by
  unfold OE
  rw [rS_C, rS_R, rS_P]
  omega
theorem sum_const (N v : Nat) (f : Nat → Nat) (h : ∀ k, k < N → f k = v) : ((List.range N).map f).sum = N * v := by
  induction N with
  | zero => simp
  | succ N ih =>
    rw [List.range_succ, List.map_append, List.sum_append, ih (fun k hk => h k (by omega))]
    simp [h N (by omega)]
    rw [Nat.add_mul]
    omega
theorem pot_S : pot mS = 7416 := by
  unfold pot
  rw [mS_lists.1, mS_lists.2.1, mS_lists.2.2.1, mS_lists.2.2.2]
  rfl
theorem RB_S : RB rhoS := by
  refine ⟨⟨⟨0, by decide, by decide⟩, ⟨0, by decide, by decide⟩, ⟨0, by decide, by decide⟩, ⟨0, by decide, by decide⟩, ⟨0, by decide, by decide⟩, fun h => ?_, ⟨4, by decide, by decide⟩, by decide, ?_⟩, fun s hs => ⟨⟨0, by decide, ?_⟩, ⟨0, by decide, ?_⟩, fun n hn => ?_⟩, fun i hi => ?_, fun p hp => ⟨Or.inl (rS_15 (by omega)), Or.inl (rS_15 (by omega))⟩, fun r hr => ?_, fun p hp => ?_, fun k hk => ?_, fun k hk => ?_, fun k _ _ => ⟨?_, ?_⟩, fun p _ _ => ?_, fun i _ _ => ⟨fun w _ => ?_, ?_, fun c _ => ⟨?_, ?_, ?_, ?_⟩⟩⟩
  · rw [rS_C, rS_P] at h
    omega
  · rw [rS_P]
    decide
  · exact (show ∀ s, s < 6 → rhoS 2 s = nI 0 by decide) s hs
  · exact (show ∀ s, s < 6 → rhoS 25 s = nI 0 by decide) s hs
  · rw [(show ∀ s, s < 6 → nv (rhoS 2 s) = 0 by decide) s hs] at hn
    omega
  · rw [rS_I] at hi
    omega
  · rw [rS_R] at hr
    omega
  · rw [rS_P] at hp
    omega
  · rw [rS_C] at hk
    omega
  · rw [rS_C] at hk
    omega
  all_goals simp [rhoS, fill, rhoI, rho0, up2]
theorem INV_S : INV mS rhoS := by
  refine ⟨⟨mS_fields.1, mS_fields.2.1, mS_fields.2.2.1, mS_fields.2.2.2.1, mS_fields.2.2.2.2.1, mS_fields.2.2.2.2.2.1, mS_fields.2.2.2.2.2.2, fun p hp => (mS_policies p hp).1, fun c hc => (mS_callers c hc).1, fun s hs => ?_⟩, ?_, fun p hp => ?_, fun s hs => ?_, fun c hc => ?_, fun i hi => ?_, fun i hi => ?_, fun r hr => ?_, ?_, fun k hk => ?_, fun k hk => ?_, fun o n ho hn => absurd ho rS_OE, fun o n ho hn => absurd ho rS_OE, ⟨fun o n ho hn => absurd ho rS_OE, fun k hk => ?_⟩, fun o n ho hn => absurd ho rS_OE, ⟨fun k _ hk => mS_free.2.2.2.1 k hk, fun r _ hr => mS_free.2.2.1 r hr, fun i _ hi => ?_, fun o n ho hn _ => mS_free.2.2.2.2 _ (by omega)⟩, RB_S⟩
  · have h := mS_services s hs
    exact ⟨h.1, h.2.2.2.1, h.2.2.2.2.1, h.2.2.2.2.2.1, h.2.2.2.2.2.2.1, h.2.2.2.2.2.2.2.2.2.1, h.2.2.2.2.2.2.2.2.2.2.1⟩
  · have h := mS_scalars
    exact ⟨h.1, h.2.1, h.2.2.1, h.2.2.2⟩
  · have h := (mS_policies p hp).2
    refine ⟨?_, fun s hs => ?_, fun c hc s hs => ?_⟩
    · rw [h _ (by omega), rS_15 (by omega)]
    · rw [h _ (by omega), rS_15 (by omega)]
    · rw [h _ (by omega), rS_15 (by omega)]
  · have h := mS_services s hs
    refine ⟨?_, ?_, ?_, ?_, fun v hv => ?_, fun n hn => ?_⟩
    · rw [h.2.1, (show ∀ s, s < 6 → rhoS 1 s = 1 by decide) s hs]
    · rw [h.2.2.1, (show ∀ s, s < 6 → rhoS 2 s = 0 by decide) s hs]
    · rw [h.2.2.2.2.2.2.2.1, (show ∀ s, s < 6 → rhoS 25 s = 0 by decide) s hs]
    · rw [h.2.2.2.2.2.2.2.2.1, (show ∀ s, s < 6 → rhoS 26 s = 0 by decide) s hs]
    · have h2 := h.2.2.2.2.2.2.2.2.2.2.2
      have hv' : v = 0 ∨ v = 1 := by omega
      rw [show rhoS 27 (2 * s + v) = 0 by simp [rhoS, fill, rhoI, rho0, up2], show rhoS 28 (2 * s + v) = 0 by simp [rhoS, fill, rhoI, rho0, up2]]
      rcases hv' with rfl | rfl
      · exact ⟨h2.1, h2.2.2.1⟩
      · exact ⟨h2.2.1, h2.2.2.2⟩
    · have h2 := mS_plans s hs n hn
      rw [show rhoS 3 (4 * s + n) = 0 by simp [rhoS, fill, rhoI, rho0, up2], show rhoS 4 (4 * s + n) = 0 by simp [rhoS, fill, rhoI, rho0, up2], show rhoS 5 (4 * s + n) = 0 by simp [rhoS, fill, rhoI, rho0, up2]]
      exact h2
  · have h := mS_callers c hc
    rw [(show ∀ c, c < 7 → rhoS 17 c = 1000 by decide) c hc, (show ∀ c, c < 7 → rhoS 16 c = 10 by decide) c hc, (show ∀ c, c < 7 → rhoS 18 c = 0 by decide) c hc, (show ∀ c, c < 7 → rhoS 19 c = 0 by decide) c hc]
    exact h.2
  · rw [rS_I] at hi
    omega
  · rw [rS_I] at hi
    omega
  · rw [rS_R] at hr
    omega
  · unfold AL
    rw [rS_I, rS_R, rS_C, rS_P]
    exact mS_lists
  · rw [rS_C] at hk
    omega
  · rw [rS_C] at hk
    omega
  · rw [rS_C] at hk
    omega
  · have h := mS_free.1 i hi
    exact ⟨h.1, h.2.1, h.2.2.1, h.2.2.2.1, h.2.2.2.2, fun c hc => mS_free.2.1 _ (by omega)⟩
/-- a memory that differs from another only where nothing of the class lies -/
theorem INV_al {m m' : CM} {rho : RH} (h1 : ∀ c i, c < 57 → c ≠ 9 → m'.1 c i = m.1 c i) (h2 : ∀ f i, f < 1152 → m'.2.1 f i = m.2.1 f i) (h3 : m'.2.2 = m.2.2) (h : INV m rho) : INV m' rho ∧ pot m' = pot m := by
  obtain ⟨l, f, r⟩ := m
  obtain ⟨l', f', r'⟩ := m'
  cases (show r' = r from h3)
  have h2' : ∀ f9 i, f9 < 1152 → gR (l', f', r) f9 i = gR (l, f, r) f9 i := h2
  have h1' : ∀ c i, c < 57 → c ≠ 9 → gV (l', f', r) c i = gV (l, f, r) c i := h1
  obtain ⟨a1, a2, a3, a4, a5, a6, a7, a8, a9, a10, a11, a12, a13, a14, a15, a16, a17⟩ := h
  refine ⟨⟨?_, a2, a3, a4, a5, ?_, a7, ?_, a9, ?_, a11, ?_, a13, a14, a15, ?_, a17⟩, rfl⟩
  · unfold A0 at a1 ⊢
    simp only [h2' _ _ (show 1028 < 1152 by omega), h2' _ _ (show 1029 < 1152 by omega), h2' _ _ (show 1030 < 1152 by omega), h2' _ _ (show 1031 < 1152 by omega), h2' _ _ (show 1032 < 1152 by omega), h2' _ _ (show 1033 < 1152 by omega), h2' _ _ (show 1034 < 1152 by omega), h2' _ _ (show 770 < 1152 by omega), h2' _ _ (show 771 < 1152 by omega), h2' _ _ (show 772 < 1152 by omega), h2' _ _ (show 773 < 1152 by omega), h2' _ _ (show 386 < 1152 by omega), h2' _ _ (show 387 < 1152 by omega)]
    exact a1
  · intro i hi
    have := a6 i hi
    rw [h2' _ _ (by omega), h2' _ _ (by omega), h2' _ _ (by omega), h2' _ _ (by omega)]
    exact this
  · intro r9 hr
    rw [h2' _ _ (by omega)]
    exact a8 r9 hr
  · intro k hk
    rw [h2' _ _ (by omega), h2' _ _ (by omega), h2' _ _ (by omega)]
    exact a10 k hk
  · intro o n ho hn
    rw [h2' _ _ (by omega), h2' _ _ (by omega)]
    exact a12 o n ho hn
  · unfold AF at a16 ⊢
    simp only [h1' _ _ (show 1 < 57 by omega) (by omega), h1' _ _ (show 56 < 57 by omega) (by omega), h1' _ _ (show 5 < 57 by omega) (by omega), h1' _ _ (show 4 < 57 by omega) (by omega), h1' _ _ (show 30 < 57 by omega) (by omega), h1' _ _ (show 31 < 57 by omega) (by omega), h1' _ _ (show 43 < 57 by omega) (by omega), h1' _ _ (show 54 < 57 by omega) (by omega), h1' _ _ (show 0 < 57 by omega) (by omega), h1' _ _ (show 7 < 57 by omega) (by omega), h1' _ _ (show 55 < 57 by omega) (by omega)]
    exact a16
end PM
