/-! a tick, from its last stage to its first -/
section PP9
variable {rho rho' : RH} {P S PR : Nat → Prop}
/-- what the stages give -/
def QZ (rho m : RH) : Prop := JJ AL9 NO9 AL9 m ∧ TT rho m ∧ m 0 = rho 0 ∧ m 64 = rho 64
theorem QZ.of {a b c : RH} (h : KQ a b) (h2 : QZ b c) : QZ a c := ⟨h2.1, h.1.tr h2.2.1, h2.2.2.1.trans h.2.1, h2.2.2.2.trans h.2.2.2.2.2⟩
theorem len_split {p q r : Nat → Bool} : ∀ (l : List Nat), (∀ x, x ∈ l → p x = true → q x = true ∨ r x = true) → (l.filter p).length ≤ (l.filter q).length + (l.filter r).length := by
  intro l
  induction l with
  | nil => intro _; simp
  | cons x l ih =>
    intro h
    have h1 := ih (fun y hy => h y (List.mem_cons_of_mem _ hy))
    have h2 := h x List.mem_cons_self
    by_cases hp : p x = true
    · rw [List.filter_cons_of_pos hp, List.length_cons]
      rcases h2 hp with z | z
      · rw [List.filter_cons_of_pos z, List.length_cons]
        by_cases y : r x = true
        · rw [List.filter_cons_of_pos y, List.length_cons]
          omega
        · rw [List.filter_cons_of_neg y]
          omega
      · rw [List.filter_cons_of_pos (p := r) z, List.length_cons]
        by_cases y : q x = true
        · rw [List.filter_cons_of_pos y, List.length_cons]
          omega
        · rw [List.filter_cons_of_neg y]
          omega
    · rw [List.filter_cons_of_neg hp]
      by_cases y : q x = true
      · rw [List.filter_cons_of_pos y, List.length_cons]
        by_cases w : r x = true
        · rw [List.filter_cons_of_pos w, List.length_cons]
          omega
        · rw [List.filter_cons_of_neg w]
          omega
      · rw [List.filter_cons_of_neg y]
        by_cases w : r x = true
        · rw [List.filter_cons_of_pos w, List.length_cons]
          omega
        · rw [List.filter_cons_of_neg w]
          omega
theorem cnt02 {x : Int32} : cntI rho x 0 2 ≤ cntI rho x 0 0 + cntI rho x 1 2 := by
  unfold cntI
  refine len_split _ (fun k _ hk => ?_)
  have hk := of_decide_eq_true hk
  have h1 : ¬ rho 37 k < 0 := fun z => hk.2 (Or.inl z)
  have h2 : ¬ 2 < rho 37 k := fun z => hk.2 (Or.inr z)
  have e0 : (0 : Int32).toInt = 0 := by decide
  have e1 : (1 : Int32).toInt = 1 := by decide
  have e2 : (2 : Int32).toInt = 2 := by decide
  by_cases z : 0 < rho 37 k
  · refine Or.inr (decide_eq_true ⟨hk.1, fun y => ?_⟩)
    rcases y with y | y
    · rw [Int32.lt_iff_toInt_lt] at y z
      omega
    · exact h2 y
  · exact Or.inl (decide_eq_true ⟨hk.1, fun y => y.elim h1 z⟩)
theorem pc_380 {K : Int32 → RH → Option (Int32 × RH)} {Q : Int32 → RH → Prop} {rho0 : RH} {x2 : Int32} (hK : ∀ m, EqD rho0 m → PC (K (x2 + 1) m) Q) : ∀ (n : Nat) (x3 : Int32) (rho : RH), EqD rho0 rho → PC (l9_passes_380 K n x2 x3 rho) Q := by
  intro n
  induction n with
  | zero =>
    intro x3 rho h
    rw [l9_passes_380]
    exact pc_none
  | succ n ih =>
    intro x3 rho h
    rw [l9_passes_380]
    refine pc_if (fun _ => hK _ h) (fun _ => ?_)
    refine pc_ck (fun _ => ?_)
    exact pc_wr (ih _ _ (eqd_w h rfl))
theorem told_J {i : Nat} {b : Nat} (hj : JJ AL9 NO9 PR rho) (hb : b ≤ cntI rho (nI i) 0 2) (hC : iC rho ≤ 400) : JJ AL9 NO9 PR (up2 rho 14 i (nI b)) := by
  refine ⟨hj.1, hj.2.1, fun q hq => ?_, hj.2.2.2.1, hj.2.2.2.2.1, hj.2.2.2.2.2.1, hj.2.2.2.2.2.2⟩
  have h1 := hj.2.2.1 q hq
  refine ⟨h1.1, h1.2.1, ?_⟩
  show nv (if q = i then nI b else rho 14 q) ≤ nv (rho 10 q) + nv (rho 11 q)
  by_cases z : q = i
  · have h2 : cntI rho (nI i) 0 2 ≤ iC rho := cnt_le
    rw [if_pos z, nv_nI (by omega)]
    subst z
    have h3 : cntI rho (nI q) 0 2 ≤ cntI rho (nI q) 0 0 + cntI rho (nI q) 1 2 := cnt02
    have h4 := h1.1
    have h5 := h1.2.1
    omega
  · rw [if_neg z]
    exact h1.2.2
theorem pc_348 : ∀ (n j : Nat) (rho : RH), JJ AL9 NO9 AL9 rho → j ≤ iI rho → PC (l9_passes_348 n (nI j) rho) (fun _ m => QZ rho m) := by
  intro n
  induction n with
  | zero =>
    intro j rho hj hjI
    rw [l9_passes_348]
    exact pc_none
  | succ n ih =>
    intro j rho hj hjI
    have hI := hj.1.I
    have hC := hj.1.C
    rw [l9_passes_348]
    refine pc_if (fun _ => pc_some ⟨hj, TT.rf, rfl, rfl⟩) (fun c => ?_)
    rw [hI.1, nI_leI (by omega) (by omega)] at c
    refine pc_if (fun _ => ?_) (fun _ => pc_some ⟨hj, TT.rf, rfl, rfl⟩)
    refine pc_ob (pc_countOf hC) (fun r m h => ?_)
    obtain ⟨rfl, rfl⟩ := h
    refine pc_ck (fun _ => ?_)
    refine pc_wr ?_
    rw [nI_clamp (n := j) (by omega)]
    have hj2 := told_J (i := j) hj (Nat.le_refl _) hC.2
    have hK : KQ m (up2 m 14 j (nI (cntI m (nI j) 0 2))) := ⟨TT.rf, rfl, rfl, rfl, rfl, rfl⟩
    have eI : iI (up2 m 14 j (nI (cntI m (nI j) 0 2))) = iI m := rfl
    generalize up2 m 14 j (nI (cntI m (nI j) 0 2)) = B at hj2 hK eI ⊢
    refine pc_380 (rho0 := B) (fun m2 h2 => ?_) FU 0 B EqD.rf
    rw [nI_1]
    exact (ih (j + 1) m2 (h2.jJ hj2) (by rw [h2.qs.eI]; omega)).mono (fun _ m3 q => QZ.of (hK.tr h2.qs.kg.kq) q)
theorem pc_327 : ∀ (n j : Nat) (rho : RH), JJ AL9 NO9 AL9 rho → j ≤ iI rho → PC (l9_passes_327 n (nI j) rho) (fun _ m => QZ rho m) := by
  intro n
  induction n with
  | zero =>
    intro j rho hj hjI
    rw [l9_passes_327]
    exact pc_none
  | succ n ih =>
    intro j rho hj hjI
    have hI := hj.1.I
    rw [l9_passes_327]
    refine pc_if (fun _ => pc_348 FU 0 rho hj (Nat.zero_le _)) (fun c => ?_)
    rw [hI.1, nI_leI (by omega) (by omega)] at c
    rw [nI_1]
    refine pc_ob (pc_dequeues hj (by omega)) (fun _ m h => ?_)
    exact (ih (j + 1) m h.1 (Nat.le_trans (by omega) h.2.1.1.2.1)).mono (fun _ m3 q => QZ.of h.2 q)
theorem pc_297 : ∀ (n j : Nat) (rho : RH), JJ AL9 NO9 AL9 rho → j ≤ 100 → PC (l9_passes_297 n (nI j) rho) (fun _ m => QZ rho m) := by
  intro n
  induction n with
  | zero =>
    intro j rho hj hjI
    rw [l9_passes_297]
    exact pc_none
  | succ n ih =>
    intro j rho hj hjI
    rw [l9_passes_297]
    refine pc_if (fun _ => pc_327 FU 0 rho hj (Nat.zero_le _)) (fun c => ?_)
    refine pc_ck (fun cv => ?_)
    have hj9 : j < 100 := by
      obtain ⟨a, ha, e⟩ := vq_ix cv (by omega)
      have := (nI_inj (by omega) (by omega)).mp e
      omega
    have hp : j < iP rho := lt_nv (by omega) c
    rw [nI_clamp (n := j) (by omega), nI_1]
    refine pc_if (fun _ => ?_) (fun _ => ih (j + 1) rho hj (by omega))
    refine pc_ob (pc_goesRepair hj hp hj9) (fun _ m h => ?_)
    exact (ih (j + 1) m h.1 (by omega)).mono (fun _ m3 q => QZ.of h.2 q)
theorem jr_add {j : Nat} (hj : JJ AL9 NO9 (fun q => q < j) rho) (h : rho 56 j = 8 → rho 0 0 < rho 54 j) : JJ AL9 NO9 (fun q => q < j + 1) rho := by
  refine ⟨hj.1, hj.2.1, hj.2.2.1, hj.2.2.2.1, fun q hq => ?_, hj.2.2.2.2.2.1, hj.2.2.2.2.2.2⟩
  obtain ⟨b1, b2, b3, b4, b5, b6, b7, b8⟩ := hj.2.2.2.2.1 q hq
  refine ⟨b1, b2, b3, b4, fun z => ⟨(b5 z).1, fun y => ?_⟩, b6, b7, b8⟩
  by_cases e : q = j
  · rw [e] at z ⊢
    exact h z
  · exact (b5 z).2 (by omega)
theorem jr_all {j : Nat} (hj : JJ AL9 NO9 (fun q => q < j) rho) (h : iR rho ≤ j) : JJ AL9 NO9 AL9 rho := by
  refine ⟨hj.1, hj.2.1, hj.2.2.1, hj.2.2.2.1, fun q hq => ?_, hj.2.2.2.2.2.1, hj.2.2.2.2.2.2⟩
  obtain ⟨b1, b2, b3, b4, b5, b6, b7, b8⟩ := hj.2.2.2.2.1 q hq
  exact ⟨b1, b2, b3, b4, fun z => ⟨(b5 z).1, fun _ => (b5 z).2 (by omega)⟩, b6, b7, b8⟩
theorem pc_232 : ∀ (n j : Nat) (rho : RH), JJ AL9 NO9 (fun q => q < j) rho → j ≤ iR rho → PC (l9_passes_232 n (nI j) rho) (fun _ m => QZ rho m) := by
  intro n
  induction n with
  | zero =>
    intro j rho hj hjR
    rw [l9_passes_232]
    exact pc_none
  | succ n ih =>
    intro j rho hj hjR
    have hR := hj.1.R
    rw [l9_passes_232]
    refine pc_if (fun c => ?_) (fun c => ?_)
    · rw [hR.1, nI_leI (by omega) (by omega)] at c
      exact pc_297 FU 0 rho (jr_all hj c) (by omega)
    · rw [hR.1, nI_leI (by omega) (by omega)] at c
      refine pc_ck (fun _ => ?_)
      rw [nI_clamp (n := j) (by omega), nI_1]
      refine pc_if (fun c8 => ?_) (fun c8 => ih (j + 1) rho (jr_add hj (fun z => absurd z c8)) (by omega))
      refine pc_if (fun ct => ?_) (fun ct => ?_)
      · refine pc_ob (pc_goesRequest hj (by omega) c8 ct) (fun _ m h => ?_)
        exact (ih (j + 1) m (jr_add h.1 (fun _ => by rw [h.2.2.1, h.2.2.2.1]; exact ct)) (by rw [h.2.eR]; omega)).mono (fun _ m3 q => QZ.of h.2 q)
      · refine pc_ob (pc_endsRequest hj (by omega) c8 (Or.inr (Or.inr rfl)) (fun z => absurd z (by decide))) (fun _ m h => ?_)
        exact (ih (j + 1) m (jr_add h.1 (fun z => by rw [h.2.2] at z; exact absurd z (by decide))) (by rw [h.2.1.eR]; omega)).mono (fun _ m3 q => QZ.of h.2.1 q)
theorem jr_0 (hj : JJ AL9 NO9 NO9 rho) : JJ AL9 NO9 (fun q => q < 0) rho := by
  refine ⟨hj.1, hj.2.1, hj.2.2.1, hj.2.2.2.1, fun q hq => ?_, hj.2.2.2.2.2.1, hj.2.2.2.2.2.2⟩
  obtain ⟨b1, b2, b3, b4, b5, b6, b7, b8⟩ := hj.2.2.2.2.1 q hq
  exact ⟨b1, b2, b3, b4, fun z => ⟨(b5 z).1, fun y => absurd y (Nat.not_lt_zero _)⟩, b6, b7, b8⟩
theorem pc_196 : ∀ (n j : Nat) (rho : RH), JJ AL9 NO9 NO9 rho → j ≤ iC rho → PC (l9_passes_196 n (nI j - 1) rho) (fun _ m => QZ rho m) := by
  intro n
  induction n with
  | zero =>
    intro j rho hj hjC
    rw [l9_passes_196]
    exact pc_none
  | succ n ih =>
    intro j rho hj hjC
    have hC := hj.1.C
    rw [l9_passes_196]
    refine pc_if (fun _ => pc_232 FU 0 rho (jr_0 hj) (Nat.zero_le _)) (fun c => ?_)
    obtain ⟨j, rfl⟩ : ∃ j', j = j' + 1 := ⟨j - 1, by
      have : j ≠ 0 := fun z => c (by rw [z]; decide)
      omega⟩
    rw [nI_pred, nI_pm]
    refine pc_ck (fun _ => ?_)
    rw [nI_clamp (n := j) (by omega)]
    refine pc_if (fun _ => ih j rho hj (by omega)) (fun _ => ?_)
    refine pc_if (fun c2 => ?_) (fun _ => ih j rho hj (by omega))
    refine pc_ob (pc_goesCall hj (by omega) c2) (fun _ m h => ?_)
    exact (ih j m h.1 (Nat.le_trans (by omega) h.2.1.1.1)).mono (fun _ m3 q => QZ.of h.2.kq q)
theorem pc_160 {C : Nat} : ∀ (n : Nat) (x2 : Int32) (rho : RH), JJ AL9 NO9 NO9 rho → C ≤ iC rho → PC (l9_passes_160 n (nI C) x2 rho) (fun _ m => QZ rho m) := by
  intro n
  induction n with
  | zero =>
    intro x2 rho hj hC
    rw [l9_passes_160]
    exact pc_none
  | succ n ih =>
    intro x2 rho hj hC
    rw [l9_passes_160]
    refine pc_if (fun _ => pc_196 FU C rho hj hC) (fun _ => ?_)
    refine pc_ck (fun _ => ?_)
    have key : ∀ v, PC (l9_passes_160 n (nI C) (x2 + 1) (up2 rho 44 x2.toNatClampNeg v)) (fun _ m => QZ rho m) := fun v => by
      have hE : EqD rho (up2 rho 44 x2.toNatClampNeg v) := eqd_w EqD.rf rfl
      exact (ih _ _ (hE.jJ hj) (by rw [hE.qs.eC]; exact hC)).mono (fun _ m3 q => QZ.of hE.qs.kg.kq q)
    exact pc_if (fun _ => pc_wr (key 1)) (fun _ => pc_wr (key 0))
theorem pc_111 : ∀ (n j : Nat) (rho : RH), JJ AL9 NO9 NO9 rho → j ≤ 400 → PC (l9_passes_111 n (nI j) rho) (fun _ m => QZ rho m) := by
  intro n
  induction n with
  | zero =>
    intro j rho hj hjC
    rw [l9_passes_111]
    exact pc_none
  | succ n ih =>
    intro j rho hj hjC
    have hC := hj.1.C
    rw [l9_passes_111]
    refine pc_if (fun _ => ?_) (fun c => ?_)
    · rw [hC.1]
      exact pc_160 FU 0 rho hj (Nat.le_refl _)
    · rw [hC.1, nI_leI (by omega) (by omega)] at c
      refine pc_ck (fun _ => ?_)
      rw [nI_clamp (n := j) (by omega), nI_1]
      refine pc_if (fun c1 => ?_) (fun _ => ih (j + 1) rho hj (by omega))
      refine pc_if (fun _ => ih (j + 1) rho hj (by omega)) (fun _ => ?_)
      refine pc_ob (pc_finishes hj (by omega) c1) (fun _ m h => ?_)
      exact (ih (j + 1) m h.1 (by omega)).mono (fun _ m3 q => QZ.of h.2 q)
theorem jl_add {j : Nat} (hl : JL (fun q => q < j) NO9 rho) (h : rho 37 j ≤ 2 → rho 0 0 < rho 38 j) : JL (fun q => q < j + 1) NO9 rho := by
  intro k hk hlk
  have h1 := hl k hk hlk
  refine ⟨fun y => ?_, h1.2⟩
  by_cases e : k = j
  · rw [e] at hlk ⊢
    exact h hlk
  · exact h1.1 (by omega)
theorem pc_68 : ∀ (n j : Nat) (rho : RH), JJ (fun q => q < j) NO9 NO9 rho → j ≤ 400 → PC (l9_passes_68 n (nI j) rho) (fun _ m => QZ rho m) := by
  intro n
  induction n with
  | zero =>
    intro j rho hj hjC
    rw [l9_passes_68]
    exact pc_none
  | succ n ih =>
    intro j rho hj hjC
    have hC := hj.1.C
    rw [l9_passes_68]
    refine pc_if (fun c => ?_) (fun c => ?_)
    · rw [hC.1, nI_leI (by omega) (by omega)] at c
      exact pc_111 FU 0 rho ⟨hj.1, fun k hk hlk => ⟨fun _ => (hj.2.1 k hk hlk).1 (by omega), (hj.2.1 k hk hlk).2⟩, hj.2.2⟩ (by omega)
    · rw [hC.1, nI_leI (by omega) (by omega)] at c
      refine pc_ob (pc_hasEnded (by omega)) (fun r m h => ?_)
      obtain ⟨rfl, hr⟩ := h
      rw [nI_1]
      refine pc_if (fun cr => ?_) (fun cr => ih (j + 1) m ⟨hj.1, jl_add hj.2.1 (fun z => absurd (hr.mpr z) cr), hj.2.2⟩ (by omega))
      refine pc_ck (fun _ => ?_)
      rw [nI_clamp (n := j) (by omega)]
      refine pc_if (fun ct => ih (j + 1) m ⟨hj.1, jl_add hj.2.1 (fun _ => ct), hj.2.2⟩ (by omega)) (fun ct => ?_)
      refine pc_ob (pc_endsCall hj.1 hj.2.2.2.2.2.1.jO hj.2.2.2.2.2.2 hj.2.1 (by omega) (hr.mp cr) (by decide)) (fun _ m2 h => ?_)
      obtain ⟨b1, b2, -, b4, b5⟩ := h
      have hj2 : JJ (fun q => q < j + 1) NO9 NO9 m2 := b1.jJ hj (jl_add b2 (fun z => by rw [b4] at z; exact absurd z (by decide))) b5
      exact (ih (j + 1) m2 hj2 (by omega)).mono (fun _ m3 q => QZ.of b1.kg.kq q)
theorem pc_12 {Q : Int32 → RH → Prop} {rho0 : RH} (hK : ∀ m, EqD rho0 m → PC (l9_passes_68 FU 0 m) Q) : ∀ (n : Nat) (x1 : Int32) (rho : RH), EqD rho0 rho → PC (l9_passes_12 n x1 rho) Q := by
  intro n
  induction n with
  | zero =>
    intro x1 rho h
    rw [l9_passes_12]
    exact pc_none
  | succ n ih =>
    intro x1 rho h
    rw [l9_passes_12]
    refine pc_if (fun _ => hK _ h) (fun _ => ?_)
    refine pc_ck (fun _ => ?_)
    refine pc_if (fun _ => pc_if (fun _ => pc_wr (ih _ _ (eqd_w h rfl))) (fun _ => pc_wr (ih _ _ (eqd_w h rfl)))) (fun _ => pc_wr (ih _ _ (eqd_w h rfl)))
theorem tick_J (hj : JJ AL9 NO9 AL9 rho) {t : Nat} (ht : rho 0 0 = nI t) (ht9 : t + 1 ≤ 600) : JJ (fun q => q < 0) NO9 NO9 (up2 rho 0 0 (nI (t + 1))) := by
  refine ⟨hj.1, fun k hk hlk => ⟨fun z => absurd z (Nat.not_lt_zero _), (hj.2.1 k hk hlk).2⟩, hj.2.2.1, hj.2.2.2.1, fun q hq => ?_, ⟨⟨t + 1, by omega, rfl⟩, hj.2.2.2.2.2.1.2⟩, hj.2.2.2.2.2.2⟩
  obtain ⟨b1, b2, b3, b4, b5, b6, b7, b8⟩ := hj.2.2.2.2.1 q hq
  have up : ∀ x : Int32, x ≤ rho 0 0 → x ≤ nI (t + 1) := fun x hx => by
    rw [ht] at hx
    rw [Int32.le_iff_toInt_le, nI_toInt (by omega)] at hx ⊢
    omega
  refine ⟨b1, b2, up _ b3, b4, fun z => ⟨?_, fun y => y.elim⟩, fun z => ⟨(b6 z).1, (b6 z).2.1, up _ (b6 z).2.2⟩, b7, b8⟩
  have h1 := (b5 z).2 trivial
  rw [ht] at h1
  show nI (t + 1) ≤ rho 54 q
  rw [Int32.lt_iff_toInt_lt, nI_toInt (by omega)] at h1
  rw [Int32.le_iff_toInt_le, nI_toInt (by omega)]
  omega
theorem pc_passes (hj : JJ AL9 NO9 AL9 rho) {t : Nat} (ht : rho 0 0 = nI t) (ht9 : t + 1 ≤ 600) : PC (f9_passes rho) (fun _ m => JJ AL9 NO9 AL9 m ∧ TT rho m ∧ m 0 0 = nI (t + 1) ∧ m 64 0 = rho 64 0) := by
  unfold f9_passes
  refine pc_wr ?_
  rw [ht, nI_1]
  have h1 := tick_J hj ht ht9
  have hT : TT rho (up2 rho 0 0 (nI (t + 1))) := TT.rf
  have e0 : (up2 rho 0 0 (nI (t + 1))) 0 0 = nI (t + 1) := up2_s _ _ _ _
  have e6 : (up2 rho 0 0 (nI (t + 1))) 64 0 = rho 64 0 := rfl
  generalize up2 rho 0 0 (nI (t + 1)) = B at h1 hT e0 e6 ⊢
  refine pc_12 (rho0 := B) (fun m h => ?_) FU 0 B EqD.rf
  refine (pc_68 FU 0 m (h.jJ h1) (by omega)).mono (fun _ m2 q => ?_)
  exact ⟨q.1, (hT.tr h.qs.tT).tr q.2.1, by rw [q.2.2.1, h.1 0 0 (df rfl)]; exact e0, by rw [q.2.2.2, h.1 64 0 (df rfl)]; exact e6⟩
theorem pc_passL {x : Nat} (hx : x ≤ 50) : ∀ (n j t : Nat) (rho : RH), JJ AL9 NO9 AL9 rho → rho 0 0 = nI t → j ≤ x → t + (x - j) ≤ 600 → PC (l9_pass_36 n (nI x) (nI j) rho) (fun r m => JJ AL9 NO9 AL9 m ∧ TT rho m ∧ m 0 0 = nI (t + (x - j)) ∧ r = m 0 0 ∧ m 64 0 = rho 64 0) := by
  intro n
  induction n with
  | zero =>
    intro j t rho hj ht hjx h6
    rw [l9_pass_36]
    exact pc_none
  | succ n ih =>
    intro j t rho hj ht hjx h6
    rw [l9_pass_36]
    refine pc_if (fun c => ?_) (fun c => ?_)
    · rw [nI_leI (by omega) (by omega)] at c
      refine pc_some ⟨hj, TT.rf, ?_, rfl, rfl⟩
      rw [ht]
      congr 1
      omega
    · rw [nI_leI (by omega) (by omega)] at c
      rw [nI_1]
      refine pc_ob (pc_passes hj ht (by omega)) (fun _ m h => ?_)
      refine (ih (j + 1) (t + 1) m h.1 h.2.2.1 (by omega) (by omega)).mono (fun r m3 q => ⟨q.1, h.2.1.tr q.2.1, ?_, q.2.2.2.1, q.2.2.2.2.trans h.2.2.2⟩)
      rw [q.2.2.1]
      congr 1
      omega
theorem up64 {v : Int32} (hj : JJ AL9 NO9 AL9 rho) : JJ AL9 NO9 AL9 (up2 rho 64 0 v) ∧ TT rho (up2 rho 64 0 v) := ⟨hj, TT.rf⟩
theorem pc_pass {x t : Nat} (hx : 1 ≤ x ∧ x ≤ 50) (hj : JJ AL9 NO9 AL9 rho) (ht : rho 0 0 = nI t) (h6 : t + x ≤ 600) : PC (f9_pass (nI x) rho) (fun r m => JJ AL9 NO9 AL9 m ∧ TT rho m ∧ m 0 0 = nI (t + x) ∧ r = nI (t + x) ∧ m 64 0 = 0) := by
  have hn1 : ¬ (nI x < 1 ∨ 50 < nI x) := by
    rw [l1, l50, Int32.lt_iff_toInt_lt, Int32.lt_iff_toInt_lt, nI_toInt (by omega), nI_toInt (by omega), nI_toInt (by omega)]
    omega
  have hn2 : ¬ 600 < rho 0 0 + nI x := by
    rw [l600, ht, nI_k, Int32.lt_iff_toInt_lt, nI_toInt (by omega), nI_toInt (by omega)]
    omega
  rw [e9_pass, if_neg hn1, if_neg hn2]
  obtain ⟨b1, b2⟩ := up64 (v := 0) hj
  refine (pc_passL hx.2 FU 0 t _ b1 ht (by omega) (by omega)).mono (fun r m q => ⟨q.1, b2.tr q.2.1, q.2.2.1, q.2.2.2.1.trans q.2.2.1, q.2.2.2.2⟩)
end PP9
