/-! which counts a command of the model leaves as they are -/
section KF9
def KF (G : Nat) (rho0 m : RH) : Prop := ∀ j, m G j = rho0 G j
def HA9 (G : Nat) : Prop := G = 6 ∨ G = 51 ∨ G = 0
def HP9 (G : Nat) : Prop := G = 6 ∨ G = 51
def HR9 (G : Nat) : Prop := G = 6
def HI9 (G : Nat) : Prop := G = 51 ∨ G = 0
theorem HP9.a {G : Nat} (h : HP9 G) : HA9 G := h.elim Or.inl (fun z => Or.inr (Or.inl z))
theorem HR9.a {G : Nat} (h : HR9 G) : HA9 G := Or.inl h
theorem HI9.a {G : Nat} (h : HI9 G) : HA9 G := Or.inr h
theorem HA9.a {G : Nat} (h : HA9 G) : HA9 G := h
theorem HA9.ne {F G : Nat} (h : HA9 G) (e : ((F == 6) || ((F == 51) || (F == 0))) = false) : G ≠ F := by
  rcases h with rfl | rfl | rfl <;> (intro z; subst z; cases e)
theorem HP9.ne {F G : Nat} (h : HP9 G) (e : ((F == 6) || (F == 51)) = false) : G ≠ F := by
  rcases h with rfl | rfl <;> (intro z; subst z; cases e)
theorem HI9.ne {F G : Nat} (h : HI9 G) (e : ((F == 51) || (F == 0)) = false) : G ≠ F := by
  rcases h with rfl | rfl <;> (intro z; subst z; cases e)
theorem HR9.ne {F G : Nat} (h : HR9 G) (e : (F == 6) = false) : G ≠ F := by
  rcases h with rfl; intro z; subst z; cases e
variable {rho0 rho : RH} {G : Nat} {Q : Int32 → RH → Prop}
theorem pc_kw {F j : Nat} {v : Int32} {k : RH → Option (Int32 × RH)} (h : KF G rho0 rho) (hF : G ≠ F) (h2 : ∀ m, KF G rho0 m → PC (k m) Q) : PC (wr (up2 rho F j v) k) Q :=
  pc_wr (h2 _ (fun i => (up2_f _ _ _ _ hF).trans (h i)))
theorem KF.rf : KF G rho rho := fun _ => rfl
theorem kf_f9_goes {x1 x2 x3 : Int32} (hG : HA9 G) (h : KF G rho0 rho) : PC (f9_goes x1 x2 x3 rho) (fun _ m => KF G rho0 m) := by
  unfold f9_goes
  repeat' (first | (with_reducible first | exact pc_none | exact pc_some (by assumption) | (refine pc_if (fun _ => ?_) (fun _ => ?_)) | (refine pc_kw (by assumption) ?_ (fun _ _ => ?_))) | exact hG.ne rfl)
theorem kf_f9_setsEnd {x1 x2 : Int32} (hG : HA9 G) (h : KF G rho0 rho) : PC (f9_setsEnd x1 x2 rho) (fun _ m => KF G rho0 m) := by
  unfold f9_setsEnd
  repeat' (first | (with_reducible first | exact pc_none | exact pc_some (by assumption) | (refine pc_if (fun _ => ?_) (fun _ => ?_)) | (refine pc_kw (by assumption) ?_ (fun _ _ => ?_))) | exact hG.ne rfl)
theorem kf_l9_repairsFor_7 (hG : HA9 G) : ∀ (n : Nat) (x0 x1 : Int32) (rho : RH), KF G rho0 rho → PC (l9_repairsFor_7 n x0 x1 rho) (fun _ m => KF G rho0 m) := by
  intro n
  induction n with
  | zero =>
    intro x0 x1 rho h
    rw [l9_repairsFor_7]
    exact pc_none
  | succ n ih =>
    intro x0 x1 rho h
    rw [l9_repairsFor_7]
    repeat' (first | (with_reducible first | exact pc_none | exact pc_some (by assumption) | (refine pc_if (fun _ => ?_) (fun _ => ?_)) | (refine pc_kw (by assumption) ?_ (fun _ _ => ?_)) | (refine pc_ro (ro_f9_hasRunIn) (fun _ => ?_)) | exact ih _ _ _ (by assumption)) | exact hG.ne rfl)
theorem kf_f9_repairsFor {x1 : Int32} (hG : HA9 G) (h : KF G rho0 rho) : PC (f9_repairsFor x1 rho) (fun _ m => KF G rho0 m) := by
  unfold f9_repairsFor
  repeat' (first | (with_reducible first | exact pc_none | exact pc_some (by assumption) | (refine pc_if (fun _ => ?_) (fun _ => ?_)) | (refine pc_kw (by assumption) ?_ (fun _ _ => ?_)) | exact kf_l9_repairsFor_7 hG _ _ _ _ (by assumption)) | exact hG.ne rfl)
theorem kf_l9_endsCall_15 (hG : HA9 G) : ∀ (n : Nat) (x0 : Int32) (rho : RH), KF G rho0 rho → PC (l9_endsCall_15 n x0 rho) (fun _ m => KF G rho0 m) := by
  intro n
  induction n with
  | zero =>
    intro x0 rho h
    rw [l9_endsCall_15]
    exact pc_none
  | succ n ih =>
    intro x0 rho h
    rw [l9_endsCall_15]
    repeat' (first | (with_reducible first | exact pc_none | exact pc_some (by assumption) | (refine pc_if (fun _ => ?_) (fun _ => ?_)) | (refine pc_kw (by assumption) ?_ (fun _ _ => ?_)) | (refine pc_ro (ro_f9_liveOf) (fun _ => ?_)) | exact kf_f9_repairsFor hG (by assumption) | (refine pc_ob (kf_f9_repairsFor (rho0 := rho0) hG (by assumption)) (fun _ _ _ => ?_)) | exact kf_f9_setsEnd hG (by assumption) | (refine pc_ob (kf_f9_setsEnd (rho0 := rho0) hG (by assumption)) (fun _ _ _ => ?_)) | exact ih _ _ (by assumption)) | exact hG.ne rfl)
theorem kf_f9_endsCall {x1 x2 : Int32} (hG : HA9 G) (h : KF G rho0 rho) : PC (f9_endsCall x1 x2 rho) (fun _ m => KF G rho0 m) := by
  unfold f9_endsCall
  repeat' (first | (with_reducible first | exact pc_none | exact pc_some (by assumption) | (refine pc_if (fun _ => ?_) (fun _ => ?_)) | (refine pc_kw (by assumption) ?_ (fun _ _ => ?_)) | exact kf_f9_setsEnd hG (by assumption) | (refine pc_ob (kf_f9_setsEnd (rho0 := rho0) hG (by assumption)) (fun _ _ _ => ?_)) | exact kf_l9_endsCall_15 hG _ _ _ (by assumption)) | exact hG.ne rfl)
theorem kf_f9_finishesWork {x1 : Int32} (hG : HA9 G) (h : KF G rho0 rho) : PC (f9_finishesWork x1 rho) (fun _ m => KF G rho0 m) := by
  unfold f9_finishesWork
  repeat' (first | (with_reducible first | exact pc_none | exact pc_some (by assumption) | (refine pc_if (fun _ => ?_) (fun _ => ?_)) | (refine pc_kw (by assumption) ?_ (fun _ _ => ?_)) | exact kf_f9_endsCall hG (by assumption) | (refine pc_ob (kf_f9_endsCall (rho0 := rho0) hG (by assumption)) (fun _ _ _ => ?_))) | exact hG.ne rfl)
theorem kf_f9_judges {x1 x2 x3 : Int32} (hG : HA9 G) (h : KF G rho0 rho) : PC (f9_judges x1 x2 x3 rho) (fun _ m => KF G rho0 m) := by
  unfold f9_judges
  repeat' (first | (with_reducible first | exact pc_none | exact pc_some (by assumption) | (refine pc_if (fun _ => ?_) (fun _ => ?_)) | (refine pc_kw (by assumption) ?_ (fun _ _ => ?_))) | exact hG.ne rfl)
theorem kf_b9_looksAt_175 {x1 x2 : Int32} (hG : HA9 G) (h : KF G rho0 rho) : PC (b9_looksAt_175 x1 x2 rho) (fun _ m => KF G rho0 m) := by
  unfold b9_looksAt_175
  repeat' (first | (with_reducible first | exact pc_none | exact pc_some (by assumption) | (refine pc_if (fun _ => ?_) (fun _ => ?_)) | (refine pc_kw (by assumption) ?_ (fun _ _ => ?_)) | exact kf_f9_judges hG (by assumption) | (refine pc_ob (kf_f9_judges (rho0 := rho0) hG (by assumption)) (fun _ _ _ => ?_))) | exact hG.ne rfl)
theorem kf_b9_looksAt_150 {x1 x2 x3 x4 s1 s2 : Int32} (hG : HA9 G) (h : KF G rho0 rho) : PC (b9_looksAt_150 x1 x2 x3 x4 s1 s2 rho) (fun _ m => KF G rho0 m) := by
  unfold b9_looksAt_150
  repeat' (first | (with_reducible first | exact pc_none | exact pc_some (by assumption) | (refine pc_if (fun _ => ?_) (fun _ => ?_)) | (refine pc_kw (by assumption) ?_ (fun _ _ => ?_)) | exact kf_b9_looksAt_175 hG (by assumption) | (refine pc_ob (kf_b9_looksAt_175 (rho0 := rho0) hG (by assumption)) (fun _ _ _ => ?_))) | exact hG.ne rfl)
theorem kf_b9_looksAt_119 {x1 x2 x3 s0 : Int32} (hG : HA9 G) (h : KF G rho0 rho) : PC (b9_looksAt_119 x1 x2 x3 s0 rho) (fun _ m => KF G rho0 m) := by
  unfold b9_looksAt_119
  repeat' (first | (with_reducible first | exact pc_none | exact pc_some (by assumption) | (refine pc_if (fun _ => ?_) (fun _ => ?_)) | (refine pc_kw (by assumption) ?_ (fun _ _ => ?_)) | exact kf_b9_looksAt_150 hG (by assumption) | (refine pc_ob (kf_b9_looksAt_150 (rho0 := rho0) hG (by assumption)) (fun _ _ _ => ?_))) | exact hG.ne rfl)
theorem kf_b9_looksAt_88 {x1 x2 x3 s1 s2 : Int32} (hG : HA9 G) (h : KF G rho0 rho) : PC (b9_looksAt_88 x1 x2 x3 s1 s2 rho) (fun _ m => KF G rho0 m) := by
  unfold b9_looksAt_88
  repeat' (first | (with_reducible first | exact pc_none | exact pc_some (by assumption) | (refine pc_if (fun _ => ?_) (fun _ => ?_)) | (refine pc_kw (by assumption) ?_ (fun _ _ => ?_)) | exact kf_b9_looksAt_119 hG (by assumption) | (refine pc_ob (kf_b9_looksAt_119 (rho0 := rho0) hG (by assumption)) (fun _ _ _ => ?_))) | exact hG.ne rfl)
theorem kf_b9_looksAt_26 {x1 s0 : Int32} (hG : HA9 G) (h : KF G rho0 rho) : PC (b9_looksAt_26 x1 s0 rho) (fun _ m => KF G rho0 m) := by
  unfold b9_looksAt_26
  repeat' (first | (with_reducible first | exact pc_none | exact pc_some (by assumption) | (refine pc_if (fun _ => ?_) (fun _ => ?_)) | (refine pc_kw (by assumption) ?_ (fun _ _ => ?_)) | exact kf_b9_looksAt_175 hG (by assumption) | (refine pc_ob (kf_b9_looksAt_175 (rho0 := rho0) hG (by assumption)) (fun _ _ _ => ?_)) | exact kf_b9_looksAt_88 hG (by assumption) | (refine pc_ob (kf_b9_looksAt_88 (rho0 := rho0) hG (by assumption)) (fun _ _ _ => ?_))) | exact hG.ne rfl)
theorem kf_f9_looksAt {x1 : Int32} (hG : HA9 G) (h : KF G rho0 rho) : PC (f9_looksAt x1 rho) (fun _ m => KF G rho0 m) := by
  unfold f9_looksAt
  repeat' (first | (with_reducible first | exact pc_none | exact pc_some (by assumption) | (refine pc_if (fun _ => ?_) (fun _ => ?_)) | (refine pc_kw (by assumption) ?_ (fun _ _ => ?_)) | exact kf_b9_looksAt_26 hG (by assumption) | (refine pc_ob (kf_b9_looksAt_26 (rho0 := rho0) hG (by assumption)) (fun _ _ _ => ?_))) | exact hG.ne rfl)
theorem kf_b9_tries_514 {x7 : Int32} (hG : HA9 G) (h : KF G rho0 rho) : PC (b9_tries_514 x7 rho) (fun _ m => KF G rho0 m) := by
  unfold b9_tries_514
  repeat' (first | (with_reducible first | exact pc_none | exact pc_some (by assumption) | (refine pc_if (fun _ => ?_) (fun _ => ?_)) | (refine pc_kw (by assumption) ?_ (fun _ _ => ?_)) | (refine pc_ro (ro_f9_isKnown) (fun _ => ?_)) | exact kf_f9_looksAt hG (by assumption) | (refine pc_ob (kf_f9_looksAt (rho0 := rho0) hG (by assumption)) (fun _ _ _ => ?_)) | exact kf_f9_setsEnd hG (by assumption) | (refine pc_ob (kf_f9_setsEnd (rho0 := rho0) hG (by assumption)) (fun _ _ _ => ?_))) | exact hG.ne rfl)
theorem kf_b9_tries_477 {x6 x7 x11 : Int32} (hG : HA9 G) (h : KF G rho0 rho) : PC (b9_tries_477 x6 x7 x11 rho) (fun _ m => KF G rho0 m) := by
  unfold b9_tries_477
  repeat' (first | (with_reducible first | exact pc_none | exact pc_some (by assumption) | (refine pc_if (fun _ => ?_) (fun _ => ?_)) | (refine pc_kw (by assumption) ?_ (fun _ _ => ?_)) | exact kf_b9_tries_514 hG (by assumption) | (refine pc_ob (kf_b9_tries_514 (rho0 := rho0) hG (by assumption)) (fun _ _ _ => ?_))) | exact hG.ne rfl)
theorem kf_f9_runs {x1 : Int32} (hG : HA9 G) (h : KF G rho0 rho) : PC (f9_runs x1 rho) (fun _ m => KF G rho0 m) := by
  unfold f9_runs
  repeat' (first | (with_reducible first | exact pc_none | exact pc_some (by assumption) | (refine pc_if (fun _ => ?_) (fun _ => ?_)) | (refine pc_kw (by assumption) ?_ (fun _ _ => ?_))) | exact hG.ne rfl)
theorem kf_b9_tries_391 {x3 x6 x7 s1 s2 : Int32} (hG : HA9 G) (h : KF G rho0 rho) : PC (b9_tries_391 x3 x6 x7 s1 s2 rho) (fun _ m => KF G rho0 m) := by
  unfold b9_tries_391
  repeat' (first | (with_reducible first | exact pc_none | exact pc_some (by assumption) | (refine pc_if (fun _ => ?_) (fun _ => ?_)) | (refine pc_kw (by assumption) ?_ (fun _ _ => ?_)) | exact kf_b9_tries_477 hG (by assumption) | (refine pc_ob (kf_b9_tries_477 (rho0 := rho0) hG (by assumption)) (fun _ _ _ => ?_)) | (refine pc_ro (ro_f9_countOf) (fun _ => ?_)) | exact kf_f9_runs hG (by assumption) | (refine pc_ob (kf_f9_runs (rho0 := rho0) hG (by assumption)) (fun _ _ _ => ?_))) | exact hG.ne rfl)
theorem kf_b9_tries_369 {x3 x6 x7 x8 s0 : Int32} (hG : HA9 G) (h : KF G rho0 rho) : PC (b9_tries_369 x3 x6 x7 x8 s0 rho) (fun _ m => KF G rho0 m) := by
  unfold b9_tries_369
  repeat' (first | (with_reducible first | exact pc_none | exact pc_some (by assumption) | (refine pc_if (fun _ => ?_) (fun _ => ?_)) | (refine pc_kw (by assumption) ?_ (fun _ _ => ?_)) | exact kf_b9_tries_391 hG (by assumption) | (refine pc_ob (kf_b9_tries_391 (rho0 := rho0) hG (by assumption)) (fun _ _ _ => ?_))) | exact hG.ne rfl)
theorem kf_b9_tries_315 {x1 x3 x4 x6 x7 s1 s2 : Int32} (hG : HA9 G) (h : KF G rho0 rho) : PC (b9_tries_315 x1 x3 x4 x6 x7 s1 s2 rho) (fun _ m => KF G rho0 m) := by
  unfold b9_tries_315
  repeat' (first | (with_reducible first | exact pc_none | exact pc_some (by assumption) | (refine pc_if (fun _ => ?_) (fun _ => ?_)) | (refine pc_kw (by assumption) ?_ (fun _ _ => ?_)) | exact kf_b9_tries_369 hG (by assumption) | (refine pc_ob (kf_b9_tries_369 (rho0 := rho0) hG (by assumption)) (fun _ _ _ => ?_)) | (refine pc_ro (ro_f9_policyOf) (fun _ => ?_))) | exact hG.ne rfl)
theorem kf_b9_tries_189 {x1 x3 x4 s0 : Int32} (hG : HA9 G) (h : KF G rho0 rho) : PC (b9_tries_189 x1 x3 x4 s0 rho) (fun _ m => KF G rho0 m) := by
  unfold b9_tries_189
  repeat' (first | (with_reducible first | exact pc_none | exact pc_some (by assumption) | (refine pc_if (fun _ => ?_) (fun _ => ?_)) | (refine pc_kw (by assumption) ?_ (fun _ _ => ?_)) | exact kf_b9_tries_315 hG (by assumption) | (refine pc_ob (kf_b9_tries_315 (rho0 := rho0) hG (by assumption)) (fun _ _ _ => ?_))) | exact hG.ne rfl)
theorem kf_f9_wantedVersion {x1 : Int32} (hG : HA9 G) (h : KF G rho0 rho) : PC (f9_wantedVersion x1 rho) (fun _ m => KF G rho0 m) := by
  unfold f9_wantedVersion
  repeat' (first | (with_reducible first | exact pc_none | exact pc_some (by assumption) | (refine pc_if (fun _ => ?_) (fun _ => ?_)) | (refine pc_kw (by assumption) ?_ (fun _ _ => ?_))) | exact hG.ne rfl)
theorem kf_b9_tries_155 {x1 x3 x4 s1 s2 s3 : Int32} (hG : HA9 G) (h : KF G rho0 rho) : PC (b9_tries_155 x1 x3 x4 s1 s2 s3 rho) (fun _ m => KF G rho0 m) := by
  unfold b9_tries_155
  repeat' (first | (with_reducible first | exact pc_none | exact pc_some (by assumption) | (refine pc_if (fun _ => ?_) (fun _ => ?_)) | (refine pc_kw (by assumption) ?_ (fun _ _ => ?_)) | exact kf_b9_tries_189 hG (by assumption) | (refine pc_ob (kf_b9_tries_189 (rho0 := rho0) hG (by assumption)) (fun _ _ _ => ?_)) | (refine pc_ro (ro_f9_chosen) (fun _ => ?_)) | exact kf_f9_wantedVersion hG (by assumption) | (refine pc_ob (kf_f9_wantedVersion (rho0 := rho0) hG (by assumption)) (fun _ _ _ => ?_))) | exact hG.ne rfl)
theorem kf_b9_tries_127 {x1 x2 x3 x4 s1 s2 : Int32} (hG : HA9 G) (h : KF G rho0 rho) : PC (b9_tries_127 x1 x2 x3 x4 s1 s2 rho) (fun _ m => KF G rho0 m) := by
  unfold b9_tries_127
  repeat' (first | (with_reducible first | exact pc_none | exact pc_some (by assumption) | (refine pc_if (fun _ => ?_) (fun _ => ?_)) | (refine pc_kw (by assumption) ?_ (fun _ _ => ?_)) | exact kf_b9_tries_155 hG (by assumption) | (refine pc_ob (kf_b9_tries_155 (rho0 := rho0) hG (by assumption)) (fun _ _ _ => ?_))) | exact hG.ne rfl)
theorem kf_b9_tries_100 {x1 x2 x3 x4 : Int32} (hG : HA9 G) (h : KF G rho0 rho) : PC (b9_tries_100 x1 x2 x3 x4 rho) (fun _ m => KF G rho0 m) := by
  unfold b9_tries_100
  repeat' (first | (with_reducible first | exact pc_none | exact pc_some (by assumption) | (refine pc_if (fun _ => ?_) (fun _ => ?_)) | (refine pc_kw (by assumption) ?_ (fun _ _ => ?_)) | exact kf_b9_tries_127 hG (by assumption) | (refine pc_ob (kf_b9_tries_127 (rho0 := rho0) hG (by assumption)) (fun _ _ _ => ?_))) | exact hG.ne rfl)
theorem kf_b9_tries_60 {x1 x2 x3 x4 s1 s2 : Int32} (hG : HA9 G) (h : KF G rho0 rho) : PC (b9_tries_60 x1 x2 x3 x4 s1 s2 rho) (fun _ m => KF G rho0 m) := by
  unfold b9_tries_60
  repeat' (first | (with_reducible first | exact pc_none | exact pc_some (by assumption) | (refine pc_if (fun _ => ?_) (fun _ => ?_)) | (refine pc_kw (by assumption) ?_ (fun _ _ => ?_)) | exact kf_b9_tries_100 hG (by assumption) | (refine pc_ob (kf_b9_tries_100 (rho0 := rho0) hG (by assumption)) (fun _ _ _ => ?_))) | exact hG.ne rfl)
theorem kf_f9_tries {x1 x2 : Int32} (hG : HA9 G) (h : KF G rho0 rho) : PC (f9_tries x1 x2 rho) (fun _ m => KF G rho0 m) := by
  unfold f9_tries
  repeat' (first | (with_reducible first | exact pc_none | exact pc_some (by assumption) | (refine pc_if (fun _ => ?_) (fun _ => ?_)) | (refine pc_kw (by assumption) ?_ (fun _ _ => ?_)) | exact kf_b9_tries_100 hG (by assumption) | (refine pc_ob (kf_b9_tries_100 (rho0 := rho0) hG (by assumption)) (fun _ _ _ => ?_)) | exact kf_b9_tries_60 hG (by assumption) | (refine pc_ob (kf_b9_tries_60 (rho0 := rho0) hG (by assumption)) (fun _ _ _ => ?_)) | (refine pc_ro (ro_f9_calledBy) (fun _ => ?_)) | (refine pc_ro (ro_f9_callerOf) (fun _ => ?_))) | exact hG.ne rfl)
theorem kf_f9_begins {x1 : Int32} (hG : HA9 G) (h : KF G rho0 rho) : PC (f9_begins x1 rho) (fun _ m => KF G rho0 m) := by
  unfold f9_begins
  repeat' (first | (with_reducible first | exact pc_none | exact pc_some (by assumption) | (refine pc_if (fun _ => ?_) (fun _ => ?_)) | (refine pc_kw (by assumption) ?_ (fun _ _ => ?_)) | exact kf_f9_tries hG (by assumption) | (refine pc_ob (kf_f9_tries (rho0 := rho0) hG (by assumption)) (fun _ _ _ => ?_))) | exact hG.ne rfl)
theorem kf_l9_looks_2 (hG : HA9 G) : ∀ (n : Nat) (x0 x1 : Int32) (rho : RH), KF G rho0 rho → PC (l9_looks_2 n x0 x1 rho) (fun _ m => KF G rho0 m) := by
  intro n
  induction n with
  | zero =>
    intro x0 x1 rho h
    rw [l9_looks_2]
    exact pc_none
  | succ n ih =>
    intro x0 x1 rho h
    rw [l9_looks_2]
    repeat' (first | (with_reducible first | exact pc_none | exact pc_some (by assumption) | (refine pc_if (fun _ => ?_) (fun _ => ?_)) | (refine pc_kw (by assumption) ?_ (fun _ _ => ?_)) | (refine pc_ro (ro_f9_isKnown) (fun _ => ?_)) | exact kf_f9_looksAt hG (by assumption) | (refine pc_ob (kf_f9_looksAt (rho0 := rho0) hG (by assumption)) (fun _ _ _ => ?_)) | exact ih _ _ _ (by assumption)) | exact hG.ne rfl)
theorem kf_f9_looks {x1 : Int32} (hG : HA9 G) (h : KF G rho0 rho) : PC (f9_looks x1 rho) (fun _ m => KF G rho0 m) := by
  unfold f9_looks
  repeat' (first | (with_reducible first | exact pc_none | exact pc_some (by assumption) | (refine pc_if (fun _ => ?_) (fun _ => ?_)) | (refine pc_kw (by assumption) ?_ (fun _ _ => ?_)) | exact kf_l9_looks_2 hG _ _ _ _ (by assumption)) | exact hG.ne rfl)
theorem kf_l9_turnsOff_7 (hG : HA9 G) : ∀ (n : Nat) (x0 x1 : Int32) (rho : RH), KF G rho0 rho → PC (l9_turnsOff_7 n x0 x1 rho) (fun _ m => KF G rho0 m) := by
  intro n
  induction n with
  | zero =>
    intro x0 x1 rho h
    rw [l9_turnsOff_7]
    exact pc_none
  | succ n ih =>
    intro x0 x1 rho h
    rw [l9_turnsOff_7]
    repeat' (first | (with_reducible first | exact pc_none | exact pc_some (by assumption) | (refine pc_if (fun _ => ?_) (fun _ => ?_)) | (refine pc_kw (by assumption) ?_ (fun _ _ => ?_)) | exact kf_f9_endsCall hG (by assumption) | (refine pc_ob (kf_f9_endsCall (rho0 := rho0) hG (by assumption)) (fun _ _ _ => ?_)) | (refine pc_ro (ro_f9_liveOf) (fun _ => ?_)) | exact ih _ _ _ (by assumption)) | exact hG.ne rfl)
theorem kf_f9_turnsOff {x1 : Int32} (hG : HA9 G) (h : KF G rho0 rho) : PC (f9_turnsOff x1 rho) (fun _ m => KF G rho0 m) := by
  unfold f9_turnsOff
  repeat' (first | (with_reducible first | exact pc_none | exact pc_some (by assumption) | (refine pc_if (fun _ => ?_) (fun _ => ?_)) | (refine pc_kw (by assumption) ?_ (fun _ _ => ?_)) | (refine pc_ro (ro_f9_liveOf) (fun _ => ?_)) | exact kf_l9_turnsOff_7 hG _ _ _ _ (by assumption)) | exact hG.ne rfl)
theorem kf_l9_goesStep_12 (hG : HA9 G) : ∀ (n : Nat) (x0 x1 x2 : Int32) (rho : RH), KF G rho0 rho → PC (l9_goesStep_12 n x0 x1 x2 rho) (fun _ m => KF G rho0 m) := by
  intro n
  induction n with
  | zero =>
    intro x0 x1 x2 rho h
    rw [l9_goesStep_12]
    exact pc_none
  | succ n ih =>
    intro x0 x1 x2 rho h
    rw [l9_goesStep_12]
    repeat' (first | (with_reducible first | exact pc_none | exact pc_some (by assumption) | (refine pc_if (fun _ => ?_) (fun _ => ?_)) | (refine pc_kw (by assumption) ?_ (fun _ _ => ?_)) | (refine pc_ro (ro_f9_hasOutOf) (fun _ => ?_)) | (refine pc_ro (ro_f9_isSafeOf) (fun _ => ?_)) | exact kf_f9_looks hG (by assumption) | (refine pc_ob (kf_f9_looks (rho0 := rho0) hG (by assumption)) (fun _ _ _ => ?_)) | (refine pc_ro (ro_f9_policyOf) (fun _ => ?_)) | exact kf_f9_tries hG (by assumption) | (refine pc_ob (kf_f9_tries (rho0 := rho0) hG (by assumption)) (fun _ _ _ => ?_)) | exact kf_f9_turnsOff hG (by assumption) | (refine pc_ob (kf_f9_turnsOff (rho0 := rho0) hG (by assumption)) (fun _ _ _ => ?_)) | exact ih _ _ _ _ (by assumption)) | exact hG.ne rfl)
theorem kf_f9_goesStep {x1 : Int32} (hG : HA9 G) (h : KF G rho0 rho) : PC (f9_goesStep x1 rho) (fun _ m => KF G rho0 m) := by
  unfold f9_goesStep
  repeat' (first | (with_reducible first | exact pc_none | exact pc_some (by assumption) | (refine pc_if (fun _ => ?_) (fun _ => ?_)) | (refine pc_kw (by assumption) ?_ (fun _ _ => ?_)) | (refine pc_ro (ro_f9_calledBy) (fun _ => ?_)) | (refine pc_ro (ro_f9_callerOf) (fun _ => ?_)) | exact kf_l9_goesStep_12 hG _ _ _ _ _ (by assumption)) | exact hG.ne rfl)
theorem kf_l9_goesCall_21 (hG : HA9 G) : ∀ (n : Nat) (x0 x1 : Int32) (rho : RH), KF G rho0 rho → PC (l9_goesCall_21 n x0 x1 rho) (fun _ m => KF G rho0 m) := by
  intro n
  induction n with
  | zero =>
    intro x0 x1 rho h
    rw [l9_goesCall_21]
    exact pc_none
  | succ n ih =>
    intro x0 x1 rho h
    rw [l9_goesCall_21]
    repeat' (first | (with_reducible first | exact pc_none | exact pc_some (by assumption) | (refine pc_if (fun _ => ?_) (fun _ => ?_)) | (refine pc_kw (by assumption) ?_ (fun _ _ => ?_)) | exact kf_f9_begins hG (by assumption) | (refine pc_ob (kf_f9_begins (rho0 := rho0) hG (by assumption)) (fun _ _ _ => ?_)) | exact kf_f9_endsCall hG (by assumption) | (refine pc_ob (kf_f9_endsCall (rho0 := rho0) hG (by assumption)) (fun _ _ _ => ?_)) | exact kf_f9_goesStep hG (by assumption) | (refine pc_ob (kf_f9_goesStep (rho0 := rho0) hG (by assumption)) (fun _ _ _ => ?_)) | exact ih _ _ _ (by assumption)) | exact hG.ne rfl)
theorem kf_f9_goesCall {x1 : Int32} (hG : HA9 G) (h : KF G rho0 rho) : PC (f9_goesCall x1 rho) (fun _ m => KF G rho0 m) := by
  unfold f9_goesCall
  repeat' (first | (with_reducible first | exact pc_none | exact pc_some (by assumption) | (refine pc_if (fun _ => ?_) (fun _ => ?_)) | (refine pc_kw (by assumption) ?_ (fun _ _ => ?_)) | exact kf_f9_begins hG (by assumption) | (refine pc_ob (kf_f9_begins (rho0 := rho0) hG (by assumption)) (fun _ _ _ => ?_)) | exact kf_f9_goesStep hG (by assumption) | (refine pc_ob (kf_f9_goesStep (rho0 := rho0) hG (by assumption)) (fun _ _ _ => ?_)) | exact kf_l9_goesCall_21 hG _ _ _ _ (by assumption)) | exact hG.ne rfl)
theorem kf_f9_endsRequest {x1 x2 : Int32} (hG : HA9 G) (h : KF G rho0 rho) : PC (f9_endsRequest x1 x2 rho) (fun _ m => KF G rho0 m) := by
  unfold f9_endsRequest
  repeat' (first | (with_reducible first | exact pc_none | exact pc_some (by assumption) | (refine pc_if (fun _ => ?_) (fun _ => ?_)) | (refine pc_kw (by assumption) ?_ (fun _ _ => ?_)) | exact kf_f9_turnsOff hG (by assumption) | (refine pc_ob (kf_f9_turnsOff (rho0 := rho0) hG (by assumption)) (fun _ _ _ => ?_))) | exact hG.ne rfl)
theorem kf_f9_goesRequest {x1 : Int32} (hG : HA9 G) (h : KF G rho0 rho) : PC (f9_goesRequest x1 rho) (fun _ m => KF G rho0 m) := by
  unfold f9_goesRequest
  repeat' (first | (with_reducible first | exact pc_none | exact pc_some (by assumption) | (refine pc_if (fun _ => ?_) (fun _ => ?_)) | (refine pc_kw (by assumption) ?_ (fun _ _ => ?_)) | exact kf_f9_endsRequest hG (by assumption) | (refine pc_ob (kf_f9_endsRequest (rho0 := rho0) hG (by assumption)) (fun _ _ _ => ?_)) | exact kf_f9_goesStep hG (by assumption) | (refine pc_ob (kf_f9_goesStep (rho0 := rho0) hG (by assumption)) (fun _ _ _ => ?_))) | exact hG.ne rfl)
theorem kf_f9_goesRepair {x1 : Int32} (hG : HA9 G) (h : KF G rho0 rho) : PC (f9_goesRepair x1 rho) (fun _ m => KF G rho0 m) := by
  unfold f9_goesRepair
  repeat' (first | (with_reducible first | exact pc_none | exact pc_some (by assumption) | (refine pc_if (fun _ => ?_) (fun _ => ?_)) | (refine pc_kw (by assumption) ?_ (fun _ _ => ?_)) | (refine pc_ro (ro_f9_hasOutOf) (fun _ => ?_)) | exact kf_f9_looks hG (by assumption) | (refine pc_ob (kf_f9_looks (rho0 := rho0) hG (by assumption)) (fun _ _ _ => ?_)) | exact kf_f9_tries hG (by assumption) | (refine pc_ob (kf_f9_tries (rho0 := rho0) hG (by assumption)) (fun _ _ _ => ?_)) | exact kf_f9_turnsOff hG (by assumption) | (refine pc_ob (kf_f9_turnsOff (rho0 := rho0) hG (by assumption)) (fun _ _ _ => ?_))) | exact hG.ne rfl)
theorem kf_l9_dequeues_10 (hG : HA9 G) : ∀ (n : Nat) (x0 x1 x2 : Int32) (rho : RH), KF G rho0 rho → PC (l9_dequeues_10 n x0 x1 x2 rho) (fun _ m => KF G rho0 m) := by
  intro n
  induction n with
  | zero =>
    intro x0 x1 x2 rho h
    rw [l9_dequeues_10]
    exact pc_none
  | succ n ih =>
    intro x0 x1 x2 rho h
    rw [l9_dequeues_10]
    repeat' (first | (with_reducible first | exact pc_none | exact pc_some (by assumption) | (refine pc_if (fun _ => ?_) (fun _ => ?_)) | (refine pc_kw (by assumption) ?_ (fun _ _ => ?_)) | exact kf_f9_runs hG (by assumption) | (refine pc_ob (kf_f9_runs (rho0 := rho0) hG (by assumption)) (fun _ _ _ => ?_)) | exact ih _ _ _ _ (by assumption)) | exact hG.ne rfl)
theorem kf_f9_dequeues {x1 : Int32} (hG : HA9 G) (h : KF G rho0 rho) : PC (f9_dequeues x1 rho) (fun _ m => KF G rho0 m) := by
  unfold f9_dequeues
  repeat' (first | (with_reducible first | exact pc_none | exact pc_some (by assumption) | (refine pc_if (fun _ => ?_) (fun _ => ?_)) | (refine pc_kw (by assumption) ?_ (fun _ _ => ?_)) | (refine pc_ro (ro_f9_countOf) (fun _ => ?_)) | exact kf_l9_dequeues_10 hG _ _ _ _ _ (by assumption)) | exact hG.ne rfl)
theorem kf_l9_passes_380 {K : Int32 → RH → Option (Int32 × RH)} (hG : HA9 G) (hK : ∀ x m, KF G rho0 m → PC (K x m) (fun _ m => KF G rho0 m)) : ∀ (n : Nat) (x0 x1 : Int32) (rho : RH), KF G rho0 rho → PC (l9_passes_380 K n x0 x1 rho) (fun _ m => KF G rho0 m) := by
  intro n
  induction n with
  | zero =>
    intro x0 x1 rho h
    rw [l9_passes_380]
    exact pc_none
  | succ n ih =>
    intro x0 x1 rho h
    rw [l9_passes_380]
    repeat' (first | (with_reducible first | exact pc_none | exact pc_some (by assumption) | (refine pc_if (fun _ => ?_) (fun _ => ?_)) | (refine pc_kw (by assumption) ?_ (fun _ _ => ?_)) | exact ih _ _ _ (by assumption) | exact hK _ _ (by assumption)) | exact hG.ne rfl)
theorem kf_l9_passes_348 (hG : HA9 G) : ∀ (n : Nat) (x0 : Int32) (rho : RH), KF G rho0 rho → PC (l9_passes_348 n x0 rho) (fun _ m => KF G rho0 m) := by
  intro n
  induction n with
  | zero =>
    intro x0 rho h
    rw [l9_passes_348]
    exact pc_none
  | succ n ih =>
    intro x0 rho h
    rw [l9_passes_348]
    repeat' (first | (with_reducible first | exact pc_none | exact pc_some (by assumption) | (refine pc_if (fun _ => ?_) (fun _ => ?_)) | (refine pc_kw (by assumption) ?_ (fun _ _ => ?_)) | (refine pc_ro (ro_f9_countOf) (fun _ => ?_)) | exact kf_l9_passes_380 hG (fun x m h => ih _ m h) _ _ _ _ (by assumption) | exact ih _ _ (by assumption)) | exact hG.ne rfl)
theorem kf_l9_passes_327 (hG : HA9 G) : ∀ (n : Nat) (x0 : Int32) (rho : RH), KF G rho0 rho → PC (l9_passes_327 n x0 rho) (fun _ m => KF G rho0 m) := by
  intro n
  induction n with
  | zero =>
    intro x0 rho h
    rw [l9_passes_327]
    exact pc_none
  | succ n ih =>
    intro x0 rho h
    rw [l9_passes_327]
    repeat' (first | (with_reducible first | exact pc_none | exact pc_some (by assumption) | (refine pc_if (fun _ => ?_) (fun _ => ?_)) | (refine pc_kw (by assumption) ?_ (fun _ _ => ?_)) | exact kf_f9_dequeues hG (by assumption) | (refine pc_ob (kf_f9_dequeues (rho0 := rho0) hG (by assumption)) (fun _ _ _ => ?_)) | exact kf_l9_passes_348 hG _ _ _ (by assumption) | exact ih _ _ (by assumption)) | exact hG.ne rfl)
theorem kf_l9_passes_297 (hG : HA9 G) : ∀ (n : Nat) (x0 : Int32) (rho : RH), KF G rho0 rho → PC (l9_passes_297 n x0 rho) (fun _ m => KF G rho0 m) := by
  intro n
  induction n with
  | zero =>
    intro x0 rho h
    rw [l9_passes_297]
    exact pc_none
  | succ n ih =>
    intro x0 rho h
    rw [l9_passes_297]
    repeat' (first | (with_reducible first | exact pc_none | exact pc_some (by assumption) | (refine pc_if (fun _ => ?_) (fun _ => ?_)) | (refine pc_kw (by assumption) ?_ (fun _ _ => ?_)) | exact kf_f9_goesRepair hG (by assumption) | (refine pc_ob (kf_f9_goesRepair (rho0 := rho0) hG (by assumption)) (fun _ _ _ => ?_)) | exact kf_l9_passes_327 hG _ _ _ (by assumption) | exact ih _ _ (by assumption)) | exact hG.ne rfl)
theorem kf_l9_passes_232 (hG : HA9 G) : ∀ (n : Nat) (x0 : Int32) (rho : RH), KF G rho0 rho → PC (l9_passes_232 n x0 rho) (fun _ m => KF G rho0 m) := by
  intro n
  induction n with
  | zero =>
    intro x0 rho h
    rw [l9_passes_232]
    exact pc_none
  | succ n ih =>
    intro x0 rho h
    rw [l9_passes_232]
    repeat' (first | (with_reducible first | exact pc_none | exact pc_some (by assumption) | (refine pc_if (fun _ => ?_) (fun _ => ?_)) | (refine pc_kw (by assumption) ?_ (fun _ _ => ?_)) | exact kf_f9_endsRequest hG (by assumption) | (refine pc_ob (kf_f9_endsRequest (rho0 := rho0) hG (by assumption)) (fun _ _ _ => ?_)) | exact kf_f9_goesRequest hG (by assumption) | (refine pc_ob (kf_f9_goesRequest (rho0 := rho0) hG (by assumption)) (fun _ _ _ => ?_)) | exact kf_l9_passes_297 hG _ _ _ (by assumption) | exact ih _ _ (by assumption)) | exact hG.ne rfl)
theorem kf_l9_passes_196 (hG : HA9 G) : ∀ (n : Nat) (x0 : Int32) (rho : RH), KF G rho0 rho → PC (l9_passes_196 n x0 rho) (fun _ m => KF G rho0 m) := by
  intro n
  induction n with
  | zero =>
    intro x0 rho h
    rw [l9_passes_196]
    exact pc_none
  | succ n ih =>
    intro x0 rho h
    rw [l9_passes_196]
    repeat' (first | (with_reducible first | exact pc_none | exact pc_some (by assumption) | (refine pc_if (fun _ => ?_) (fun _ => ?_)) | (refine pc_kw (by assumption) ?_ (fun _ _ => ?_)) | exact kf_f9_goesCall hG (by assumption) | (refine pc_ob (kf_f9_goesCall (rho0 := rho0) hG (by assumption)) (fun _ _ _ => ?_)) | exact kf_l9_passes_232 hG _ _ _ (by assumption) | exact ih _ _ (by assumption)) | exact hG.ne rfl)
theorem kf_l9_passes_160 (hG : HA9 G) : ∀ (n : Nat) (x0 x1 : Int32) (rho : RH), KF G rho0 rho → PC (l9_passes_160 n x0 x1 rho) (fun _ m => KF G rho0 m) := by
  intro n
  induction n with
  | zero =>
    intro x0 x1 rho h
    rw [l9_passes_160]
    exact pc_none
  | succ n ih =>
    intro x0 x1 rho h
    rw [l9_passes_160]
    repeat' (first | (with_reducible first | exact pc_none | exact pc_some (by assumption) | (refine pc_if (fun _ => ?_) (fun _ => ?_)) | (refine pc_kw (by assumption) ?_ (fun _ _ => ?_)) | exact kf_l9_passes_196 hG _ _ _ (by assumption) | exact ih _ _ _ (by assumption)) | exact hG.ne rfl)
theorem kf_l9_passes_111 (hG : HA9 G) : ∀ (n : Nat) (x0 : Int32) (rho : RH), KF G rho0 rho → PC (l9_passes_111 n x0 rho) (fun _ m => KF G rho0 m) := by
  intro n
  induction n with
  | zero =>
    intro x0 rho h
    rw [l9_passes_111]
    exact pc_none
  | succ n ih =>
    intro x0 rho h
    rw [l9_passes_111]
    repeat' (first | (with_reducible first | exact pc_none | exact pc_some (by assumption) | (refine pc_if (fun _ => ?_) (fun _ => ?_)) | (refine pc_kw (by assumption) ?_ (fun _ _ => ?_)) | exact kf_f9_finishesWork hG (by assumption) | (refine pc_ob (kf_f9_finishesWork (rho0 := rho0) hG (by assumption)) (fun _ _ _ => ?_)) | exact kf_l9_passes_160 hG _ _ _ _ (by assumption) | exact ih _ _ (by assumption)) | exact hG.ne rfl)
theorem kf_l9_passes_68 (hG : HA9 G) : ∀ (n : Nat) (x0 : Int32) (rho : RH), KF G rho0 rho → PC (l9_passes_68 n x0 rho) (fun _ m => KF G rho0 m) := by
  intro n
  induction n with
  | zero =>
    intro x0 rho h
    rw [l9_passes_68]
    exact pc_none
  | succ n ih =>
    intro x0 rho h
    rw [l9_passes_68]
    repeat' (first | (with_reducible first | exact pc_none | exact pc_some (by assumption) | (refine pc_if (fun _ => ?_) (fun _ => ?_)) | (refine pc_kw (by assumption) ?_ (fun _ _ => ?_)) | exact kf_f9_endsCall hG (by assumption) | (refine pc_ob (kf_f9_endsCall (rho0 := rho0) hG (by assumption)) (fun _ _ _ => ?_)) | (refine pc_ro (ro_f9_hasEnded) (fun _ => ?_)) | exact kf_l9_passes_111 hG _ _ _ (by assumption) | exact ih _ _ (by assumption)) | exact hG.ne rfl)
theorem kf_l9_passes_12 (hG : HA9 G) : ∀ (n : Nat) (x0 : Int32) (rho : RH), KF G rho0 rho → PC (l9_passes_12 n x0 rho) (fun _ m => KF G rho0 m) := by
  intro n
  induction n with
  | zero =>
    intro x0 rho h
    rw [l9_passes_12]
    exact pc_none
  | succ n ih =>
    intro x0 rho h
    rw [l9_passes_12]
    repeat' (first | (with_reducible first | exact pc_none | exact pc_some (by assumption) | (refine pc_if (fun _ => ?_) (fun _ => ?_)) | (refine pc_kw (by assumption) ?_ (fun _ _ => ?_)) | exact kf_l9_passes_68 hG _ _ _ (by assumption) | exact ih _ _ (by assumption)) | exact hG.ne rfl)
theorem kf_f9_passes (hG : HP9 G) (h : KF G rho0 rho) : PC (f9_passes  rho) (fun _ m => KF G rho0 m) := by
  unfold f9_passes
  repeat' (first | (with_reducible first | exact pc_none | exact pc_some (by assumption) | (refine pc_if (fun _ => ?_) (fun _ => ?_)) | (refine pc_kw (by assumption) ?_ (fun _ _ => ?_)) | exact kf_l9_passes_12 hG.a _ _ _ (by assumption)) | exact hG.ne rfl)
theorem kf_l9_pass_36 (hG : HP9 G) : ∀ (n : Nat) (x0 x1 : Int32) (rho : RH), KF G rho0 rho → PC (l9_pass_36 n x0 x1 rho) (fun _ m => KF G rho0 m) := by
  intro n
  induction n with
  | zero =>
    intro x0 x1 rho h
    rw [l9_pass_36]
    exact pc_none
  | succ n ih =>
    intro x0 x1 rho h
    rw [l9_pass_36]
    repeat' (first | (with_reducible first | exact pc_none | exact pc_some (by assumption) | (refine pc_if (fun _ => ?_) (fun _ => ?_)) | (refine pc_kw (by assumption) ?_ (fun _ _ => ?_)) | exact kf_f9_passes hG (by assumption) | (refine pc_ob (kf_f9_passes (rho0 := rho0) hG (by assumption)) (fun _ _ _ => ?_)) | exact ih _ _ _ (by assumption)) | exact hG.ne rfl)
theorem kf_f9_pass {x1 : Int32} (hG : HP9 G) (h : KF G rho0 rho) : PC (f9_pass x1 rho) (fun _ m => KF G rho0 m) := by
  unfold f9_pass
  repeat' (first | (with_reducible first | exact pc_none | exact pc_some (by assumption) | (refine pc_if (fun _ => ?_) (fun _ => ?_)) | (refine pc_kw (by assumption) ?_ (fun _ _ => ?_)) | exact kf_f9_goes hG.a (by assumption) | (refine pc_ob (kf_f9_goes (rho0 := rho0) hG.a (by assumption)) (fun _ _ _ => ?_)) | (refine pc_ro (ro_f9_in) (fun _ => ?_)) | exact kf_l9_pass_36 hG _ _ _ _ (by assumption)) | exact hG.ne rfl)
theorem kf_f9_request {x1 x2 x3 : Int32} (hG : HR9 G) (h : KF G rho0 rho) : PC (f9_request x1 x2 x3 rho) (fun _ m => KF G rho0 m) := by
  unfold f9_request
  repeat' (first | (with_reducible first | exact pc_none | exact pc_some (by assumption) | (refine pc_if (fun _ => ?_) (fun _ => ?_)) | (refine pc_kw (by assumption) ?_ (fun _ _ => ?_)) | exact kf_f9_begins hG.a (by assumption) | (refine pc_ob (kf_f9_begins (rho0 := rho0) hG.a (by assumption)) (fun _ _ _ => ?_)) | exact kf_f9_goes hG.a (by assumption) | (refine pc_ob (kf_f9_goes (rho0 := rho0) hG.a (by assumption)) (fun _ _ _ => ?_)) | exact kf_f9_goesRequest hG.a (by assumption) | (refine pc_ob (kf_f9_goesRequest (rho0 := rho0) hG.a (by assumption)) (fun _ _ _ => ?_)) | (refine pc_ro (ro_f9_in) (fun _ => ?_)) | (refine pc_ro (ro_f9_isService) (fun _ => ?_))) | exact hG.ne rfl)
theorem kf_f9_work {x1 x2 : Int32} (hG : HA9 G) (h : KF G rho0 rho) : PC (f9_work x1 x2 rho) (fun _ m => KF G rho0 m) := by
  unfold f9_work
  repeat' (first | (with_reducible first | exact pc_none | exact pc_some (by assumption) | (refine pc_if (fun _ => ?_) (fun _ => ?_)) | (refine pc_kw (by assumption) ?_ (fun _ _ => ?_)) | exact kf_f9_goes hG (by assumption) | (refine pc_ob (kf_f9_goes (rho0 := rho0) hG (by assumption)) (fun _ _ _ => ?_)) | (refine pc_ro (ro_f9_in) (fun _ => ?_)) | (refine pc_ro (ro_f9_isService) (fun _ => ?_))) | exact hG.ne rfl)
theorem kf_b9_step_87 {x1 x2 x3 x4 s1 s2 s3 : Int32} (hG : HA9 G) (h : KF G rho0 rho) : PC (b9_step_87 x1 x2 x3 x4 s1 s2 s3 rho) (fun _ m => KF G rho0 m) := by
  unfold b9_step_87
  repeat' (first | (with_reducible first | exact pc_none | exact pc_some (by assumption) | (refine pc_if (fun _ => ?_) (fun _ => ?_)) | (refine pc_kw (by assumption) ?_ (fun _ _ => ?_)) | exact kf_f9_goes hG (by assumption) | (refine pc_ob (kf_f9_goes (rho0 := rho0) hG (by assumption)) (fun _ _ _ => ?_))) | exact hG.ne rfl)
theorem kf_b9_step_60 {x1 x2 x3 x4 x5 s1 s2 : Int32} (hG : HA9 G) (h : KF G rho0 rho) : PC (b9_step_60 x1 x2 x3 x4 x5 s1 s2 rho) (fun _ m => KF G rho0 m) := by
  unfold b9_step_60
  repeat' (first | (with_reducible first | exact pc_none | exact pc_some (by assumption) | (refine pc_if (fun _ => ?_) (fun _ => ?_)) | (refine pc_kw (by assumption) ?_ (fun _ _ => ?_)) | exact kf_b9_step_87 hG (by assumption) | (refine pc_ob (kf_b9_step_87 (rho0 := rho0) hG (by assumption)) (fun _ _ _ => ?_))) | exact hG.ne rfl)
theorem kf_b9_step_33 {x1 x2 x3 x4 s0 : Int32} (hG : HA9 G) (h : KF G rho0 rho) : PC (b9_step_33 x1 x2 x3 x4 s0 rho) (fun _ m => KF G rho0 m) := by
  unfold b9_step_33
  repeat' (first | (with_reducible first | exact pc_none | exact pc_some (by assumption) | (refine pc_if (fun _ => ?_) (fun _ => ?_)) | (refine pc_kw (by assumption) ?_ (fun _ _ => ?_)) | exact kf_b9_step_60 hG (by assumption) | (refine pc_ob (kf_b9_step_60 (rho0 := rho0) hG (by assumption)) (fun _ _ _ => ?_))) | exact hG.ne rfl)
theorem kf_f9_step {x1 x2 x3 x4 : Int32} (hG : HA9 G) (h : KF G rho0 rho) : PC (f9_step x1 x2 x3 x4 rho) (fun _ m => KF G rho0 m) := by
  unfold f9_step
  repeat' (first | (with_reducible first | exact pc_none | exact pc_some (by assumption) | (refine pc_if (fun _ => ?_) (fun _ => ?_)) | (refine pc_kw (by assumption) ?_ (fun _ _ => ?_)) | exact kf_b9_step_33 hG (by assumption) | (refine pc_ob (kf_b9_step_33 (rho0 := rho0) hG (by assumption)) (fun _ _ _ => ?_)) | (refine pc_ro (ro_f9_isService) (fun _ => ?_))) | exact hG.ne rfl)
theorem kf_b9_instance_79 {x1 x2 x3 x4 x5 x6 s1 s2 s3 : Int32} (hG : HI9 G) (h : KF G rho0 rho) : PC (b9_instance_79 x1 x2 x3 x4 x5 x6 s1 s2 s3 rho) (fun _ m => KF G rho0 m) := by
  unfold b9_instance_79
  repeat' (first | (with_reducible first | exact pc_none | exact pc_some (by assumption) | (refine pc_if (fun _ => ?_) (fun _ => ?_)) | (refine pc_kw (by assumption) ?_ (fun _ _ => ?_)) | exact kf_f9_goes hG.a (by assumption) | (refine pc_ob (kf_f9_goes (rho0 := rho0) hG.a (by assumption)) (fun _ _ _ => ?_))) | exact hG.ne rfl)
theorem kf_b9_instance_56 {x1 x2 x3 x4 x5 x6 s0 : Int32} (hG : HI9 G) (h : KF G rho0 rho) : PC (b9_instance_56 x1 x2 x3 x4 x5 x6 s0 rho) (fun _ m => KF G rho0 m) := by
  unfold b9_instance_56
  repeat' (first | (with_reducible first | exact pc_none | exact pc_some (by assumption) | (refine pc_if (fun _ => ?_) (fun _ => ?_)) | (refine pc_kw (by assumption) ?_ (fun _ _ => ?_)) | exact kf_b9_instance_79 hG (by assumption) | (refine pc_ob (kf_b9_instance_79 (rho0 := rho0) hG (by assumption)) (fun _ _ _ => ?_)) | (refine pc_ro (ro_f9_isService) (fun _ => ?_))) | exact hG.ne rfl)
theorem kf_f9_instance {x1 x2 x3 x4 x5 x6 : Int32} (hG : HI9 G) (h : KF G rho0 rho) : PC (f9_instance x1 x2 x3 x4 x5 x6 rho) (fun _ m => KF G rho0 m) := by
  unfold f9_instance
  repeat' (first | (with_reducible first | exact pc_none | exact pc_some (by assumption) | (refine pc_if (fun _ => ?_) (fun _ => ?_)) | (refine pc_kw (by assumption) ?_ (fun _ _ => ?_)) | exact kf_b9_instance_56 hG (by assumption) | (refine pc_ob (kf_b9_instance_56 (rho0 := rho0) hG (by assumption)) (fun _ _ _ => ?_)) | (refine pc_ro (ro_f9_in) (fun _ => ?_))) | exact hG.ne rfl)
theorem kf_f9_fault {x1 x2 x3 : Int32} (hG : HA9 G) (h : KF G rho0 rho) : PC (f9_fault x1 x2 x3 rho) (fun _ m => KF G rho0 m) := by
  unfold f9_fault
  repeat' (first | (with_reducible first | exact pc_none | exact pc_some (by assumption) | (refine pc_if (fun _ => ?_) (fun _ => ?_)) | (refine pc_kw (by assumption) ?_ (fun _ _ => ?_)) | exact kf_f9_goes hG (by assumption) | (refine pc_ob (kf_f9_goes (rho0 := rho0) hG (by assumption)) (fun _ _ _ => ?_)) | (refine pc_ro (ro_f9_in) (fun _ => ?_)) | (refine pc_ro (ro_f9_isInstance) (fun _ => ?_))) | exact hG.ne rfl)
theorem kf_b9_policy_92 {x1 x2 x3 x4 x5 s0 : Int32} (hG : HA9 G) (h : KF G rho0 rho) : PC (b9_policy_92 x1 x2 x3 x4 x5 s0 rho) (fun _ m => KF G rho0 m) := by
  unfold b9_policy_92
  repeat' (first | (with_reducible first | exact pc_none | exact pc_some (by assumption) | (refine pc_if (fun _ => ?_) (fun _ => ?_)) | (refine pc_kw (by assumption) ?_ (fun _ _ => ?_)) | exact kf_f9_goes hG (by assumption) | (refine pc_ob (kf_f9_goes (rho0 := rho0) hG (by assumption)) (fun _ _ _ => ?_)) | (refine pc_ro (ro_f9_policyPlace) (fun _ => ?_))) | exact hG.ne rfl)
theorem kf_b9_policy_61 {x1 x2 x3 x4 x5 s0 s1 : Int32} (hG : HA9 G) (h : KF G rho0 rho) : PC (b9_policy_61 x1 x2 x3 x4 x5 s0 s1 rho) (fun _ m => KF G rho0 m) := by
  unfold b9_policy_61
  repeat' (first | (with_reducible first | exact pc_none | exact pc_some (by assumption) | (refine pc_if (fun _ => ?_) (fun _ => ?_)) | (refine pc_kw (by assumption) ?_ (fun _ _ => ?_)) | exact kf_b9_policy_92 hG (by assumption) | (refine pc_ob (kf_b9_policy_92 (rho0 := rho0) hG (by assumption)) (fun _ _ _ => ?_)) | (refine pc_ro (ro_f9_in) (fun _ => ?_))) | exact hG.ne rfl)
theorem kf_b9_policy_41 {x1 x2 x3 x4 x5 : Int32} (hG : HA9 G) (h : KF G rho0 rho) : PC (b9_policy_41 x1 x2 x3 x4 x5 rho) (fun _ m => KF G rho0 m) := by
  unfold b9_policy_41
  repeat' (first | (with_reducible first | exact pc_none | exact pc_some (by assumption) | (refine pc_if (fun _ => ?_) (fun _ => ?_)) | (refine pc_kw (by assumption) ?_ (fun _ _ => ?_)) | exact kf_b9_policy_61 hG (by assumption) | (refine pc_ob (kf_b9_policy_61 (rho0 := rho0) hG (by assumption)) (fun _ _ _ => ?_)) | exact kf_b9_policy_92 hG (by assumption) | (refine pc_ob (kf_b9_policy_92 (rho0 := rho0) hG (by assumption)) (fun _ _ _ => ?_)) | (refine pc_ro (ro_f9_in) (fun _ => ?_))) | exact hG.ne rfl)
theorem kf_b9_policy_29 {x1 x2 x3 x4 s0 : Int32} (hG : HA9 G) (h : KF G rho0 rho) : PC (b9_policy_29 x1 x2 x3 x4 s0 rho) (fun _ m => KF G rho0 m) := by
  unfold b9_policy_29
  repeat' (first | (with_reducible first | exact pc_none | exact pc_some (by assumption) | (refine pc_if (fun _ => ?_) (fun _ => ?_)) | (refine pc_kw (by assumption) ?_ (fun _ _ => ?_)) | exact kf_b9_policy_41 hG (by assumption) | (refine pc_ob (kf_b9_policy_41 (rho0 := rho0) hG (by assumption)) (fun _ _ _ => ?_)) | exact kf_b9_policy_92 hG (by assumption) | (refine pc_ob (kf_b9_policy_92 (rho0 := rho0) hG (by assumption)) (fun _ _ _ => ?_))) | exact hG.ne rfl)
theorem kf_b9_policy_12 {x1 x2 x3 x4 : Int32} (hG : HA9 G) (h : KF G rho0 rho) : PC (b9_policy_12 x1 x2 x3 x4 rho) (fun _ m => KF G rho0 m) := by
  unfold b9_policy_12
  repeat' (first | (with_reducible first | exact pc_none | exact pc_some (by assumption) | (refine pc_if (fun _ => ?_) (fun _ => ?_)) | (refine pc_kw (by assumption) ?_ (fun _ _ => ?_)) | exact kf_b9_policy_29 hG (by assumption) | (refine pc_ob (kf_b9_policy_29 (rho0 := rho0) hG (by assumption)) (fun _ _ _ => ?_)) | (refine pc_ro (ro_f9_isService) (fun _ => ?_))) | exact hG.ne rfl)
theorem kf_f9_policy {x1 x2 x3 x4 : Int32} (hG : HA9 G) (h : KF G rho0 rho) : PC (f9_policy x1 x2 x3 x4 rho) (fun _ m => KF G rho0 m) := by
  unfold f9_policy
  repeat' (first | (with_reducible first | exact pc_none | exact pc_some (by assumption) | (refine pc_if (fun _ => ?_) (fun _ => ?_)) | (refine pc_kw (by assumption) ?_ (fun _ _ => ?_)) | exact kf_b9_policy_12 hG (by assumption) | (refine pc_ob (kf_b9_policy_12 (rho0 := rho0) hG (by assumption)) (fun _ _ _ => ?_)) | exact kf_b9_policy_29 hG (by assumption) | (refine pc_ob (kf_b9_policy_29 (rho0 := rho0) hG (by assumption)) (fun _ _ _ => ?_)) | (refine pc_ro (ro_f9_isCaller) (fun _ => ?_))) | exact hG.ne rfl)
theorem kf_f9_share {x1 x2 : Int32} (hG : HA9 G) (h : KF G rho0 rho) : PC (f9_share x1 x2 rho) (fun _ m => KF G rho0 m) := by
  unfold f9_share
  repeat' (first | (with_reducible first | exact pc_none | exact pc_some (by assumption) | (refine pc_if (fun _ => ?_) (fun _ => ?_)) | (refine pc_kw (by assumption) ?_ (fun _ _ => ?_)) | exact kf_f9_goes hG (by assumption) | (refine pc_ob (kf_f9_goes (rho0 := rho0) hG (by assumption)) (fun _ _ _ => ?_)) | (refine pc_ro (ro_f9_in) (fun _ => ?_)) | (refine pc_ro (ro_f9_isCaller) (fun _ => ?_))) | exact hG.ne rfl)
theorem kf_f9_eyes {x1 : Int32} (hG : HA9 G) (h : KF G rho0 rho) : PC (f9_eyes x1 rho) (fun _ m => KF G rho0 m) := by
  unfold f9_eyes
  repeat' (first | (with_reducible first | exact pc_none | exact pc_some (by assumption) | (refine pc_if (fun _ => ?_) (fun _ => ?_)) | (refine pc_kw (by assumption) ?_ (fun _ _ => ?_)) | exact kf_f9_goes hG (by assumption) | (refine pc_ob (kf_f9_goes (rho0 := rho0) hG (by assumption)) (fun _ _ _ => ?_)) | (refine pc_ro (ro_f9_in) (fun _ => ?_))) | exact hG.ne rfl)
theorem kf_l9_canary_47 (hG : HA9 G) : ∀ (n : Nat) (x0 x1 x2 : Int32) (rho : RH), KF G rho0 rho → PC (l9_canary_47 n x0 x1 x2 rho) (fun _ m => KF G rho0 m) := by
  intro n
  induction n with
  | zero =>
    intro x0 x1 x2 rho h
    rw [l9_canary_47]
    exact pc_none
  | succ n ih =>
    intro x0 x1 x2 rho h
    rw [l9_canary_47]
    repeat' (first | (with_reducible first | exact pc_none | exact pc_some (by assumption) | (refine pc_if (fun _ => ?_) (fun _ => ?_)) | (refine pc_kw (by assumption) ?_ (fun _ _ => ?_)) | exact ih _ _ _ _ (by assumption)) | exact hG.ne rfl)
theorem kf_f9_canary {x1 x2 : Int32} (hG : HA9 G) (h : KF G rho0 rho) : PC (f9_canary x1 x2 rho) (fun _ m => KF G rho0 m) := by
  unfold f9_canary
  repeat' (first | (with_reducible first | exact pc_none | exact pc_some (by assumption) | (refine pc_if (fun _ => ?_) (fun _ => ?_)) | (refine pc_kw (by assumption) ?_ (fun _ _ => ?_)) | exact kf_f9_goes hG (by assumption) | (refine pc_ob (kf_f9_goes (rho0 := rho0) hG (by assumption)) (fun _ _ _ => ?_)) | (refine pc_ro (ro_f9_in) (fun _ => ?_)) | (refine pc_ro (ro_f9_isService) (fun _ => ?_)) | exact kf_l9_canary_47 hG _ _ _ _ _ (by assumption)) | exact hG.ne rfl)
end KF9
