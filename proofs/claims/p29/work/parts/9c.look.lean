/-! looking at ends changes nothing that counts -/
section PCD
variable {rho0 rho : RH}
theorem pcd_f9_wantedVersion {x1 : Int32} (h : EqD rho0 rho) : PC (f9_wantedVersion x1 rho) (fun _ m => EqD rho0 m) := by
  unfold f9_wantedVersion
  repeat' (first | with_reducible exact pc_none | (with_reducible refine pc_wr ?_) | (with_reducible refine pc_if (fun _ => ?_) (fun _ => ?_)) | (with_reducible refine pc_some ?_) | (with_reducible assumption) | (with_reducible exact EqD.rf) | refine eqd_w ?_ rfl)
theorem pcd_f9_judges {x1 x2 x3 : Int32} (h : EqD rho0 rho) : PC (f9_judges x1 x2 x3 rho) (fun _ m => EqD rho0 m) := by
  unfold f9_judges
  repeat' (first | with_reducible exact pc_none | (with_reducible refine pc_wr ?_) | (with_reducible refine pc_if (fun _ => ?_) (fun _ => ?_)) | (with_reducible refine pc_some ?_) | (with_reducible assumption) | (with_reducible exact EqD.rf) | refine eqd_w ?_ rfl)
theorem pcd_b9_looksAt_175 {x1 x2 : Int32} (h : EqD rho0 rho) : PC (b9_looksAt_175 x1 x2 rho) (fun _ m => EqD rho0 m) := by
  unfold b9_looksAt_175
  repeat' (first | with_reducible exact pc_none | (with_reducible refine pc_wr ?_) | (with_reducible refine pc_ob (pcd_f9_judges (rho0 := rho0) ?_) (fun _ m h9 => ?_)) | (with_reducible refine pcd_f9_judges ?_) | (with_reducible refine pc_if (fun _ => ?_) (fun _ => ?_)) | (with_reducible refine pc_some ?_) | (with_reducible assumption) | (with_reducible exact EqD.rf) | refine eqd_w ?_ rfl)
theorem pcd_b9_looksAt_150 {x1 x2 x3 x4 s1 s2 : Int32} (h : EqD rho0 rho) : PC (b9_looksAt_150 x1 x2 x3 x4 s1 s2 rho) (fun _ m => EqD rho0 m) := by
  unfold b9_looksAt_150
  repeat' (first | with_reducible exact pc_none | (with_reducible refine pc_wr ?_) | (with_reducible refine pc_ob (pcd_b9_looksAt_175 (rho0 := rho0) ?_) (fun _ m h9 => ?_)) | (with_reducible refine pcd_b9_looksAt_175 ?_) | (with_reducible refine pc_if (fun _ => ?_) (fun _ => ?_)) | (with_reducible refine pc_some ?_) | (with_reducible assumption) | (with_reducible exact EqD.rf) | refine eqd_w ?_ rfl)
theorem pcd_b9_looksAt_119 {x1 x2 x3 s0 : Int32} (h : EqD rho0 rho) : PC (b9_looksAt_119 x1 x2 x3 s0 rho) (fun _ m => EqD rho0 m) := by
  unfold b9_looksAt_119
  repeat' (first | with_reducible exact pc_none | (with_reducible refine pc_wr ?_) | (with_reducible refine pc_ob (pcd_b9_looksAt_150 (rho0 := rho0) ?_) (fun _ m h9 => ?_)) | (with_reducible refine pcd_b9_looksAt_150 ?_) | (with_reducible refine pc_if (fun _ => ?_) (fun _ => ?_)) | (with_reducible refine pc_some ?_) | (with_reducible assumption) | (with_reducible exact EqD.rf) | refine eqd_w ?_ rfl)
theorem pcd_b9_looksAt_88 {x1 x2 x3 s1 s2 : Int32} (h : EqD rho0 rho) : PC (b9_looksAt_88 x1 x2 x3 s1 s2 rho) (fun _ m => EqD rho0 m) := by
  unfold b9_looksAt_88
  repeat' (first | with_reducible exact pc_none | (with_reducible refine pc_wr ?_) | (with_reducible refine pc_ob (pcd_b9_looksAt_119 (rho0 := rho0) ?_) (fun _ m h9 => ?_)) | (with_reducible refine pcd_b9_looksAt_119 ?_) | (with_reducible refine pc_if (fun _ => ?_) (fun _ => ?_)) | (with_reducible refine pc_some ?_) | (with_reducible assumption) | (with_reducible exact EqD.rf) | refine eqd_w ?_ rfl)
theorem pcd_b9_looksAt_26 {x1 s0 : Int32} (h : EqD rho0 rho) : PC (b9_looksAt_26 x1 s0 rho) (fun _ m => EqD rho0 m) := by
  unfold b9_looksAt_26
  repeat' (first | with_reducible exact pc_none | (with_reducible refine pc_wr ?_) | (with_reducible refine pc_ob (pcd_b9_looksAt_175 (rho0 := rho0) ?_) (fun _ m h9 => ?_)) | (with_reducible refine pcd_b9_looksAt_175 ?_) | (with_reducible refine pc_ob (pcd_b9_looksAt_88 (rho0 := rho0) ?_) (fun _ m h9 => ?_)) | (with_reducible refine pcd_b9_looksAt_88 ?_) | (with_reducible refine pc_if (fun _ => ?_) (fun _ => ?_)) | (with_reducible refine pc_some ?_) | (with_reducible assumption) | (with_reducible exact EqD.rf) | refine eqd_w ?_ rfl)
theorem pcd_f9_looksAt {x1 : Int32} (h : EqD rho0 rho) : PC (f9_looksAt x1 rho) (fun _ m => EqD rho0 m) := by
  unfold f9_looksAt
  repeat' (first | with_reducible exact pc_none | (with_reducible refine pc_wr ?_) | (with_reducible refine pc_ob (pcd_b9_looksAt_26 (rho0 := rho0) ?_) (fun _ m h9 => ?_)) | (with_reducible refine pcd_b9_looksAt_26 ?_) | (with_reducible refine pc_if (fun _ => ?_) (fun _ => ?_)) | (with_reducible refine pc_some ?_) | (with_reducible assumption) | (with_reducible exact EqD.rf) | refine eqd_w ?_ rfl)
theorem pcd_looks : ∀ (n : Nat) (x1 x2 : Int32) (rho : RH), EqD rho0 rho → PC (l9_looks_2 n x1 x2 rho) (fun r m => EqD rho0 m ∧ (r = 0 ∨ (r = 1 ∧ ∃ k, k < 400 ∧ (¬ rho0 31 0 ≤ nI k) ∧ rho0 32 k = x1))) := by
  intro n
  induction n with
  | zero =>
    intro x1 x2 rho h
    rw [l9_looks_2]
    exact pc_none
  | succ n ih =>
    intro x1 x2 rho h
    rw [l9_looks_2]
    refine pc_if (fun _ => pc_some ⟨h, Or.inl rfl⟩) (fun c1 => ?_)
    refine pc_ck (fun c2 => ?_)
    refine pc_if (fun c3 => ?_) (fun _ => ih _ _ _ h)
    refine pc_ck (fun _ => ?_)
    refine pc_if (fun _ => ?_) (fun _ => ih _ _ _ h)
    refine pc_if (fun _ => ?_) (fun _ => ih _ _ _ h)
    refine pc_ro ro_f9_isKnown (fun _ => ?_)
    refine pc_if (fun _ => ih _ _ _ h) (fun _ => ?_)
    refine pc_ob (pcd_f9_looksAt h) (fun r m h9 => ?_)
    refine pc_if (fun _ => ih _ _ _ h9) (fun _ => pc_some ⟨h9, Or.inr ⟨rfl, ?_⟩⟩)
    obtain ⟨k, hk, rfl⟩ := vq_ix c2 (by omega)
    rw [nI_clamp (by omega)] at c3
    rw [h.1 31 0 (df rfl)] at c1
    rw [h.1 32 k (df rfl)] at c3
    exact ⟨k, hk, c1, c3⟩
theorem pcd_f9_looks {x1 : Int32} (h : EqD rho0 rho) : PC (f9_looks x1 rho) (fun r m => EqD rho0 m ∧ (r = 0 ∨ (r = 1 ∧ ∃ k, k < 400 ∧ (¬ rho0 31 0 ≤ nI k) ∧ rho0 32 k = x1))) := pcd_looks FU x1 0 rho h
end PCD
