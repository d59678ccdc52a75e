/-! partial correctness of the model's functions: what holds of every value that they give -/
section PCS
def PC (o : Option (Int32 × RH)) (Q : Int32 → RH → Prop) : Prop := ∀ r m, o = some (r, m) → Q r m
abbrev RO (o : Option (Int32 × RH)) (rho : RH) : Prop := PC o (fun _ m => m = rho)
variable {Q Q1 : Int32 → RH → Prop} {rho m : RH} {r : Int32}
theorem vq_ix {x : Int32} {n : Nat} (h : vq x n) (hn : n ≤ 1000000) : ∃ a, a < n ∧ x = nI a := by
  rcases pk_ix x (n := n) (by omega) with h1 | h1 | h1
  · exact absurd (Or.inl h1) h
  · refine absurd (Or.inr ?_) h
    rw [Int32.le_iff_toInt_le, nI_toInt (by omega)] at h1
    show n ≤ x.toInt.toNat
    omega
  · exact h1
theorem pc_none : PC none Q := fun _ _ h => (by cases h)
theorem pc_some (h : Q r m) : PC (some (r, m)) Q := fun _ _ q => by
  have e := sm_e q
  rw [← e.1, ← e.2]
  exact h
theorem pc_if {c : Prop} [Decidable c] {a b : Option (Int32 × RH)} (h1 : c → PC a Q) (h2 : ¬ c → PC b Q) : PC (if c then a else b) Q := by
  by_cases hc : c
  · rw [if_pos hc]; exact h1 hc
  · rw [if_neg hc]; exact h2 hc
theorem pc_ck {c : Prop} [Decidable c] {a : Option (Int32 × RH)} (h1 : c → PC a Q) : PC (if c then a else none) Q := pc_if h1 (fun _ => pc_none)
theorem pc_ob {o : Option (Int32 × RH)} {k : Int32 → RH → Option (Int32 × RH)} (h : PC o Q1) (h2 : ∀ r m, Q1 r m → PC (k r m) Q) : PC (ob o k) Q := fun r m q => by
  obtain ⟨a, m1, q1, q2⟩ := ob_e q
  exact h2 a m1 (h a m1 q1) r m q2
theorem pc_wr {t : RH} {k : RH → Option (Int32 × RH)} (h : PC (k t) Q) : PC (wr t k) Q := h
theorem PC.mono {o : Option (Int32 × RH)} (h : PC o Q1) (hq : ∀ r m, Q1 r m → Q r m) : PC o Q := fun r m q => hq r m (h r m q)
theorem PC.and {o : Option (Int32 × RH)} (h : PC o Q1) (h2 : PC o Q) : PC o (fun r m => Q1 r m ∧ Q r m) := fun r m q => ⟨h r m q, h2 r m q⟩
theorem pc_ro {o : Option (Int32 × RH)} {k : Int32 → RH → Option (Int32 × RH)} (h : RO o rho) (h2 : ∀ r, PC (k r rho) Q) : PC (ob o k) Q := pc_ob h (fun r m e => by
  subst e
  exact h2 r)
theorem pc_is {o : Option (Int32 × RH)} {k : Int32 → RH → Option (Int32 × RH)} {a : Int32} {m : RH} (h : o = some (a, m)) (h2 : PC (k a m) Q) : PC (ob o k) Q := by
  subst h
  exact h2

theorem ro_f9_in {x0 x1 x2 : Int32} : RO (f9_in x0 x1 x2 rho) rho := by
  unfold f9_in
  repeat' (with_reducible first | exact pc_none | exact pc_some rfl | (refine pc_if (fun _ => ?_) (fun _ => ?_)))
theorem ro_f9_isService {x0 : Int32} : RO (f9_isService x0 rho) rho := by
  unfold f9_isService
  repeat' (with_reducible first | exact pc_none | exact pc_some rfl | (refine pc_if (fun _ => ?_) (fun _ => ?_)) | (refine pc_ro (ro_f9_in) (fun _ => ?_)))
theorem ro_f9_isCaller {x0 : Int32} : RO (f9_isCaller x0 rho) rho := by
  unfold f9_isCaller
  repeat' (with_reducible first | exact pc_none | exact pc_some rfl | (refine pc_if (fun _ => ?_) (fun _ => ?_)) | (refine pc_ro (ro_f9_in) (fun _ => ?_)))
theorem ro_f9_isInstance {x1 : Int32} : RO (f9_isInstance x1 rho) rho := by
  unfold f9_isInstance
  repeat' (with_reducible first | exact pc_none | exact pc_some rfl | (refine pc_if (fun _ => ?_) (fun _ => ?_)) | (refine pc_ro (ro_f9_in) (fun _ => ?_)))
theorem ro_f9_isRequest {x1 : Int32} : RO (f9_isRequest x1 rho) rho := by
  unfold f9_isRequest
  repeat' (with_reducible first | exact pc_none | exact pc_some rfl | (refine pc_if (fun _ => ?_) (fun _ => ?_)) | (refine pc_ro (ro_f9_in) (fun _ => ?_)))
theorem ro_f9_callerOf {x1 : Int32} : RO (f9_callerOf x1 rho) rho := by
  unfold f9_callerOf
  repeat' (with_reducible first | exact pc_none | exact pc_some rfl | (refine pc_if (fun _ => ?_) (fun _ => ?_)))
theorem ro_f9_calledBy {x1 : Int32} : RO (f9_calledBy x1 rho) rho := by
  unfold f9_calledBy
  repeat' (with_reducible first | exact pc_none | exact pc_some rfl | (refine pc_if (fun _ => ?_) (fun _ => ?_)))
theorem ro_l9_isAvoided_4 : ∀ (n : Nat) (x0 x1 x2 : Int32), RO (l9_isAvoided_4 n x0 x1 x2 rho) rho := by
  intro n
  induction n with
  | zero =>
    intro x0 x1 x2
    rw [l9_isAvoided_4]
    exact pc_none
  | succ n ih =>
    intro x0 x1 x2
    rw [l9_isAvoided_4]
    repeat' (with_reducible first | exact pc_none | exact pc_some rfl | exact ih _ _ _ | (refine pc_if (fun _ => ?_) (fun _ => ?_)))
theorem ro_f9_isAvoided {x1 : Int32} : RO (f9_isAvoided x1 rho) rho := by
  unfold f9_isAvoided
  repeat' (with_reducible first | exact pc_none | exact pc_some rfl | (refine pc_if (fun _ => ?_) (fun _ => ?_)) | exact ro_l9_isAvoided_4 _ _ _ _  | (refine pc_ro (ro_l9_isAvoided_4) (fun _ => ?_)))
theorem ro_f9_hasEnded {x1 : Int32} : RO (f9_hasEnded x1 rho) rho := by
  unfold f9_hasEnded
  repeat' (with_reducible first | exact pc_none | exact pc_some rfl | (refine pc_if (fun _ => ?_) (fun _ => ?_)))
theorem ro_f9_isKnown {x1 : Int32} : RO (f9_isKnown x1 rho) rho := by
  unfold f9_isKnown
  repeat' (with_reducible first | exact pc_none | exact pc_some rfl | (refine pc_if (fun _ => ?_) (fun _ => ?_)) | (refine pc_ro (ro_f9_hasEnded) (fun _ => ?_)))
theorem ro_f9_goesOn {x1 : Int32} : RO (f9_goesOn x1 rho) rho := by
  unfold f9_goesOn
  repeat' (with_reducible first | exact pc_none | exact pc_some rfl | (refine pc_if (fun _ => ?_) (fun _ => ?_)))
theorem ro_f9_isOut {x1 : Int32} : RO (f9_isOut x1 rho) rho := by
  unfold f9_isOut
  repeat' (with_reducible first | exact pc_none | exact pc_some rfl | (refine pc_if (fun _ => ?_) (fun _ => ?_)) | (refine pc_ro (ro_f9_goesOn) (fun _ => ?_)) | (refine pc_ro (ro_f9_isKnown) (fun _ => ?_)))
theorem ro_l9_hasOut_5 : ∀ (n : Nat) (x0 x1 x2 x3 : Int32), RO (l9_hasOut_5 n x0 x1 x2 x3 rho) rho := by
  intro n
  induction n with
  | zero =>
    intro x0 x1 x2 x3
    rw [l9_hasOut_5]
    exact pc_none
  | succ n ih =>
    intro x0 x1 x2 x3
    rw [l9_hasOut_5]
    repeat' (with_reducible first | exact pc_none | exact pc_some rfl | exact ih _ _ _ _ | (refine pc_if (fun _ => ?_) (fun _ => ?_)) | (refine pc_ro (ro_f9_isOut) (fun _ => ?_)))
theorem ro_f9_hasOut {x1 x2 : Int32} : RO (f9_hasOut x1 x2 rho) rho := by
  unfold f9_hasOut
  repeat' (with_reducible first | exact pc_none | exact pc_some rfl | (refine pc_if (fun _ => ?_) (fun _ => ?_)) | exact ro_l9_hasOut_5 _ _ _ _ _  | (refine pc_ro (ro_l9_hasOut_5) (fun _ => ?_)))
theorem ro_f9_canChoose {x1 x2 x3 : Int32} : RO (f9_canChoose x1 x2 x3 rho) rho := by
  unfold f9_canChoose
  repeat' (with_reducible first | exact pc_none | exact pc_some rfl | (refine pc_if (fun _ => ?_) (fun _ => ?_)) | (refine pc_ro (ro_f9_hasOut) (fun _ => ?_)) | (refine pc_ro (ro_f9_isAvoided) (fun _ => ?_)))
theorem ro_l9_hasTried_5 : ∀ (n : Nat) (x0 x1 x2 x3 : Int32), RO (l9_hasTried_5 n x0 x1 x2 x3 rho) rho := by
  intro n
  induction n with
  | zero =>
    intro x0 x1 x2 x3
    rw [l9_hasTried_5]
    exact pc_none
  | succ n ih =>
    intro x0 x1 x2 x3
    rw [l9_hasTried_5]
    repeat' (with_reducible first | exact pc_none | exact pc_some rfl | exact ih _ _ _ _ | (refine pc_if (fun _ => ?_) (fun _ => ?_)))
theorem ro_f9_hasTried {x1 x2 : Int32} : RO (f9_hasTried x1 x2 rho) rho := by
  unfold f9_hasTried
  repeat' (with_reducible first | exact pc_none | exact pc_some rfl | (refine pc_if (fun _ => ?_) (fun _ => ?_)) | exact ro_l9_hasTried_5 _ _ _ _ _  | (refine pc_ro (ro_l9_hasTried_5) (fun _ => ?_)))
theorem ro_f9_burden {x1 x2 x3 : Int32} : RO (f9_burden x1 x2 x3 rho) rho := by
  unfold f9_burden
  repeat' (with_reducible first | exact pc_none | exact pc_some rfl | (refine pc_if (fun _ => ?_) (fun _ => ?_)))
theorem ro_l9_chosen_9 : ∀ (n : Nat) (x0 x1 x2 x3 x4 x5 x6 : Int32), RO (l9_chosen_9 n x0 x1 x2 x3 x4 x5 x6 rho) rho := by
  intro n
  induction n with
  | zero =>
    intro x0 x1 x2 x3 x4 x5 x6
    rw [l9_chosen_9]
    exact pc_none
  | succ n ih =>
    intro x0 x1 x2 x3 x4 x5 x6
    rw [l9_chosen_9]
    repeat' (with_reducible first | exact pc_none | exact pc_some rfl | exact ih _ _ _ _ _ _ _ | (refine pc_if (fun _ => ?_) (fun _ => ?_)) | (refine pc_ro (ro_f9_burden) (fun _ => ?_)) | (refine pc_ro (ro_f9_canChoose) (fun _ => ?_)) | (refine pc_ro (ro_f9_hasTried) (fun _ => ?_)))
theorem ro_f9_chosen {x1 x2 x3 x4 : Int32} : RO (f9_chosen x1 x2 x3 x4 rho) rho := by
  unfold f9_chosen
  repeat' (with_reducible first | exact pc_none | exact pc_some rfl | (refine pc_if (fun _ => ?_) (fun _ => ?_)) | exact ro_l9_chosen_9 _ _ _ _ _ _ _ _  | (refine pc_ro (ro_l9_chosen_9) (fun _ => ?_)))
theorem ro_f9_policyPlace {x0 x1 : Int32} : RO (f9_policyPlace x0 x1 rho) rho := by
  unfold f9_policyPlace
  repeat' (with_reducible first | exact pc_none | exact pc_some rfl | (refine pc_if (fun _ => ?_) (fun _ => ?_)))
theorem ro_f9_policyOf {x1 x2 x3 : Int32} : RO (f9_policyOf x1 x2 x3 rho) rho := by
  unfold f9_policyOf
  repeat' (with_reducible first | exact pc_none | exact pc_some rfl | (refine pc_if (fun _ => ?_) (fun _ => ?_)) | (refine pc_ro (ro_f9_policyPlace) (fun _ => ?_)))
theorem ro_l9_countOf_6 : ∀ (n : Nat) (x0 x1 x2 x3 x4 : Int32), RO (l9_countOf_6 n x0 x1 x2 x3 x4 rho) rho := by
  intro n
  induction n with
  | zero =>
    intro x0 x1 x2 x3 x4
    rw [l9_countOf_6]
    exact pc_none
  | succ n ih =>
    intro x0 x1 x2 x3 x4
    rw [l9_countOf_6]
    repeat' (with_reducible first | exact pc_none | exact pc_some rfl | exact ih _ _ _ _ _ | (refine pc_if (fun _ => ?_) (fun _ => ?_)) | (refine pc_ro (ro_f9_in) (fun _ => ?_)))
theorem ro_f9_countOf {x1 x2 x3 : Int32} : RO (f9_countOf x1 x2 x3 rho) rho := by
  unfold f9_countOf
  repeat' (with_reducible first | exact pc_none | exact pc_some rfl | (refine pc_if (fun _ => ?_) (fun _ => ?_)) | exact ro_l9_countOf_6 _ _ _ _ _ _  | (refine pc_ro (ro_l9_countOf_6) (fun _ => ?_)))
theorem ro_l9_liveOf_2 : ∀ (n : Nat) (x0 x1 x2 : Int32), RO (l9_liveOf_2 n x0 x1 x2 rho) rho := by
  intro n
  induction n with
  | zero =>
    intro x0 x1 x2
    rw [l9_liveOf_2]
    exact pc_none
  | succ n ih =>
    intro x0 x1 x2
    rw [l9_liveOf_2]
    repeat' (with_reducible first | exact pc_none | exact pc_some rfl | exact ih _ _ _ | (refine pc_if (fun _ => ?_) (fun _ => ?_)) | (refine pc_ro (ro_f9_hasEnded) (fun _ => ?_)))
theorem ro_f9_liveOf {x1 x2 : Int32} : RO (f9_liveOf x1 x2 rho) rho := by
  unfold f9_liveOf
  repeat' (with_reducible first | exact pc_none | exact pc_some rfl | (refine pc_if (fun _ => ?_) (fun _ => ?_)) | exact ro_l9_liveOf_2 _ _ _ _  | (refine pc_ro (ro_l9_liveOf_2) (fun _ => ?_)))
theorem ro_l9_hasRunIn_5 : ∀ (n : Nat) (x0 x1 x2 x3 : Int32), RO (l9_hasRunIn_5 n x0 x1 x2 x3 rho) rho := by
  intro n
  induction n with
  | zero =>
    intro x0 x1 x2 x3
    rw [l9_hasRunIn_5]
    exact pc_none
  | succ n ih =>
    intro x0 x1 x2 x3
    rw [l9_hasRunIn_5]
    repeat' (with_reducible first | exact pc_none | exact pc_some rfl | exact ih _ _ _ _ | (refine pc_if (fun _ => ?_) (fun _ => ?_)))
theorem ro_f9_hasRunIn {x1 x2 : Int32} : RO (f9_hasRunIn x1 x2 rho) rho := by
  unfold f9_hasRunIn
  repeat' (with_reducible first | exact pc_none | exact pc_some rfl | (refine pc_if (fun _ => ?_) (fun _ => ?_)) | exact ro_l9_hasRunIn_5 _ _ _ _ _  | (refine pc_ro (ro_l9_hasRunIn_5) (fun _ => ?_)))
theorem ro_l9_hasOutOf_4 : ∀ (n : Nat) (x0 x1 x2 : Int32), RO (l9_hasOutOf_4 n x0 x1 x2 rho) rho := by
  intro n
  induction n with
  | zero =>
    intro x0 x1 x2
    rw [l9_hasOutOf_4]
    exact pc_none
  | succ n ih =>
    intro x0 x1 x2
    rw [l9_hasOutOf_4]
    repeat' (with_reducible first | exact pc_none | exact pc_some rfl | exact ih _ _ _ | (refine pc_if (fun _ => ?_) (fun _ => ?_)) | (refine pc_ro (ro_f9_isOut) (fun _ => ?_)))
theorem ro_f9_hasOutOf {x1 : Int32} : RO (f9_hasOutOf x1 rho) rho := by
  unfold f9_hasOutOf
  repeat' (with_reducible first | exact pc_none | exact pc_some rfl | (refine pc_if (fun _ => ?_) (fun _ => ?_)) | exact ro_l9_hasOutOf_4 _ _ _ _  | (refine pc_ro (ro_l9_hasOutOf_4) (fun _ => ?_)))
theorem ro_f9_isSafeOf {x1 : Int32} : RO (f9_isSafeOf x1 rho) rho := by
  unfold f9_isSafeOf
  repeat' (with_reducible first | exact pc_none | exact pc_some rfl | (refine pc_if (fun _ => ?_) (fun _ => ?_)))
end PCS
