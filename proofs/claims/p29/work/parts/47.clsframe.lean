section F8
theorem fr8_X3_init {i0 : Nat} {m : CM} : PR m (f8_X3_init i0 m) := by
  unfold f8_X3_init
  have hm : FR m m := FR.rf
  refine PR_if ?_ PR_none
  refine PR_cg ?_
  refine PR_wr (FR.sNA (by decide) hm) (fun m4 hm4 => ?_)
  refine PR_wr (FR.sR (by decide) hm4) (fun m6 hm6 => ?_)
  refine PR_if ?_ PR_none
  refine PR_cg ?_
  refine PR_wr (FR.sNA (by decide) hm6) (fun m11 hm11 => ?_)
  refine PR_wr (FR.sR (by decide) hm11) (fun m13 hm13 => ?_)
  exact PR_some hm13
theorem fr8_X6_init {i0 : Nat} {m : CM} : PR m (f8_X6_init i0 m) := by
  unfold f8_X6_init
  have hm : FR m m := FR.rf
  refine PR_wr (FR.sI hm) (fun m1 hm1 => ?_)
  refine PR_if ?_ PR_none
  refine PR_cg ?_
  refine PR_wr (FR.sNA (by decide) hm1) (fun m6 hm6 => ?_)
  refine PR_wr (FR.sR (by decide) hm6) (fun m8 hm8 => ?_)
  refine PR_if ?_ PR_none
  refine PR_cg ?_
  refine PR_wr (FR.sNA (by decide) hm8) (fun m13 hm13 => ?_)
  refine PR_wr (FR.sR (by decide) hm13) (fun m15 hm15 => ?_)
  refine PR_if ?_ PR_none
  refine PR_cg ?_
  refine PR_wr (FR.sNA (by decide) hm15) (fun m20 hm20 => ?_)
  refine PR_wr (FR.sR (by decide) hm20) (fun m22 hm22 => ?_)
  refine PR_if ?_ PR_none
  refine PR_cg ?_
  refine PR_wr (FR.sN (by decide) hm22) (fun m27 hm27 => ?_)
  refine PR_cb hm27 fr8_X3_init (fun r29 m30 hm30 => ?_)
  refine PR_wr (FR.sR (by decide) hm30) (fun m35 hm35 => ?_)
  exact PR_some hm35
theorem fr8_X2_init {i0 : Nat} {m : CM} : PR m (f8_X2_init i0 m) := by
  unfold f8_X2_init
  have hm : FR m m := FR.rf
  refine PR_wr (FR.sI hm) (fun m1 hm1 => ?_)
  refine PR_wr (FR.sI hm1) (fun m3 hm3 => ?_)
  exact PR_some hm3
theorem fr8_X8_init_156 {K149 : Nat → Int32 → CM → CR (Int32)} (hF149 : ∀ {i0 : Nat} {x1 : Int32} {m : CM}, PR m (K149 i0 x1 m)) : ∀ (n : Nat) {i0 : Nat} {x1 : Int32} {x2 : Int32} {m : CM}, PR m (l8_X8_init_156 K149 n i0 x1 x2 m) := by
  intro n
  induction n with
  | zero =>
    intro i0 x1 x2 m
    rw [l8_X8_init_156]
    exact PR_none
  | succ n ihf =>
    intro i0 x1 x2 m
    rw [l8_X8_init_156]
    have hm : FR m m := FR.rf
    refine PR_if ?_ ?_
    · skip
      exact PR_tr hm hF149
    · skip
      refine PR_od (fun j2 => ?_)
      refine PR_if ?_ PR_none
      refine PR_od (fun j5 => ?_)
      refine PR_if ?_ PR_none
      refine PR_wr (FR.sA hm) (fun m8 hm8 => ?_)
      exact PR_tr hm8 ihf
theorem fr8_X8_init_149 : ∀ (n : Nat) {i0 : Nat} {x1 : Int32} {m : CM}, PR m (l8_X8_init_149 n i0 x1 m) := by
  intro n
  induction n with
  | zero =>
    intro i0 x1 m
    rw [l8_X8_init_149]
    exact PR_none
  | succ n ihf =>
    intro i0 x1 m
    rw [l8_X8_init_149]
    have hm : FR m m := FR.rf
    refine PR_if ?_ ?_
    · skip
      exact PR_some hm
    · skip
      exact PR_tr hm (fr8_X8_init_156 ihf FU)
theorem fr8_X8_init_122 : ∀ (n : Nat) {i0 : Nat} {x1 : Int32} {m : CM}, PR m (l8_X8_init_122 n i0 x1 m) := by
  intro n
  induction n with
  | zero =>
    intro i0 x1 m
    rw [l8_X8_init_122]
    exact PR_none
  | succ n ihf =>
    intro i0 x1 m
    rw [l8_X8_init_122]
    have hm : FR m m := FR.rf
    refine PR_if ?_ ?_
    · skip
      exact PR_tr hm (fr8_X8_init_149 FU)
    · skip
      refine PR_od (fun j2 => ?_)
      refine PR_if ?_ PR_none
      refine PR_cg ?_
      refine PR_wr (FR.sN (by decide) hm) (fun m7 hm7 => ?_)
      refine PR_cb hm7 fr8_X2_init (fun r9 m10 hm10 => ?_)
      refine PR_if ?_ PR_none
      refine PR_wr (FR.sO hm10) (fun m16 hm16 => ?_)
      exact PR_tr hm16 ihf
theorem fr8_X8_init_95 : ∀ (n : Nat) {i0 : Nat} {x1 : Int32} {m : CM}, PR m (l8_X8_init_95 n i0 x1 m) := by
  intro n
  induction n with
  | zero =>
    intro i0 x1 m
    rw [l8_X8_init_95]
    exact PR_none
  | succ n ihf =>
    intro i0 x1 m
    rw [l8_X8_init_95]
    have hm : FR m m := FR.rf
    refine PR_if ?_ ?_
    · skip
      exact PR_tr hm (fr8_X8_init_122 FU)
    · skip
      refine PR_od (fun j2 => ?_)
      refine PR_if ?_ PR_none
      refine PR_cg ?_
      refine PR_wr (FR.sN (by decide) hm) (fun m7 hm7 => ?_)
      refine PR_cb hm7 fr8_X6_init (fun r9 m10 hm10 => ?_)
      refine PR_if ?_ PR_none
      refine PR_wr (FR.sO hm10) (fun m16 hm16 => ?_)
      exact PR_tr hm16 ihf
theorem fr8_X8_init {i0 : Nat} {m : CM} : PR m (f8_X8_init i0 m) := by
  unfold f8_X8_init
  have hm : FR m m := FR.rf
  refine PR_wr (FR.sI hm) (fun m1 hm1 => ?_)
  refine PR_wr (FR.sI hm1) (fun m3 hm3 => ?_)
  refine PR_wr (FR.sI hm3) (fun m5 hm5 => ?_)
  refine PR_if ?_ PR_none
  refine PR_cg ?_
  refine PR_wr (FR.sNM hm5) (fun m10 hm10 => ?_)
  refine PR_wr (FR.sR (by decide) hm10) (fun m12 hm12 => ?_)
  refine PR_if ?_ PR_none
  refine PR_cg ?_
  refine PR_wr (FR.sNO (by decide) hm12) (fun m17 hm17 => ?_)
  refine PR_wr (FR.sR (by decide) hm17) (fun m19 hm19 => ?_)
  refine PR_if ?_ PR_none
  refine PR_cg ?_
  refine PR_wr (FR.sNO (by decide) hm19) (fun m24 hm24 => ?_)
  refine PR_wr (FR.sR (by decide) hm24) (fun m26 hm26 => ?_)
  refine PR_if ?_ PR_none
  refine PR_cg ?_
  refine PR_wr (FR.sNL (by decide) hm26) (fun m31 hm31 => ?_)
  refine PR_wr (FR.sR (by decide) hm31) (fun m33 hm33 => ?_)
  refine PR_if ?_ PR_none
  refine PR_cg ?_
  refine PR_wr (FR.sNL (by decide) hm33) (fun m38 hm38 => ?_)
  refine PR_wr (FR.sR (by decide) hm38) (fun m40 hm40 => ?_)
  refine PR_if ?_ PR_none
  refine PR_cg ?_
  refine PR_wr (FR.sNL (by decide) hm40) (fun m45 hm45 => ?_)
  refine PR_wr (FR.sR (by decide) hm45) (fun m47 hm47 => ?_)
  refine PR_if ?_ PR_none
  refine PR_cg ?_
  refine PR_wr (FR.sNL (by decide) hm47) (fun m52 hm52 => ?_)
  refine PR_wr (FR.sR (by decide) hm52) (fun m54 hm54 => ?_)
  exact PR_tr hm54 (fr8_X8_init_95 FU)
theorem fr8_X8_tick {i0 : Nat} {m : CM} : PR m (f8_X8_tick i0 m) := by
  unfold f8_X8_tick
  have hm : FR m m := FR.rf
  exact PR_some hm
theorem fr8_X8_calls {i0 : Nat} {m : CM} : PR m (f8_X8_calls i0 m) := by
  unfold f8_X8_calls
  have hm : FR m m := FR.rf
  refine PR_od (fun j1 => ?_)
  exact PR_some hm
theorem fr8_X8_isWithin {x0 : Int32} {x1 : Int32} {x2 : Int32} {m : CM} : PR m (f8_X8_isWithin x0 x1 x2 m) := by
  unfold f8_X8_isWithin
  have hm : FR m m := FR.rf
  refine PR_if ?_ ?_
  · skip
    exact PR_some hm
  · skip
    refine PR_if ?_ ?_
    · skip
      exact PR_some hm
    · skip
      exact PR_some hm
theorem fr8_X8_call {i0 : Nat} {x1 : Int32} {x2 : Int32} {m : CM} : PR m (f8_X8_call i0 x1 x2 m) := by
  unfold f8_X8_call
  have hm : FR m m := FR.rf
  refine PR_od (fun j1 => ?_)
  refine PR_cb hm fr8_X8_isWithin (fun r3 m4 hm4 => ?_)
  refine PR_if (PR_some hm4) ?_
  refine PR_cb hm4 fr8_X8_isWithin (fun r10 m11 hm11 => ?_)
  refine PR_if (PR_some hm11) ?_
  refine PR_od (fun j17 => ?_)
  refine PR_if ?_ PR_none
  refine PR_od (fun j20 => ?_)
  refine PR_if ?_ ?_
  · skip
    refine PR_od (fun j23 => ?_)
    exact PR_some hm11
  refine PR_if ?_ ?_
  · skip
    refine PR_od (fun j26 => ?_)
    exact PR_some hm11
  refine PR_if ?_ ?_
  · skip
    exact PR_some hm11
  refine PR_if ?_ ?_
  · skip
    exact PR_some hm11
  refine PR_if ?_ ?_
  · skip
    refine PR_od (fun j31 => ?_)
    refine PR_if ?_ ?_
    · skip
      exact PR_some hm11
    · skip
      refine PR_od (fun j34 => ?_)
      exact PR_some hm11
  refine PR_if ?_ ?_
  · skip
    refine PR_od (fun j37 => ?_)
    exact PR_some hm11
  refine PR_if ?_ ?_
  · skip
    refine PR_od (fun j40 => ?_)
    exact PR_some hm11
  refine PR_od (fun j42 => ?_)
  exact PR_some hm11
theorem fr8_X8_repairs_16 : ∀ (n : Nat) {i0 : Nat} {x2 : Int32} {x3 : Int32} {m : CM}, PR m (l8_X8_repairs_16 n i0 x2 x3 m) := by
  intro n
  induction n with
  | zero =>
    intro i0 x2 x3 m
    rw [l8_X8_repairs_16]
    exact PR_none
  | succ n ihf =>
    intro i0 x2 x3 m
    rw [l8_X8_repairs_16]
    have hm : FR m m := FR.rf
    refine PR_od (fun j1 => ?_)
    refine PR_if ?_ ?_
    · skip
      exact PR_some hm
    · skip
      refine PR_if ?_ PR_none
      refine PR_od (fun j5 => ?_)
      refine PR_if ?_ ?_
      · skip
        exact PR_tr hm ihf
      · skip
        exact PR_tr hm ihf
theorem fr8_X8_repairs {i0 : Nat} {x1 : Int32} {m : CM} : PR m (f8_X8_repairs i0 x1 m) := by
  unfold f8_X8_repairs
  have hm : FR m m := FR.rf
  refine PR_if ?_ ?_
  · skip
    refine PR_od (fun j2 => ?_)
    exact PR_some hm
  · skip
    exact PR_tr hm (fr8_X8_repairs_16 FU)
theorem fr8_X8_requestState {i0 : Nat} {x1 : Int32} {m : CM} : PR m (f8_X8_requestState i0 x1 m) := by
  unfold f8_X8_requestState
  have hm : FR m m := FR.rf
  refine PR_od (fun j1 => ?_)
  refine PR_cb hm fr8_X8_isWithin (fun r3 m4 hm4 => ?_)
  refine PR_if (PR_some hm4) ?_
  refine PR_od (fun j10 => ?_)
  refine PR_if ?_ PR_none
  refine PR_od (fun j13 => ?_)
  exact PR_some hm4
theorem fr8_X8_callsOf_21 : ∀ (n : Nat) {i0 : Nat} {x1 : Int32} {x2 : Int32} {x3 : Int32} {m : CM}, PR m (l8_X8_callsOf_21 n i0 x1 x2 x3 m) := by
  intro n
  induction n with
  | zero =>
    intro i0 x1 x2 x3 m
    rw [l8_X8_callsOf_21]
    exact PR_none
  | succ n ihf =>
    intro i0 x1 x2 x3 m
    rw [l8_X8_callsOf_21]
    have hm : FR m m := FR.rf
    refine PR_od (fun j1 => ?_)
    refine PR_if ?_ ?_
    · skip
      exact PR_some hm
    · skip
      refine PR_if ?_ PR_none
      refine PR_od (fun j5 => ?_)
      refine PR_od (fun j7 => ?_)
      refine PR_if ?_ ?_
      · skip
        exact PR_tr hm ihf
      · skip
        exact PR_tr hm ihf
theorem fr8_X8_callsOf {i0 : Nat} {x1 : Int32} {m : CM} : PR m (f8_X8_callsOf i0 x1 m) := by
  unfold f8_X8_callsOf
  have hm : FR m m := FR.rf
  refine PR_od (fun j1 => ?_)
  refine PR_cb hm fr8_X8_isWithin (fun r3 m4 hm4 => ?_)
  refine PR_if (PR_some hm4) ?_
  exact PR_tr hm4 (fr8_X8_callsOf_21 FU)
theorem fr8_X8_requestTicks {i0 : Nat} {x1 : Int32} {m : CM} : PR m (f8_X8_requestTicks i0 x1 m) := by
  unfold f8_X8_requestTicks
  have hm : FR m m := FR.rf
  refine PR_od (fun j1 => ?_)
  refine PR_cb hm fr8_X8_isWithin (fun r3 m4 hm4 => ?_)
  refine PR_if (PR_some hm4) ?_
  refine PR_od (fun j10 => ?_)
  refine PR_if ?_ PR_none
  refine PR_od (fun j13 => ?_)
  refine PR_if ?_ ?_
  · skip
    exact PR_some hm4
  · skip
    exact PR_some hm4
theorem fr8_X8_isKeptByHead {i0 : Nat} {i1 : Nat} {m : CM} : PR m (f8_X8_isKeptByHead i0 i1 m) := by
  unfold f8_X8_isKeptByHead
  have hm : FR m m := FR.rf
  refine PR_if ?_ ?_
  · skip
    exact PR_some hm
  · skip
    refine PR_od (fun j2 => ?_)
    refine PR_if ?_ PR_none
    refine PR_if ?_ ?_
    · skip
      exact PR_some hm
    · skip
      exact PR_some hm
theorem fr8_X8_isKept {i0 : Nat} {x1 : Int32} {m : CM} : PR m (f8_X8_isKept i0 x1 m) := by
  unfold f8_X8_isKept
  have hm : FR m m := FR.rf
  refine PR_od (fun j1 => ?_)
  refine PR_cb hm fr8_X8_isWithin (fun r3 m4 hm4 => ?_)
  refine PR_if (PR_some hm4) ?_
  refine PR_od (fun j10 => ?_)
  refine PR_if ?_ PR_none
  refine PR_od (fun j13 => ?_)
  refine PR_if ?_ ?_
  · skip
    refine PR_cb hm4 fr8_X8_isKeptByHead (fun r16 m17 hm17 => ?_)
    refine PR_if ?_ PR_none
    exact PR_some hm17
  · skip
    refine PR_if ?_ PR_none
    exact PR_some hm4
theorem fr8_X4_loadNow {i0 : Nat} {m : CM} : PR m (f8_X4_loadNow i0 m) := by
  unfold f8_X4_loadNow
  have hm : FR m m := FR.rf
  refine PR_od (fun j1 => ?_)
  exact PR_some hm
theorem fr8_X8_load {i0 : Nat} {x1 : Int32} {x2 : Int32} {m : CM} : PR m (f8_X8_load i0 x1 x2 m) := by
  unfold f8_X8_load
  have hm : FR m m := FR.rf
  refine PR_od (fun j1 => ?_)
  refine PR_cb hm fr8_X8_isWithin (fun r3 m4 hm4 => ?_)
  refine PR_if (PR_some hm4) ?_
  refine PR_od (fun j10 => ?_)
  refine PR_if ?_ PR_none
  refine PR_od (fun j13 => ?_)
  refine PR_if ?_ ?_
  · skip
    exact PR_some hm4
  · skip
    refine PR_cb hm4 fr8_X4_loadNow (fun r16 m17 hm17 => ?_)
    exact PR_some hm17
theorem fr8_X8_breaker {i0 : Nat} {x1 : Int32} {x2 : Int32} {m : CM} : PR m (f8_X8_breaker i0 x1 x2 m) := by
  unfold f8_X8_breaker
  have hm : FR m m := FR.rf
  refine PR_cb hm fr8_X8_isWithin (fun r1 m2 hm2 => ?_)
  refine PR_if ?_ ?_
  · skip
    exact PR_some hm2
  · skip
    refine PR_od (fun j8 => ?_)
    refine PR_cb hm2 fr8_X8_isWithin (fun r10 m11 hm11 => ?_)
    refine PR_if ?_ ?_
    · skip
      exact PR_some hm11
    · skip
      refine PR_od (fun j17 => ?_)
      refine PR_if ?_ PR_none
      refine PR_od (fun j20 => ?_)
      refine PR_od (fun j22 => ?_)
      refine PR_if ?_ PR_none
      refine PR_od (fun j25 => ?_)
      exact PR_some hm11
theorem fr8_X4_openBreakers_4 : ∀ (n : Nat) {i0 : Nat} {x1 : Int32} {x2 : Int32} {m : CM}, PR m (l8_X4_openBreakers_4 n i0 x1 x2 m) := by
  intro n
  induction n with
  | zero =>
    intro i0 x1 x2 m
    rw [l8_X4_openBreakers_4]
    exact PR_none
  | succ n ihf =>
    intro i0 x1 x2 m
    rw [l8_X4_openBreakers_4]
    have hm : FR m m := FR.rf
    refine PR_if ?_ ?_
    · skip
      exact PR_some hm
    · skip
      refine PR_od (fun j2 => ?_)
      refine PR_if ?_ PR_none
      refine PR_od (fun j5 => ?_)
      refine PR_if ?_ ?_
      · skip
        exact PR_tr hm ihf
      · skip
        exact PR_tr hm ihf
theorem fr8_X4_openBreakers {i0 : Nat} {m : CM} : PR m (f8_X4_openBreakers i0 m) := by
  unfold f8_X4_openBreakers
  have hm : FR m m := FR.rf
  exact PR_tr hm (fr8_X4_openBreakers_4 FU)
theorem fr8_X8_isShunned {i0 : Nat} {x1 : Int32} {m : CM} : PR m (f8_X8_isShunned i0 x1 m) := by
  unfold f8_X8_isShunned
  have hm : FR m m := FR.rf
  refine PR_od (fun j1 => ?_)
  refine PR_cb hm fr8_X8_isWithin (fun r3 m4 hm4 => ?_)
  refine PR_if (PR_some hm4) ?_
  refine PR_od (fun j10 => ?_)
  refine PR_if ?_ PR_none
  refine PR_od (fun j13 => ?_)
  refine PR_cb hm4 fr8_X4_openBreakers (fun r15 m16 hm16 => ?_)
  refine PR_if ?_ ?_
  · skip
    exact PR_some hm16
  · skip
    exact PR_some hm16
theorem fr8_X8_first {i0 : Nat} {x1 : Int32} {m : CM} : PR m (f8_X8_first i0 x1 m) := by
  unfold f8_X8_first
  have hm : FR m m := FR.rf
  refine PR_cb hm fr8_X8_isWithin (fun r1 m2 hm2 => ?_)
  refine PR_if (PR_some hm2) ?_
  refine PR_od (fun j8 => ?_)
  refine PR_if ?_ PR_none
  refine PR_od (fun j11 => ?_)
  exact PR_some hm2
theorem fr8_X8_extra {i0 : Nat} {x1 : Int32} {m : CM} : PR m (f8_X8_extra i0 x1 m) := by
  unfold f8_X8_extra
  have hm : FR m m := FR.rf
  refine PR_cb hm fr8_X8_isWithin (fun r1 m2 hm2 => ?_)
  refine PR_if (PR_some hm2) ?_
  refine PR_od (fun j8 => ?_)
  refine PR_if ?_ PR_none
  refine PR_od (fun j11 => ?_)
  exact PR_some hm2
theorem fr8_X8_budget {i0 : Nat} {x1 : Int32} {m : CM} : PR m (f8_X8_budget i0 x1 m) := by
  unfold f8_X8_budget
  have hm : FR m m := FR.rf
  refine PR_cb hm fr8_X8_isWithin (fun r1 m2 hm2 => ?_)
  refine PR_if (PR_some hm2) ?_
  refine PR_od (fun j8 => ?_)
  refine PR_if ?_ PR_none
  refine PR_od (fun j11 => ?_)
  exact PR_some hm2
theorem fr8_X6_plan {i0 : Nat} {x1 : Int32} {x2 : Int32} {x3 : Int32} {m : CM} : PR m (f8_X6_plan i0 x1 x2 x3 m) := by
  unfold f8_X6_plan
  have hm : FR m m := FR.rf
  refine PR_if ?_ ?_
  · skip
    exact PR_some hm
  · skip
    refine PR_od (fun j2 => ?_)
    refine PR_if ?_ PR_none
    refine PR_wr (FR.sA hm) (fun m5 hm5 => ?_)
    refine PR_od (fun j7 => ?_)
    refine PR_if ?_ PR_none
    refine PR_if ?_ PR_none
    refine PR_wr (FR.sA hm5) (fun m11 hm11 => ?_)
    refine PR_od (fun j13 => ?_)
    refine PR_if ?_ PR_none
    refine PR_wr (FR.sA hm11) (fun m16 hm16 => ?_)
    refine PR_wr (FR.sI hm16) (fun m18 hm18 => ?_)
    exact PR_some hm18
theorem fr8_X8_step_93 {i0 : Nat} {x2 : Int32} {x3 : Int32} {x4 : Int32} {i5 : Nat} {s0 : Int32} {m : CM} : PR m (b8_X8_step_93 i0 x2 x3 x4 i5 s0 m) := by
  unfold b8_X8_step_93
  have hm : FR m m := FR.rf
  refine PR_if (PR_some hm) ?_
  refine PR_cb hm fr8_X6_plan (fun r2 m3 hm3 => ?_)
  exact PR_some hm3
theorem fr8_X8_step_58 {i0 : Nat} {x1 : Int32} {x2 : Int32} {x3 : Int32} {x4 : Int32} {s0 : Int32} {m : CM} : PR m (b8_X8_step_58 i0 x1 x2 x3 x4 s0 m) := by
  unfold b8_X8_step_58
  have hm : FR m m := FR.rf
  refine PR_if (PR_some hm) ?_
  refine PR_od (fun j2 => ?_)
  refine PR_if ?_ PR_none
  refine PR_od (fun j5 => ?_)
  refine PR_if ?_ ?_
  · skip
    exact PR_tr hm fr8_X8_step_93
  · skip
    refine PR_od (fun j8 => ?_)
    refine PR_if ?_ ?_
    · skip
      exact PR_tr hm fr8_X8_step_93
    · skip
      exact PR_tr hm fr8_X8_step_93
theorem fr8_X8_step_33 {i0 : Nat} {x1 : Int32} {x2 : Int32} {x3 : Int32} {x4 : Int32} {s0 : Int32} {m : CM} : PR m (b8_X8_step_33 i0 x1 x2 x3 x4 s0 m) := by
  unfold b8_X8_step_33
  have hm : FR m m := FR.rf
  refine PR_if (PR_some hm) ?_
  refine PR_if ?_ ?_
  · skip
    exact PR_tr hm fr8_X8_step_58
  · skip
    refine PR_if ?_ ?_
    · skip
      exact PR_tr hm fr8_X8_step_58
    · skip
      refine PR_if ?_ ?_
      · skip
        exact PR_tr hm fr8_X8_step_58
      · skip
        exact PR_tr hm fr8_X8_step_58
theorem fr8_X8_step {i0 : Nat} {x1 : Int32} {x2 : Int32} {x3 : Int32} {x4 : Int32} {m : CM} : PR m (f8_X8_step i0 x1 x2 x3 x4 m) := by
  unfold f8_X8_step
  have hm : FR m m := FR.rf
  refine PR_cb hm fr8_X8_isWithin (fun r1 m2 hm2 => ?_)
  refine PR_if ?_ ?_
  · skip
    exact PR_tr hm2 fr8_X8_step_33
  · skip
    refine PR_cb hm2 fr8_X8_isWithin (fun r8 m9 hm9 => ?_)
    refine PR_if ?_ ?_
    · skip
      exact PR_tr hm9 fr8_X8_step_33
    · skip
      refine PR_cb hm9 fr8_X8_isWithin (fun r15 m16 hm16 => ?_)
      refine PR_if ?_ ?_
      · skip
        exact PR_tr hm16 fr8_X8_step_33
      · skip
        exact PR_tr hm16 fr8_X8_step_33
theorem fr8_X0_init {i0 : Nat} {m : CM} : PR m (f8_X0_init i0 m) := by
  unfold f8_X0_init
  have hm : FR m m := FR.rf
  refine PR_wr (FR.sI hm) (fun m1 hm1 => ?_)
  exact PR_some hm1
theorem fr8_X4_init_81 : ∀ (n : Nat) {i0 : Nat} {x8 : Int32} {m : CM}, PR m (l8_X4_init_81 n i0 x8 m) := by
  intro n
  induction n with
  | zero =>
    intro i0 x8 m
    rw [l8_X4_init_81]
    exact PR_none
  | succ n ihf =>
    intro i0 x8 m
    rw [l8_X4_init_81]
    have hm : FR m m := FR.rf
    refine PR_if ?_ ?_
    · skip
      exact PR_some hm
    · skip
      refine PR_od (fun j2 => ?_)
      refine PR_if ?_ PR_none
      refine PR_cg ?_
      refine PR_wr (FR.sN (by decide) hm) (fun m7 hm7 => ?_)
      refine PR_cb hm7 fr8_X0_init (fun r9 m10 hm10 => ?_)
      refine PR_if ?_ PR_none
      refine PR_wr (FR.sO hm10) (fun m16 hm16 => ?_)
      exact PR_tr hm16 ihf
theorem fr8_X4_init {i0 : Nat} {x1 : Int32} {x2 : Int32} {x3 : Int32} {x4 : Int32} {x5 : Int32} {x6 : Int32} {x7 : Int32} {m : CM} : PR m (f8_X4_init i0 x1 x2 x3 x4 x5 x6 x7 m) := by
  unfold f8_X4_init
  have hm : FR m m := FR.rf
  refine PR_if ?_ PR_none
  refine PR_cg ?_
  refine PR_wr (FR.sNA (by decide) hm) (fun m4 hm4 => ?_)
  refine PR_wr (FR.sR (by decide) hm4) (fun m6 hm6 => ?_)
  refine PR_if ?_ PR_none
  refine PR_cg ?_
  refine PR_wr (FR.sNO (by decide) hm6) (fun m11 hm11 => ?_)
  refine PR_wr (FR.sR (by decide) hm11) (fun m13 hm13 => ?_)
  refine PR_if ?_ PR_none
  refine PR_cg ?_
  refine PR_wr (FR.sNA (by decide) hm13) (fun m18 hm18 => ?_)
  refine PR_wr (FR.sR (by decide) hm18) (fun m20 hm20 => ?_)
  refine PR_if ?_ PR_none
  refine PR_cg ?_
  refine PR_wr (FR.sNL (by decide) hm20) (fun m25 hm25 => ?_)
  refine PR_wr (FR.sR (by decide) hm25) (fun m27 hm27 => ?_)
  refine PR_wr (FR.sI hm27) (fun m29 hm29 => ?_)
  refine PR_wr (FR.sI hm29) (fun m31 hm31 => ?_)
  refine PR_wr (FR.sI hm31) (fun m33 hm33 => ?_)
  refine PR_wr (FR.sI hm33) (fun m35 hm35 => ?_)
  refine PR_wr (FR.sI hm35) (fun m37 hm37 => ?_)
  refine PR_wr (FR.sI hm37) (fun m39 hm39 => ?_)
  refine PR_wr (FR.sI hm39) (fun m41 hm41 => ?_)
  exact PR_tr hm41 (fr8_X4_init_81 FU)
theorem fr8_X8_instance_93 {i0 : Nat} {x1 : Int32} {x2 : Int32} {x3 : Int32} {x4 : Int32} {x5 : Int32} {x6 : Int32} {s0 : Int32} {m : CM} : PR m (b8_X8_instance_93 i0 x1 x2 x3 x4 x5 x6 s0 m) := by
  unfold b8_X8_instance_93
  have hm : FR m m := FR.rf
  refine PR_if (PR_some hm) ?_
  refine PR_if ?_ PR_none
  refine PR_cg ?_
  refine PR_wr (FR.sN (by decide) hm) (fun m5 hm5 => ?_)
  refine PR_od (fun j7 => ?_)
  refine PR_cb hm5 fr8_X4_init (fun r9 m10 hm10 => ?_)
  refine PR_od (fun j15 => ?_)
  refine PR_if ?_ PR_none
  refine PR_cg ?_
  refine PR_wr (FR.sL hm10) (fun m20 hm20 => ?_)
  exact PR_some hm20
theorem fr8_X8_instance_73 {i0 : Nat} {x1 : Int32} {x2 : Int32} {x3 : Int32} {x4 : Int32} {x5 : Int32} {x6 : Int32} {s0 : Int32} {m : CM} : PR m (b8_X8_instance_73 i0 x1 x2 x3 x4 x5 x6 s0 m) := by
  unfold b8_X8_instance_73
  have hm : FR m m := FR.rf
  refine PR_if (PR_some hm) ?_
  refine PR_od (fun j2 => ?_)
  refine PR_if ?_ ?_
  · skip
    exact PR_tr hm fr8_X8_instance_93
  · skip
    exact PR_tr hm fr8_X8_instance_93
theorem fr8_X8_instance_44 {i0 : Nat} {x1 : Int32} {x2 : Int32} {x3 : Int32} {x4 : Int32} {x5 : Int32} {x6 : Int32} {s0 : Int32} {m : CM} : PR m (b8_X8_instance_44 i0 x1 x2 x3 x4 x5 x6 s0 m) := by
  unfold b8_X8_instance_44
  have hm : FR m m := FR.rf
  refine PR_if (PR_some hm) ?_
  refine PR_cb hm fr8_X8_isWithin (fun r2 m3 hm3 => ?_)
  refine PR_if ?_ ?_
  · skip
    exact PR_tr hm3 fr8_X8_instance_73
  · skip
    refine PR_cb hm3 fr8_X8_isWithin (fun r9 m10 hm10 => ?_)
    refine PR_if ?_ ?_
    · skip
      exact PR_tr hm10 fr8_X8_instance_73
    · skip
      exact PR_tr hm10 fr8_X8_instance_73
theorem fr8_X8_instance {i0 : Nat} {x1 : Int32} {x2 : Int32} {x3 : Int32} {x4 : Int32} {x5 : Int32} {x6 : Int32} {m : CM} : PR m (f8_X8_instance i0 x1 x2 x3 x4 x5 x6 m) := by
  unfold f8_X8_instance
  have hm : FR m m := FR.rf
  refine PR_cb hm fr8_X8_isWithin (fun r1 m2 hm2 => ?_)
  refine PR_if (PR_some hm2) ?_
  refine PR_cb hm2 fr8_X8_isWithin (fun r8 m9 hm9 => ?_)
  refine PR_if ?_ ?_
  · skip
    exact PR_tr hm9 fr8_X8_instance_44
  · skip
    refine PR_cb hm9 fr8_X8_isWithin (fun r15 m16 hm16 => ?_)
    refine PR_if ?_ ?_
    · skip
      exact PR_tr hm16 fr8_X8_instance_44
    · skip
      refine PR_cb hm16 fr8_X8_isWithin (fun r22 m23 hm23 => ?_)
      refine PR_if ?_ ?_
      · skip
        exact PR_tr hm23 fr8_X8_instance_44
      · skip
        exact PR_tr hm23 fr8_X8_instance_44
theorem fr8_X8_fault {i0 : Nat} {x1 : Int32} {x2 : Int32} {x3 : Int32} {m : CM} : PR m (f8_X8_fault i0 x1 x2 x3 m) := by
  unfold f8_X8_fault
  have hm : FR m m := FR.rf
  refine PR_od (fun j1 => ?_)
  refine PR_cb hm fr8_X8_isWithin (fun r3 m4 hm4 => ?_)
  refine PR_if (PR_some hm4) ?_
  refine PR_cb hm4 fr8_X8_isWithin (fun r10 m11 hm11 => ?_)
  refine PR_if (PR_some hm11) ?_
  refine PR_if ?_ ?_
  · skip
    refine PR_cb hm11 fr8_X8_isWithin (fun r18 m19 hm19 => ?_)
    refine PR_if (PR_some hm19) ?_
    refine PR_od (fun j25 => ?_)
    refine PR_if ?_ PR_none
    refine PR_od (fun j28 => ?_)
    refine PR_od (fun j30 => ?_)
    refine PR_if ?_ PR_none
    refine PR_wr (FR.sA hm19) (fun m33 hm33 => ?_)
    exact PR_some hm33
  · skip
    refine PR_cb hm11 fr8_X8_isWithin (fun r35 m36 hm36 => ?_)
    refine PR_if (PR_some hm36) ?_
    refine PR_od (fun j42 => ?_)
    refine PR_if ?_ PR_none
    refine PR_od (fun j45 => ?_)
    refine PR_od (fun j47 => ?_)
    refine PR_if ?_ PR_none
    refine PR_wr (FR.sA hm36) (fun m50 hm50 => ?_)
    exact PR_some hm50
theorem fr8_X8_policyPlace {x0 : Int32} {x1 : Int32} {m : CM} : PR m (f8_X8_policyPlace x0 x1 m) := by
  unfold f8_X8_policyPlace
  have hm : FR m m := FR.rf
  refine PR_if ?_ ?_
  · skip
    exact PR_some hm
  · skip
    refine PR_if ?_ ?_
    · skip
      exact PR_some hm
    · skip
      exact PR_some hm
theorem fr8_X8_policy_42 {i0 : Nat} {x1 : Int32} {x2 : Int32} {x3 : Int32} {x4 : Int32} {s0 : Int32} {m : CM} : PR m (b8_X8_policy_42 i0 x1 x2 x3 x4 s0 m) := by
  unfold b8_X8_policy_42
  have hm : FR m m := FR.rf
  refine PR_if (PR_some hm) ?_
  refine PR_cb hm fr8_X8_isWithin (fun r2 m3 hm3 => ?_)
  refine PR_if (PR_some hm3) ?_
  refine PR_if ?_ PR_none
  refine PR_cb hm3 fr8_X8_isWithin (fun r10 m11 hm11 => ?_)
  refine PR_if (PR_some hm11) ?_
  refine PR_cb hm11 fr8_X8_policyPlace (fun r17 m18 hm18 => ?_)
  refine PR_od (fun j23 => ?_)
  refine PR_od (fun j25 => ?_)
  refine PR_if ?_ PR_none
  refine PR_wr (FR.sA hm18) (fun m28 hm28 => ?_)
  exact PR_some hm28
theorem fr8_X8_policy_24 {i0 : Nat} {x1 : Int32} {x2 : Int32} {x3 : Int32} {x4 : Int32} {s0 : Int32} {m : CM} : PR m (b8_X8_policy_24 i0 x1 x2 x3 x4 s0 m) := by
  unfold b8_X8_policy_24
  have hm : FR m m := FR.rf
  refine PR_if (PR_some hm) ?_
  refine PR_if ?_ ?_
  · skip
    exact PR_tr hm fr8_X8_policy_42
  · skip
    refine PR_if ?_ ?_
    · skip
      exact PR_tr hm fr8_X8_policy_42
    · skip
      exact PR_tr hm fr8_X8_policy_42
theorem fr8_X8_policy {i0 : Nat} {x1 : Int32} {x2 : Int32} {x3 : Int32} {x4 : Int32} {m : CM} : PR m (f8_X8_policy i0 x1 x2 x3 x4 m) := by
  unfold f8_X8_policy
  have hm : FR m m := FR.rf
  refine PR_cb hm fr8_X8_isWithin (fun r1 m2 hm2 => ?_)
  refine PR_if ?_ ?_
  · skip
    exact PR_tr hm2 fr8_X8_policy_24
  · skip
    refine PR_cb hm2 fr8_X8_isWithin (fun r8 m9 hm9 => ?_)
    refine PR_if ?_ ?_
    · skip
      exact PR_tr hm9 fr8_X8_policy_24
    · skip
      exact PR_tr hm9 fr8_X8_policy_24
theorem fr8_X8_work {i0 : Nat} {x1 : Int32} {x2 : Int32} {m : CM} : PR m (f8_X8_work i0 x1 x2 m) := by
  unfold f8_X8_work
  have hm : FR m m := FR.rf
  refine PR_cb hm fr8_X8_isWithin (fun r1 m2 hm2 => ?_)
  refine PR_if (PR_some hm2) ?_
  refine PR_cb hm2 fr8_X8_isWithin (fun r8 m9 hm9 => ?_)
  refine PR_if (PR_some hm9) ?_
  refine PR_od (fun j15 => ?_)
  refine PR_if ?_ PR_none
  refine PR_od (fun j18 => ?_)
  refine PR_wr (FR.sI hm9) (fun m20 hm20 => ?_)
  exact PR_some hm20
theorem fr8_X3_restart_12 : ∀ (n : Nat) {i0 : Nat} {x2 : Int32} {m : CM}, PR m (l8_X3_restart_12 n i0 x2 m) := by
  intro n
  induction n with
  | zero =>
    intro i0 x2 m
    rw [l8_X3_restart_12]
    exact PR_none
  | succ n ihf =>
    intro i0 x2 m
    rw [l8_X3_restart_12]
    have hm : FR m m := FR.rf
    refine PR_if ?_ ?_
    · skip
      exact PR_some hm
    · skip
      refine PR_od (fun j2 => ?_)
      refine PR_if ?_ PR_none
      refine PR_wr (FR.sA hm) (fun m5 hm5 => ?_)
      refine PR_od (fun j7 => ?_)
      refine PR_wr (FR.sA hm5) (fun m9 hm9 => ?_)
      exact PR_tr hm9 ihf
theorem fr8_X3_restart {i0 : Nat} {x1 : Int32} {m : CM} : PR m (f8_X3_restart i0 x1 m) := by
  unfold f8_X3_restart
  have hm : FR m m := FR.rf
  refine PR_wr (FR.sI hm) (fun m1 hm1 => ?_)
  refine PR_wr (FR.sI hm1) (fun m3 hm3 => ?_)
  exact PR_tr hm3 (fr8_X3_restart_12 FU)
theorem fr8_X8_canary {i0 : Nat} {x1 : Int32} {x2 : Int32} {m : CM} : PR m (f8_X8_canary i0 x1 x2 m) := by
  unfold f8_X8_canary
  have hm : FR m m := FR.rf
  refine PR_cb hm fr8_X8_isWithin (fun r1 m2 hm2 => ?_)
  refine PR_if (PR_some hm2) ?_
  refine PR_cb hm2 fr8_X8_isWithin (fun r8 m9 hm9 => ?_)
  refine PR_if (PR_some hm9) ?_
  refine PR_od (fun j15 => ?_)
  refine PR_if ?_ PR_none
  refine PR_od (fun j18 => ?_)
  refine PR_od (fun j20 => ?_)
  refine PR_cb hm9 fr8_X3_restart (fun r22 m23 hm23 => ?_)
  exact PR_some hm23
theorem fr8_X8_canaryShare {i0 : Nat} {x1 : Int32} {m : CM} : PR m (f8_X8_canaryShare i0 x1 m) := by
  unfold f8_X8_canaryShare
  have hm : FR m m := FR.rf
  refine PR_cb hm fr8_X8_isWithin (fun r1 m2 hm2 => ?_)
  refine PR_if (PR_some hm2) ?_
  refine PR_od (fun j8 => ?_)
  refine PR_if ?_ PR_none
  refine PR_od (fun j11 => ?_)
  refine PR_od (fun j13 => ?_)
  exact PR_some hm2
theorem fr8_X8_eyes {i0 : Nat} {x1 : Int32} {m : CM} : PR m (f8_X8_eyes i0 x1 m) := by
  unfold f8_X8_eyes
  have hm : FR m m := FR.rf
  refine PR_cb hm fr8_X8_isWithin (fun r1 m2 hm2 => ?_)
  refine PR_if (PR_some hm2) ?_
  refine PR_wr (FR.sI hm2) (fun m8 hm8 => ?_)
  exact PR_some hm8
theorem fr8_X8_share {i0 : Nat} {x1 : Int32} {x2 : Int32} {m : CM} : PR m (f8_X8_share i0 x1 x2 m) := by
  unfold f8_X8_share
  have hm : FR m m := FR.rf
  refine PR_cb hm fr8_X8_isWithin (fun r1 m2 hm2 => ?_)
  refine PR_if (PR_some hm2) ?_
  refine PR_cb hm2 fr8_X8_isWithin (fun r8 m9 hm9 => ?_)
  refine PR_if (PR_some hm9) ?_
  refine PR_od (fun j15 => ?_)
  refine PR_if ?_ PR_none
  refine PR_od (fun j18 => ?_)
  refine PR_wr (FR.sI hm9) (fun m20 hm20 => ?_)
  exact PR_some hm20
theorem fr8_X7_init {i0 : Nat} {x1 : Int32} {x2 : Int32} {x3 : Int32} {m : CM} : PR m (f8_X7_init i0 x1 x2 x3 m) := by
  unfold f8_X7_init
  have hm : FR m m := FR.rf
  refine PR_wr (FR.sI hm) (fun m1 hm1 => ?_)
  refine PR_wr (FR.sI hm1) (fun m3 hm3 => ?_)
  refine PR_wr (FR.sI hm3) (fun m5 hm5 => ?_)
  refine PR_wr (FR.sI hm5) (fun m7 hm7 => ?_)
  refine PR_if ?_ PR_none
  refine PR_cg ?_
  refine PR_wr (FR.sNL (by decide) hm7) (fun m12 hm12 => ?_)
  refine PR_wr (FR.sR (by decide) hm12) (fun m14 hm14 => ?_)
  refine PR_wr (FR.sI hm14) (fun m16 hm16 => ?_)
  refine PR_wr (FR.sI hm16) (fun m18 hm18 => ?_)
  refine PR_wr (FR.sI hm18) (fun m20 hm20 => ?_)
  refine PR_wr (FR.sI hm20) (fun m22 hm22 => ?_)
  refine PR_if ?_ PR_none
  refine PR_wr (FR.sI hm22) (fun m25 hm25 => ?_)
  exact PR_some hm25
theorem fr8_X5_init {i0 : Nat} {i1 : Nat} {x2 : Int32} {m : CM} : PR m (f8_X5_init i0 i1 x2 m) := by
  unfold f8_X5_init
  have hm : FR m m := FR.rf
  refine PR_wr (FR.sI hm) (fun m1 hm1 => ?_)
  refine PR_wr (FR.sR (by decide) hm1) (fun m3 hm3 => ?_)
  refine PR_wr (FR.sI hm3) (fun m5 hm5 => ?_)
  exact PR_some hm5
theorem fr8_X2_account {i0 : Nat} {x1 : Int32} {m : CM} : PR m (f8_X2_account i0 x1 m) := by
  unfold f8_X2_account
  have hm : FR m m := FR.rf
  refine PR_if ?_ ?_
  · skip
    refine PR_wr (FR.sI hm) (fun m2 hm2 => ?_)
    refine PR_wr (FR.sI hm2) (fun m4 hm4 => ?_)
    exact PR_some hm4
  · skip
    refine PR_wr (FR.sI hm) (fun m6 hm6 => ?_)
    refine PR_wr (FR.sI hm6) (fun m8 hm8 => ?_)
    exact PR_some hm8
theorem fr8_X3_nextVersion {i0 : Nat} {m : CM} : PR m (f8_X3_nextVersion i0 m) := by
  unfold f8_X3_nextVersion
  have hm : FR m m := FR.rf
  refine PR_if ?_ ?_
  · skip
    exact PR_some hm
  · skip
    refine PR_wr (FR.sI hm) (fun m2 hm2 => ?_)
    refine PR_if ?_ ?_
    · skip
      exact PR_some hm2
    · skip
      exact PR_some hm2
theorem fr8_X8_hasTryOutAt_2 : ∀ (n : Nat) {i0 : Nat} {x1 : Int32} {i2 : Nat} {x3 : Int32} {m : CM}, PR m (l8_X8_hasTryOutAt_2 n i0 x1 i2 x3 m) := by
  intro n
  induction n with
  | zero =>
    intro i0 x1 i2 x3 m
    rw [l8_X8_hasTryOutAt_2]
    exact PR_none
  | succ n ihf =>
    intro i0 x1 i2 x3 m
    rw [l8_X8_hasTryOutAt_2]
    have hm : FR m m := FR.rf
    refine PR_od (fun j1 => ?_)
    refine PR_if ?_ ?_
    · skip
      exact PR_some hm
    · skip
      refine PR_if ?_ PR_none
      refine PR_od (fun j5 => ?_)
      refine PR_od (fun j7 => ?_)
      refine PR_if ?_ ?_
      · skip
        refine PR_od (fun j10 => ?_)
        refine PR_if ?_ ?_
        · skip
          refine PR_if ?_ ?_
          · skip
            refine PR_if ?_ ?_
            · skip
              exact PR_tr hm ihf
            · skip
              exact PR_some hm
          · skip
            exact PR_tr hm ihf
        · skip
          exact PR_tr hm ihf
      · skip
        exact PR_tr hm ihf
theorem fr8_X8_hasTryOutAt {i0 : Nat} {x1 : Int32} {i2 : Nat} {m : CM} : PR m (f8_X8_hasTryOutAt i0 x1 i2 m) := by
  unfold f8_X8_hasTryOutAt
  have hm : FR m m := FR.rf
  exact PR_tr hm (fr8_X8_hasTryOutAt_2 FU)
theorem fr8_X8_canChoose {i0 : Nat} {x1 : Int32} {i2 : Nat} {m : CM} : PR m (f8_X8_canChoose i0 x1 i2 m) := by
  unfold f8_X8_canChoose
  have hm : FR m m := FR.rf
  refine PR_od (fun j1 => ?_)
  refine PR_if ?_ PR_none
  refine PR_od (fun j4 => ?_)
  refine PR_if ?_ ?_
  · skip
    exact PR_some hm
  · skip
    refine PR_cb hm fr8_X4_openBreakers (fun r7 m8 hm8 => ?_)
    refine PR_if ?_ ?_
    · skip
      refine PR_if ?_ ?_
      · skip
        exact PR_some hm8
      · skip
        refine PR_cb hm8 fr8_X8_hasTryOutAt (fun r15 m16 hm16 => ?_)
        refine PR_if ?_ ?_
        · skip
          exact PR_some hm16
        · skip
          exact PR_some hm16
    · skip
      exact PR_some hm8
theorem fr8_X4_burdenFor {i0 : Nat} {x1 : Int32} {x2 : Int32} {m : CM} : PR m (f8_X4_burdenFor i0 x1 x2 m) := by
  unfold f8_X4_burdenFor
  have hm : FR m m := FR.rf
  refine PR_od (fun j1 => ?_)
  refine PR_if ?_ PR_none
  refine PR_if ?_ ?_
  · skip
    refine PR_if ?_ ?_
    · skip
      exact PR_some hm
    · skip
      exact PR_some hm
  · skip
    refine PR_if ?_ PR_none
    refine PR_if ?_ ?_
    · skip
      exact PR_some hm
    · skip
      exact PR_some hm
theorem fr8_X7_hasTried_2 : ∀ (n : Nat) {i0 : Nat} {i1 : Nat} {x2 : Int32} {m : CM}, PR m (l8_X7_hasTried_2 n i0 i1 x2 m) := by
  intro n
  induction n with
  | zero =>
    intro i0 i1 x2 m
    rw [l8_X7_hasTried_2]
    exact PR_none
  | succ n ihf =>
    intro i0 i1 x2 m
    rw [l8_X7_hasTried_2]
    have hm : FR m m := FR.rf
    refine PR_od (fun j1 => ?_)
    refine PR_if ?_ ?_
    · skip
      exact PR_some hm
    · skip
      refine PR_if ?_ PR_none
      refine PR_od (fun j5 => ?_)
      refine PR_od (fun j7 => ?_)
      refine PR_if ?_ ?_
      · skip
        exact PR_some hm
      · skip
        exact PR_tr hm ihf
theorem fr8_X7_hasTried {i0 : Nat} {i1 : Nat} {m : CM} : PR m (f8_X7_hasTried i0 i1 m) := by
  unfold f8_X7_hasTried
  have hm : FR m m := FR.rf
  exact PR_tr hm (fr8_X7_hasTried_2 FU)
theorem fr8_X8_choose_24 : ∀ (n : Nat) {i0 : Nat} {i1 : Nat} {x2 : Int32} {o3 : Option Nat} {x4 : Int32} {x5 : Int32} {m : CM}, PR m (l8_X8_choose_24 n i0 i1 x2 o3 x4 x5 m) := by
  intro n
  induction n with
  | zero =>
    intro i0 i1 x2 o3 x4 x5 m
    rw [l8_X8_choose_24]
    exact PR_none
  | succ n ihf =>
    intro i0 i1 x2 o3 x4 x5 m
    rw [l8_X8_choose_24]
    have hm : FR m m := FR.rf
    refine PR_od (fun j1 => ?_)
    refine PR_if ?_ ?_
    · skip
      exact PR_some hm
    · skip
      refine PR_if ?_ PR_none
      refine PR_od (fun j5 => ?_)
      refine PR_if ?_ ?_
      · skip
        refine PR_cb hm fr8_X8_canChoose (fun r8 m9 hm9 => ?_)
        refine PR_if ?_ ?_
        · skip
          exact PR_tr hm9 ihf
        · skip
          refine PR_cb hm9 fr8_X4_burdenFor (fun r15 m16 hm16 => ?_)
          refine PR_if ?_ ?_
          · skip
            refine PR_cb hm16 fr8_X7_hasTried (fun r22 m23 hm23 => ?_)
            refine PR_if ?_ ?_
            · skip
              refine PR_if ?_ ?_
              · skip
                exact PR_tr hm23 ihf
              · skip
                refine PR_if ?_ ?_
                · skip
                  exact PR_tr hm23 ihf
                · skip
                  exact PR_tr hm23 ihf
            · skip
              refine PR_if ?_ ?_
              · skip
                exact PR_tr hm23 ihf
              · skip
                refine PR_if ?_ ?_
                · skip
                  exact PR_tr hm23 ihf
                · skip
                  exact PR_tr hm23 ihf
          · skip
            refine PR_if ?_ ?_
            · skip
              refine PR_cb hm16 fr8_X7_hasTried (fun r34 m35 hm35 => ?_)
              refine PR_if ?_ ?_
              · skip
                refine PR_if ?_ ?_
                · skip
                  exact PR_tr hm35 ihf
                · skip
                  refine PR_if ?_ ?_
                  · skip
                    exact PR_tr hm35 ihf
                  · skip
                    exact PR_tr hm35 ihf
              · skip
                refine PR_if ?_ ?_
                · skip
                  exact PR_tr hm35 ihf
                · skip
                  refine PR_if ?_ ?_
                  · skip
                    exact PR_tr hm35 ihf
                  · skip
                    exact PR_tr hm35 ihf
            · skip
              refine PR_cb hm16 fr8_X7_hasTried (fun r45 m46 hm46 => ?_)
              refine PR_if ?_ ?_
              · skip
                refine PR_if ?_ ?_
                · skip
                  exact PR_tr hm46 ihf
                · skip
                  refine PR_if ?_ ?_
                  · skip
                    exact PR_tr hm46 ihf
                  · skip
                    exact PR_tr hm46 ihf
              · skip
                refine PR_if ?_ ?_
                · skip
                  exact PR_tr hm46 ihf
                · skip
                  refine PR_if ?_ ?_
                  · skip
                    exact PR_tr hm46 ihf
                  · skip
                    exact PR_tr hm46 ihf
      · skip
        exact PR_tr hm ihf
theorem fr8_X8_choose {i0 : Nat} {i1 : Nat} {m : CM} : PR m (f8_X8_choose i0 i1 m) := by
  unfold f8_X8_choose
  have hm : FR m m := FR.rf
  refine PR_od (fun j1 => ?_)
  refine PR_if ?_ PR_none
  refine PR_od (fun j4 => ?_)
  refine PR_od (fun j6 => ?_)
  refine PR_cb hm fr8_X3_nextVersion (fun r8 m9 hm9 => ?_)
  exact PR_tr hm9 (fr8_X8_choose_24 FU)
theorem fr8_X8_policyOf {i0 : Nat} {i1 : Nat} {x2 : Int32} {m : CM} : PR m (f8_X8_policyOf i0 i1 x2 m) := by
  unfold f8_X8_policyOf
  have hm : FR m m := FR.rf
  refine PR_od (fun j1 => ?_)
  refine PR_if ?_ PR_none
  refine PR_od (fun j4 => ?_)
  refine PR_cb hm fr8_X8_policyPlace (fun r6 m7 hm7 => ?_)
  refine PR_if ?_ PR_none
  refine PR_if ?_ ?_
  · skip
    refine PR_cb hm7 fr8_X8_policyPlace (fun r14 m15 hm15 => ?_)
    refine PR_if ?_ PR_none
    refine PR_if ?_ ?_
    · skip
      refine PR_cb hm15 fr8_X8_policyPlace (fun r22 m23 hm23 => ?_)
      refine PR_if ?_ PR_none
      refine PR_if ?_ ?_
      · skip
        exact PR_some hm23
      · skip
        exact PR_some hm23
    · skip
      exact PR_some hm15
  · skip
    exact PR_some hm7
theorem fr8_X1_init {i0 : Nat} {x1 : Int32} {i2 : Nat} {i3 : Nat} {x4 : Int32} {m : CM} : PR m (f8_X1_init i0 x1 i2 i3 x4 m) := by
  unfold f8_X1_init
  have hm : FR m m := FR.rf
  refine PR_if ?_ PR_none
  refine PR_cg ?_
  refine PR_wr (FR.sNL (by decide) hm) (fun m4 hm4 => ?_)
  refine PR_wr (FR.sR (by decide) hm4) (fun m6 hm6 => ?_)
  refine PR_wr (FR.sI hm6) (fun m8 hm8 => ?_)
  refine PR_wr (FR.sI hm8) (fun m10 hm10 => ?_)
  refine PR_wr (FR.sI hm10) (fun m12 hm12 => ?_)
  refine PR_wr (FR.sI hm12) (fun m14 hm14 => ?_)
  refine PR_wr (FR.sI hm14) (fun m16 hm16 => ?_)
  refine PR_wr (FR.sR (by decide) hm16) (fun m18 hm18 => ?_)
  refine PR_wr (FR.sR (by decide) hm18) (fun m20 hm20 => ?_)
  refine PR_wr (FR.sI hm20) (fun m22 hm22 => ?_)
  exact PR_some hm22
theorem fr8_X8_run {i0 : Nat} {i1 : Nat} {m : CM} : PR m (f8_X8_run i0 i1 m) := by
  unfold f8_X8_run
  have hm : FR m m := FR.rf
  refine PR_wr (FR.sI hm) (fun m1 hm1 => ?_)
  refine PR_od (fun j3 => ?_)
  refine PR_wr (FR.sI hm1) (fun m5 hm5 => ?_)
  refine PR_od (fun j7 => ?_)
  refine PR_wr (FR.sI hm5) (fun m9 hm9 => ?_)
  refine PR_od (fun j11 => ?_)
  refine PR_od (fun j13 => ?_)
  refine PR_if ?_ PR_none
  refine PR_od (fun j16 => ?_)
  refine PR_od (fun j18 => ?_)
  refine PR_od (fun j20 => ?_)
  refine PR_wr (FR.sI hm9) (fun m22 hm22 => ?_)
  exact PR_some hm22
theorem fr8_X1_learnEnd {i0 : Nat} {x1 : Int32} {m : CM} : PR m (f8_X1_learnEnd i0 x1 m) := by
  unfold f8_X1_learnEnd
  have hm : FR m m := FR.rf
  refine PR_if ?_ ?_
  · skip
    exact PR_some hm
  · skip
    refine PR_od (fun j2 => ?_)
    refine PR_od (fun j4 => ?_)
    refine PR_if ?_ ?_
    · skip
      refine PR_wr (FR.sI hm) (fun m7 hm7 => ?_)
      refine PR_wr (FR.sI hm7) (fun m9 hm9 => ?_)
      exact PR_some hm9
    · skip
      refine PR_if ?_ ?_
      · skip
        refine PR_wr (FR.sI hm) (fun m12 hm12 => ?_)
        refine PR_wr (FR.sI hm12) (fun m14 hm14 => ?_)
        exact PR_some hm14
      · skip
        refine PR_wr (FR.sI hm) (fun m16 hm16 => ?_)
        refine PR_wr (FR.sI hm16) (fun m18 hm18 => ?_)
        exact PR_some hm18
theorem fr8_X8_place_88 {i0 : Nat} {i1 : Nat} {m : CM} : PR m (b8_X8_place_88 i0 i1 m) := by
  unfold b8_X8_place_88
  have hm : FR m m := FR.rf
  refine PR_wr (FR.sI hm) (fun m1 hm1 => ?_)
  refine PR_cb hm1 fr8_X1_learnEnd (fun r3 m4 hm4 => ?_)
  exact PR_some hm4
theorem fr8_X8_place_53 {i0 : Nat} {i1 : Nat} {i2 : Nat} {x3 : Int32} {m : CM} : PR m (b8_X8_place_53 i0 i1 i2 x3 m) := by
  unfold b8_X8_place_53
  have hm : FR m m := FR.rf
  refine PR_if ?_ ?_
  · skip
    refine PR_od (fun j2 => ?_)
    refine PR_if ?_ ?_
    · skip
      exact PR_tr hm fr8_X8_place_88
    · skip
      refine PR_wr (FR.sI hm) (fun m5 hm5 => ?_)
      refine PR_od (fun j7 => ?_)
      refine PR_if ?_ PR_none
      refine PR_cg ?_
      refine PR_wr (FR.sL hm5) (fun m12 hm12 => ?_)
      exact PR_some hm12
  · skip
    exact PR_tr hm fr8_X8_place_88
theorem fr8_X8_place_19 {i0 : Nat} {i1 : Nat} {i2 : Nat} {s0 : Int32} {m : CM} : PR m (b8_X8_place_19 i0 i1 i2 s0 m) := by
  unfold b8_X8_place_19
  have hm : FR m m := FR.rf
  refine PR_if ?_ ?_
  · skip
    refine PR_if ?_ ?_
    · skip
      exact PR_tr hm fr8_X8_place_53
    · skip
      refine PR_od (fun j3 => ?_)
      refine PR_if ?_ ?_
      · skip
        exact PR_tr hm fr8_X8_place_53
      · skip
        refine PR_cb hm fr8_X8_run (fun r6 m7 hm7 => ?_)
        exact PR_some hm7
  · skip
    exact PR_tr hm fr8_X8_place_53
theorem fr8_X8_place {i0 : Nat} {i1 : Nat} {m : CM} : PR m (f8_X8_place i0 i1 m) := by
  unfold f8_X8_place
  have hm : FR m m := FR.rf
  refine PR_od (fun j1 => ?_)
  refine PR_od (fun j3 => ?_)
  refine PR_if ?_ ?_
  · skip
    exact PR_tr hm fr8_X8_place_19
  · skip
    exact PR_tr hm fr8_X8_place_19
theorem fr8_X8_tryOnce_36 {i0 : Nat} {i1 : Nat} {m : CM} : PR m (b8_X8_tryOnce_36 i0 i1 m) := by
  unfold b8_X8_tryOnce_36
  have hm : FR m m := FR.rf
  refine PR_wr (FR.sI hm) (fun m1 hm1 => ?_)
  refine PR_cb hm1 fr8_X8_choose (fun r3 m4 hm4 => ?_)
  refine PR_if ?_ ?_
  · skip
    refine PR_wr (FR.sI hm4) (fun m10 hm10 => ?_)
    exact PR_some hm10
  · skip
    refine PR_od (fun j12 => ?_)
    refine PR_if ?_ ?_
    · skip
      refine PR_cb hm4 fr8_X8_policyOf (fun r15 m16 hm16 => ?_)
      refine PR_if ?_ PR_none
      refine PR_cg ?_
      refine PR_wr (FR.sN (by decide) hm16) (fun m24 hm24 => ?_)
      refine PR_od (fun j26 => ?_)
      refine PR_od (fun j28 => ?_)
      refine PR_cb hm24 fr8_X1_init (fun r30 m31 hm31 => ?_)
      refine PR_od (fun j36 => ?_)
      refine PR_if ?_ PR_none
      refine PR_cg ?_
      refine PR_wr (FR.sL hm31) (fun m41 hm41 => ?_)
      refine PR_od (fun j43 => ?_)
      refine PR_if ?_ PR_none
      refine PR_cg ?_
      refine PR_wr (FR.sL hm41) (fun m48 hm48 => ?_)
      refine PR_od (fun j50 => ?_)
      refine PR_if ?_ PR_none
      refine PR_wr (FR.sA hm48) (fun m53 hm53 => ?_)
      refine PR_cb hm53 fr8_X8_place (fun r55 m56 hm56 => ?_)
      exact PR_some hm56
    · skip
      refine PR_wr (FR.sI hm4) (fun m61 hm61 => ?_)
      exact PR_some hm61
theorem fr8_X8_tryOnce_21 {i0 : Nat} {i1 : Nat} {m : CM} : PR m (b8_X8_tryOnce_21 i0 i1 m) := by
  unfold b8_X8_tryOnce_21
  have hm : FR m m := FR.rf
  refine PR_if ?_ ?_
  · skip
    refine PR_wr (FR.sI hm) (fun m2 hm2 => ?_)
    exact PR_tr hm2 fr8_X8_tryOnce_36
  · skip
    exact PR_tr hm fr8_X8_tryOnce_36
theorem fr8_X8_tryOnce {i0 : Nat} {i1 : Nat} {x2 : Int32} {m : CM} : PR m (f8_X8_tryOnce i0 i1 x2 m) := by
  unfold f8_X8_tryOnce
  have hm : FR m m := FR.rf
  refine PR_if ?_ ?_
  · skip
    refine PR_od (fun j2 => ?_)
    refine PR_if ?_ PR_none
    refine PR_od (fun j5 => ?_)
    refine PR_cb hm fr8_X2_account (fun r7 m8 hm8 => ?_)
    exact PR_tr hm8 fr8_X8_tryOnce_21
  · skip
    exact PR_tr hm fr8_X8_tryOnce_21
theorem fr8_X1_isKnown {i0 : Nat} {x1 : Int32} {m : CM} : PR m (f8_X1_isKnown i0 x1 m) := by
  unfold f8_X1_isKnown
  have hm : FR m m := FR.rf
  refine PR_if ?_ ?_
  · skip
    exact PR_some hm
  · skip
    exact PR_some hm
theorem fr8_X0_count {i0 : Nat} {x1 : Int32} {x2 : Int32} {m : CM} : PR m (f8_X0_count i0 x1 x2 m) := by
  unfold f8_X0_count
  have hm : FR m m := FR.rf
  refine PR_if ?_ ?_
  · skip
    exact PR_some hm
  · skip
    refine PR_if ?_ ?_
    · skip
      refine PR_wr (FR.sI hm) (fun m3 hm3 => ?_)
      refine PR_if ?_ ?_
      · skip
        refine PR_wr (FR.sI hm3) (fun m6 hm6 => ?_)
        refine PR_wr (FR.sI hm6) (fun m8 hm8 => ?_)
        exact PR_some hm8
      · skip
        refine PR_if ?_ ?_
        · skip
          refine PR_wr (FR.sI hm3) (fun m11 hm11 => ?_)
          refine PR_wr (FR.sI hm11) (fun m13 hm13 => ?_)
          exact PR_some hm13
        · skip
          exact PR_some hm3
    · skip
      refine PR_wr (FR.sI hm) (fun m15 hm15 => ?_)
      refine PR_wr (FR.sI hm15) (fun m17 hm17 => ?_)
      exact PR_some hm17
theorem fr8_X3_judge {i0 : Nat} {x1 : Int32} {x2 : Int32} {m : CM} : PR m (f8_X3_judge i0 x1 x2 m) := by
  unfold f8_X3_judge
  have hm : FR m m := FR.rf
  refine PR_if ?_ ?_
  · skip
    exact PR_some hm
  · skip
    refine PR_od (fun j2 => ?_)
    refine PR_if ?_ PR_none
    refine PR_wr (FR.sA hm) (fun m5 hm5 => ?_)
    refine PR_if ?_ ?_
    · skip
      refine PR_od (fun j8 => ?_)
      refine PR_wr (FR.sA hm5) (fun m10 hm10 => ?_)
      refine PR_od (fun j12 => ?_)
      refine PR_od (fun j14 => ?_)
      refine PR_if ?_ ?_
      · skip
        refine PR_if ?_ ?_
        · skip
          exact PR_some hm10
        · skip
          refine PR_if ?_ ?_
          · skip
            exact PR_some hm10
          · skip
            exact PR_some hm10
      · skip
        refine PR_if ?_ ?_
        · skip
          exact PR_some hm10
        · skip
          refine PR_if ?_ ?_
          · skip
            exact PR_some hm10
          · skip
            refine PR_wr (FR.sI hm10) (fun m21 hm21 => ?_)
            exact PR_some hm21
    · skip
      refine PR_od (fun j23 => ?_)
      refine PR_od (fun j25 => ?_)
      refine PR_if ?_ ?_
      · skip
        refine PR_if ?_ ?_
        · skip
          exact PR_some hm5
        · skip
          refine PR_if ?_ ?_
          · skip
            exact PR_some hm5
          · skip
            exact PR_some hm5
      · skip
        refine PR_if ?_ ?_
        · skip
          exact PR_some hm5
        · skip
          refine PR_if ?_ ?_
          · skip
            exact PR_some hm5
          · skip
            refine PR_wr (FR.sI hm5) (fun m32 hm32 => ?_)
            exact PR_some hm32
theorem fr8_X4_release_29 : ∀ (n : Nat) {i0 : Nat} {i1 : Nat} {x2 : Int32} {m : CM}, PR m (l8_X4_release_29 n i0 i1 x2 m) := by
  intro n
  induction n with
  | zero =>
    intro i0 i1 x2 m
    rw [l8_X4_release_29]
    exact PR_none
  | succ n ihf =>
    intro i0 i1 x2 m
    rw [l8_X4_release_29]
    have hm : FR m m := FR.rf
    refine PR_od (fun j1 => ?_)
    refine PR_if ?_ ?_
    · skip
      exact PR_some hm
    · skip
      refine PR_if ?_ PR_none
      refine PR_od (fun j5 => ?_)
      refine PR_if ?_ ?_
      · skip
        refine PR_wr (FR.sL hm) (fun m8 hm8 => ?_)
        exact PR_some hm8
      · skip
        exact PR_tr hm ihf
theorem fr8_X4_release {i0 : Nat} {i1 : Nat} {m : CM} : PR m (f8_X4_release i0 i1 m) := by
  unfold f8_X4_release
  have hm : FR m m := FR.rf
  refine PR_if ?_ ?_
  · skip
    refine PR_wr (FR.sI hm) (fun m2 hm2 => ?_)
    exact PR_some hm2
  · skip
    refine PR_if ?_ ?_
    · skip
      refine PR_wr (FR.sI hm) (fun m5 hm5 => ?_)
      exact PR_some hm5
    · skip
      exact PR_tr hm (fr8_X4_release_29 FU)
theorem fr8_X1_lastStep {i0 : Nat} {m : CM} : PR m (f8_X1_lastStep i0 m) := by
  unfold f8_X1_lastStep
  have hm : FR m m := FR.rf
  refine PR_od (fun j1 => ?_)
  refine PR_if ?_ ?_
  · skip
    refine PR_if ?_ PR_none
    refine PR_od (fun j5 => ?_)
    exact PR_some hm
  · skip
    exact PR_some hm
theorem fr8_X8_beginRepairs_10 : ∀ (n : Nat) {i0 : Nat} {i1 : Nat} {x2 : Int32} {m : CM}, PR m (l8_X8_beginRepairs_10 n i0 i1 x2 m) := by
  intro n
  induction n with
  | zero =>
    intro i0 i1 x2 m
    rw [l8_X8_beginRepairs_10]
    exact PR_none
  | succ n ihf =>
    intro i0 i1 x2 m
    rw [l8_X8_beginRepairs_10]
    have hm : FR m m := FR.rf
    refine PR_if ?_ ?_
    · skip
      exact PR_some hm
    · skip
      refine PR_od (fun j2 => ?_)
      refine PR_if ?_ PR_none
      refine PR_od (fun j5 => ?_)
      refine PR_if ?_ ?_
      · skip
        exact PR_tr hm ihf
      · skip
        refine PR_if ?_ ?_
        · skip
          exact PR_tr hm ihf
        · skip
          refine PR_od (fun j9 => ?_)
          refine PR_if ?_ ?_
          · skip
            exact PR_tr hm ihf
          · skip
            refine PR_if ?_ PR_none
            refine PR_cg ?_
            refine PR_wr (FR.sN (by decide) hm) (fun m15 hm15 => ?_)
            refine PR_od (fun j17 => ?_)
            refine PR_cb hm15 fr8_X7_init (fun r19 m20 hm20 => ?_)
            refine PR_od (fun j25 => ?_)
            refine PR_wr (FR.sI hm20) (fun m27 hm27 => ?_)
            refine PR_od (fun j29 => ?_)
            refine PR_if ?_ PR_none
            refine PR_cg ?_
            refine PR_wr (FR.sL hm27) (fun m34 hm34 => ?_)
            exact PR_tr hm34 ihf
theorem fr8_X8_beginRepairs {i0 : Nat} {i1 : Nat} {m : CM} : PR m (f8_X8_beginRepairs i0 i1 m) := by
  unfold f8_X8_beginRepairs
  have hm : FR m m := FR.rf
  refine PR_od (fun j1 => ?_)
  exact PR_tr hm (fr8_X8_beginRepairs_10 FU)
theorem fr8_X1_hasEnded {i0 : Nat} {m : CM} : PR m (f8_X1_hasEnded i0 m) := by
  unfold f8_X1_hasEnded
  have hm : FR m m := FR.rf
  refine PR_if ?_ ?_
  · skip
    exact PR_some hm
  · skip
    exact PR_some hm
theorem fr8_X8_close_17 {E : Nat → Nat → Int32 → Int32 → CM → CR Int32} (hF : ∀ {i0 i1 : Nat} {x2 x3 : Int32} {m : CM}, PR m (E i0 i1 x2 x3 m)) : ∀ (n : Nat) {i0 : Nat} {i1 : Nat} {x2 : Int32} {x3 : Int32} {m : CM}, PR m (l8_X8_close_17 E n i0 i1 x2 x3 m) := by
  intro n
  induction n with
  | zero =>
    intro i0 i1 x2 x3 m
    rw [l8_X8_close_17]
    exact PR_none
  | succ n ihf =>
    intro i0 i1 x2 x3 m
    rw [l8_X8_close_17]
    have hm : FR m m := FR.rf
    refine PR_od (fun j1 => ?_)
    refine PR_if ?_ ?_
    · skip
      exact PR_some hm
    · skip
      refine PR_if ?_ PR_none
      refine PR_od (fun j5 => ?_)
      refine PR_cb hm fr8_X1_hasEnded (fun r7 m8 hm8 => ?_)
      refine PR_if ?_ ?_
      · skip
        refine PR_cb hm8 hF (fun r14 m15 hm15 => ?_)
        exact PR_tr hm15 ihf
      · skip
        exact PR_tr hm8 ihf
theorem fr8_X8_close {E : Nat → Nat → Int32 → Int32 → CM → CR Int32} (hF : ∀ {i0 i1 : Nat} {x2 x3 : Int32} {m : CM}, PR m (E i0 i1 x2 x3 m)) {i0 : Nat} {i1 : Nat} {x2 : Int32} {m : CM} : PR m (f8_X8_close E i0 i1 x2 m) := by
  unfold f8_X8_close
  have hm : FR m m := FR.rf
  refine PR_if ?_ ?_
  · skip
    refine PR_wr (FR.sI hm) (fun m2 hm2 => ?_)
    exact PR_tr hm2 (fr8_X8_close_17 hF FU)
  · skip
    exact PR_tr hm (fr8_X8_close_17 hF FU)
theorem fr8_X8_end : ∀ (n : Nat) {i0 : Nat} {i1 : Nat} {x2 : Int32} {x3 : Int32} {m : CM}, PR m (f8_X8_end n i0 i1 x2 x3 m) := by
  intro n
  induction n with
  | zero =>
    intro i0 i1 x2 x3 m
    rw [f8_X8_end]
    exact PR_none
  | succ fe ihf =>
    intro i0 i1 x2 x3 m
    rw [f8_X8_end]
    have hm : FR m m := FR.rf
    refine PR_if ?_ ?_
    · skip
      refine PR_od (fun j2 => ?_)
      refine PR_cb hm fr8_X4_release (fun r4 m5 hm5 => ?_)
      refine PR_wr (FR.sI hm5) (fun m10 hm10 => ?_)
      refine PR_cb hm10 fr8_X1_learnEnd (fun r12 m13 hm13 => ?_)
      refine PR_cb hm13 fr8_X1_lastStep (fun r18 m19 hm19 => ?_)
      refine PR_if ?_ ?_
      · skip
        refine PR_if ?_ ?_
        · skip
          exact PR_some hm19
        · skip
          refine PR_cb hm19 fr8_X8_beginRepairs (fun r26 m27 hm27 => ?_)
          exact PR_some hm27
      · skip
        refine PR_od (fun j32 => ?_)
        refine PR_cb hm19 (fr8_X8_close (fun {_ _ _ _ _} => ihf)) (fun r34 m35 hm35 => ?_)
        refine PR_if ?_ ?_
        · skip
          exact PR_some hm35
        · skip
          refine PR_cb hm35 fr8_X8_beginRepairs (fun r41 m42 hm42 => ?_)
          exact PR_some hm42
    · skip
      exact PR_some hm
theorem fr8_X8_lookAtEnds_2 : ∀ (n : Nat) {i0 : Nat} {i1 : Nat} {x2 : Int32} {m : CM}, PR m (l8_X8_lookAtEnds_2 n i0 i1 x2 m) := by
  intro n
  induction n with
  | zero =>
    intro i0 i1 x2 m
    rw [l8_X8_lookAtEnds_2]
    exact PR_none
  | succ n ihf =>
    intro i0 i1 x2 m
    rw [l8_X8_lookAtEnds_2]
    have hm : FR m m := FR.rf
    refine PR_od (fun j1 => ?_)
    refine PR_if ?_ ?_
    · skip
      exact PR_some hm
    · skip
      refine PR_if ?_ ?_
      · skip
        refine PR_if ?_ PR_none
        refine PR_od (fun j6 => ?_)
        refine PR_if ?_ ?_
        · skip
          refine PR_cb hm fr8_X1_isKnown (fun r9 m10 hm10 => ?_)
          refine PR_if ?_ ?_
          · skip
            exact PR_tr hm10 ihf
          · skip
            refine PR_wr (FR.sI hm10) (fun m16 hm16 => ?_)
            refine PR_wr (FR.sI hm16) (fun m18 hm18 => ?_)
            refine PR_if ?_ ?_
            · skip
              refine PR_od (fun j21 => ?_)
              refine PR_od (fun j23 => ?_)
              refine PR_if ?_ PR_none
              refine PR_od (fun j26 => ?_)
              refine PR_cb hm18 fr8_X0_count (fun r28 m29 hm29 => ?_)
              refine PR_od (fun j34 => ?_)
              refine PR_if ?_ PR_none
              refine PR_od (fun j37 => ?_)
              refine PR_od (fun j39 => ?_)
              refine PR_od (fun j41 => ?_)
              refine PR_cb hm29 fr8_X3_judge (fun r43 m44 hm44 => ?_)
              refine PR_wr (FR.sI hm44) (fun m49 hm49 => ?_)
              refine PR_cb hm49 (fr8_X8_close (fun {_ _ _ _ _} => fr8_X8_end 8)) (fun r51 m52 hm52 => ?_)
              exact PR_tr hm52 ihf
            · skip
              refine PR_od (fun j57 => ?_)
              refine PR_od (fun j59 => ?_)
              refine PR_if ?_ PR_none
              refine PR_od (fun j62 => ?_)
              refine PR_cb hm18 fr8_X0_count (fun r64 m65 hm65 => ?_)
              refine PR_od (fun j70 => ?_)
              refine PR_if ?_ PR_none
              refine PR_od (fun j73 => ?_)
              refine PR_od (fun j75 => ?_)
              refine PR_od (fun j77 => ?_)
              refine PR_cb hm65 fr8_X3_judge (fun r79 m80 hm80 => ?_)
              exact PR_tr hm80 ihf
        · skip
          exact PR_tr hm ihf
      · skip
        exact PR_some hm
theorem fr8_X8_lookAtEnds {i0 : Nat} {i1 : Nat} {m : CM} : PR m (f8_X8_lookAtEnds i0 i1 m) := by
  unfold f8_X8_lookAtEnds
  have hm : FR m m := FR.rf
  exact PR_tr hm (fr8_X8_lookAtEnds_2 FU)
theorem fr8_X7_hasTryOut_2 : ∀ (n : Nat) {i0 : Nat} {x1 : Int32} {x2 : Int32} {m : CM}, PR m (l8_X7_hasTryOut_2 n i0 x1 x2 m) := by
  intro n
  induction n with
  | zero =>
    intro i0 x1 x2 m
    rw [l8_X7_hasTryOut_2]
    exact PR_none
  | succ n ihf =>
    intro i0 x1 x2 m
    rw [l8_X7_hasTryOut_2]
    have hm : FR m m := FR.rf
    refine PR_od (fun j1 => ?_)
    refine PR_if ?_ ?_
    · skip
      exact PR_some hm
    · skip
      refine PR_if ?_ PR_none
      refine PR_od (fun j5 => ?_)
      refine PR_cb hm fr8_X1_isKnown (fun r7 m8 hm8 => ?_)
      refine PR_if ?_ ?_
      · skip
        exact PR_some hm8
      · skip
        exact PR_tr hm8 ihf
theorem fr8_X7_hasTryOut {i0 : Nat} {x1 : Int32} {m : CM} : PR m (f8_X7_hasTryOut i0 x1 m) := by
  unfold f8_X7_hasTryOut
  have hm : FR m m := FR.rf
  exact PR_tr hm (fr8_X7_hasTryOut_2 FU)
theorem fr8_X8_canPay {i0 : Nat} {i1 : Nat} {m : CM} : PR m (f8_X8_canPay i0 i1 m) := by
  unfold f8_X8_canPay
  have hm : FR m m := FR.rf
  refine PR_od (fun j1 => ?_)
  refine PR_if ?_ PR_none
  refine PR_od (fun j4 => ?_)
  refine PR_if ?_ ?_
  · skip
    exact PR_some hm
  · skip
    exact PR_some hm
theorem fr8_X8_isHedgeDue {i0 : Nat} {i1 : Nat} {m : CM} : PR m (f8_X8_isHedgeDue i0 i1 m) := by
  unfold f8_X8_isHedgeDue
  have hm : FR m m := FR.rf
  refine PR_cb hm fr8_X8_policyOf (fun r1 m2 hm2 => ?_)
  refine PR_if ?_ ?_
  · skip
    refine PR_if ?_ ?_
    · skip
      exact PR_some hm2
    · skip
      refine PR_if ?_ ?_
      · skip
        exact PR_some hm2
      · skip
        refine PR_if ?_ ?_
        · skip
          refine PR_if ?_ ?_
          · skip
            exact PR_some hm2
          · skip
            refine PR_cb hm2 fr8_X8_canPay (fun r12 m13 hm13 => ?_)
            refine PR_if ?_ ?_
            · skip
              exact PR_some hm13
            · skip
              exact PR_some hm13
        · skip
          exact PR_some hm2
  · skip
    exact PR_some hm2
theorem fr8_X8_goOn_14 : ∀ (n : Nat) {i0 : Nat} {i1 : Nat} {x2 : Int32} {x3 : Int32} {m : CM}, PR m (l8_X8_goOn_14 n i0 i1 x2 x3 m) := by
  intro n
  induction n with
  | zero =>
    intro i0 i1 x2 x3 m
    rw [l8_X8_goOn_14]
    exact PR_none
  | succ n ihf =>
    intro i0 i1 x2 x3 m
    rw [l8_X8_goOn_14]
    have hm : FR m m := FR.rf
    refine PR_if ?_ ?_
    · skip
      refine PR_cb hm fr8_X8_isHedgeDue (fun r2 m3 hm3 => ?_)
      refine PR_if ?_ ?_
      · skip
        exact PR_some hm3
      · skip
        refine PR_cb hm3 fr8_X8_tryOnce (fun r9 m10 hm10 => ?_)
        refine PR_cb hm10 fr8_X8_lookAtEnds (fun r15 m16 hm16 => ?_)
        exact PR_some hm16
    · skip
      refine PR_if ?_ ?_
      · skip
        refine PR_cb hm fr8_X7_hasTryOut (fun r22 m23 hm23 => ?_)
        refine PR_if ?_ ?_
        · skip
          refine PR_if ?_ ?_
          · skip
            refine PR_if ?_ ?_
            · skip
              refine PR_wr (FR.sI hm23) (fun m31 hm31 => ?_)
              exact PR_tr hm31 ihf
            · skip
              refine PR_cb hm23 fr8_X8_canPay (fun r33 m34 hm34 => ?_)
              refine PR_if ?_ ?_
              · skip
                refine PR_wr (FR.sI hm34) (fun m40 hm40 => ?_)
                exact PR_tr hm40 ihf
              · skip
                refine PR_wr (FR.sI hm34) (fun m42 hm42 => ?_)
                refine PR_cb hm42 fr8_X8_tryOnce (fun r44 m45 hm45 => ?_)
                refine PR_cb hm45 fr8_X8_lookAtEnds (fun r50 m51 hm51 => ?_)
                exact PR_tr hm51 ihf
          · skip
            refine PR_if ?_ ?_
            · skip
              refine PR_if ?_ ?_
              · skip
                refine PR_wr (FR.sI hm23) (fun m58 hm58 => ?_)
                exact PR_tr hm58 ihf
              · skip
                refine PR_wr (FR.sI hm23) (fun m60 hm60 => ?_)
                exact PR_tr hm60 ihf
            · skip
              refine PR_if ?_ ?_
              · skip
                refine PR_wr (FR.sI hm23) (fun m63 hm63 => ?_)
                exact PR_tr hm63 ihf
              · skip
                refine PR_cb hm23 fr8_X8_canPay (fun r65 m66 hm66 => ?_)
                refine PR_if ?_ ?_
                · skip
                  refine PR_wr (FR.sI hm66) (fun m72 hm72 => ?_)
                  exact PR_tr hm72 ihf
                · skip
                  refine PR_wr (FR.sI hm66) (fun m74 hm74 => ?_)
                  refine PR_cb hm74 fr8_X8_tryOnce (fun r76 m77 hm77 => ?_)
                  refine PR_cb hm77 fr8_X8_lookAtEnds (fun r82 m83 hm83 => ?_)
                  exact PR_tr hm83 ihf
        · skip
          refine PR_cb hm23 fr8_X8_isHedgeDue (fun r88 m89 hm89 => ?_)
          refine PR_if ?_ ?_
          · skip
            exact PR_some hm89
          · skip
            refine PR_cb hm89 fr8_X8_tryOnce (fun r95 m96 hm96 => ?_)
            refine PR_cb hm96 fr8_X8_lookAtEnds (fun r101 m102 hm102 => ?_)
            exact PR_some hm102
      · skip
        refine PR_cb hm fr8_X8_isHedgeDue (fun r107 m108 hm108 => ?_)
        refine PR_if ?_ ?_
        · skip
          exact PR_some hm108
        · skip
          refine PR_cb hm108 fr8_X8_tryOnce (fun r114 m115 hm115 => ?_)
          refine PR_cb hm115 fr8_X8_lookAtEnds (fun r120 m121 hm121 => ?_)
          exact PR_some hm121
theorem fr8_X8_goOn {i0 : Nat} {i1 : Nat} {m : CM} : PR m (f8_X8_goOn i0 i1 m) := by
  unfold f8_X8_goOn
  have hm : FR m m := FR.rf
  refine PR_cb hm fr8_X8_lookAtEnds (fun r1 m2 hm2 => ?_)
  refine PR_cb hm2 fr8_X8_policyOf (fun r7 m8 hm8 => ?_)
  exact PR_tr hm8 (fr8_X8_goOn_14 FU)
theorem fr8_X8_endRequest {i0 : Nat} {i1 : Nat} {x2 : Int32} {m : CM} : PR m (f8_X8_endRequest i0 i1 x2 m) := by
  unfold f8_X8_endRequest
  have hm : FR m m := FR.rf
  refine PR_wr (FR.sI hm) (fun m1 hm1 => ?_)
  refine PR_wr (FR.sI hm1) (fun m3 hm3 => ?_)
  refine PR_if ?_ ?_
  · skip
    refine PR_cb hm3 fr8_X8_isKeptByHead (fun r6 m7 hm7 => ?_)
    refine PR_if ?_ ?_
    · skip
      refine PR_if ?_ ?_
      · skip
        refine PR_wr (FR.sI hm7) (fun m14 hm14 => ?_)
        refine PR_od (fun j16 => ?_)
        refine PR_cb hm14 (fr8_X8_close (fun {_ _ _ _ _} => fr8_X8_end 8)) (fun r18 m19 hm19 => ?_)
        exact PR_some hm19
      · skip
        refine PR_wr (FR.sI hm7) (fun m24 hm24 => ?_)
        refine PR_od (fun j26 => ?_)
        refine PR_cb hm24 (fr8_X8_close (fun {_ _ _ _ _} => fr8_X8_end 8)) (fun r28 m29 hm29 => ?_)
        exact PR_some hm29
    · skip
      refine PR_wr (FR.sI hm7) (fun m34 hm34 => ?_)
      refine PR_od (fun j36 => ?_)
      refine PR_cb hm34 (fr8_X8_close (fun {_ _ _ _ _} => fr8_X8_end 8)) (fun r38 m39 hm39 => ?_)
      exact PR_some hm39
  · skip
    refine PR_cb hm3 fr8_X8_isKeptByHead (fun r44 m45 hm45 => ?_)
    refine PR_if ?_ ?_
    · skip
      refine PR_if ?_ ?_
      · skip
        refine PR_wr (FR.sI hm45) (fun m52 hm52 => ?_)
        refine PR_od (fun j54 => ?_)
        refine PR_cb hm52 (fr8_X8_close (fun {_ _ _ _ _} => fr8_X8_end 8)) (fun r56 m57 hm57 => ?_)
        exact PR_some hm57
      · skip
        refine PR_wr (FR.sI hm45) (fun m62 hm62 => ?_)
        refine PR_od (fun j64 => ?_)
        refine PR_cb hm62 (fr8_X8_close (fun {_ _ _ _ _} => fr8_X8_end 8)) (fun r66 m67 hm67 => ?_)
        exact PR_some hm67
    · skip
      refine PR_wr (FR.sI hm45) (fun m72 hm72 => ?_)
      refine PR_od (fun j74 => ?_)
      refine PR_cb hm72 (fr8_X8_close (fun {_ _ _ _ _} => fr8_X8_end 8)) (fun r76 m77 hm77 => ?_)
      exact PR_some hm77
theorem fr8_X8_endIfOver {i0 : Nat} {i1 : Nat} {m : CM} : PR m (f8_X8_endIfOver i0 i1 m) := by
  unfold f8_X8_endIfOver
  have hm : FR m m := FR.rf
  refine PR_od (fun j1 => ?_)
  refine PR_if ?_ ?_
  · skip
    exact PR_some hm
  · skip
    refine PR_cb hm fr8_X8_endRequest (fun r4 m5 hm5 => ?_)
    exact PR_some hm5
theorem fr8_X8_request {i0 : Nat} {x1 : Int32} {x2 : Int32} {x3 : Int32} {m : CM} : PR m (f8_X8_request i0 x1 x2 x3 m) := by
  unfold f8_X8_request
  have hm : FR m m := FR.rf
  refine PR_cb hm fr8_X8_isWithin (fun r1 m2 hm2 => ?_)
  refine PR_if (PR_some hm2) ?_
  refine PR_cb hm2 fr8_X8_isWithin (fun r8 m9 hm9 => ?_)
  refine PR_if (PR_some hm9) ?_
  refine PR_od (fun j15 => ?_)
  refine PR_if ?_ ?_
  · skip
    exact PR_some hm9
  · skip
    refine PR_if ?_ PR_none
    refine PR_cg ?_
    refine PR_wr (FR.sN (by decide) hm9) (fun m21 hm21 => ?_)
    refine PR_cb hm21 fr8_X7_init (fun r23 m24 hm24 => ?_)
    refine PR_od (fun j29 => ?_)
    refine PR_wr (FR.sI hm24) (fun m31 hm31 => ?_)
    refine PR_wr (FR.sI hm31) (fun m33 hm33 => ?_)
    refine PR_if ?_ PR_none
    refine PR_cg ?_
    refine PR_wr (FR.sN (by decide) hm33) (fun m38 hm38 => ?_)
    refine PR_cb hm38 fr8_X5_init (fun r40 m41 hm41 => ?_)
    refine PR_od (fun j46 => ?_)
    refine PR_if ?_ PR_none
    refine PR_cg ?_
    refine PR_wr (FR.sL hm41) (fun m51 hm51 => ?_)
    refine PR_cb hm51 fr8_X8_tryOnce (fun r53 m54 hm54 => ?_)
    refine PR_cb hm54 fr8_X8_goOn (fun r59 m60 hm60 => ?_)
    refine PR_cb hm60 fr8_X8_endIfOver (fun r65 m66 hm66 => ?_)
    exact PR_some hm66
theorem fr8_X0_rest {i0 : Nat} {x1 : Int32} {m : CM} : PR m (f8_X0_rest i0 x1 m) := by
  unfold f8_X0_rest
  have hm : FR m m := FR.rf
  refine PR_if ?_ ?_
  · skip
    refine PR_if ?_ ?_
    · skip
      exact PR_some hm
    · skip
      refine PR_wr (FR.sI hm) (fun m3 hm3 => ?_)
      exact PR_some hm3
  · skip
    exact PR_some hm
theorem fr8_X8_halfOpenBreakers_30 {K2 : Nat → Int32 → CM → CR (Int32)} (hF2 : ∀ {i0 : Nat} {x1 : Int32} {m : CM}, PR m (K2 i0 x1 m)) : ∀ (n : Nat) {i0 : Nat} {x1 : Int32} {i2 : Nat} {x3 : Int32} {m : CM}, PR m (l8_X8_halfOpenBreakers_30 K2 n i0 x1 i2 x3 m) := by
  intro n
  induction n with
  | zero =>
    intro i0 x1 i2 x3 m
    rw [l8_X8_halfOpenBreakers_30]
    exact PR_none
  | succ n ihf =>
    intro i0 x1 i2 x3 m
    rw [l8_X8_halfOpenBreakers_30]
    have hm : FR m m := FR.rf
    refine PR_if ?_ ?_
    · skip
      exact PR_tr hm hF2
    · skip
      refine PR_if ?_ PR_none
      refine PR_od (fun j3 => ?_)
      refine PR_cb hm fr8_X0_rest (fun r5 m6 hm6 => ?_)
      exact PR_tr hm6 ihf
theorem fr8_X8_halfOpenBreakers_2 : ∀ (n : Nat) {i0 : Nat} {x1 : Int32} {m : CM}, PR m (l8_X8_halfOpenBreakers_2 n i0 x1 m) := by
  intro n
  induction n with
  | zero =>
    intro i0 x1 m
    rw [l8_X8_halfOpenBreakers_2]
    exact PR_none
  | succ n ihf =>
    intro i0 x1 m
    rw [l8_X8_halfOpenBreakers_2]
    have hm : FR m m := FR.rf
    refine PR_od (fun j1 => ?_)
    refine PR_if ?_ ?_
    · skip
      exact PR_some hm
    · skip
      refine PR_if ?_ PR_none
      refine PR_od (fun j5 => ?_)
      refine PR_od (fun j7 => ?_)
      exact PR_tr hm (fr8_X8_halfOpenBreakers_30 ihf FU)
theorem fr8_X8_halfOpenBreakers {i0 : Nat} {m : CM} : PR m (f8_X8_halfOpenBreakers i0 m) := by
  unfold f8_X8_halfOpenBreakers
  have hm : FR m m := FR.rf
  exact PR_tr hm (fr8_X8_halfOpenBreakers_2 FU)
theorem fr8_X8_endLateCalls_2 : ∀ (n : Nat) {i0 : Nat} {x1 : Int32} {m : CM}, PR m (l8_X8_endLateCalls_2 n i0 x1 m) := by
  intro n
  induction n with
  | zero =>
    intro i0 x1 m
    rw [l8_X8_endLateCalls_2]
    exact PR_none
  | succ n ihf =>
    intro i0 x1 m
    rw [l8_X8_endLateCalls_2]
    have hm : FR m m := FR.rf
    refine PR_od (fun j1 => ?_)
    refine PR_if ?_ ?_
    · skip
      exact PR_some hm
    · skip
      refine PR_if ?_ PR_none
      refine PR_od (fun j5 => ?_)
      refine PR_cb hm fr8_X1_hasEnded (fun r7 m8 hm8 => ?_)
      refine PR_if ?_ ?_
      · skip
        refine PR_if ?_ ?_
        · skip
          exact PR_tr hm8 ihf
        · skip
          refine PR_cb hm8 (fr8_X8_end 8) (fun r15 m16 hm16 => ?_)
          exact PR_tr hm16 ihf
      · skip
        exact PR_tr hm8 ihf
theorem fr8_X8_endLateCalls {i0 : Nat} {m : CM} : PR m (f8_X8_endLateCalls i0 m) := by
  unfold f8_X8_endLateCalls
  have hm : FR m m := FR.rf
  exact PR_tr hm (fr8_X8_endLateCalls_2 FU)
theorem fr8_X8_endWork_2 : ∀ (n : Nat) {i0 : Nat} {x1 : Int32} {m : CM}, PR m (l8_X8_endWork_2 n i0 x1 m) := by
  intro n
  induction n with
  | zero =>
    intro i0 x1 m
    rw [l8_X8_endWork_2]
    exact PR_none
  | succ n ihf =>
    intro i0 x1 m
    rw [l8_X8_endWork_2]
    have hm : FR m m := FR.rf
    refine PR_od (fun j1 => ?_)
    refine PR_if ?_ ?_
    · skip
      exact PR_some hm
    · skip
      refine PR_if ?_ PR_none
      refine PR_od (fun j5 => ?_)
      refine PR_if ?_ ?_
      · skip
        refine PR_if ?_ ?_
        · skip
          refine PR_od (fun j9 => ?_)
          refine PR_od (fun j11 => ?_)
          refine PR_if ?_ ?_
          · skip
            refine PR_od (fun j14 => ?_)
            refine PR_od (fun j16 => ?_)
            refine PR_if ?_ PR_none
            refine PR_od (fun j19 => ?_)
            refine PR_if ?_ ?_
            · skip
              refine PR_cb hm (fr8_X8_end 8) (fun r22 m23 hm23 => ?_)
              exact PR_tr hm23 ihf
            · skip
              refine PR_wr (FR.sI hm) (fun m28 hm28 => ?_)
              exact PR_tr hm28 ihf
          · skip
            refine PR_cb hm (fr8_X8_end 8) (fun r30 m31 hm31 => ?_)
            exact PR_tr hm31 ihf
        · skip
          exact PR_tr hm ihf
      · skip
        exact PR_tr hm ihf
theorem fr8_X8_endWork {i0 : Nat} {m : CM} : PR m (f8_X8_endWork i0 m) := by
  unfold f8_X8_endWork
  have hm : FR m m := FR.rf
  exact PR_tr hm (fr8_X8_endWork_2 FU)
theorem fr8_X8_isDone {o0 : Option Nat} {m : CM} : PR m (f8_X8_isDone o0 m) := by
  unfold f8_X8_isDone
  have hm : FR m m := FR.rf
  refine PR_if ?_ ?_
  · skip
    exact PR_some hm
  · skip
    refine PR_od (fun j2 => ?_)
    refine PR_if ?_ ?_
    · skip
      exact PR_some hm
    · skip
      exact PR_some hm
theorem fr8_X8_stepOf {i0 : Nat} {i1 : Nat} {x2 : Int32} {m : CM} : PR m (f8_X8_stepOf i0 i1 x2 m) := by
  unfold f8_X8_stepOf
  have hm : FR m m := FR.rf
  refine PR_if ?_ PR_none
  refine PR_cg ?_
  refine PR_wr (FR.sN (by decide) hm) (fun m4 hm4 => ?_)
  refine PR_od (fun j6 => ?_)
  refine PR_od (fun j8 => ?_)
  refine PR_if ?_ PR_none
  refine PR_od (fun j11 => ?_)
  refine PR_cb hm4 fr8_X7_init (fun r13 m14 hm14 => ?_)
  refine PR_od (fun j19 => ?_)
  refine PR_wr (FR.sI hm14) (fun m21 hm21 => ?_)
  refine PR_wr (FR.sR (by decide) hm21) (fun m23 hm23 => ?_)
  refine PR_od (fun j25 => ?_)
  refine PR_wr (FR.sI hm23) (fun m27 hm27 => ?_)
  refine PR_od (fun j29 => ?_)
  refine PR_wr (FR.sI hm27) (fun m31 hm31 => ?_)
  refine PR_wr (FR.sI hm31) (fun m33 hm33 => ?_)
  exact PR_some hm33
theorem fr8_X8_beginStep {i0 : Nat} {i1 : Nat} {x2 : Int32} {m : CM} : PR m (f8_X8_beginStep i0 i1 x2 m) := by
  unfold f8_X8_beginStep
  have hm : FR m m := FR.rf
  refine PR_od (fun j1 => ?_)
  refine PR_od (fun j3 => ?_)
  refine PR_if ?_ PR_none
  refine PR_od (fun j6 => ?_)
  refine PR_cb hm fr8_X8_stepOf (fun r8 m9 hm9 => ?_)
  refine PR_od (fun j14 => ?_)
  refine PR_od (fun j16 => ?_)
  refine PR_if ?_ PR_none
  refine PR_cg ?_
  refine PR_wr (FR.sL hm9) (fun m21 hm21 => ?_)
  refine PR_cb hm21 fr8_X8_tryOnce (fun r23 m24 hm24 => ?_)
  exact PR_some hm24
theorem fr8_X8_goOnWithCalls_77 {K10 : Nat → Int32 → CM → CR (Int32)} (hF10 : ∀ {i0 : Nat} {x1 : Int32} {m : CM}, PR m (K10 i0 x1 m)) : ∀ (n : Nat) {i0 : Nat} {x1 : Int32} {i2 : Nat} {o3 : Option Nat} {x4 : Int32} {x5 : Int32} {m : CM}, PR m (l8_X8_goOnWithCalls_77 K10 n i0 x1 i2 o3 x4 x5 m) := by
  intro n
  induction n with
  | zero =>
    intro i0 x1 i2 o3 x4 x5 m
    rw [l8_X8_goOnWithCalls_77]
    exact PR_none
  | succ n ihf =>
    intro i0 x1 i2 o3 x4 x5 m
    rw [l8_X8_goOnWithCalls_77]
    have hm : FR m m := FR.rf
    refine PR_if ?_ ?_
    · skip
      refine PR_cb hm fr8_X8_isDone (fun r2 m3 hm3 => ?_)
      refine PR_if ?_ ?_
      · skip
        refine PR_if ?_ ?_
        · skip
          exact PR_tr hm3 hF10
        · skip
          refine PR_od (fun j10 => ?_)
          refine PR_if ?_ ?_
          · skip
            refine PR_cb hm3 (fr8_X8_end 8) (fun r13 m14 hm14 => ?_)
            exact PR_tr hm14 hF10
          · skip
            exact PR_tr hm3 hF10
      · skip
        refine PR_cb hm3 (fr8_X8_end 8) (fun r19 m20 hm20 => ?_)
        exact PR_tr hm20 hF10
    · skip
      refine PR_cb hm fr8_X8_isDone (fun r25 m26 hm26 => ?_)
      refine PR_if ?_ ?_
      · skip
        refine PR_cb hm26 fr8_X8_isDone (fun r32 m33 hm33 => ?_)
        refine PR_if ?_ ?_
        · skip
          refine PR_if ?_ ?_
          · skip
            exact PR_tr hm33 hF10
          · skip
            refine PR_od (fun j40 => ?_)
            refine PR_if ?_ ?_
            · skip
              refine PR_cb hm33 (fr8_X8_end 8) (fun r43 m44 hm44 => ?_)
              exact PR_tr hm44 hF10
            · skip
              exact PR_tr hm33 hF10
        · skip
          refine PR_cb hm33 (fr8_X8_end 8) (fun r49 m50 hm50 => ?_)
          exact PR_tr hm50 hF10
      · skip
        refine PR_cb hm26 fr8_X8_beginStep (fun r55 m56 hm56 => ?_)
        refine PR_od (fun j61 => ?_)
        refine PR_cb hm56 fr8_X8_goOn (fun r63 m64 hm64 => ?_)
        exact PR_tr hm64 ihf
theorem fr8_X8_goOnWithCalls_10 : ∀ (n : Nat) {i0 : Nat} {x1 : Int32} {m : CM}, PR m (l8_X8_goOnWithCalls_10 n i0 x1 m) := by
  intro n
  induction n with
  | zero =>
    intro i0 x1 m
    rw [l8_X8_goOnWithCalls_10]
    exact PR_none
  | succ n ihf =>
    intro i0 x1 m
    rw [l8_X8_goOnWithCalls_10]
    have hm : FR m m := FR.rf
    refine PR_if ?_ ?_
    · skip
      exact PR_some hm
    · skip
      refine PR_od (fun j2 => ?_)
      refine PR_if ?_ PR_none
      refine PR_od (fun j5 => ?_)
      refine PR_if ?_ ?_
      · skip
        refine PR_cb hm fr8_X1_lastStep (fun r8 m9 hm9 => ?_)
        refine PR_if ?_ ?_
        · skip
          refine PR_od (fun j15 => ?_)
          refine PR_od (fun j17 => ?_)
          refine PR_if ?_ PR_none
          refine PR_od (fun j20 => ?_)
          refine PR_od (fun j22 => ?_)
          exact PR_tr hm9 (fr8_X8_goOnWithCalls_77 ihf FU)
        · skip
          refine PR_od (fun j24 => ?_)
          refine PR_cb hm9 fr8_X8_goOn (fun r26 m27 hm27 => ?_)
          refine PR_od (fun j32 => ?_)
          refine PR_od (fun j34 => ?_)
          refine PR_if ?_ PR_none
          refine PR_od (fun j37 => ?_)
          refine PR_od (fun j39 => ?_)
          exact PR_tr hm27 (fr8_X8_goOnWithCalls_77 ihf FU)
      · skip
        exact PR_tr hm ihf
theorem fr8_X8_goOnWithCalls {i0 : Nat} {m : CM} : PR m (f8_X8_goOnWithCalls i0 m) := by
  unfold f8_X8_goOnWithCalls
  have hm : FR m m := FR.rf
  refine PR_od (fun j1 => ?_)
  exact PR_tr hm (fr8_X8_goOnWithCalls_10 FU)
theorem fr8_X8_goOnWithRequests_2 : ∀ (n : Nat) {i0 : Nat} {x1 : Int32} {m : CM}, PR m (l8_X8_goOnWithRequests_2 n i0 x1 m) := by
  intro n
  induction n with
  | zero =>
    intro i0 x1 m
    rw [l8_X8_goOnWithRequests_2]
    exact PR_none
  | succ n ihf =>
    intro i0 x1 m
    rw [l8_X8_goOnWithRequests_2]
    have hm : FR m m := FR.rf
    refine PR_od (fun j1 => ?_)
    refine PR_if ?_ ?_
    · skip
      exact PR_some hm
    · skip
      refine PR_if ?_ PR_none
      refine PR_od (fun j5 => ?_)
      refine PR_if ?_ ?_
      · skip
        refine PR_od (fun j8 => ?_)
        refine PR_if ?_ ?_
        · skip
          refine PR_cb hm fr8_X8_goOn (fun r11 m12 hm12 => ?_)
          refine PR_cb hm12 fr8_X8_endIfOver (fun r17 m18 hm18 => ?_)
          exact PR_tr hm18 ihf
        · skip
          refine PR_cb hm fr8_X8_endRequest (fun r23 m24 hm24 => ?_)
          exact PR_tr hm24 ihf
      · skip
        exact PR_tr hm ihf
theorem fr8_X8_goOnWithRequests {i0 : Nat} {m : CM} : PR m (f8_X8_goOnWithRequests i0 m) := by
  unfold f8_X8_goOnWithRequests
  have hm : FR m m := FR.rf
  exact PR_tr hm (fr8_X8_goOnWithRequests_2 FU)
theorem fr8_X8_goOnWithRepairs_2 : ∀ (n : Nat) {i0 : Nat} {x1 : Int32} {m : CM}, PR m (l8_X8_goOnWithRepairs_2 n i0 x1 m) := by
  intro n
  induction n with
  | zero =>
    intro i0 x1 m
    rw [l8_X8_goOnWithRepairs_2]
    exact PR_none
  | succ n ihf =>
    intro i0 x1 m
    rw [l8_X8_goOnWithRepairs_2]
    have hm : FR m m := FR.rf
    refine PR_od (fun j1 => ?_)
    refine PR_if ?_ ?_
    · skip
      exact PR_some hm
    · skip
      refine PR_if ?_ PR_none
      refine PR_od (fun j5 => ?_)
      refine PR_cb hm fr8_X8_lookAtEnds (fun r7 m8 hm8 => ?_)
      refine PR_if ?_ ?_
      · skip
        refine PR_cb hm8 fr8_X7_hasTryOut (fun r14 m15 hm15 => ?_)
        refine PR_if ?_ ?_
        · skip
          refine PR_cb hm15 fr8_X8_tryOnce (fun r21 m22 hm22 => ?_)
          refine PR_cb hm22 fr8_X8_lookAtEnds (fun r27 m28 hm28 => ?_)
          exact PR_tr hm28 ihf
        · skip
          exact PR_tr hm15 ihf
      · skip
        exact PR_tr hm8 ihf
theorem fr8_X8_goOnWithRepairs {i0 : Nat} {m : CM} : PR m (f8_X8_goOnWithRepairs i0 m) := by
  unfold f8_X8_goOnWithRepairs
  have hm : FR m m := FR.rf
  exact PR_tr hm (fr8_X8_goOnWithRepairs_2 FU)
theorem fr8_X8_runQueued_35 {K2 : Nat → Int32 → CM → CR (Int32)} (hF2 : ∀ {i0 : Nat} {x1 : Int32} {m : CM}, PR m (K2 i0 x1 m)) : ∀ (n : Nat) {i0 : Nat} {x1 : Int32} {i2 : Nat} {x3 : Int32} {m : CM}, PR m (l8_X8_runQueued_35 K2 n i0 x1 i2 x3 m) := by
  intro n
  induction n with
  | zero =>
    intro i0 x1 i2 x3 m
    rw [l8_X8_runQueued_35]
    exact PR_none
  | succ n ihf =>
    intro i0 x1 i2 x3 m
    rw [l8_X8_runQueued_35]
    have hm : FR m m := FR.rf
    refine PR_if ?_ ?_
    · skip
      exact PR_tr hm hF2
    · skip
      refine PR_od (fun j2 => ?_)
      refine PR_if ?_ ?_
      · skip
        refine PR_od (fun j5 => ?_)
        refine PR_wr (FR.sL hm) (fun m7 hm7 => ?_)
        refine PR_cb hm7 fr8_X8_run (fun r9 m10 hm10 => ?_)
        exact PR_tr hm10 ihf
      · skip
        exact PR_tr hm hF2
theorem fr8_X8_runQueued_2 : ∀ (n : Nat) {i0 : Nat} {x1 : Int32} {m : CM}, PR m (l8_X8_runQueued_2 n i0 x1 m) := by
  intro n
  induction n with
  | zero =>
    intro i0 x1 m
    rw [l8_X8_runQueued_2]
    exact PR_none
  | succ n ihf =>
    intro i0 x1 m
    rw [l8_X8_runQueued_2]
    have hm : FR m m := FR.rf
    refine PR_od (fun j1 => ?_)
    refine PR_if ?_ ?_
    · skip
      exact PR_some hm
    · skip
      refine PR_if ?_ PR_none
      refine PR_od (fun j5 => ?_)
      exact PR_tr hm (fr8_X8_runQueued_35 ihf FU)
theorem fr8_X8_runQueued {i0 : Nat} {m : CM} : PR m (f8_X8_runQueued i0 m) := by
  unfold f8_X8_runQueued
  have hm : FR m m := FR.rf
  exact PR_tr hm (fr8_X8_runQueued_2 FU)
theorem fr8_X4_tellLoad_10 : ∀ (n : Nat) {i0 : Nat} {x1 : Int32} {m : CM}, PR m (l8_X4_tellLoad_10 n i0 x1 m) := by
  intro n
  induction n with
  | zero =>
    intro i0 x1 m
    rw [l8_X4_tellLoad_10]
    exact PR_none
  | succ n ihf =>
    intro i0 x1 m
    rw [l8_X4_tellLoad_10]
    have hm : FR m m := FR.rf
    refine PR_if ?_ ?_
    · skip
      exact PR_some hm
    · skip
      refine PR_od (fun j2 => ?_)
      refine PR_if ?_ PR_none
      refine PR_wr (FR.sA hm) (fun m5 hm5 => ?_)
      exact PR_tr hm5 ihf
theorem fr8_X4_tellLoad {i0 : Nat} {m : CM} : PR m (f8_X4_tellLoad i0 m) := by
  unfold f8_X4_tellLoad
  have hm : FR m m := FR.rf
  refine PR_cb hm fr8_X4_loadNow (fun r1 m2 hm2 => ?_)
  refine PR_wr (FR.sI hm2) (fun m7 hm7 => ?_)
  exact PR_tr hm7 (fr8_X4_tellLoad_10 FU)
theorem fr8_X8_tellLoads_2 : ∀ (n : Nat) {i0 : Nat} {x1 : Int32} {m : CM}, PR m (l8_X8_tellLoads_2 n i0 x1 m) := by
  intro n
  induction n with
  | zero =>
    intro i0 x1 m
    rw [l8_X8_tellLoads_2]
    exact PR_none
  | succ n ihf =>
    intro i0 x1 m
    rw [l8_X8_tellLoads_2]
    have hm : FR m m := FR.rf
    refine PR_od (fun j1 => ?_)
    refine PR_if ?_ ?_
    · skip
      exact PR_some hm
    · skip
      refine PR_if ?_ PR_none
      refine PR_od (fun j5 => ?_)
      refine PR_cb hm fr8_X4_tellLoad (fun r7 m8 hm8 => ?_)
      exact PR_tr hm8 ihf
theorem fr8_X8_tellLoads {i0 : Nat} {m : CM} : PR m (f8_X8_tellLoads i0 m) := by
  unfold f8_X8_tellLoads
  have hm : FR m m := FR.rf
  exact PR_tr hm (fr8_X8_tellLoads_2 FU)
theorem fr8_X8_pass_32 : ∀ (n : Nat) {i0 : Nat} {x1 : Int32} {x2 : Int32} {m : CM}, PR m (l8_X8_pass_32 n i0 x1 x2 m) := by
  intro n
  induction n with
  | zero =>
    intro i0 x1 x2 m
    rw [l8_X8_pass_32]
    exact PR_none
  | succ n ihf =>
    intro i0 x1 x2 m
    rw [l8_X8_pass_32]
    have hm : FR m m := FR.rf
    refine PR_if ?_ ?_
    · skip
      exact PR_some hm
    · skip
      refine PR_wr (FR.sI hm) (fun m2 hm2 => ?_)
      refine PR_cb hm2 fr8_X8_halfOpenBreakers (fun r4 m5 hm5 => ?_)
      refine PR_cb hm5 fr8_X8_endLateCalls (fun r10 m11 hm11 => ?_)
      refine PR_cb hm11 fr8_X8_endWork (fun r16 m17 hm17 => ?_)
      refine PR_cb hm17 fr8_X8_goOnWithCalls (fun r22 m23 hm23 => ?_)
      refine PR_cb hm23 fr8_X8_goOnWithRequests (fun r28 m29 hm29 => ?_)
      refine PR_cb hm29 fr8_X8_goOnWithRepairs (fun r34 m35 hm35 => ?_)
      refine PR_cb hm35 fr8_X8_runQueued (fun r40 m41 hm41 => ?_)
      refine PR_if ?_ ?_
      · skip
        refine PR_cb hm41 fr8_X8_tellLoads (fun r47 m48 hm48 => ?_)
        exact PR_tr hm48 ihf
      · skip
        exact PR_tr hm41 ihf
theorem fr8_X8_pass {i0 : Nat} {x1 : Int32} {m : CM} : PR m (f8_X8_pass i0 x1 m) := by
  unfold f8_X8_pass
  have hm : FR m m := FR.rf
  refine PR_cb hm fr8_X8_isWithin (fun r1 m2 hm2 => ?_)
  refine PR_if (PR_some hm2) ?_
  refine PR_if ?_ ?_
  · skip
    exact PR_some hm2
  · skip
    exact PR_tr hm2 (fr8_X8_pass_32 FU)
end F8
