section S9
variable {lv : Nat → Nat → Bool} {fr : Nat → Nat → Option Nat} {fi : Nat → Nat → Int32} {ai : Nat → Nat → Nat → Int32} {ar : Nat → Nat → Nat → Option Nat} {li : Nat → Nat → List Nat} {out : Int64}
def l9_pass_36 : Nat → Int32 → Int32 → RH → Option (Int32 × RH)
  | 0, _, _, _ => none
  | n + 1, x1, x2, rho =>
  if x1 ≤ x2 then
    some ((rho 0 0), rho)
  else
    ob (f9_passes  rho) fun _ rho3 =>
    l9_pass_36 n (x1) (x2 + 1) rho3
theorem w9_pass_36 {r : Int32} {rho9 : RH} (hfr : RA fr) : ∀ (n : Nat) {x1 x2 : Int32} {rho : RH}, l9_pass_36 n x1 x2 rho = some (r, rho9) → WP mX9_pass 10 0 36 [some (vR 9 0), some (vI (x1)), some (vI (x2))] [] (lv, fr, fi, ai, ar, li, out, rho) (Po lv fr fi ai ar li out (some (vI r)) rho9) NX := by
  intro n
  induction n with
  | zero =>
    intro x1 x2 rho h
    rw [l9_pass_36] at h
    cases h
  | succ n ih =>
    intro x1 x2 rho h
    rw [l9_pass_36] at h
    refine wp_iload_n dX9_pass_36 rfl ?_
    refine wp_iload_n dX9_pass_37 rfl ?_
    refine wp_icmp_ge (tgt := 51) dX9_pass_38 (by decide) (fun c1 => ?_) (fun c1 => ?_)
    · replace h := itp c1 h
      refine wp_aload_n dX9_pass_51 rfl ?_
      refine wp_getRI (y := 0) (by decide) rfl fl_X9_220 dX9_pass_52 ?_
      obtain ⟨q1, q2⟩ := sm_e h
      subst q1
      subst q2
      exact wp_ireturn rfl dX9_pass_55 ⟨rfl, rfl⟩
    · replace h := itn c1 h
      refine wp_aload_n dX9_pass_41 rfl ?_
      obtain ⟨r2, rho3, hp4, h⟩ := ob_e h
      refine wp_callV (k1 := 0) (k2 := 0) (As := []) (rest := []) (w9_passes hfr hp4) okX9_passes ivX9_passes rfl (by decide) ml_X9_343 dX9_pass_42 rfl (by decide) (Nat.le_refl _) rfl (Nat.le_of_ble_eq_true rfl) (fun _ _ z => z.elim) (fun r' S' z => ?_)
      obtain ⟨rfl, rfl⟩ := z
      show WP _ _ _ _ [some (vR 9 0), some (vI (x1)), some (vI (x2))] [] _ _ _
      refine wp_iinc (v := x2 + 1) (L' := [some (vR 9 0), some (vI (x1)), some (vI (x2 + 1))]) dX9_pass_45 rfl rfl rfl ?_
      refine wp_goto (tgt := 36) dX9_pass_48 (by decide) ?_
      exact ih h
def f9_pass (x1 : Int32) (rho : RH) : Option (Int32 × RH) :=
  ob (f9_in (x1) (1) (50) rho) fun r1 rho2 =>
  if 600 < ((rho2 0 0) + x1) then
    ob (f9_goes (r1) (0) (1) rho2) fun r5 rho6 =>
    if r5 = 0 then
      some (0, rho6)
    else
      l9_pass_36 FU (x1) (0) rho6
  else
    ob (f9_goes (r1) (1) (1) rho2) fun r9 rho10 =>
    if r9 = 0 then
      some (0, rho10)
    else
      l9_pass_36 FU (x1) (0) rho10
theorem w9_pass {r : Int32} {rho9 : RH} (hfr : RA fr) {x1 : Int32} {rho : RH} (h : f9_pass x1 rho = some (r, rho9)) : Spec mX9_pass 10 0 [vR 9 0, vI x1] (lv, fr, fi, ai, ar, li, out, rho) (Po lv fr fi ai ar li out (some (vI r)) rho9) NX := by
  unfold f9_pass at h
  refine spec_of (by decide) rfl (by simp [catS, cat1]) (Nat.le_of_ble_eq_true rfl) ?_
  show WP mX9_pass 10 0 0 [some (vR 9 0), some (vI (x1)), none] [] (lv, fr, fi, ai, ar, li, out, rho) (Po lv fr fi ai ar li out (some (vI r)) rho9) NX
  refine wp_aload_n dX9_pass_0 rfl ?_
  refine wp_iload_n dX9_pass_1 rfl ?_
  refine wp_iconst (v := 1) dX9_pass_2 (by decide) ?_
  refine wp_bipush (v := 50) dX9_pass_3 (by decide) ?_
  obtain ⟨r1, rho2, hp3, h⟩ := ob_e h
  refine wp_callS (k1 := 0) (k2 := 0) (As := [vI (x1), vI (1), vI (50)]) (rest := [vR 9 0]) (w9_in hfr hp3) okX9_in sm_X9_in rfl ml_X9_189 dX9_pass_5 rfl (by decide) (Nat.le_refl _) rfl (Nat.le_of_ble_eq_true rfl) (fun _ _ z => z.elim) (fun r' S' z => ?_)
  obtain ⟨rfl, rfl⟩ := z
  show WP _ _ _ _ [some (vR 9 0), some (vI (x1)), none] [vI (r1), vR 9 0] _ _ _
  refine wp_aload_n dX9_pass_8 rfl ?_
  refine wp_getRI (y := 0) (by decide) rfl fl_X9_220 dX9_pass_9 ?_
  refine wp_iload_n dX9_pass_12 rfl ?_
  refine wp_iadd dX9_pass_13 ?_
  refine wp_sipush (v := 600) dX9_pass_14 (by decide) ?_
  refine wp_icmp_gt (tgt := 24) dX9_pass_17 (by decide) (fun c4 => ?_) (fun c4 => ?_)
  · replace h := itp c4 h
    refine wp_iconst (v := 0) dX9_pass_24 (by decide) ?_
    refine wp_iconst (v := 1) dX9_pass_25 (by decide) ?_
    obtain ⟨r5, rho6, hp7, h⟩ := ob_e h
    refine wp_callV (k1 := 0) (k2 := 0) (As := [vI (r1), vI (0), vI (1)]) (rest := []) (w9_goes hfr hp7) okX9_goes ivX9_goes rfl (by decide) ml_X9_203 dX9_pass_26 rfl (by decide) (Nat.le_refl _) rfl (Nat.le_of_ble_eq_true rfl) (fun _ _ z => z.elim) (fun r' S' z => ?_)
    obtain ⟨rfl, rfl⟩ := z
    show WP _ _ _ _ [some (vR 9 0), some (vI (x1)), none] [vI (r5)] _ _ _
    refine wp_if_ne (tgt := 34) dX9_pass_29 (by decide) (fun c8 => ?_) (fun c8 => ?_)
    · replace h := itn c8 h
      refine wp_iconst (v := 0) dX9_pass_34 (by decide) ?_
      refine wp_istore_n (L' := [some (vR 9 0), some (vI (x1)), some (vI (0))]) dX9_pass_35 rfl rfl ?_
      exact w9_pass_36 hfr FU h
    · replace h := itp c8 h
      refine wp_iconst (v := 0) dX9_pass_32 (by decide) ?_
      obtain ⟨q1, q2⟩ := sm_e h
      subst q1
      subst q2
      exact wp_ireturn rfl dX9_pass_33 ⟨rfl, rfl⟩
  · replace h := itn c4 h
    refine wp_iconst (v := 1) dX9_pass_20 (by decide) ?_
    refine wp_goto (tgt := 25) dX9_pass_21 (by decide) ?_
    refine wp_iconst (v := 1) dX9_pass_25 (by decide) ?_
    obtain ⟨r9, rho10, hp11, h⟩ := ob_e h
    refine wp_callV (k1 := 0) (k2 := 0) (As := [vI (r1), vI (1), vI (1)]) (rest := []) (w9_goes hfr hp11) okX9_goes ivX9_goes rfl (by decide) ml_X9_203 dX9_pass_26 rfl (by decide) (Nat.le_refl _) rfl (Nat.le_of_ble_eq_true rfl) (fun _ _ z => z.elim) (fun r' S' z => ?_)
    obtain ⟨rfl, rfl⟩ := z
    show WP _ _ _ _ [some (vR 9 0), some (vI (x1)), none] [vI (r9)] _ _ _
    refine wp_if_ne (tgt := 34) dX9_pass_29 (by decide) (fun c12 => ?_) (fun c12 => ?_)
    · replace h := itn c12 h
      refine wp_iconst (v := 0) dX9_pass_34 (by decide) ?_
      refine wp_istore_n (L' := [some (vR 9 0), some (vI (x1)), some (vI (0))]) dX9_pass_35 rfl rfl ?_
      exact w9_pass_36 hfr FU h
    · replace h := itp c12 h
      refine wp_iconst (v := 0) dX9_pass_32 (by decide) ?_
      obtain ⟨q1, q2⟩ := sm_e h
      subst q1
      subst q2
      exact wp_ireturn rfl dX9_pass_33 ⟨rfl, rfl⟩
def f9_tick (rho : RH) : Option (Int32 × RH) :=
  wr (up2 rho 64 0 (0)) fun rho1 =>
  some ((rho1 0 0), rho1)
theorem w9_tick {r : Int32} {rho9 : RH} (hfr : RA fr) {rho : RH} (h : f9_tick  rho = some (r, rho9)) : Spec mX9_tick 0 0 [vR 9 0] (lv, fr, fi, ai, ar, li, out, rho) (Po lv fr fi ai ar li out (some (vI r)) rho9) NX := by
  unfold f9_tick at h
  refine spec_of (by decide) rfl (by simp [catS, cat1]) (Nat.le_of_ble_eq_true rfl) ?_
  show WP mX9_tick 0 0 0 [some (vR 9 0)] [] (lv, fr, fi, ai, ar, li, out, rho) (Po lv fr fi ai ar li out (some (vI r)) rho9) NX
  refine wp_aload_n dX9_tick_0 rfl ?_
  refine wp_iconst (v := 0) dX9_tick_1 (by decide) ?_
  refine wp_putRI (y := 64) (by decide) rfl rfl fl_X9_186 dX9_tick_2 rfl ?_
  obtain ⟨rho1, e2, h⟩ := wr_e h
  rw [e2]
  refine wp_aload_n dX9_tick_5 rfl ?_
  refine wp_getRI (y := 0) (by decide) rfl fl_X9_220 dX9_tick_6 ?_
  obtain ⟨q1, q2⟩ := sm_e h
  subst q1
  subst q2
  exact wp_ireturn rfl dX9_tick_9 ⟨rfl, rfl⟩
def f9_isRequest (x1 : Int32) (rho : RH) : Option (Int32 × RH) :=
  ob (f9_in (x1) (0) (((rho 51 0) - 1)) rho) fun r1 rho2 =>
  if r1 = 0 ∨ r1 = 1 then
  some (r1, rho2)
  else none
theorem w9_isRequest {r : Int32} {rho9 : RH} (hfr : RA fr) {x1 : Int32} {rho : RH} (h : f9_isRequest x1 rho = some (r, rho9)) : Spec mX9_isRequest 1 0 [vR 9 0, vI x1] (lv, fr, fi, ai, ar, li, out, rho) (Po lv fr fi ai ar li out (some (vI r)) rho9) NX := by
  unfold f9_isRequest at h
  refine spec_of (by decide) rfl (by simp [catS, cat1]) (Nat.le_of_ble_eq_true rfl) ?_
  show WP mX9_isRequest 1 0 0 [some (vR 9 0), some (vI (x1))] [] (lv, fr, fi, ai, ar, li, out, rho) (Po lv fr fi ai ar li out (some (vI r)) rho9) NX
  refine wp_iload_n dX9_isRequest_0 rfl ?_
  refine wp_iconst (v := 0) dX9_isRequest_1 (by decide) ?_
  refine wp_aload_n dX9_isRequest_2 rfl ?_
  refine wp_getRI (y := 51) (by decide) rfl fl_X9_196 dX9_isRequest_3 ?_
  refine wp_iconst (v := 1) dX9_isRequest_6 (by decide) ?_
  refine wp_isub dX9_isRequest_7 ?_
  obtain ⟨r1, rho2, hp3, h⟩ := ob_e h
  refine wp_callS (k1 := 0) (k2 := 0) (As := [vI (x1), vI (0), vI (((rho 51 0) - 1))]) (rest := []) (w9_in hfr hp3) okX9_in sm_X9_in rfl ml_X9_189 dX9_isRequest_8 rfl (by decide) (Nat.le_refl _) rfl (Nat.le_of_ble_eq_true rfl) (fun _ _ z => z.elim) (fun r' S' z => ?_)
  obtain ⟨rfl, rfl⟩ := z
  show WP _ _ _ _ [some (vR 9 0), some (vI (x1))] [vI (r1)] _ _ _
  obtain ⟨c4, h⟩ := ock h
  obtain ⟨q1, q2⟩ := sm_e h
  subst q1
  subst q2
  exact wp_zreturn rfl c4 dX9_isRequest_11 ⟨rfl, rfl⟩
def f9_requestState (x1 : Int32) (rho : RH) : Option (Int32 × RH) :=
  ob (f9_isRequest (x1) rho) fun r1 rho2 =>
  ob (f9_goes (r1) (1) (1) rho2) fun r4 rho5 =>
  if r4 = 0 then
    some (0, rho5)
  else
    if vq (x1) 40 then
    some ((rho5 56 (x1).toNatClampNeg), rho5)
    else none
theorem w9_requestState {r : Int32} {rho9 : RH} (hfr : RA fr) {x1 : Int32} {rho : RH} (h : f9_requestState x1 rho = some (r, rho9)) : Spec mX9_requestState 2 0 [vR 9 0, vI x1] (lv, fr, fi, ai, ar, li, out, rho) (Po lv fr fi ai ar li out (some (vI r)) rho9) NX := by
  unfold f9_requestState at h
  refine spec_of (by decide) rfl (by simp [catS, cat1]) (Nat.le_of_ble_eq_true rfl) ?_
  show WP mX9_requestState 2 0 0 [some (vR 9 0), some (vI (x1))] [] (lv, fr, fi, ai, ar, li, out, rho) (Po lv fr fi ai ar li out (some (vI r)) rho9) NX
  refine wp_aload_n dX9_requestState_0 rfl ?_
  refine wp_aload_n dX9_requestState_1 rfl ?_
  refine wp_iload_n dX9_requestState_2 rfl ?_
  obtain ⟨r1, rho2, hp3, h⟩ := ob_e h
  refine wp_callV (k1 := 0) (k2 := 0) (As := [vI (x1)]) (rest := [vR 9 0]) (w9_isRequest hfr hp3) okX9_isRequest ivX9_isRequest rfl (by decide) ml_X9_346 dX9_requestState_3 rfl (by decide) (Nat.le_refl _) rfl (Nat.le_of_ble_eq_true rfl) (fun _ _ z => z.elim) (fun r' S' z => ?_)
  obtain ⟨rfl, rfl⟩ := z
  show WP _ _ _ _ [some (vR 9 0), some (vI (x1))] [vI (r1), vR 9 0] _ _ _
  refine wp_iconst (v := 1) dX9_requestState_6 (by decide) ?_
  refine wp_iconst (v := 1) dX9_requestState_7 (by decide) ?_
  obtain ⟨r4, rho5, hp6, h⟩ := ob_e h
  refine wp_callV (k1 := 0) (k2 := 0) (As := [vI (r1), vI (1), vI (1)]) (rest := []) (w9_goes hfr hp6) okX9_goes ivX9_goes rfl (by decide) ml_X9_203 dX9_requestState_8 rfl (by decide) (Nat.le_refl _) rfl (Nat.le_of_ble_eq_true rfl) (fun _ _ z => z.elim) (fun r' S' z => ?_)
  obtain ⟨rfl, rfl⟩ := z
  show WP _ _ _ _ [some (vR 9 0), some (vI (x1))] [vI (r4)] _ _ _
  refine wp_if_eq (tgt := 23) dX9_requestState_11 (by decide) (fun c7 => ?_) (fun c7 => ?_)
  · replace h := itp c7 h
    refine wp_iconst (v := 0) dX9_requestState_23 (by decide) ?_
    obtain ⟨q1, q2⟩ := sm_e h
    subst q1
    subst q2
    exact wp_ireturn rfl dX9_requestState_24 ⟨rfl, rfl⟩
  · replace h := itn c7 h
    refine wp_aload_n dX9_requestState_14 rfl ?_
    refine wp_arrR (y := 56) (c := 256) hfr (by decide) rfl fl_X9_168 dX9_requestState_15 ?_
    refine wp_iload_n dX9_requestState_18 rfl ?_
    obtain ⟨c8, h⟩ := ock h
    refine wp_ialdR (c := 256) (y := 56) rfl rfl (show vp_in (x1) (len 256) from c8) dX9_requestState_19 ?_
    refine wp_goto (tgt := 24) dX9_requestState_20 (by decide) ?_
    obtain ⟨q1, q2⟩ := sm_e h
    subst q1
    subst q2
    exact wp_ireturn rfl dX9_requestState_24 ⟨rfl, rfl⟩
def f9_requestTicks (x1 : Int32) (rho : RH) : Option (Int32 × RH) :=
  ob (f9_isRequest (x1) rho) fun r1 rho2 =>
  ob (f9_goes (r1) (1) (1) rho2) fun r4 rho5 =>
  if r4 = 0 then
    some (0, rho5)
  else
    if vq (x1) 40 then
    if (rho5 56 (x1).toNatClampNeg) = 8 then
      some (((rho5 0 0) - (rho5 55 (x1).toNatClampNeg)), rho5)
    else
      some (((rho5 57 (x1).toNatClampNeg) - (rho5 55 (x1).toNatClampNeg)), rho5)
    else none
theorem w9_requestTicks {r : Int32} {rho9 : RH} (hfr : RA fr) {x1 : Int32} {rho : RH} (h : f9_requestTicks x1 rho = some (r, rho9)) : Spec mX9_requestTicks 2 0 [vR 9 0, vI x1] (lv, fr, fi, ai, ar, li, out, rho) (Po lv fr fi ai ar li out (some (vI r)) rho9) NX := by
  unfold f9_requestTicks at h
  refine spec_of (by decide) rfl (by simp [catS, cat1]) (Nat.le_of_ble_eq_true rfl) ?_
  show WP mX9_requestTicks 2 0 0 [some (vR 9 0), some (vI (x1))] [] (lv, fr, fi, ai, ar, li, out, rho) (Po lv fr fi ai ar li out (some (vI r)) rho9) NX
  refine wp_aload_n dX9_requestTicks_0 rfl ?_
  refine wp_aload_n dX9_requestTicks_1 rfl ?_
  refine wp_iload_n dX9_requestTicks_2 rfl ?_
  obtain ⟨r1, rho2, hp3, h⟩ := ob_e h
  refine wp_callV (k1 := 0) (k2 := 0) (As := [vI (x1)]) (rest := [vR 9 0]) (w9_isRequest hfr hp3) okX9_isRequest ivX9_isRequest rfl (by decide) ml_X9_346 dX9_requestTicks_3 rfl (by decide) (Nat.le_refl _) rfl (Nat.le_of_ble_eq_true rfl) (fun _ _ z => z.elim) (fun r' S' z => ?_)
  obtain ⟨rfl, rfl⟩ := z
  show WP _ _ _ _ [some (vR 9 0), some (vI (x1))] [vI (r1), vR 9 0] _ _ _
  refine wp_iconst (v := 1) dX9_requestTicks_6 (by decide) ?_
  refine wp_iconst (v := 1) dX9_requestTicks_7 (by decide) ?_
  obtain ⟨r4, rho5, hp6, h⟩ := ob_e h
  refine wp_callV (k1 := 0) (k2 := 0) (As := [vI (r1), vI (1), vI (1)]) (rest := []) (w9_goes hfr hp6) okX9_goes ivX9_goes rfl (by decide) ml_X9_203 dX9_requestTicks_8 rfl (by decide) (Nat.le_refl _) rfl (Nat.le_of_ble_eq_true rfl) (fun _ _ z => z.elim) (fun r' S' z => ?_)
  obtain ⟨rfl, rfl⟩ := z
  show WP _ _ _ _ [some (vR 9 0), some (vI (x1))] [vI (r4)] _ _ _
  refine wp_if_eq (tgt := 48) dX9_requestTicks_11 (by decide) (fun c7 => ?_) (fun c7 => ?_)
  · replace h := itp c7 h
    refine wp_iconst (v := 0) dX9_requestTicks_48 (by decide) ?_
    obtain ⟨q1, q2⟩ := sm_e h
    subst q1
    subst q2
    exact wp_ireturn rfl dX9_requestTicks_49 ⟨rfl, rfl⟩
  · replace h := itn c7 h
    refine wp_aload_n dX9_requestTicks_14 rfl ?_
    refine wp_arrR (y := 56) (c := 256) hfr (by decide) rfl fl_X9_168 dX9_requestTicks_15 ?_
    refine wp_iload_n dX9_requestTicks_18 rfl ?_
    obtain ⟨c8, h⟩ := ock h
    refine wp_ialdR (c := 256) (y := 56) rfl rfl (show vp_in (x1) (len 256) from c8) dX9_requestTicks_19 ?_
    refine wp_bipush (v := 8) dX9_requestTicks_20 (by decide) ?_
    refine wp_icmp_ne (tgt := 32) dX9_requestTicks_22 (by decide) (fun c9 => ?_) (fun c9 => ?_)
    · replace h := itn c9 h
      refine wp_aload_n dX9_requestTicks_32 rfl ?_
      refine wp_arrR (y := 57) (c := 257) hfr (by decide) rfl fl_X9_171 dX9_requestTicks_33 ?_
      refine wp_iload_n dX9_requestTicks_36 rfl ?_
      refine wp_ialdR (c := 257) (y := 57) rfl rfl (show vp_in (x1) (len 257) from c8) dX9_requestTicks_37 ?_
      refine wp_aload_n dX9_requestTicks_38 rfl ?_
      refine wp_arrR (y := 55) (c := 255) hfr (by decide) rfl fl_X9_165 dX9_requestTicks_39 ?_
      refine wp_iload_n dX9_requestTicks_42 rfl ?_
      refine wp_ialdR (c := 255) (y := 55) rfl rfl (show vp_in (x1) (len 255) from c8) dX9_requestTicks_43 ?_
      refine wp_isub dX9_requestTicks_44 ?_
      refine wp_goto (tgt := 49) dX9_requestTicks_45 (by decide) ?_
      obtain ⟨q1, q2⟩ := sm_e h
      subst q1
      subst q2
      exact wp_ireturn rfl dX9_requestTicks_49 ⟨rfl, rfl⟩
    · replace h := itp c9 h
      refine wp_aload_n dX9_requestTicks_25 rfl ?_
      refine wp_getRI (y := 0) (by decide) rfl fl_X9_220 dX9_requestTicks_26 ?_
      refine wp_goto (tgt := 38) dX9_requestTicks_29 (by decide) ?_
      refine wp_aload_n dX9_requestTicks_38 rfl ?_
      refine wp_arrR (y := 55) (c := 255) hfr (by decide) rfl fl_X9_165 dX9_requestTicks_39 ?_
      refine wp_iload_n dX9_requestTicks_42 rfl ?_
      refine wp_ialdR (c := 255) (y := 55) rfl rfl (show vp_in (x1) (len 255) from c8) dX9_requestTicks_43 ?_
      refine wp_isub dX9_requestTicks_44 ?_
      refine wp_goto (tgt := 49) dX9_requestTicks_45 (by decide) ?_
      obtain ⟨q1, q2⟩ := sm_e h
      subst q1
      subst q2
      exact wp_ireturn rfl dX9_requestTicks_49 ⟨rfl, rfl⟩
def f9_isKept (x1 : Int32) (rho : RH) : Option (Int32 × RH) :=
  ob (f9_isRequest (x1) rho) fun r1 rho2 =>
  ob (f9_goes (r1) (1) (1) rho2) fun r4 rho5 =>
  if r4 = 0 then
    some (0, rho5)
  else
    if vq (x1) 40 then
    if (rho5 56 (x1).toNatClampNeg) = 8 then
      if ¬ (rho5 29 0) = 0 then
      if (x1 - x1 / (rho5 29 0) * (rho5 29 0)) = 0 then
        some (1, rho5)
      else
        some (0, rho5)
      else none
    else
      if (rho5 58 (x1).toNatClampNeg) = 0 then
        some (0, rho5)
      else
        some (1, rho5)
    else none
theorem w9_isKept {r : Int32} {rho9 : RH} (hfr : RA fr) {x1 : Int32} {rho : RH} (h : f9_isKept x1 rho = some (r, rho9)) : Spec mX9_isKept 2 0 [vR 9 0, vI x1] (lv, fr, fi, ai, ar, li, out, rho) (Po lv fr fi ai ar li out (some (vI r)) rho9) NX := by
  unfold f9_isKept at h
  refine spec_of (by decide) rfl (by simp [catS, cat1]) (Nat.le_of_ble_eq_true rfl) ?_
  show WP mX9_isKept 2 0 0 [some (vR 9 0), some (vI (x1))] [] (lv, fr, fi, ai, ar, li, out, rho) (Po lv fr fi ai ar li out (some (vI r)) rho9) NX
  refine wp_aload_n dX9_isKept_0 rfl ?_
  refine wp_aload_n dX9_isKept_1 rfl ?_
  refine wp_iload_n dX9_isKept_2 rfl ?_
  obtain ⟨r1, rho2, hp3, h⟩ := ob_e h
  refine wp_callV (k1 := 0) (k2 := 0) (As := [vI (x1)]) (rest := [vR 9 0]) (w9_isRequest hfr hp3) okX9_isRequest ivX9_isRequest rfl (by decide) ml_X9_346 dX9_isKept_3 rfl (by decide) (Nat.le_refl _) rfl (Nat.le_of_ble_eq_true rfl) (fun _ _ z => z.elim) (fun r' S' z => ?_)
  obtain ⟨rfl, rfl⟩ := z
  show WP _ _ _ _ [some (vR 9 0), some (vI (x1))] [vI (r1), vR 9 0] _ _ _
  refine wp_iconst (v := 1) dX9_isKept_6 (by decide) ?_
  refine wp_iconst (v := 1) dX9_isKept_7 (by decide) ?_
  obtain ⟨r4, rho5, hp6, h⟩ := ob_e h
  refine wp_callV (k1 := 0) (k2 := 0) (As := [vI (r1), vI (1), vI (1)]) (rest := []) (w9_goes hfr hp6) okX9_goes ivX9_goes rfl (by decide) ml_X9_203 dX9_isKept_8 rfl (by decide) (Nat.le_refl _) rfl (Nat.le_of_ble_eq_true rfl) (fun _ _ z => z.elim) (fun r' S' z => ?_)
  obtain ⟨rfl, rfl⟩ := z
  show WP _ _ _ _ [some (vR 9 0), some (vI (x1))] [vI (r4)] _ _ _
  refine wp_if_eq (tgt := 50) dX9_isKept_11 (by decide) (fun c7 => ?_) (fun c7 => ?_)
  · replace h := itp c7 h
    refine wp_iconst (v := 0) dX9_isKept_50 (by decide) ?_
    obtain ⟨q1, q2⟩ := sm_e h
    subst q1
    subst q2
    exact wp_zreturn rfl (by decide) dX9_isKept_51 ⟨rfl, rfl⟩
  · replace h := itn c7 h
    refine wp_aload_n dX9_isKept_14 rfl ?_
    refine wp_arrR (y := 56) (c := 256) hfr (by decide) rfl fl_X9_168 dX9_isKept_15 ?_
    refine wp_iload_n dX9_isKept_18 rfl ?_
    obtain ⟨c8, h⟩ := ock h
    refine wp_ialdR (c := 256) (y := 56) rfl rfl (show vp_in (x1) (len 256) from c8) dX9_isKept_19 ?_
    refine wp_bipush (v := 8) dX9_isKept_20 (by decide) ?_
    refine wp_icmp_ne (tgt := 37) dX9_isKept_22 (by decide) (fun c9 => ?_) (fun c9 => ?_)
    · replace h := itn c9 h
      refine wp_aload_n dX9_isKept_37 rfl ?_
      refine wp_arrR (y := 58) (c := 258) hfr (by decide) rfl fl_X9_174 dX9_isKept_38 ?_
      refine wp_iload_n dX9_isKept_41 rfl ?_
      refine wp_baldR (c := 258) (y := 58) rfl rfl (show vp_in (x1) (len 258) from c8) dX9_isKept_42 ?_
      refine wp_if_eq (tgt := 50) dX9_isKept_43 (by decide) (fun c12 => ?_) (fun c12 => ?_)
      · replace h := itp c12 h
        refine wp_iconst (v := 0) dX9_isKept_50 (by decide) ?_
        obtain ⟨q1, q2⟩ := sm_e h
        subst q1
        subst q2
        exact wp_zreturn rfl (by decide) dX9_isKept_51 ⟨rfl, rfl⟩
      · replace h := itn c12 h
        refine wp_iconst (v := 1) dX9_isKept_46 (by decide) ?_
        refine wp_goto (tgt := 51) dX9_isKept_47 (by decide) ?_
        obtain ⟨q1, q2⟩ := sm_e h
        subst q1
        subst q2
        exact wp_zreturn rfl (by decide) dX9_isKept_51 ⟨rfl, rfl⟩
    · replace h := itp c9 h
      refine wp_iload_n dX9_isKept_25 rfl ?_
      refine wp_aload_n dX9_isKept_26 rfl ?_
      refine wp_getRI (y := 29) (by decide) rfl fl_X9_93 dX9_isKept_27 ?_
      obtain ⟨c10, h⟩ := ock h
      refine wp_irem dX9_isKept_30 c10 ?_
      refine wp_if_ne (tgt := 50) dX9_isKept_31 (by decide) (fun c11 => ?_) (fun c11 => ?_)
      · replace h := itn c11 h
        refine wp_iconst (v := 0) dX9_isKept_50 (by decide) ?_
        obtain ⟨q1, q2⟩ := sm_e h
        subst q1
        subst q2
        exact wp_zreturn rfl (by decide) dX9_isKept_51 ⟨rfl, rfl⟩
      · replace h := itp c11 h
        refine wp_goto (tgt := 46) dX9_isKept_34 (by decide) ?_
        refine wp_iconst (v := 1) dX9_isKept_46 (by decide) ?_
        refine wp_goto (tgt := 51) dX9_isKept_47 (by decide) ?_
        obtain ⟨q1, q2⟩ := sm_e h
        subst q1
        subst q2
        exact wp_zreturn rfl (by decide) dX9_isKept_51 ⟨rfl, rfl⟩
def l9_callsOf_20 : Nat → Int32 → Int32 → Int32 → RH → Option (Int32 × RH)
  | 0, _, _, _, _ => none
  | n + 1, x1, x2, x3, rho =>
  if (rho 31 0) ≤ x3 then
    some (x2, rho)
  else
    if vq (x3) 400 then
    if (rho 40 (x3).toNatClampNeg) = x1 then
      l9_callsOf_20 n (x1) ((x2 + 1)) (x3 + 1) rho
    else
      l9_callsOf_20 n (x1) ((x2 + 0)) (x3 + 1) rho
    else none
theorem w9_callsOf_20 {r : Int32} {rho9 : RH} (hfr : RA fr) : ∀ (n : Nat) {x1 x2 x3 : Int32} {rho : RH}, l9_callsOf_20 n x1 x2 x3 rho = some (r, rho9) → WP mX9_callsOf 2 0 20 [some (vR 9 0), some (vI (x1)), some (vI (x2)), some (vI (x3))] [] (lv, fr, fi, ai, ar, li, out, rho) (Po lv fr fi ai ar li out (some (vI r)) rho9) NX := by
  intro n
  induction n with
  | zero =>
    intro x1 x2 x3 rho h
    rw [l9_callsOf_20] at h
    cases h
  | succ n ih =>
    intro x1 x2 x3 rho h
    rw [l9_callsOf_20] at h
    refine wp_iload_n dX9_callsOf_20 rfl ?_
    refine wp_aload_n dX9_callsOf_21 rfl ?_
    refine wp_getRI (y := 31) (by decide) rfl fl_X9_217 dX9_callsOf_22 ?_
    refine wp_icmp_ge (tgt := 52) dX9_callsOf_25 (by decide) (fun c1 => ?_) (fun c1 => ?_)
    · replace h := itp c1 h
      refine wp_iload_n dX9_callsOf_52 rfl ?_
      obtain ⟨q1, q2⟩ := sm_e h
      subst q1
      subst q2
      exact wp_ireturn rfl dX9_callsOf_53 ⟨rfl, rfl⟩
    · replace h := itn c1 h
      refine wp_iload_n dX9_callsOf_28 rfl ?_
      refine wp_aload_n dX9_callsOf_29 rfl ?_
      refine wp_arrR (y := 40) (c := 240) hfr (by decide) rfl fl_X9_123 dX9_callsOf_30 ?_
      refine wp_iload_n dX9_callsOf_33 rfl ?_
      obtain ⟨c2, h⟩ := ock h
      refine wp_ialdR (c := 240) (y := 40) rfl rfl (show vp_in (x3) (len 240) from c2) dX9_callsOf_34 ?_
      refine wp_iload_n dX9_callsOf_35 rfl ?_
      refine wp_icmp_ne (tgt := 43) dX9_callsOf_36 (by decide) (fun c3 => ?_) (fun c3 => ?_)
      · replace h := itn c3 h
        refine wp_iconst (v := 0) dX9_callsOf_43 (by decide) ?_
        refine wp_iadd dX9_callsOf_44 ?_
        refine wp_istore_n (L' := [some (vR 9 0), some (vI (x1)), some (vI ((x2 + 0))), some (vI (x3))]) dX9_callsOf_45 rfl rfl ?_
        refine wp_iinc (v := x3 + 1) (L' := [some (vR 9 0), some (vI (x1)), some (vI ((x2 + 0))), some (vI (x3 + 1))]) dX9_callsOf_46 rfl rfl rfl ?_
        refine wp_goto (tgt := 20) dX9_callsOf_49 (by decide) ?_
        exact ih h
      · replace h := itp c3 h
        refine wp_iconst (v := 1) dX9_callsOf_39 (by decide) ?_
        refine wp_goto (tgt := 44) dX9_callsOf_40 (by decide) ?_
        refine wp_iadd dX9_callsOf_44 ?_
        refine wp_istore_n (L' := [some (vR 9 0), some (vI (x1)), some (vI ((x2 + 1))), some (vI (x3))]) dX9_callsOf_45 rfl rfl ?_
        refine wp_iinc (v := x3 + 1) (L' := [some (vR 9 0), some (vI (x1)), some (vI ((x2 + 1))), some (vI (x3 + 1))]) dX9_callsOf_46 rfl rfl rfl ?_
        refine wp_goto (tgt := 20) dX9_callsOf_49 (by decide) ?_
        exact ih h
def f9_callsOf (x1 : Int32) (rho : RH) : Option (Int32 × RH) :=
  ob (f9_isRequest (x1) rho) fun r1 rho2 =>
  ob (f9_goes (r1) (1) (1) rho2) fun r4 rho5 =>
  if r4 = 0 then
    some (0, rho5)
  else
    l9_callsOf_20 FU (x1) (0) (0) rho5
theorem w9_callsOf {r : Int32} {rho9 : RH} (hfr : RA fr) {x1 : Int32} {rho : RH} (h : f9_callsOf x1 rho = some (r, rho9)) : Spec mX9_callsOf 2 0 [vR 9 0, vI x1] (lv, fr, fi, ai, ar, li, out, rho) (Po lv fr fi ai ar li out (some (vI r)) rho9) NX := by
  unfold f9_callsOf at h
  refine spec_of (by decide) rfl (by simp [catS, cat1]) (Nat.le_of_ble_eq_true rfl) ?_
  show WP mX9_callsOf 2 0 0 [some (vR 9 0), some (vI (x1)), none, none] [] (lv, fr, fi, ai, ar, li, out, rho) (Po lv fr fi ai ar li out (some (vI r)) rho9) NX
  refine wp_aload_n dX9_callsOf_0 rfl ?_
  refine wp_aload_n dX9_callsOf_1 rfl ?_
  refine wp_iload_n dX9_callsOf_2 rfl ?_
  obtain ⟨r1, rho2, hp3, h⟩ := ob_e h
  refine wp_callV (k1 := 0) (k2 := 0) (As := [vI (x1)]) (rest := [vR 9 0]) (w9_isRequest hfr hp3) okX9_isRequest ivX9_isRequest rfl (by decide) ml_X9_346 dX9_callsOf_3 rfl (by decide) (Nat.le_refl _) rfl (Nat.le_of_ble_eq_true rfl) (fun _ _ z => z.elim) (fun r' S' z => ?_)
  obtain ⟨rfl, rfl⟩ := z
  show WP _ _ _ _ [some (vR 9 0), some (vI (x1)), none, none] [vI (r1), vR 9 0] _ _ _
  refine wp_iconst (v := 1) dX9_callsOf_6 (by decide) ?_
  refine wp_iconst (v := 1) dX9_callsOf_7 (by decide) ?_
  obtain ⟨r4, rho5, hp6, h⟩ := ob_e h
  refine wp_callV (k1 := 0) (k2 := 0) (As := [vI (r1), vI (1), vI (1)]) (rest := []) (w9_goes hfr hp6) okX9_goes ivX9_goes rfl (by decide) ml_X9_203 dX9_callsOf_8 rfl (by decide) (Nat.le_refl _) rfl (Nat.le_of_ble_eq_true rfl) (fun _ _ z => z.elim) (fun r' S' z => ?_)
  obtain ⟨rfl, rfl⟩ := z
  show WP _ _ _ _ [some (vR 9 0), some (vI (x1)), none, none] [vI (r4)] _ _ _
  refine wp_if_ne (tgt := 16) dX9_callsOf_11 (by decide) (fun c7 => ?_) (fun c7 => ?_)
  · replace h := itn c7 h
    refine wp_iconst (v := 0) dX9_callsOf_16 (by decide) ?_
    refine wp_istore_n (L' := [some (vR 9 0), some (vI (x1)), some (vI (0)), none]) dX9_callsOf_17 rfl rfl ?_
    refine wp_iconst (v := 0) dX9_callsOf_18 (by decide) ?_
    refine wp_istore_n (L' := [some (vR 9 0), some (vI (x1)), some (vI (0)), some (vI (0))]) dX9_callsOf_19 rfl rfl ?_
    exact w9_callsOf_20 hfr FU h
  · replace h := itp c7 h
    refine wp_iconst (v := 0) dX9_callsOf_14 (by decide) ?_
    obtain ⟨q1, q2⟩ := sm_e h
    subst q1
    subst q2
    exact wp_ireturn rfl dX9_callsOf_15 ⟨rfl, rfl⟩
def f9_calls (rho : RH) : Option (Int32 × RH) :=
  wr (up2 rho 64 0 (0)) fun rho1 =>
  some ((rho1 31 0), rho1)
theorem w9_calls {r : Int32} {rho9 : RH} (hfr : RA fr) {rho : RH} (h : f9_calls  rho = some (r, rho9)) : Spec mX9_calls 0 0 [vR 9 0] (lv, fr, fi, ai, ar, li, out, rho) (Po lv fr fi ai ar li out (some (vI r)) rho9) NX := by
  unfold f9_calls at h
  refine spec_of (by decide) rfl (by simp [catS, cat1]) (Nat.le_of_ble_eq_true rfl) ?_
  show WP mX9_calls 0 0 0 [some (vR 9 0)] [] (lv, fr, fi, ai, ar, li, out, rho) (Po lv fr fi ai ar li out (some (vI r)) rho9) NX
  refine wp_aload_n dX9_calls_0 rfl ?_
  refine wp_iconst (v := 0) dX9_calls_1 (by decide) ?_
  refine wp_putRI (y := 64) (by decide) rfl rfl fl_X9_186 dX9_calls_2 rfl ?_
  obtain ⟨rho1, e2, h⟩ := wr_e h
  rw [e2]
  refine wp_aload_n dX9_calls_5 rfl ?_
  refine wp_getRI (y := 31) (by decide) rfl fl_X9_217 dX9_calls_6 ?_
  obtain ⟨q1, q2⟩ := sm_e h
  subst q1
  subst q2
  exact wp_ireturn rfl dX9_calls_9 ⟨rfl, rfl⟩
def f9_toldOf (x1 x2 : Int32) (rho : RH) : Option (Int32 × RH) :=
  if x2 = nI 0 then
    if vq (x1) 400 then
    some ((rho 34 (x1).toNatClampNeg), rho)
    else none
  else
  if x2 = nI 1 then
    if vq (x1) 400 then
    some ((rho 36 (x1).toNatClampNeg), rho)
    else none
  else
  if x2 = nI 2 then
    if vq (x1) 400 then
    some ((rho 37 (x1).toNatClampNeg), rho)
    else none
  else
  if x2 = nI 3 then
    if vq (x1) 400 then
    some ((rho 38 (x1).toNatClampNeg), rho)
    else none
  else
  if x2 = nI 4 then
    if vq (x1) 400 then
    if 400 ≤ (rho 32 (x1).toNatClampNeg) then
      some ((-1), rho)
    else
      some ((rho 32 (x1).toNatClampNeg), rho)
    else none
  else
  if x2 = nI 5 then
    if vq (x1) 400 then
    some ((rho 40 (x1).toNatClampNeg), rho)
    else none
  else
  if x2 = nI 6 then
    if vq (x1) 540 then
    some (((rho 46 (x1).toNatClampNeg) + 1), rho)
    else none
  else
  if vq (x1) 400 then
  if 440 ≤ (rho 32 (x1).toNatClampNeg) then
    some ((((rho 32 (x1).toNatClampNeg) - 400) - 40), rho)
  else
    some ((-1), rho)
  else none
theorem w9_toldOf {r : Int32} {rho9 : RH} (hfr : RA fr) {x1 x2 : Int32} {rho : RH} (h : f9_toldOf x1 x2 rho = some (r, rho9)) : Spec mX9_toldOf 0 0 [vR 9 0, vI x1, vI x2] (lv, fr, fi, ai, ar, li, out, rho) (Po lv fr fi ai ar li out (some (vI r)) rho9) NX := by
  unfold f9_toldOf at h
  refine spec_of (by decide) rfl (by simp [catS, cat1]) (Nat.le_of_ble_eq_true rfl) ?_
  show WP mX9_toldOf 0 0 0 [some (vR 9 0), some (vI (x1)), some (vI (x2))] [] (lv, fr, fi, ai, ar, li, out, rho) (Po lv fr fi ai ar li out (some (vI r)) rho9) NX
  refine wp_iload_n dX9_toldOf_0 rfl ?_
  by_cases c1 : x2 = nI 0
  · replace h := itp c1 h
    rw [c1]
    refine wp_tableIn (tgt := 44) dX9_toldOf_1 (by decide) (by decide) rfl (by decide) ?_
    refine wp_aload_n dX9_toldOf_44 rfl ?_
    refine wp_arrR (y := 34) (c := 234) hfr (by decide) rfl fl_X9_105 dX9_toldOf_45 ?_
    refine wp_iload_n dX9_toldOf_48 rfl ?_
    obtain ⟨c2, h⟩ := ock h
    refine wp_ialdR (c := 234) (y := 34) rfl rfl (show vp_in (x1) (len 234) from c2) dX9_toldOf_49 ?_
    obtain ⟨q1, q2⟩ := sm_e h
    subst q1
    subst q2
    exact wp_ireturn rfl dX9_toldOf_50 ⟨rfl, rfl⟩
  replace h := itn c1 h
  by_cases c3 : x2 = nI 1
  · replace h := itp c3 h
    rw [c3]
    refine wp_tableIn (tgt := 51) dX9_toldOf_1 (by decide) (by decide) rfl (by decide) ?_
    refine wp_aload_n dX9_toldOf_51 rfl ?_
    refine wp_arrR (y := 36) (c := 236) hfr (by decide) rfl fl_X9_111 dX9_toldOf_52 ?_
    refine wp_iload_n dX9_toldOf_55 rfl ?_
    obtain ⟨c4, h⟩ := ock h
    refine wp_ialdR (c := 236) (y := 36) rfl rfl (show vp_in (x1) (len 236) from c4) dX9_toldOf_56 ?_
    obtain ⟨q1, q2⟩ := sm_e h
    subst q1
    subst q2
    exact wp_ireturn rfl dX9_toldOf_57 ⟨rfl, rfl⟩
  replace h := itn c3 h
  by_cases c5 : x2 = nI 2
  · replace h := itp c5 h
    rw [c5]
    refine wp_tableIn (tgt := 58) dX9_toldOf_1 (by decide) (by decide) rfl (by decide) ?_
    refine wp_aload_n dX9_toldOf_58 rfl ?_
    refine wp_arrR (y := 37) (c := 237) hfr (by decide) rfl fl_X9_114 dX9_toldOf_59 ?_
    refine wp_iload_n dX9_toldOf_62 rfl ?_
    obtain ⟨c6, h⟩ := ock h
    refine wp_ialdR (c := 237) (y := 37) rfl rfl (show vp_in (x1) (len 237) from c6) dX9_toldOf_63 ?_
    obtain ⟨q1, q2⟩ := sm_e h
    subst q1
    subst q2
    exact wp_ireturn rfl dX9_toldOf_64 ⟨rfl, rfl⟩
  replace h := itn c5 h
  by_cases c7 : x2 = nI 3
  · replace h := itp c7 h
    rw [c7]
    refine wp_tableIn (tgt := 65) dX9_toldOf_1 (by decide) (by decide) rfl (by decide) ?_
    refine wp_aload_n dX9_toldOf_65 rfl ?_
    refine wp_arrR (y := 38) (c := 238) hfr (by decide) rfl fl_X9_117 dX9_toldOf_66 ?_
    refine wp_iload_n dX9_toldOf_69 rfl ?_
    obtain ⟨c8, h⟩ := ock h
    refine wp_ialdR (c := 238) (y := 38) rfl rfl (show vp_in (x1) (len 238) from c8) dX9_toldOf_70 ?_
    obtain ⟨q1, q2⟩ := sm_e h
    subst q1
    subst q2
    exact wp_ireturn rfl dX9_toldOf_71 ⟨rfl, rfl⟩
  replace h := itn c7 h
  by_cases c9 : x2 = nI 4
  · replace h := itp c9 h
    rw [c9]
    refine wp_tableIn (tgt := 72) dX9_toldOf_1 (by decide) (by decide) rfl (by decide) ?_
    refine wp_aload_n dX9_toldOf_72 rfl ?_
    refine wp_arrR (y := 32) (c := 232) hfr (by decide) rfl fl_X9_99 dX9_toldOf_73 ?_
    refine wp_iload_n dX9_toldOf_76 rfl ?_
    obtain ⟨c10, h⟩ := ock h
    refine wp_ialdR (c := 232) (y := 32) rfl rfl (show vp_in (x1) (len 232) from c10) dX9_toldOf_77 ?_
    refine wp_sipush (v := 400) dX9_toldOf_78 (by decide) ?_
    refine wp_icmp_ge (tgt := 93) dX9_toldOf_81 (by decide) (fun c11 => ?_) (fun c11 => ?_)
    · replace h := itp c11 h
      refine wp_iconst (v := (-1)) dX9_toldOf_93 (by decide) ?_
      obtain ⟨q1, q2⟩ := sm_e h
      subst q1
      subst q2
      exact wp_ireturn rfl dX9_toldOf_94 ⟨rfl, rfl⟩
    · replace h := itn c11 h
      refine wp_aload_n dX9_toldOf_84 rfl ?_
      refine wp_arrR (y := 32) (c := 232) hfr (by decide) rfl fl_X9_99 dX9_toldOf_85 ?_
      refine wp_iload_n dX9_toldOf_88 rfl ?_
      refine wp_ialdR (c := 232) (y := 32) rfl rfl (show vp_in (x1) (len 232) from c10) dX9_toldOf_89 ?_
      refine wp_goto (tgt := 94) dX9_toldOf_90 (by decide) ?_
      obtain ⟨q1, q2⟩ := sm_e h
      subst q1
      subst q2
      exact wp_ireturn rfl dX9_toldOf_94 ⟨rfl, rfl⟩
  replace h := itn c9 h
  by_cases c12 : x2 = nI 5
  · replace h := itp c12 h
    rw [c12]
    refine wp_tableIn (tgt := 95) dX9_toldOf_1 (by decide) (by decide) rfl (by decide) ?_
    refine wp_aload_n dX9_toldOf_95 rfl ?_
    refine wp_arrR (y := 40) (c := 240) hfr (by decide) rfl fl_X9_123 dX9_toldOf_96 ?_
    refine wp_iload_n dX9_toldOf_99 rfl ?_
    obtain ⟨c13, h⟩ := ock h
    refine wp_ialdR (c := 240) (y := 40) rfl rfl (show vp_in (x1) (len 240) from c13) dX9_toldOf_100 ?_
    obtain ⟨q1, q2⟩ := sm_e h
    subst q1
    subst q2
    exact wp_ireturn rfl dX9_toldOf_101 ⟨rfl, rfl⟩
  replace h := itn c12 h
  by_cases c14 : x2 = nI 6
  · replace h := itp c14 h
    rw [c14]
    refine wp_tableIn (tgt := 102) dX9_toldOf_1 (by decide) (by decide) rfl (by decide) ?_
    refine wp_aload_n dX9_toldOf_102 rfl ?_
    refine wp_arrR (y := 46) (c := 246) hfr (by decide) rfl fl_X9_141 dX9_toldOf_103 ?_
    refine wp_iload_n dX9_toldOf_106 rfl ?_
    obtain ⟨c15, h⟩ := ock h
    refine wp_ialdR (c := 246) (y := 46) rfl rfl (show vp_in (x1) (len 246) from c15) dX9_toldOf_107 ?_
    refine wp_iconst (v := 1) dX9_toldOf_108 (by decide) ?_
    refine wp_iadd dX9_toldOf_109 ?_
    obtain ⟨q1, q2⟩ := sm_e h
    subst q1
    subst q2
    exact wp_ireturn rfl dX9_toldOf_110 ⟨rfl, rfl⟩
  replace h := itn c14 h
  refine wp_tableOut (tgt := 111) dX9_toldOf_1 (tab_out (n := 7) (by decide) (fun i hi => by
    have : i = 0 ∨ i = 1 ∨ i = 2 ∨ i = 3 ∨ i = 4 ∨ i = 5 ∨ i = 6 := by omega
    rcases this with rfl | rfl | rfl | rfl | rfl | rfl | rfl
    all_goals assumption)) (by decide) ?_
  refine wp_aload_n dX9_toldOf_111 rfl ?_
  refine wp_arrR (y := 32) (c := 232) hfr (by decide) rfl fl_X9_99 dX9_toldOf_112 ?_
  refine wp_iload_n dX9_toldOf_115 rfl ?_
  obtain ⟨c16, h⟩ := ock h
  refine wp_ialdR (c := 232) (y := 32) rfl rfl (show vp_in (x1) (len 232) from c16) dX9_toldOf_116 ?_
  refine wp_sipush (v := 440) dX9_toldOf_117 (by decide) ?_
  refine wp_icmp_ge (tgt := 127) dX9_toldOf_120 (by decide) (fun c17 => ?_) (fun c17 => ?_)
  · replace h := itp c17 h
    refine wp_aload_n dX9_toldOf_127 rfl ?_
    refine wp_arrR (y := 32) (c := 232) hfr (by decide) rfl fl_X9_99 dX9_toldOf_128 ?_
    refine wp_iload_n dX9_toldOf_131 rfl ?_
    refine wp_ialdR (c := 232) (y := 32) rfl rfl (show vp_in (x1) (len 232) from c16) dX9_toldOf_132 ?_
    refine wp_sipush (v := 400) dX9_toldOf_133 (by decide) ?_
    refine wp_isub dX9_toldOf_136 ?_
    refine wp_bipush (v := 40) dX9_toldOf_137 (by decide) ?_
    refine wp_isub dX9_toldOf_139 ?_
    obtain ⟨q1, q2⟩ := sm_e h
    subst q1
    subst q2
    exact wp_ireturn rfl dX9_toldOf_140 ⟨rfl, rfl⟩
  · replace h := itn c17 h
    refine wp_iconst (v := (-1)) dX9_toldOf_123 (by decide) ?_
    refine wp_goto (tgt := 140) dX9_toldOf_124 (by decide) ?_
    obtain ⟨q1, q2⟩ := sm_e h
    subst q1
    subst q2
    exact wp_ireturn rfl dX9_toldOf_140 ⟨rfl, rfl⟩
def f9_call (x1 x2 : Int32) (rho : RH) : Option (Int32 × RH) :=
  ob (f9_in (x1) (0) (((rho 31 0) - 1)) rho) fun r1 rho2 =>
  ob (f9_in (x2) (0) (7) rho2) fun r4 rho5 =>
  ob (f9_goes (r1) (r4) (1) rho5) fun r7 rho8 =>
  if r7 = 0 then
    some (0, rho8)
  else
    ob (f9_toldOf (x1) (x2) rho8) fun r11 rho12 =>
    some (r11, rho12)
theorem w9_call {r : Int32} {rho9 : RH} (hfr : RA fr) {x1 x2 : Int32} {rho : RH} (h : f9_call x1 x2 rho = some (r, rho9)) : Spec mX9_call 1 0 [vR 9 0, vI x1, vI x2] (lv, fr, fi, ai, ar, li, out, rho) (Po lv fr fi ai ar li out (some (vI r)) rho9) NX := by
  unfold f9_call at h
  refine spec_of (by decide) rfl (by simp [catS, cat1]) (Nat.le_of_ble_eq_true rfl) ?_
  show WP mX9_call 1 0 0 [some (vR 9 0), some (vI (x1)), some (vI (x2))] [] (lv, fr, fi, ai, ar, li, out, rho) (Po lv fr fi ai ar li out (some (vI r)) rho9) NX
  refine wp_aload_n dX9_call_0 rfl ?_
  refine wp_iload_n dX9_call_1 rfl ?_
  refine wp_iconst (v := 0) dX9_call_2 (by decide) ?_
  refine wp_aload_n dX9_call_3 rfl ?_
  refine wp_getRI (y := 31) (by decide) rfl fl_X9_217 dX9_call_4 ?_
  refine wp_iconst (v := 1) dX9_call_7 (by decide) ?_
  refine wp_isub dX9_call_8 ?_
  obtain ⟨r1, rho2, hp3, h⟩ := ob_e h
  refine wp_callS (k1 := 0) (k2 := 0) (As := [vI (x1), vI (0), vI (((rho 31 0) - 1))]) (rest := [vR 9 0]) (w9_in hfr hp3) okX9_in sm_X9_in rfl ml_X9_189 dX9_call_9 rfl (by decide) (Nat.le_refl _) rfl (Nat.le_of_ble_eq_true rfl) (fun _ _ z => z.elim) (fun r' S' z => ?_)
  obtain ⟨rfl, rfl⟩ := z
  show WP _ _ _ _ [some (vR 9 0), some (vI (x1)), some (vI (x2))] [vI (r1), vR 9 0] _ _ _
  refine wp_iload_n dX9_call_12 rfl ?_
  refine wp_iconst (v := 0) dX9_call_13 (by decide) ?_
  refine wp_bipush (v := 7) dX9_call_14 (by decide) ?_
  obtain ⟨r4, rho5, hp6, h⟩ := ob_e h
  refine wp_callS (k1 := 0) (k2 := 0) (As := [vI (x2), vI (0), vI (7)]) (rest := [vI (r1), vR 9 0]) (w9_in hfr hp6) okX9_in sm_X9_in rfl ml_X9_189 dX9_call_16 rfl (by decide) (Nat.le_refl _) rfl (Nat.le_of_ble_eq_true rfl) (fun _ _ z => z.elim) (fun r' S' z => ?_)
  obtain ⟨rfl, rfl⟩ := z
  show WP _ _ _ _ [some (vR 9 0), some (vI (x1)), some (vI (x2))] [vI (r4), vI (r1), vR 9 0] _ _ _
  refine wp_iconst (v := 1) dX9_call_19 (by decide) ?_
  obtain ⟨r7, rho8, hp9, h⟩ := ob_e h
  refine wp_callV (k1 := 0) (k2 := 0) (As := [vI (r1), vI (r4), vI (1)]) (rest := []) (w9_goes hfr hp9) okX9_goes ivX9_goes rfl (by decide) ml_X9_203 dX9_call_20 rfl (by decide) (Nat.le_refl _) rfl (Nat.le_of_ble_eq_true rfl) (fun _ _ z => z.elim) (fun r' S' z => ?_)
  obtain ⟨rfl, rfl⟩ := z
  show WP _ _ _ _ [some (vR 9 0), some (vI (x1)), some (vI (x2))] [vI (r7)] _ _ _
  refine wp_if_eq (tgt := 35) dX9_call_23 (by decide) (fun c10 => ?_) (fun c10 => ?_)
  · replace h := itp c10 h
    refine wp_iconst (v := 0) dX9_call_35 (by decide) ?_
    obtain ⟨q1, q2⟩ := sm_e h
    subst q1
    subst q2
    exact wp_ireturn rfl dX9_call_36 ⟨rfl, rfl⟩
  · replace h := itn c10 h
    refine wp_aload_n dX9_call_26 rfl ?_
    refine wp_iload_n dX9_call_27 rfl ?_
    refine wp_iload_n dX9_call_28 rfl ?_
    obtain ⟨r11, rho12, hp13, h⟩ := ob_e h
    refine wp_callV (k1 := 0) (k2 := 0) (As := [vI (x1), vI (x2)]) (rest := []) (w9_toldOf hfr hp13) okX9_toldOf ivX9_toldOf rfl (by decide) ml_X9_349 dX9_call_29 rfl (by decide) (Nat.le_refl _) rfl (Nat.le_of_ble_eq_true rfl) (fun _ _ z => z.elim) (fun r' S' z => ?_)
    obtain ⟨rfl, rfl⟩ := z
    show WP _ _ _ _ [some (vR 9 0), some (vI (x1)), some (vI (x2))] [vI (r11)] _ _ _
    refine wp_goto (tgt := 36) dX9_call_32 (by decide) ?_
    obtain ⟨q1, q2⟩ := sm_e h
    subst q1
    subst q2
    exact wp_ireturn rfl dX9_call_36 ⟨rfl, rfl⟩
def f9_budget (x1 : Int32) (rho : RH) : Option (Int32 × RH) :=
  ob (f9_isCaller (x1) rho) fun r1 rho2 =>
  ob (f9_goes (r1) (1) (1) rho2) fun r4 rho5 =>
  if r4 = 0 then
    some (0, rho5)
  else
    if vq (x1) 7 then
    some ((rho5 17 (x1).toNatClampNeg), rho5)
    else none
theorem w9_budget {r : Int32} {rho9 : RH} (hfr : RA fr) {x1 : Int32} {rho : RH} (h : f9_budget x1 rho = some (r, rho9)) : Spec mX9_budget 2 0 [vR 9 0, vI x1] (lv, fr, fi, ai, ar, li, out, rho) (Po lv fr fi ai ar li out (some (vI r)) rho9) NX := by
  unfold f9_budget at h
  refine spec_of (by decide) rfl (by simp [catS, cat1]) (Nat.le_of_ble_eq_true rfl) ?_
  show WP mX9_budget 2 0 0 [some (vR 9 0), some (vI (x1))] [] (lv, fr, fi, ai, ar, li, out, rho) (Po lv fr fi ai ar li out (some (vI r)) rho9) NX
  refine wp_aload_n dX9_budget_0 rfl ?_
  refine wp_iload_n dX9_budget_1 rfl ?_
  obtain ⟨r1, rho2, hp3, h⟩ := ob_e h
  refine wp_callS (k1 := 0) (k2 := 0) (As := [vI (x1)]) (rest := [vR 9 0]) (w9_isCaller hfr hp3) okX9_isCaller sm_X9_isCaller rfl ml_X9_210 dX9_budget_2 rfl (by decide) (Nat.le_refl _) rfl (Nat.le_of_ble_eq_true rfl) (fun _ _ z => z.elim) (fun r' S' z => ?_)
  obtain ⟨rfl, rfl⟩ := z
  show WP _ _ _ _ [some (vR 9 0), some (vI (x1))] [vI (r1), vR 9 0] _ _ _
  refine wp_iconst (v := 1) dX9_budget_5 (by decide) ?_
  refine wp_iconst (v := 1) dX9_budget_6 (by decide) ?_
  obtain ⟨r4, rho5, hp6, h⟩ := ob_e h
  refine wp_callV (k1 := 0) (k2 := 0) (As := [vI (r1), vI (1), vI (1)]) (rest := []) (w9_goes hfr hp6) okX9_goes ivX9_goes rfl (by decide) ml_X9_203 dX9_budget_7 rfl (by decide) (Nat.le_refl _) rfl (Nat.le_of_ble_eq_true rfl) (fun _ _ z => z.elim) (fun r' S' z => ?_)
  obtain ⟨rfl, rfl⟩ := z
  show WP _ _ _ _ [some (vR 9 0), some (vI (x1))] [vI (r4)] _ _ _
  refine wp_if_eq (tgt := 22) dX9_budget_10 (by decide) (fun c7 => ?_) (fun c7 => ?_)
  · replace h := itp c7 h
    refine wp_iconst (v := 0) dX9_budget_22 (by decide) ?_
    obtain ⟨q1, q2⟩ := sm_e h
    subst q1
    subst q2
    exact wp_ireturn rfl dX9_budget_23 ⟨rfl, rfl⟩
  · replace h := itn c7 h
    refine wp_aload_n dX9_budget_13 rfl ?_
    refine wp_arrR (y := 17) (c := 217) hfr (by decide) rfl fl_X9_56 dX9_budget_14 ?_
    refine wp_iload_n dX9_budget_17 rfl ?_
    obtain ⟨c8, h⟩ := ock h
    refine wp_ialdR (c := 217) (y := 17) rfl rfl (show vp_in (x1) (len 217) from c8) dX9_budget_18 ?_
    refine wp_goto (tgt := 23) dX9_budget_19 (by decide) ?_
    obtain ⟨q1, q2⟩ := sm_e h
    subst q1
    subst q2
    exact wp_ireturn rfl dX9_budget_23 ⟨rfl, rfl⟩
def f9_breaker (x1 x2 : Int32) (rho : RH) : Option (Int32 × RH) :=
  ob (f9_isCaller (x1) rho) fun r1 rho2 =>
  if r1 = 0 then
    ob (f9_goes (0) (1) (1) rho2) fun r5 rho6 =>
    if r5 = 0 then
      some (0, rho6)
    else
      if vq (((12 * x1) + x2)) 84 then
      some ((rho6 21 (((12 * x1) + x2)).toNatClampNeg), rho6)
      else none
  else
    ob (f9_isInstance (x2) rho2) fun r10 rho11 =>
    if r10 = 0 then
      ob (f9_goes (0) (1) (1) rho11) fun r14 rho15 =>
      if r14 = 0 then
        some (0, rho15)
      else
        if vq (((12 * x1) + x2)) 84 then
        some ((rho15 21 (((12 * x1) + x2)).toNatClampNeg), rho15)
        else none
    else
      ob (f9_goes (1) (1) (1) rho11) fun r19 rho20 =>
      if r19 = 0 then
        some (0, rho20)
      else
        if vq (((12 * x1) + x2)) 84 then
        some ((rho20 21 (((12 * x1) + x2)).toNatClampNeg), rho20)
        else none
theorem w9_breaker {r : Int32} {rho9 : RH} (hfr : RA fr) {x1 x2 : Int32} {rho : RH} (h : f9_breaker x1 x2 rho = some (r, rho9)) : Spec mX9_breaker 2 0 [vR 9 0, vI x1, vI x2] (lv, fr, fi, ai, ar, li, out, rho) (Po lv fr fi ai ar li out (some (vI r)) rho9) NX := by
  unfold f9_breaker at h
  refine spec_of (by decide) rfl (by simp [catS, cat1]) (Nat.le_of_ble_eq_true rfl) ?_
  show WP mX9_breaker 2 0 0 [some (vR 9 0), some (vI (x1)), some (vI (x2))] [] (lv, fr, fi, ai, ar, li, out, rho) (Po lv fr fi ai ar li out (some (vI r)) rho9) NX
  refine wp_aload_n dX9_breaker_0 rfl ?_
  refine wp_iload_n dX9_breaker_1 rfl ?_
  obtain ⟨r1, rho2, hp3, h⟩ := ob_e h
  refine wp_callS (k1 := 0) (k2 := 0) (As := [vI (x1)]) (rest := [vR 9 0]) (w9_isCaller hfr hp3) okX9_isCaller sm_X9_isCaller rfl ml_X9_210 dX9_breaker_2 rfl (by decide) (Nat.le_refl _) rfl (Nat.le_of_ble_eq_true rfl) (fun _ _ z => z.elim) (fun r' S' z => ?_)
  obtain ⟨rfl, rfl⟩ := z
  show WP _ _ _ _ [some (vR 9 0), some (vI (x1)), some (vI (x2))] [vI (r1), vR 9 0] _ _ _
  refine wp_if_eq (tgt := 20) dX9_breaker_5 (by decide) (fun c4 => ?_) (fun c4 => ?_)
  · replace h := itp c4 h
    refine wp_iconst (v := 0) dX9_breaker_20 (by decide) ?_
    refine wp_iconst (v := 1) dX9_breaker_21 (by decide) ?_
    refine wp_iconst (v := 1) dX9_breaker_22 (by decide) ?_
    obtain ⟨r5, rho6, hp7, h⟩ := ob_e h
    refine wp_callV (k1 := 0) (k2 := 0) (As := [vI (0), vI (1), vI (1)]) (rest := []) (w9_goes hfr hp7) okX9_goes ivX9_goes rfl (by decide) ml_X9_203 dX9_breaker_23 rfl (by decide) (Nat.le_refl _) rfl (Nat.le_of_ble_eq_true rfl) (fun _ _ z => z.elim) (fun r' S' z => ?_)
    obtain ⟨rfl, rfl⟩ := z
    show WP _ _ _ _ [some (vR 9 0), some (vI (x1)), some (vI (x2))] [vI (r5)] _ _ _
    refine wp_if_eq (tgt := 43) dX9_breaker_26 (by decide) (fun c8 => ?_) (fun c8 => ?_)
    · replace h := itp c8 h
      refine wp_iconst (v := 0) dX9_breaker_43 (by decide) ?_
      obtain ⟨q1, q2⟩ := sm_e h
      subst q1
      subst q2
      exact wp_ireturn rfl dX9_breaker_44 ⟨rfl, rfl⟩
    · replace h := itn c8 h
      refine wp_aload_n dX9_breaker_29 rfl ?_
      refine wp_arrR (y := 21) (c := 221) hfr (by decide) rfl fl_X9_69 dX9_breaker_30 ?_
      refine wp_bipush (v := 12) dX9_breaker_33 (by decide) ?_
      refine wp_iload_n dX9_breaker_35 rfl ?_
      refine wp_imul dX9_breaker_36 ?_
      refine wp_iload_n dX9_breaker_37 rfl ?_
      refine wp_iadd dX9_breaker_38 ?_
      obtain ⟨c9, h⟩ := ock h
      refine wp_ialdR (c := 221) (y := 21) rfl rfl (show vp_in (((12 * x1) + x2)) (len 221) from c9) dX9_breaker_39 ?_
      refine wp_goto (tgt := 44) dX9_breaker_40 (by decide) ?_
      obtain ⟨q1, q2⟩ := sm_e h
      subst q1
      subst q2
      exact wp_ireturn rfl dX9_breaker_44 ⟨rfl, rfl⟩
  · replace h := itn c4 h
    refine wp_aload_n dX9_breaker_8 rfl ?_
    refine wp_iload_n dX9_breaker_9 rfl ?_
    obtain ⟨r10, rho11, hp12, h⟩ := ob_e h
    refine wp_callV (k1 := 0) (k2 := 0) (As := [vI (x2)]) (rest := [vR 9 0]) (w9_isInstance hfr hp12) okX9_isInstance ivX9_isInstance rfl (by decide) ml_X9_207 dX9_breaker_10 rfl (by decide) (Nat.le_refl _) rfl (Nat.le_of_ble_eq_true rfl) (fun _ _ z => z.elim) (fun r' S' z => ?_)
    obtain ⟨rfl, rfl⟩ := z
    show WP _ _ _ _ [some (vR 9 0), some (vI (x1)), some (vI (x2))] [vI (r10), vR 9 0] _ _ _
    refine wp_if_eq (tgt := 20) dX9_breaker_13 (by decide) (fun c13 => ?_) (fun c13 => ?_)
    · replace h := itp c13 h
      refine wp_iconst (v := 0) dX9_breaker_20 (by decide) ?_
      refine wp_iconst (v := 1) dX9_breaker_21 (by decide) ?_
      refine wp_iconst (v := 1) dX9_breaker_22 (by decide) ?_
      obtain ⟨r14, rho15, hp16, h⟩ := ob_e h
      refine wp_callV (k1 := 0) (k2 := 0) (As := [vI (0), vI (1), vI (1)]) (rest := []) (w9_goes hfr hp16) okX9_goes ivX9_goes rfl (by decide) ml_X9_203 dX9_breaker_23 rfl (by decide) (Nat.le_refl _) rfl (Nat.le_of_ble_eq_true rfl) (fun _ _ z => z.elim) (fun r' S' z => ?_)
      obtain ⟨rfl, rfl⟩ := z
      show WP _ _ _ _ [some (vR 9 0), some (vI (x1)), some (vI (x2))] [vI (r14)] _ _ _
      refine wp_if_eq (tgt := 43) dX9_breaker_26 (by decide) (fun c17 => ?_) (fun c17 => ?_)
      · replace h := itp c17 h
        refine wp_iconst (v := 0) dX9_breaker_43 (by decide) ?_
        obtain ⟨q1, q2⟩ := sm_e h
        subst q1
        subst q2
        exact wp_ireturn rfl dX9_breaker_44 ⟨rfl, rfl⟩
      · replace h := itn c17 h
        refine wp_aload_n dX9_breaker_29 rfl ?_
        refine wp_arrR (y := 21) (c := 221) hfr (by decide) rfl fl_X9_69 dX9_breaker_30 ?_
        refine wp_bipush (v := 12) dX9_breaker_33 (by decide) ?_
        refine wp_iload_n dX9_breaker_35 rfl ?_
        refine wp_imul dX9_breaker_36 ?_
        refine wp_iload_n dX9_breaker_37 rfl ?_
        refine wp_iadd dX9_breaker_38 ?_
        obtain ⟨c18, h⟩ := ock h
        refine wp_ialdR (c := 221) (y := 21) rfl rfl (show vp_in (((12 * x1) + x2)) (len 221) from c18) dX9_breaker_39 ?_
        refine wp_goto (tgt := 44) dX9_breaker_40 (by decide) ?_
        obtain ⟨q1, q2⟩ := sm_e h
        subst q1
        subst q2
        exact wp_ireturn rfl dX9_breaker_44 ⟨rfl, rfl⟩
    · replace h := itn c13 h
      refine wp_iconst (v := 1) dX9_breaker_16 (by decide) ?_
      refine wp_goto (tgt := 21) dX9_breaker_17 (by decide) ?_
      refine wp_iconst (v := 1) dX9_breaker_21 (by decide) ?_
      refine wp_iconst (v := 1) dX9_breaker_22 (by decide) ?_
      obtain ⟨r19, rho20, hp21, h⟩ := ob_e h
      refine wp_callV (k1 := 0) (k2 := 0) (As := [vI (1), vI (1), vI (1)]) (rest := []) (w9_goes hfr hp21) okX9_goes ivX9_goes rfl (by decide) ml_X9_203 dX9_breaker_23 rfl (by decide) (Nat.le_refl _) rfl (Nat.le_of_ble_eq_true rfl) (fun _ _ z => z.elim) (fun r' S' z => ?_)
      obtain ⟨rfl, rfl⟩ := z
      show WP _ _ _ _ [some (vR 9 0), some (vI (x1)), some (vI (x2))] [vI (r19)] _ _ _
      refine wp_if_eq (tgt := 43) dX9_breaker_26 (by decide) (fun c22 => ?_) (fun c22 => ?_)
      · replace h := itp c22 h
        refine wp_iconst (v := 0) dX9_breaker_43 (by decide) ?_
        obtain ⟨q1, q2⟩ := sm_e h
        subst q1
        subst q2
        exact wp_ireturn rfl dX9_breaker_44 ⟨rfl, rfl⟩
      · replace h := itn c22 h
        refine wp_aload_n dX9_breaker_29 rfl ?_
        refine wp_arrR (y := 21) (c := 221) hfr (by decide) rfl fl_X9_69 dX9_breaker_30 ?_
        refine wp_bipush (v := 12) dX9_breaker_33 (by decide) ?_
        refine wp_iload_n dX9_breaker_35 rfl ?_
        refine wp_imul dX9_breaker_36 ?_
        refine wp_iload_n dX9_breaker_37 rfl ?_
        refine wp_iadd dX9_breaker_38 ?_
        obtain ⟨c23, h⟩ := ock h
        refine wp_ialdR (c := 221) (y := 21) rfl rfl (show vp_in (((12 * x1) + x2)) (len 221) from c23) dX9_breaker_39 ?_
        refine wp_goto (tgt := 44) dX9_breaker_40 (by decide) ?_
        obtain ⟨q1, q2⟩ := sm_e h
        subst q1
        subst q2
        exact wp_ireturn rfl dX9_breaker_44 ⟨rfl, rfl⟩
def f9_isShunned (x1 : Int32) (rho : RH) : Option (Int32 × RH) :=
  ob (f9_isInstance (x1) rho) fun r1 rho2 =>
  ob (f9_goes (r1) (1) (1) rho2) fun r4 rho5 =>
  if r4 = 0 then
    some (0, rho5)
  else
    ob (f9_isAvoided (x1) rho5) fun r8 rho9 =>
    if r8 = 0 then
      some (0, rho9)
    else
      some (1, rho9)
theorem w9_isShunned {r : Int32} {rho9 : RH} (hfr : RA fr) {x1 : Int32} {rho : RH} (h : f9_isShunned x1 rho = some (r, rho9)) : Spec mX9_isShunned 2 0 [vR 9 0, vI x1] (lv, fr, fi, ai, ar, li, out, rho) (Po lv fr fi ai ar li out (some (vI r)) rho9) NX := by
  unfold f9_isShunned at h
  refine spec_of (by decide) rfl (by simp [catS, cat1]) (Nat.le_of_ble_eq_true rfl) ?_
  show WP mX9_isShunned 2 0 0 [some (vR 9 0), some (vI (x1))] [] (lv, fr, fi, ai, ar, li, out, rho) (Po lv fr fi ai ar li out (some (vI r)) rho9) NX
  refine wp_aload_n dX9_isShunned_0 rfl ?_
  refine wp_aload_n dX9_isShunned_1 rfl ?_
  refine wp_iload_n dX9_isShunned_2 rfl ?_
  obtain ⟨r1, rho2, hp3, h⟩ := ob_e h
  refine wp_callV (k1 := 0) (k2 := 0) (As := [vI (x1)]) (rest := [vR 9 0]) (w9_isInstance hfr hp3) okX9_isInstance ivX9_isInstance rfl (by decide) ml_X9_207 dX9_isShunned_3 rfl (by decide) (Nat.le_refl _) rfl (Nat.le_of_ble_eq_true rfl) (fun _ _ z => z.elim) (fun r' S' z => ?_)
  obtain ⟨rfl, rfl⟩ := z
  show WP _ _ _ _ [some (vR 9 0), some (vI (x1))] [vI (r1), vR 9 0] _ _ _
  refine wp_iconst (v := 1) dX9_isShunned_6 (by decide) ?_
  refine wp_iconst (v := 1) dX9_isShunned_7 (by decide) ?_
  obtain ⟨r4, rho5, hp6, h⟩ := ob_e h
  refine wp_callV (k1 := 0) (k2 := 0) (As := [vI (r1), vI (1), vI (1)]) (rest := []) (w9_goes hfr hp6) okX9_goes ivX9_goes rfl (by decide) ml_X9_203 dX9_isShunned_8 rfl (by decide) (Nat.le_refl _) rfl (Nat.le_of_ble_eq_true rfl) (fun _ _ z => z.elim) (fun r' S' z => ?_)
  obtain ⟨rfl, rfl⟩ := z
  show WP _ _ _ _ [some (vR 9 0), some (vI (x1))] [vI (r4)] _ _ _
  refine wp_if_eq (tgt := 26) dX9_isShunned_11 (by decide) (fun c7 => ?_) (fun c7 => ?_)
  · replace h := itp c7 h
    refine wp_iconst (v := 0) dX9_isShunned_26 (by decide) ?_
    obtain ⟨q1, q2⟩ := sm_e h
    subst q1
    subst q2
    exact wp_zreturn rfl (by decide) dX9_isShunned_27 ⟨rfl, rfl⟩
  · replace h := itn c7 h
    refine wp_aload_n dX9_isShunned_14 rfl ?_
    refine wp_iload_n dX9_isShunned_15 rfl ?_
    obtain ⟨r8, rho9, hp10, h⟩ := ob_e h
    refine wp_callV (k1 := 0) (k2 := 0) (As := [vI (x1)]) (rest := []) (w9_isAvoided hfr hp10) okX9_isAvoided ivX9_isAvoided rfl (by decide) ml_X9_260 dX9_isShunned_16 rfl (by decide) (Nat.le_refl _) rfl (Nat.le_of_ble_eq_true rfl) (fun _ _ z => z.elim) (fun r' S' z => ?_)
    obtain ⟨rfl, rfl⟩ := z
    show WP _ _ _ _ [some (vR 9 0), some (vI (x1))] [vI (r8)] _ _ _
    refine wp_if_eq (tgt := 26) dX9_isShunned_19 (by decide) (fun c11 => ?_) (fun c11 => ?_)
    · replace h := itp c11 h
      refine wp_iconst (v := 0) dX9_isShunned_26 (by decide) ?_
      obtain ⟨q1, q2⟩ := sm_e h
      subst q1
      subst q2
      exact wp_zreturn rfl (by decide) dX9_isShunned_27 ⟨rfl, rfl⟩
    · replace h := itn c11 h
      refine wp_iconst (v := 1) dX9_isShunned_22 (by decide) ?_
      refine wp_goto (tgt := 27) dX9_isShunned_23 (by decide) ?_
      obtain ⟨q1, q2⟩ := sm_e h
      subst q1
      subst q2
      exact wp_zreturn rfl (by decide) dX9_isShunned_27 ⟨rfl, rfl⟩
def f9_load (x1 x2 : Int32) (rho : RH) : Option (Int32 × RH) :=
  ob (f9_isInstance (x1) rho) fun r1 rho2 =>
  ob (f9_goes (r1) (1) (1) rho2) fun r4 rho5 =>
  if r4 = 0 then
    some (0, rho5)
  else
    if x2 = 0 then
      if vq (x1) 12 then
      some ((rho5 14 (x1).toNatClampNeg), rho5)
      else none
    else
      ob (f9_countOf (x1) (0) (2) rho5) fun r10 rho11 =>
      some (r10, rho11)
theorem w9_load {r : Int32} {rho9 : RH} (hfr : RA fr) {x1 x2 : Int32} {rho : RH} (h : f9_load x1 x2 rho = some (r, rho9)) : Spec mX9_load 2 0 [vR 9 0, vI x1, vI x2] (lv, fr, fi, ai, ar, li, out, rho) (Po lv fr fi ai ar li out (some (vI r)) rho9) NX := by
  unfold f9_load at h
  refine spec_of (by decide) rfl (by simp [catS, cat1]) (Nat.le_of_ble_eq_true rfl) ?_
  show WP mX9_load 2 0 0 [some (vR 9 0), some (vI (x1)), some (vI (x2))] [] (lv, fr, fi, ai, ar, li, out, rho) (Po lv fr fi ai ar li out (some (vI r)) rho9) NX
  refine wp_aload_n dX9_load_0 rfl ?_
  refine wp_aload_n dX9_load_1 rfl ?_
  refine wp_iload_n dX9_load_2 rfl ?_
  obtain ⟨r1, rho2, hp3, h⟩ := ob_e h
  refine wp_callV (k1 := 0) (k2 := 0) (As := [vI (x1)]) (rest := [vR 9 0]) (w9_isInstance hfr hp3) okX9_isInstance ivX9_isInstance rfl (by decide) ml_X9_207 dX9_load_3 rfl (by decide) (Nat.le_refl _) rfl (Nat.le_of_ble_eq_true rfl) (fun _ _ z => z.elim) (fun r' S' z => ?_)
  obtain ⟨rfl, rfl⟩ := z
  show WP _ _ _ _ [some (vR 9 0), some (vI (x1)), some (vI (x2))] [vI (r1), vR 9 0] _ _ _
  refine wp_iconst (v := 1) dX9_load_6 (by decide) ?_
  refine wp_iconst (v := 1) dX9_load_7 (by decide) ?_
  obtain ⟨r4, rho5, hp6, h⟩ := ob_e h
  refine wp_callV (k1 := 0) (k2 := 0) (As := [vI (r1), vI (1), vI (1)]) (rest := []) (w9_goes hfr hp6) okX9_goes ivX9_goes rfl (by decide) ml_X9_203 dX9_load_8 rfl (by decide) (Nat.le_refl _) rfl (Nat.le_of_ble_eq_true rfl) (fun _ _ z => z.elim) (fun r' S' z => ?_)
  obtain ⟨rfl, rfl⟩ := z
  show WP _ _ _ _ [some (vR 9 0), some (vI (x1)), some (vI (x2))] [vI (r4)] _ _ _
  refine wp_if_eq (tgt := 37) dX9_load_11 (by decide) (fun c7 => ?_) (fun c7 => ?_)
  · replace h := itp c7 h
    refine wp_iconst (v := 0) dX9_load_37 (by decide) ?_
    obtain ⟨q1, q2⟩ := sm_e h
    subst q1
    subst q2
    exact wp_ireturn rfl dX9_load_38 ⟨rfl, rfl⟩
  · replace h := itn c7 h
    refine wp_iload_n dX9_load_14 rfl ?_
    refine wp_if_eq (tgt := 28) dX9_load_15 (by decide) (fun c8 => ?_) (fun c8 => ?_)
    · replace h := itp c8 h
      refine wp_aload_n dX9_load_28 rfl ?_
      refine wp_arrR (y := 14) (c := 214) hfr (by decide) rfl fl_X9_47 dX9_load_29 ?_
      refine wp_iload_n dX9_load_32 rfl ?_
      obtain ⟨c9, h⟩ := ock h
      refine wp_ialdR (c := 214) (y := 14) rfl rfl (show vp_in (x1) (len 214) from c9) dX9_load_33 ?_
      refine wp_goto (tgt := 38) dX9_load_34 (by decide) ?_
      obtain ⟨q1, q2⟩ := sm_e h
      subst q1
      subst q2
      exact wp_ireturn rfl dX9_load_38 ⟨rfl, rfl⟩
    · replace h := itn c8 h
      refine wp_aload_n dX9_load_18 rfl ?_
      refine wp_iload_n dX9_load_19 rfl ?_
      refine wp_iconst (v := 0) dX9_load_20 (by decide) ?_
      refine wp_iconst (v := 2) dX9_load_21 (by decide) ?_
      obtain ⟨r10, rho11, hp12, h⟩ := ob_e h
      refine wp_callV (k1 := 0) (k2 := 0) (As := [vI (x1), vI (0), vI (2)]) (rest := []) (w9_countOf hfr hp12) okX9_countOf ivX9_countOf rfl (by decide) ml_X9_293 dX9_load_22 rfl (by decide) (Nat.le_refl _) rfl (Nat.le_of_ble_eq_true rfl) (fun _ _ z => z.elim) (fun r' S' z => ?_)
      obtain ⟨rfl, rfl⟩ := z
      show WP _ _ _ _ [some (vR 9 0), some (vI (x1)), some (vI (x2))] [vI (r10)] _ _ _
      refine wp_goto (tgt := 38) dX9_load_25 (by decide) ?_
      obtain ⟨q1, q2⟩ := sm_e h
      subst q1
      subst q2
      exact wp_ireturn rfl dX9_load_38 ⟨rfl, rfl⟩
def f9_canaryShare (x1 : Int32) (rho : RH) : Option (Int32 × RH) :=
  ob (f9_isService (x1) rho) fun r1 rho2 =>
  ob (f9_goes (r1) (1) (1) rho2) fun r4 rho5 =>
  if r4 = 0 then
    some (0, rho5)
  else
    if vq (x1) 6 then
    some ((rho5 25 (x1).toNatClampNeg), rho5)
    else none
theorem w9_canaryShare {r : Int32} {rho9 : RH} (hfr : RA fr) {x1 : Int32} {rho : RH} (h : f9_canaryShare x1 rho = some (r, rho9)) : Spec mX9_canaryShare 2 0 [vR 9 0, vI x1] (lv, fr, fi, ai, ar, li, out, rho) (Po lv fr fi ai ar li out (some (vI r)) rho9) NX := by
  unfold f9_canaryShare at h
  refine spec_of (by decide) rfl (by simp [catS, cat1]) (Nat.le_of_ble_eq_true rfl) ?_
  show WP mX9_canaryShare 2 0 0 [some (vR 9 0), some (vI (x1))] [] (lv, fr, fi, ai, ar, li, out, rho) (Po lv fr fi ai ar li out (some (vI r)) rho9) NX
  refine wp_aload_n dX9_canaryShare_0 rfl ?_
  refine wp_iload_n dX9_canaryShare_1 rfl ?_
  obtain ⟨r1, rho2, hp3, h⟩ := ob_e h
  refine wp_callS (k1 := 0) (k2 := 0) (As := [vI (x1)]) (rest := [vR 9 0]) (w9_isService hfr hp3) okX9_isService sm_X9_isService rfl ml_X9_199 dX9_canaryShare_2 rfl (by decide) (Nat.le_refl _) rfl (Nat.le_of_ble_eq_true rfl) (fun _ _ z => z.elim) (fun r' S' z => ?_)
  obtain ⟨rfl, rfl⟩ := z
  show WP _ _ _ _ [some (vR 9 0), some (vI (x1))] [vI (r1), vR 9 0] _ _ _
  refine wp_iconst (v := 1) dX9_canaryShare_5 (by decide) ?_
  refine wp_iconst (v := 1) dX9_canaryShare_6 (by decide) ?_
  obtain ⟨r4, rho5, hp6, h⟩ := ob_e h
  refine wp_callV (k1 := 0) (k2 := 0) (As := [vI (r1), vI (1), vI (1)]) (rest := []) (w9_goes hfr hp6) okX9_goes ivX9_goes rfl (by decide) ml_X9_203 dX9_canaryShare_7 rfl (by decide) (Nat.le_refl _) rfl (Nat.le_of_ble_eq_true rfl) (fun _ _ z => z.elim) (fun r' S' z => ?_)
  obtain ⟨rfl, rfl⟩ := z
  show WP _ _ _ _ [some (vR 9 0), some (vI (x1))] [vI (r4)] _ _ _
  refine wp_if_eq (tgt := 22) dX9_canaryShare_10 (by decide) (fun c7 => ?_) (fun c7 => ?_)
  · replace h := itp c7 h
    refine wp_iconst (v := 0) dX9_canaryShare_22 (by decide) ?_
    obtain ⟨q1, q2⟩ := sm_e h
    subst q1
    subst q2
    exact wp_ireturn rfl dX9_canaryShare_23 ⟨rfl, rfl⟩
  · replace h := itn c7 h
    refine wp_aload_n dX9_canaryShare_13 rfl ?_
    refine wp_arrR (y := 25) (c := 225) hfr (by decide) rfl fl_X9_81 dX9_canaryShare_14 ?_
    refine wp_iload_n dX9_canaryShare_17 rfl ?_
    obtain ⟨c8, h⟩ := ock h
    refine wp_ialdR (c := 225) (y := 25) rfl rfl (show vp_in (x1) (len 225) from c8) dX9_canaryShare_18 ?_
    refine wp_goto (tgt := 23) dX9_canaryShare_19 (by decide) ?_
    obtain ⟨q1, q2⟩ := sm_e h
    subst q1
    subst q2
    exact wp_ireturn rfl dX9_canaryShare_23 ⟨rfl, rfl⟩
def f9_repairs (x1 : Int32) (rho : RH) : Option (Int32 × RH) :=
  wr (up2 rho 64 0 (0)) fun rho1 =>
  if x1 = 0 then
    some ((rho1 59 0), rho1)
  else
    some ((rho1 60 0), rho1)
theorem w9_repairs {r : Int32} {rho9 : RH} (hfr : RA fr) {x1 : Int32} {rho : RH} (h : f9_repairs x1 rho = some (r, rho9)) : Spec mX9_repairs 0 0 [vR 9 0, vI x1] (lv, fr, fi, ai, ar, li, out, rho) (Po lv fr fi ai ar li out (some (vI r)) rho9) NX := by
  unfold f9_repairs at h
  refine spec_of (by decide) rfl (by simp [catS, cat1]) (Nat.le_of_ble_eq_true rfl) ?_
  show WP mX9_repairs 0 0 0 [some (vR 9 0), some (vI (x1))] [] (lv, fr, fi, ai, ar, li, out, rho) (Po lv fr fi ai ar li out (some (vI r)) rho9) NX
  refine wp_aload_n dX9_repairs_0 rfl ?_
  refine wp_iconst (v := 0) dX9_repairs_1 (by decide) ?_
  refine wp_putRI (y := 64) (by decide) rfl rfl fl_X9_186 dX9_repairs_2 rfl ?_
  obtain ⟨rho1, e2, h⟩ := wr_e h
  rw [e2]
  refine wp_iload_n dX9_repairs_5 rfl ?_
  refine wp_if_eq (tgt := 16) dX9_repairs_6 (by decide) (fun c3 => ?_) (fun c3 => ?_)
  · replace h := itp c3 h
    refine wp_aload_n dX9_repairs_16 rfl ?_
    refine wp_getRI (y := 59) (by decide) rfl fl_X9_230 dX9_repairs_17 ?_
    obtain ⟨q1, q2⟩ := sm_e h
    subst q1
    subst q2
    exact wp_ireturn rfl dX9_repairs_20 ⟨rfl, rfl⟩
  · replace h := itn c3 h
    refine wp_aload_n dX9_repairs_9 rfl ?_
    refine wp_getRI (y := 60) (by decide) rfl fl_X9_328 dX9_repairs_10 ?_
    refine wp_goto (tgt := 20) dX9_repairs_13 (by decide) ?_
    obtain ⟨q1, q2⟩ := sm_e h
    subst q1
    subst q2
    exact wp_ireturn rfl dX9_repairs_20 ⟨rfl, rfl⟩
def f9_extra (x1 : Int32) (rho : RH) : Option (Int32 × RH) :=
  ob (f9_isCaller (x1) rho) fun r1 rho2 =>
  ob (f9_goes (r1) (1) (1) rho2) fun r4 rho5 =>
  if r4 = 0 then
    some (0, rho5)
  else
    if vq (x1) 7 then
    some ((rho5 19 (x1).toNatClampNeg), rho5)
    else none
theorem w9_extra {r : Int32} {rho9 : RH} (hfr : RA fr) {x1 : Int32} {rho : RH} (h : f9_extra x1 rho = some (r, rho9)) : Spec mX9_extra 2 0 [vR 9 0, vI x1] (lv, fr, fi, ai, ar, li, out, rho) (Po lv fr fi ai ar li out (some (vI r)) rho9) NX := by
  unfold f9_extra at h
  refine spec_of (by decide) rfl (by simp [catS, cat1]) (Nat.le_of_ble_eq_true rfl) ?_
  show WP mX9_extra 2 0 0 [some (vR 9 0), some (vI (x1))] [] (lv, fr, fi, ai, ar, li, out, rho) (Po lv fr fi ai ar li out (some (vI r)) rho9) NX
  refine wp_aload_n dX9_extra_0 rfl ?_
  refine wp_iload_n dX9_extra_1 rfl ?_
  obtain ⟨r1, rho2, hp3, h⟩ := ob_e h
  refine wp_callS (k1 := 0) (k2 := 0) (As := [vI (x1)]) (rest := [vR 9 0]) (w9_isCaller hfr hp3) okX9_isCaller sm_X9_isCaller rfl ml_X9_210 dX9_extra_2 rfl (by decide) (Nat.le_refl _) rfl (Nat.le_of_ble_eq_true rfl) (fun _ _ z => z.elim) (fun r' S' z => ?_)
  obtain ⟨rfl, rfl⟩ := z
  show WP _ _ _ _ [some (vR 9 0), some (vI (x1))] [vI (r1), vR 9 0] _ _ _
  refine wp_iconst (v := 1) dX9_extra_5 (by decide) ?_
  refine wp_iconst (v := 1) dX9_extra_6 (by decide) ?_
  obtain ⟨r4, rho5, hp6, h⟩ := ob_e h
  refine wp_callV (k1 := 0) (k2 := 0) (As := [vI (r1), vI (1), vI (1)]) (rest := []) (w9_goes hfr hp6) okX9_goes ivX9_goes rfl (by decide) ml_X9_203 dX9_extra_7 rfl (by decide) (Nat.le_refl _) rfl (Nat.le_of_ble_eq_true rfl) (fun _ _ z => z.elim) (fun r' S' z => ?_)
  obtain ⟨rfl, rfl⟩ := z
  show WP _ _ _ _ [some (vR 9 0), some (vI (x1))] [vI (r4)] _ _ _
  refine wp_if_eq (tgt := 22) dX9_extra_10 (by decide) (fun c7 => ?_) (fun c7 => ?_)
  · replace h := itp c7 h
    refine wp_iconst (v := 0) dX9_extra_22 (by decide) ?_
    obtain ⟨q1, q2⟩ := sm_e h
    subst q1
    subst q2
    exact wp_ireturn rfl dX9_extra_23 ⟨rfl, rfl⟩
  · replace h := itn c7 h
    refine wp_aload_n dX9_extra_13 rfl ?_
    refine wp_arrR (y := 19) (c := 219) hfr (by decide) rfl fl_X9_62 dX9_extra_14 ?_
    refine wp_iload_n dX9_extra_17 rfl ?_
    obtain ⟨c8, h⟩ := ock h
    refine wp_ialdR (c := 219) (y := 19) rfl rfl (show vp_in (x1) (len 219) from c8) dX9_extra_18 ?_
    refine wp_goto (tgt := 23) dX9_extra_19 (by decide) ?_
    obtain ⟨q1, q2⟩ := sm_e h
    subst q1
    subst q2
    exact wp_ireturn rfl dX9_extra_23 ⟨rfl, rfl⟩
def f9_first (x1 : Int32) (rho : RH) : Option (Int32 × RH) :=
  ob (f9_isCaller (x1) rho) fun r1 rho2 =>
  ob (f9_goes (r1) (1) (1) rho2) fun r4 rho5 =>
  if r4 = 0 then
    some (0, rho5)
  else
    if vq (x1) 7 then
    some ((rho5 18 (x1).toNatClampNeg), rho5)
    else none
theorem w9_first {r : Int32} {rho9 : RH} (hfr : RA fr) {x1 : Int32} {rho : RH} (h : f9_first x1 rho = some (r, rho9)) : Spec mX9_first 2 0 [vR 9 0, vI x1] (lv, fr, fi, ai, ar, li, out, rho) (Po lv fr fi ai ar li out (some (vI r)) rho9) NX := by
  unfold f9_first at h
  refine spec_of (by decide) rfl (by simp [catS, cat1]) (Nat.le_of_ble_eq_true rfl) ?_
  show WP mX9_first 2 0 0 [some (vR 9 0), some (vI (x1))] [] (lv, fr, fi, ai, ar, li, out, rho) (Po lv fr fi ai ar li out (some (vI r)) rho9) NX
  refine wp_aload_n dX9_first_0 rfl ?_
  refine wp_iload_n dX9_first_1 rfl ?_
  obtain ⟨r1, rho2, hp3, h⟩ := ob_e h
  refine wp_callS (k1 := 0) (k2 := 0) (As := [vI (x1)]) (rest := [vR 9 0]) (w9_isCaller hfr hp3) okX9_isCaller sm_X9_isCaller rfl ml_X9_210 dX9_first_2 rfl (by decide) (Nat.le_refl _) rfl (Nat.le_of_ble_eq_true rfl) (fun _ _ z => z.elim) (fun r' S' z => ?_)
  obtain ⟨rfl, rfl⟩ := z
  show WP _ _ _ _ [some (vR 9 0), some (vI (x1))] [vI (r1), vR 9 0] _ _ _
  refine wp_iconst (v := 1) dX9_first_5 (by decide) ?_
  refine wp_iconst (v := 1) dX9_first_6 (by decide) ?_
  obtain ⟨r4, rho5, hp6, h⟩ := ob_e h
  refine wp_callV (k1 := 0) (k2 := 0) (As := [vI (r1), vI (1), vI (1)]) (rest := []) (w9_goes hfr hp6) okX9_goes ivX9_goes rfl (by decide) ml_X9_203 dX9_first_7 rfl (by decide) (Nat.le_refl _) rfl (Nat.le_of_ble_eq_true rfl) (fun _ _ z => z.elim) (fun r' S' z => ?_)
  obtain ⟨rfl, rfl⟩ := z
  show WP _ _ _ _ [some (vR 9 0), some (vI (x1))] [vI (r4)] _ _ _
  refine wp_if_eq (tgt := 22) dX9_first_10 (by decide) (fun c7 => ?_) (fun c7 => ?_)
  · replace h := itp c7 h
    refine wp_iconst (v := 0) dX9_first_22 (by decide) ?_
    obtain ⟨q1, q2⟩ := sm_e h
    subst q1
    subst q2
    exact wp_ireturn rfl dX9_first_23 ⟨rfl, rfl⟩
  · replace h := itn c7 h
    refine wp_aload_n dX9_first_13 rfl ?_
    refine wp_arrR (y := 18) (c := 218) hfr (by decide) rfl fl_X9_59 dX9_first_14 ?_
    refine wp_iload_n dX9_first_17 rfl ?_
    obtain ⟨c8, h⟩ := ock h
    refine wp_ialdR (c := 218) (y := 18) rfl rfl (show vp_in (x1) (len 218) from c8) dX9_first_18 ?_
    refine wp_goto (tgt := 23) dX9_first_19 (by decide) ?_
    obtain ⟨q1, q2⟩ := sm_e h
    subst q1
    subst q2
    exact wp_ireturn rfl dX9_first_23 ⟨rfl, rfl⟩
end S9
