section S9
variable {lv : Nat → Nat → Bool} {fr : Nat → Nat → Option Nat} {fi : Nat → Nat → Int32} {ai : Nat → Nat → Nat → Int32} {ar : Nat → Nat → Nat → Option Nat} {li : Nat → Nat → List Nat} {out : Int64}
def f9_thrown (rho : RH) : Option (Int32 × RH) :=
  some ((rho 64 0), rho)
theorem w9_thrown {r : Int32} {rho9 : RH} (hfr : RA fr) {rho : RH} (h : f9_thrown  rho = some (r, rho9)) : Spec mX9_thrown 0 0 [vR 9 0] (lv, fr, fi, ai, ar, li, out, rho) (Po lv fr fi ai ar li out (some (vI r)) rho9) NX := by
  unfold f9_thrown at h
  refine spec_of (by decide) rfl (by simp [catS, cat1]) (Nat.le_of_ble_eq_true rfl) ?_
  show WP mX9_thrown 0 0 0 [some (vR 9 0)] [] (lv, fr, fi, ai, ar, li, out, rho) (Po lv fr fi ai ar li out (some (vI r)) rho9) NX
  refine wp_aload_n dX9_thrown_0 rfl ?_
  refine wp_getRI (y := 64) (by decide) rfl fl_X9_186 dX9_thrown_1 ?_
  obtain ⟨q1, q2⟩ := sm_e h
  subst q1
  subst q2
  exact wp_ireturn rfl dX9_thrown_4 ⟨rfl, rfl⟩
def f9_in (x0 x1 x2 : Int32) (rho : RH) : Option (Int32 × RH) :=
  if x0 < x1 then
    some (0, rho)
  else
    if x2 < x0 then
      some (0, rho)
    else
      some (1, rho)
theorem w9_in {r : Int32} {rho9 : RH} (hfr : RA fr) {x0 x1 x2 : Int32} {rho : RH} (h : f9_in x0 x1 x2 rho = some (r, rho9)) : Spec mX9_in 0 0 [vI x0, vI x1, vI x2] (lv, fr, fi, ai, ar, li, out, rho) (Po lv fr fi ai ar li out (some (vI r)) rho9) NX := by
  unfold f9_in at h
  refine spec_of (by decide) rfl (by simp [catS, cat1]) (Nat.le_of_ble_eq_true rfl) ?_
  show WP mX9_in 0 0 0 [some (vI (x0)), some (vI (x1)), some (vI (x2))] [] (lv, fr, fi, ai, ar, li, out, rho) (Po lv fr fi ai ar li out (some (vI r)) rho9) NX
  refine wp_iload_n dX9_in_0 rfl ?_
  refine wp_iload_n dX9_in_1 rfl ?_
  refine wp_icmp_lt (tgt := 14) dX9_in_2 (by decide) (fun c1 => ?_) (fun c1 => ?_)
  · replace h := itp c1 h
    refine wp_iconst (v := 0) dX9_in_14 (by decide) ?_
    obtain ⟨q1, q2⟩ := sm_e h
    subst q1
    subst q2
    exact wp_zreturn rfl (by decide) dX9_in_15 ⟨rfl, rfl⟩
  · replace h := itn c1 h
    refine wp_iload_n dX9_in_5 rfl ?_
    refine wp_iload_n dX9_in_6 rfl ?_
    refine wp_icmp_gt (tgt := 14) dX9_in_7 (by decide) (fun c2 => ?_) (fun c2 => ?_)
    · replace h := itp c2 h
      refine wp_iconst (v := 0) dX9_in_14 (by decide) ?_
      obtain ⟨q1, q2⟩ := sm_e h
      subst q1
      subst q2
      exact wp_zreturn rfl (by decide) dX9_in_15 ⟨rfl, rfl⟩
    · replace h := itn c2 h
      refine wp_iconst (v := 1) dX9_in_10 (by decide) ?_
      refine wp_goto (tgt := 15) dX9_in_11 (by decide) ?_
      obtain ⟨q1, q2⟩ := sm_e h
      subst q1
      subst q2
      exact wp_zreturn rfl (by decide) dX9_in_15 ⟨rfl, rfl⟩
def f9_isService (x0 : Int32) (rho : RH) : Option (Int32 × RH) :=
  ob (f9_in (x0) (0) (5) rho) fun r1 rho2 =>
  if r1 = 0 ∨ r1 = 1 then
  some (r1, rho2)
  else none
theorem w9_isService {r : Int32} {rho9 : RH} (hfr : RA fr) {x0 : Int32} {rho : RH} (h : f9_isService x0 rho = some (r, rho9)) : Spec mX9_isService 1 0 [vI x0] (lv, fr, fi, ai, ar, li, out, rho) (Po lv fr fi ai ar li out (some (vI r)) rho9) NX := by
  unfold f9_isService at h
  refine spec_of (by decide) rfl (by simp [catS, cat1]) (Nat.le_of_ble_eq_true rfl) ?_
  show WP mX9_isService 1 0 0 [some (vI (x0))] [] (lv, fr, fi, ai, ar, li, out, rho) (Po lv fr fi ai ar li out (some (vI r)) rho9) NX
  refine wp_iload_n dX9_isService_0 rfl ?_
  refine wp_iconst (v := 0) dX9_isService_1 (by decide) ?_
  refine wp_iconst (v := 5) dX9_isService_2 (by decide) ?_
  obtain ⟨r1, rho2, hp3, h⟩ := ob_e h
  refine wp_callS (k1 := 0) (k2 := 0) (As := [vI (x0), vI (0), vI (5)]) (rest := []) (w9_in hfr hp3) okX9_in sm_X9_in rfl ml_X9_189 dX9_isService_3 rfl (by decide) (Nat.le_refl _) rfl (Nat.le_of_ble_eq_true rfl) (fun _ _ z => z.elim) (fun r' S' z => ?_)
  obtain ⟨rfl, rfl⟩ := z
  show WP _ _ _ _ [some (vI (x0))] [vI (r1)] _ _ _
  obtain ⟨c4, h⟩ := ock h
  obtain ⟨q1, q2⟩ := sm_e h
  subst q1
  subst q2
  exact wp_zreturn rfl c4 dX9_isService_6 ⟨rfl, rfl⟩
def f9_goes (x1 x2 x3 : Int32) (rho : RH) : Option (Int32 × RH) :=
  if x1 = 0 then
    wr (up2 rho 64 0 (1)) fun rho2 =>
    if (rho2 64 0) = 0 then
      some (1, rho2)
    else
      some (0, rho2)
  else
    if x2 = 0 then
      wr (up2 rho 64 0 (2)) fun rho6 =>
      if (rho6 64 0) = 0 then
        some (1, rho6)
      else
        some (0, rho6)
    else
      if x3 = 0 then
        wr (up2 rho 64 0 (3)) fun rho10 =>
        if (rho10 64 0) = 0 then
          some (1, rho10)
        else
          some (0, rho10)
      else
        wr (up2 rho 64 0 (0)) fun rho13 =>
        if (rho13 64 0) = 0 then
          some (1, rho13)
        else
          some (0, rho13)
theorem w9_goes {r : Int32} {rho9 : RH} (hfr : RA fr) {x1 x2 x3 : Int32} {rho : RH} (h : f9_goes x1 x2 x3 rho = some (r, rho9)) : Spec mX9_goes 0 0 [vR 9 0, vI x1, vI x2, vI x3] (lv, fr, fi, ai, ar, li, out, rho) (Po lv fr fi ai ar li out (some (vI r)) rho9) NX := by
  unfold f9_goes at h
  refine spec_of (by decide) rfl (by simp [catS, cat1]) (Nat.le_of_ble_eq_true rfl) ?_
  show WP mX9_goes 0 0 0 [some (vR 9 0), some (vI (x1)), some (vI (x2)), some (vI (x3))] [] (lv, fr, fi, ai, ar, li, out, rho) (Po lv fr fi ai ar li out (some (vI r)) rho9) NX
  refine wp_aload_n dX9_goes_0 rfl ?_
  refine wp_iload_n dX9_goes_1 rfl ?_
  refine wp_if_ne (tgt := 9) dX9_goes_2 (by decide) (fun c1 => ?_) (fun c1 => ?_)
  · replace h := itn c1 h
    refine wp_iload_n dX9_goes_9 rfl ?_
    refine wp_if_ne (tgt := 17) dX9_goes_10 (by decide) (fun c5 => ?_) (fun c5 => ?_)
    · replace h := itn c5 h
      refine wp_iload_n dX9_goes_17 rfl ?_
      refine wp_if_ne (tgt := 25) dX9_goes_18 (by decide) (fun c9 => ?_) (fun c9 => ?_)
      · replace h := itn c9 h
        refine wp_iconst (v := 0) dX9_goes_25 (by decide) ?_
        refine wp_putRI (y := 64) (by decide) rfl rfl fl_X9_186 dX9_goes_26 rfl ?_
        obtain ⟨rho13, e14, h⟩ := wr_e h
        rw [e14]
        refine wp_aload_n dX9_goes_29 rfl ?_
        refine wp_getRI (y := 64) (by decide) rfl fl_X9_186 dX9_goes_30 ?_
        refine wp_if_ne (tgt := 40) dX9_goes_33 (by decide) (fun c15 => ?_) (fun c15 => ?_)
        · replace h := itn c15 h
          refine wp_iconst (v := 0) dX9_goes_40 (by decide) ?_
          obtain ⟨q1, q2⟩ := sm_e h
          subst q1
          subst q2
          exact wp_zreturn rfl (by decide) dX9_goes_41 ⟨rfl, rfl⟩
        · replace h := itp c15 h
          refine wp_iconst (v := 1) dX9_goes_36 (by decide) ?_
          refine wp_goto (tgt := 41) dX9_goes_37 (by decide) ?_
          obtain ⟨q1, q2⟩ := sm_e h
          subst q1
          subst q2
          exact wp_zreturn rfl (by decide) dX9_goes_41 ⟨rfl, rfl⟩
      · replace h := itp c9 h
        refine wp_iconst (v := 3) dX9_goes_21 (by decide) ?_
        refine wp_goto (tgt := 26) dX9_goes_22 (by decide) ?_
        refine wp_putRI (y := 64) (by decide) rfl rfl fl_X9_186 dX9_goes_26 rfl ?_
        obtain ⟨rho10, e11, h⟩ := wr_e h
        rw [e11]
        refine wp_aload_n dX9_goes_29 rfl ?_
        refine wp_getRI (y := 64) (by decide) rfl fl_X9_186 dX9_goes_30 ?_
        refine wp_if_ne (tgt := 40) dX9_goes_33 (by decide) (fun c12 => ?_) (fun c12 => ?_)
        · replace h := itn c12 h
          refine wp_iconst (v := 0) dX9_goes_40 (by decide) ?_
          obtain ⟨q1, q2⟩ := sm_e h
          subst q1
          subst q2
          exact wp_zreturn rfl (by decide) dX9_goes_41 ⟨rfl, rfl⟩
        · replace h := itp c12 h
          refine wp_iconst (v := 1) dX9_goes_36 (by decide) ?_
          refine wp_goto (tgt := 41) dX9_goes_37 (by decide) ?_
          obtain ⟨q1, q2⟩ := sm_e h
          subst q1
          subst q2
          exact wp_zreturn rfl (by decide) dX9_goes_41 ⟨rfl, rfl⟩
    · replace h := itp c5 h
      refine wp_iconst (v := 2) dX9_goes_13 (by decide) ?_
      refine wp_goto (tgt := 26) dX9_goes_14 (by decide) ?_
      refine wp_putRI (y := 64) (by decide) rfl rfl fl_X9_186 dX9_goes_26 rfl ?_
      obtain ⟨rho6, e7, h⟩ := wr_e h
      rw [e7]
      refine wp_aload_n dX9_goes_29 rfl ?_
      refine wp_getRI (y := 64) (by decide) rfl fl_X9_186 dX9_goes_30 ?_
      refine wp_if_ne (tgt := 40) dX9_goes_33 (by decide) (fun c8 => ?_) (fun c8 => ?_)
      · replace h := itn c8 h
        refine wp_iconst (v := 0) dX9_goes_40 (by decide) ?_
        obtain ⟨q1, q2⟩ := sm_e h
        subst q1
        subst q2
        exact wp_zreturn rfl (by decide) dX9_goes_41 ⟨rfl, rfl⟩
      · replace h := itp c8 h
        refine wp_iconst (v := 1) dX9_goes_36 (by decide) ?_
        refine wp_goto (tgt := 41) dX9_goes_37 (by decide) ?_
        obtain ⟨q1, q2⟩ := sm_e h
        subst q1
        subst q2
        exact wp_zreturn rfl (by decide) dX9_goes_41 ⟨rfl, rfl⟩
  · replace h := itp c1 h
    refine wp_iconst (v := 1) dX9_goes_5 (by decide) ?_
    refine wp_goto (tgt := 26) dX9_goes_6 (by decide) ?_
    refine wp_putRI (y := 64) (by decide) rfl rfl fl_X9_186 dX9_goes_26 rfl ?_
    obtain ⟨rho2, e3, h⟩ := wr_e h
    rw [e3]
    refine wp_aload_n dX9_goes_29 rfl ?_
    refine wp_getRI (y := 64) (by decide) rfl fl_X9_186 dX9_goes_30 ?_
    refine wp_if_ne (tgt := 40) dX9_goes_33 (by decide) (fun c4 => ?_) (fun c4 => ?_)
    · replace h := itn c4 h
      refine wp_iconst (v := 0) dX9_goes_40 (by decide) ?_
      obtain ⟨q1, q2⟩ := sm_e h
      subst q1
      subst q2
      exact wp_zreturn rfl (by decide) dX9_goes_41 ⟨rfl, rfl⟩
    · replace h := itp c4 h
      refine wp_iconst (v := 1) dX9_goes_36 (by decide) ?_
      refine wp_goto (tgt := 41) dX9_goes_37 (by decide) ?_
      obtain ⟨q1, q2⟩ := sm_e h
      subst q1
      subst q2
      exact wp_zreturn rfl (by decide) dX9_goes_41 ⟨rfl, rfl⟩
def f9_work (x1 x2 : Int32) (rho : RH) : Option (Int32 × RH) :=
  ob (f9_isService (x1) rho) fun r1 rho2 =>
  ob (f9_in (x2) (0) (50) rho2) fun r4 rho5 =>
  ob (f9_goes (r1) (r4) (1) rho5) fun r7 rho8 =>
  if r7 = 0 then
    some (0, rho8)
  else
    if vq (x1) 6 then
    wr (up2 rho8 1 (x1).toNatClampNeg (x2)) fun rho12 =>
    some ((rho8 1 (x1).toNatClampNeg), rho12)
    else none
theorem w9_work {r : Int32} {rho9 : RH} (hfr : RA fr) {x1 x2 : Int32} {rho : RH} (h : f9_work x1 x2 rho = some (r, rho9)) : Spec mX9_work 2 0 [vR 9 0, vI x1, vI x2] (lv, fr, fi, ai, ar, li, out, rho) (Po lv fr fi ai ar li out (some (vI r)) rho9) NX := by
  unfold f9_work at h
  refine spec_of (by decide) rfl (by simp [catS, cat1]) (Nat.le_of_ble_eq_true rfl) ?_
  show WP mX9_work 2 0 0 [some (vR 9 0), some (vI (x1)), some (vI (x2)), none] [] (lv, fr, fi, ai, ar, li, out, rho) (Po lv fr fi ai ar li out (some (vI r)) rho9) NX
  refine wp_aload_n dX9_work_0 rfl ?_
  refine wp_iload_n dX9_work_1 rfl ?_
  obtain ⟨r1, rho2, hp3, h⟩ := ob_e h
  refine wp_callS (k1 := 0) (k2 := 0) (As := [vI (x1)]) (rest := [vR 9 0]) (w9_isService hfr hp3) okX9_isService sm_X9_isService rfl ml_X9_199 dX9_work_2 rfl (by decide) (Nat.le_refl _) rfl (Nat.le_of_ble_eq_true rfl) (fun _ _ z => z.elim) (fun r' S' z => ?_)
  obtain ⟨rfl, rfl⟩ := z
  show WP _ _ _ _ [some (vR 9 0), some (vI (x1)), some (vI (x2)), none] [vI (r1), vR 9 0] _ _ _
  refine wp_iload_n dX9_work_5 rfl ?_
  refine wp_iconst (v := 0) dX9_work_6 (by decide) ?_
  refine wp_bipush (v := 50) dX9_work_7 (by decide) ?_
  obtain ⟨r4, rho5, hp6, h⟩ := ob_e h
  refine wp_callS (k1 := 0) (k2 := 0) (As := [vI (x2), vI (0), vI (50)]) (rest := [vI (r1), vR 9 0]) (w9_in hfr hp6) okX9_in sm_X9_in rfl ml_X9_189 dX9_work_9 rfl (by decide) (Nat.le_refl _) rfl (Nat.le_of_ble_eq_true rfl) (fun _ _ z => z.elim) (fun r' S' z => ?_)
  obtain ⟨rfl, rfl⟩ := z
  show WP _ _ _ _ [some (vR 9 0), some (vI (x1)), some (vI (x2)), none] [vI (r4), vI (r1), vR 9 0] _ _ _
  refine wp_iconst (v := 1) dX9_work_12 (by decide) ?_
  obtain ⟨r7, rho8, hp9, h⟩ := ob_e h
  refine wp_callV (k1 := 0) (k2 := 0) (As := [vI (r1), vI (r4), vI (1)]) (rest := []) (w9_goes hfr hp9) okX9_goes ivX9_goes rfl (by decide) ml_X9_203 dX9_work_13 rfl (by decide) (Nat.le_refl _) rfl (Nat.le_of_ble_eq_true rfl) (fun _ _ z => z.elim) (fun r' S' z => ?_)
  obtain ⟨rfl, rfl⟩ := z
  show WP _ _ _ _ [some (vR 9 0), some (vI (x1)), some (vI (x2)), none] [vI (r7)] _ _ _
  refine wp_if_ne (tgt := 21) dX9_work_16 (by decide) (fun c10 => ?_) (fun c10 => ?_)
  · replace h := itn c10 h
    refine wp_aload_n dX9_work_21 rfl ?_
    refine wp_arrR (y := 1) (c := 201) hfr (by decide) rfl fl_X9_7 dX9_work_22 ?_
    refine wp_iload_n dX9_work_25 rfl ?_
    obtain ⟨c11, h⟩ := ock h
    refine wp_ialdR (c := 201) (y := 1) rfl rfl (show vp_in (x1) (len 201) from c11) dX9_work_26 ?_
    refine wp_istore_n (L' := [some (vR 9 0), some (vI (x1)), some (vI (x2)), some (vI ((rho8 1 (x1).toNatClampNeg)))]) dX9_work_27 rfl rfl ?_
    refine wp_aload_n dX9_work_28 rfl ?_
    refine wp_arrR (y := 1) (c := 201) hfr (by decide) rfl fl_X9_7 dX9_work_29 ?_
    refine wp_iload_n dX9_work_32 rfl ?_
    refine wp_iload_n dX9_work_33 rfl ?_
    refine wp_iastR (c := 201) (y := 1) rfl rfl (show vp_in (x1) (len 201) from c11) dX9_work_34 ?_
    obtain ⟨rho12, e13, h⟩ := wr_e h
    rw [e13]
    refine wp_iload_n dX9_work_35 rfl ?_
    obtain ⟨q1, q2⟩ := sm_e h
    subst q1
    subst q2
    exact wp_ireturn rfl dX9_work_36 ⟨rfl, rfl⟩
  · replace h := itp c10 h
    refine wp_iconst (v := 0) dX9_work_19 (by decide) ?_
    obtain ⟨q1, q2⟩ := sm_e h
    subst q1
    subst q2
    exact wp_ireturn rfl dX9_work_20 ⟨rfl, rfl⟩
def b9_step_87 (x1 x2 x3 x4 s1 s2 s3 : Int32) (rho : RH) : Option (Int32 × RH) :=
  ob (f9_goes (s1) (s2) (s3) rho) fun r1 rho2 =>
  if r1 = 0 then
    some (0, rho2)
  else
    if vq (x1) 6 then
    if vq (((4 * x1) + (rho2 2 (x1).toNatClampNeg))) 24 then
    wr (up2 rho2 3 (((4 * x1) + (rho2 2 (x1).toNatClampNeg))).toNatClampNeg (x2)) fun rho7 =>
    if (x3 = 0 ∨ x3 = 1) then
    wr (up2 rho7 4 (((4 * x1) + (rho2 2 (x1).toNatClampNeg))).toNatClampNeg (x3)) fun rho10 =>
    wr (up2 rho10 5 (((4 * x1) + (rho2 2 (x1).toNatClampNeg))).toNatClampNeg (x4)) fun rho12 =>
    wr (up2 rho12 2 (x1).toNatClampNeg (((rho12 2 (x1).toNatClampNeg) + 1))) fun rho14 =>
    some ((rho14 2 (x1).toNatClampNeg), rho14)
    else none
    else none
    else none
theorem w9_step_87 {r : Int32} {rho9 : RH} (hfr : RA fr) {x1 x2 x3 x4 s1 s2 s3 : Int32} {l5 l6 : Option sV} {rho : RH} (h : b9_step_87 x1 x2 x3 x4 s1 s2 s3 rho = some (r, rho9)) : WP mX9_step 2 0 87 [some (vR 9 0), some (vI (x1)), some (vI (x2)), some (vI (x3)), some (vI (x4)), l5, l6] [vI (s3), vI (s2), vI (s1), vR 9 0] (lv, fr, fi, ai, ar, li, out, rho) (Po lv fr fi ai ar li out (some (vI r)) rho9) NX := by
  unfold b9_step_87 at h
  obtain ⟨r1, rho2, hp3, h⟩ := ob_e h
  refine wp_callV (k1 := 0) (k2 := 0) (As := [vI (s1), vI (s2), vI (s3)]) (rest := []) (w9_goes hfr hp3) okX9_goes ivX9_goes rfl (by decide) ml_X9_203 dX9_step_87 rfl (by decide) (Nat.le_refl _) rfl (Nat.le_of_ble_eq_true rfl) (fun _ _ z => z.elim) (fun r' S' z => ?_)
  obtain ⟨rfl, rfl⟩ := z
  show WP _ _ _ _ [some (vR 9 0), some (vI (x1)), some (vI (x2)), some (vI (x3)), some (vI (x4)), l5, l6] [vI (r1)] _ _ _
  refine wp_if_ne (tgt := 95) dX9_step_90 (by decide) (fun c4 => ?_) (fun c4 => ?_)
  · replace h := itn c4 h
    refine wp_iconst (v := 4) dX9_step_95 (by decide) ?_
    refine wp_iload_n dX9_step_96 rfl ?_
    refine wp_imul dX9_step_97 ?_
    refine wp_aload_n dX9_step_98 rfl ?_
    refine wp_arrR (y := 2) (c := 202) hfr (by decide) rfl fl_X9_13 dX9_step_99 ?_
    refine wp_iload_n dX9_step_102 rfl ?_
    obtain ⟨c5, h⟩ := ock h
    refine wp_ialdR (c := 202) (y := 2) rfl rfl (show vp_in (x1) (len 202) from c5) dX9_step_103 ?_
    refine wp_iadd dX9_step_104 ?_
    refine wp_istore (L' := [some (vR 9 0), some (vI (x1)), some (vI (x2)), some (vI (x3)), some (vI (x4)), l5, some (vI (((4 * x1) + (rho2 2 (x1).toNatClampNeg))))]) dX9_step_105 rfl rfl ?_
    refine wp_aload_n dX9_step_107 rfl ?_
    refine wp_arrR (y := 3) (c := 203) hfr (by decide) rfl fl_X9_16 dX9_step_108 ?_
    refine wp_iload dX9_step_111 rfl ?_
    refine wp_iload_n dX9_step_113 rfl ?_
    obtain ⟨c6, h⟩ := ock h
    refine wp_iastR (c := 203) (y := 3) rfl rfl (show vp_in (((4 * x1) + (rho2 2 (x1).toNatClampNeg))) (len 203) from c6) dX9_step_114 ?_
    obtain ⟨rho7, e8, h⟩ := wr_e h
    rw [e8]
    refine wp_aload_n dX9_step_115 rfl ?_
    refine wp_arrR (y := 4) (c := 204) hfr (by decide) rfl fl_X9_19 dX9_step_116 ?_
    refine wp_iload dX9_step_119 rfl ?_
    refine wp_iload_n dX9_step_121 rfl ?_
    obtain ⟨c9, h⟩ := ock h
    refine wp_bastR (c := 204) (y := 4) rfl rfl (show vp_in (((4 * x1) + (rho2 2 (x1).toNatClampNeg))) (len 204) from c6) c9 dX9_step_122 ?_
    obtain ⟨rho10, e11, h⟩ := wr_e h
    rw [e11]
    refine wp_aload_n dX9_step_123 rfl ?_
    refine wp_arrR (y := 5) (c := 205) hfr (by decide) rfl fl_X9_23 dX9_step_124 ?_
    refine wp_iload dX9_step_127 rfl ?_
    refine wp_iload dX9_step_129 rfl ?_
    refine wp_iastR (c := 205) (y := 5) rfl rfl (show vp_in (((4 * x1) + (rho2 2 (x1).toNatClampNeg))) (len 205) from c6) dX9_step_131 ?_
    obtain ⟨rho12, e13, h⟩ := wr_e h
    rw [e13]
    refine wp_aload_n dX9_step_132 rfl ?_
    refine wp_arrR (y := 2) (c := 202) hfr (by decide) rfl fl_X9_13 dX9_step_133 ?_
    refine wp_iload_n dX9_step_136 rfl ?_
    refine wp_dup2 dX9_step_137 trivial trivial ?_
    refine wp_ialdR (c := 202) (y := 2) rfl rfl (show vp_in (x1) (len 202) from c5) dX9_step_138 ?_
    refine wp_iconst (v := 1) dX9_step_139 (by decide) ?_
    refine wp_iadd dX9_step_140 ?_
    refine wp_iastR (c := 202) (y := 2) rfl rfl (show vp_in (x1) (len 202) from c5) dX9_step_141 ?_
    obtain ⟨rho14, e15, h⟩ := wr_e h
    rw [e15]
    refine wp_aload_n dX9_step_142 rfl ?_
    refine wp_arrR (y := 2) (c := 202) hfr (by decide) rfl fl_X9_13 dX9_step_143 ?_
    refine wp_iload_n dX9_step_146 rfl ?_
    refine wp_ialdR (c := 202) (y := 2) rfl rfl (show vp_in (x1) (len 202) from c5) dX9_step_147 ?_
    obtain ⟨q1, q2⟩ := sm_e h
    subst q1
    subst q2
    exact wp_ireturn rfl dX9_step_148 ⟨rfl, rfl⟩
  · replace h := itp c4 h
    refine wp_iconst (v := 0) dX9_step_93 (by decide) ?_
    obtain ⟨q1, q2⟩ := sm_e h
    subst q1
    subst q2
    exact wp_ireturn rfl dX9_step_94 ⟨rfl, rfl⟩
def b9_step_60 (x1 x2 x3 x4 x5 s1 s2 : Int32) (rho : RH) : Option (Int32 × RH) :=
  if x5 = 0 then
    b9_step_87 (x1) (x2) (x3) (x4) (s1) (s2) (0) rho
  else
    if vq (x1) 6 then
    if 4 ≤ (rho 2 (x1).toNatClampNeg) then
      b9_step_87 (x1) (x2) (x3) (x4) (s1) (s2) (0) rho
    else
      if (rho 51 0) = 0 then
        b9_step_87 (x1) (x2) (x3) (x4) (s1) (s2) (1) rho
      else
        b9_step_87 (x1) (x2) (x3) (x4) (s1) (s2) (0) rho
    else none
theorem w9_step_60 {r : Int32} {rho9 : RH} (hfr : RA fr) {x1 x2 x3 x4 x5 s1 s2 : Int32} {l6 : Option sV} {rho : RH} (h : b9_step_60 x1 x2 x3 x4 x5 s1 s2 rho = some (r, rho9)) : WP mX9_step 2 0 60 [some (vR 9 0), some (vI (x1)), some (vI (x2)), some (vI (x3)), some (vI (x4)), some (vI (x5)), l6] [vI (s2), vI (s1), vR 9 0] (lv, fr, fi, ai, ar, li, out, rho) (Po lv fr fi ai ar li out (some (vI r)) rho9) NX := by
  unfold b9_step_60 at h
  refine wp_iload dX9_step_60 rfl ?_
  refine wp_if_eq (tgt := 86) dX9_step_62 (by decide) (fun c1 => ?_) (fun c1 => ?_)
  · replace h := itp c1 h
    refine wp_iconst (v := 0) dX9_step_86 (by decide) ?_
    exact w9_step_87 hfr h
  · replace h := itn c1 h
    refine wp_aload_n dX9_step_65 rfl ?_
    refine wp_arrR (y := 2) (c := 202) hfr (by decide) rfl fl_X9_13 dX9_step_66 ?_
    refine wp_iload_n dX9_step_69 rfl ?_
    obtain ⟨c2, h⟩ := ock h
    refine wp_ialdR (c := 202) (y := 2) rfl rfl (show vp_in (x1) (len 202) from c2) dX9_step_70 ?_
    refine wp_iconst (v := 4) dX9_step_71 (by decide) ?_
    refine wp_icmp_ge (tgt := 86) dX9_step_72 (by decide) (fun c3 => ?_) (fun c3 => ?_)
    · replace h := itp c3 h
      refine wp_iconst (v := 0) dX9_step_86 (by decide) ?_
      exact w9_step_87 hfr h
    · replace h := itn c3 h
      refine wp_aload_n dX9_step_75 rfl ?_
      refine wp_getRI (y := 51) (by decide) rfl fl_X9_196 dX9_step_76 ?_
      refine wp_if_ne (tgt := 86) dX9_step_79 (by decide) (fun c4 => ?_) (fun c4 => ?_)
      · replace h := itn c4 h
        refine wp_iconst (v := 0) dX9_step_86 (by decide) ?_
        exact w9_step_87 hfr h
      · replace h := itp c4 h
        refine wp_iconst (v := 1) dX9_step_82 (by decide) ?_
        refine wp_goto (tgt := 87) dX9_step_83 (by decide) ?_
        exact w9_step_87 hfr h
def b9_step_33 (x1 x2 x3 x4 s0 : Int32) (rho : RH) : Option (Int32 × RH) :=
  if x2 ≤ x1 then
    b9_step_60 (x1) (x2) (x3) (x4) (s0) (s0) (0) rho
  else
    if x4 = (-1) then
      b9_step_60 (x1) (x2) (x3) (x4) (s0) (s0) (1) rho
    else
      if x4 ≤ x1 then
        b9_step_60 (x1) (x2) (x3) (x4) (s0) (s0) (0) rho
      else
        b9_step_60 (x1) (x2) (x3) (x4) (s0) (s0) (1) rho
theorem w9_step_33 {r : Int32} {rho9 : RH} (hfr : RA fr) {x1 x2 x3 x4 s0 : Int32} {l5 l6 : Option sV} {rho : RH} (h : b9_step_33 x1 x2 x3 x4 s0 rho = some (r, rho9)) : WP mX9_step 2 0 33 [some (vR 9 0), some (vI (x1)), some (vI (x2)), some (vI (x3)), some (vI (x4)), l5, l6] [vI (s0)] (lv, fr, fi, ai, ar, li, out, rho) (Po lv fr fi ai ar li out (some (vI r)) rho9) NX := by
  unfold b9_step_33 at h
  refine wp_istore (L' := [some (vR 9 0), some (vI (x1)), some (vI (x2)), some (vI (x3)), some (vI (x4)), some (vI (s0)), l6]) dX9_step_33 rfl rfl ?_
  refine wp_aload_n dX9_step_35 rfl ?_
  refine wp_iload dX9_step_36 rfl ?_
  refine wp_iload_n dX9_step_38 rfl ?_
  refine wp_iload_n dX9_step_39 rfl ?_
  refine wp_icmp_le (tgt := 59) dX9_step_40 (by decide) (fun c1 => ?_) (fun c1 => ?_)
  · replace h := itp c1 h
    refine wp_iconst (v := 0) dX9_step_59 (by decide) ?_
    exact w9_step_60 hfr h
  · replace h := itn c1 h
    refine wp_iload dX9_step_43 rfl ?_
    refine wp_iconst (v := (-1)) dX9_step_45 (by decide) ?_
    refine wp_icmp_eq (tgt := 55) dX9_step_46 (by decide) (fun c2 => ?_) (fun c2 => ?_)
    · replace h := itp c2 h
      refine wp_iconst (v := 1) dX9_step_55 (by decide) ?_
      refine wp_goto (tgt := 60) dX9_step_56 (by decide) ?_
      exact w9_step_60 hfr h
    · replace h := itn c2 h
      refine wp_iload dX9_step_49 rfl ?_
      refine wp_iload_n dX9_step_51 rfl ?_
      refine wp_icmp_le (tgt := 59) dX9_step_52 (by decide) (fun c3 => ?_) (fun c3 => ?_)
      · replace h := itp c3 h
        refine wp_iconst (v := 0) dX9_step_59 (by decide) ?_
        exact w9_step_60 hfr h
      · replace h := itn c3 h
        refine wp_iconst (v := 1) dX9_step_55 (by decide) ?_
        refine wp_goto (tgt := 60) dX9_step_56 (by decide) ?_
        exact w9_step_60 hfr h
def f9_step (x1 x2 x3 x4 : Int32) (rho : RH) : Option (Int32 × RH) :=
  ob (f9_isService (x1) rho) fun r1 rho2 =>
  if r1 = 0 then
    b9_step_33 (x1) (x2) (x3) (x4) (0) rho2
  else
    ob (f9_isService (x2) rho2) fun r5 rho6 =>
    if r5 = 0 then
      b9_step_33 (x1) (x2) (x3) (x4) (0) rho6
    else
      if x4 = (-1) then
        b9_step_33 (x1) (x2) (x3) (x4) (1) rho6
      else
        ob (f9_isService (x4) rho6) fun r10 rho11 =>
        if r10 = 0 then
          b9_step_33 (x1) (x2) (x3) (x4) (0) rho11
        else
          b9_step_33 (x1) (x2) (x3) (x4) (1) rho11
theorem w9_step {r : Int32} {rho9 : RH} (hfr : RA fr) {x1 x2 x3 x4 : Int32} {rho : RH} (h : f9_step x1 x2 x3 x4 rho = some (r, rho9)) : Spec mX9_step 2 0 [vR 9 0, vI x1, vI x2, vI x3, vI x4] (lv, fr, fi, ai, ar, li, out, rho) (Po lv fr fi ai ar li out (some (vI r)) rho9) NX := by
  unfold f9_step at h
  refine spec_of (by decide) rfl (by simp [catS, cat1]) (Nat.le_of_ble_eq_true rfl) ?_
  show WP mX9_step 2 0 0 [some (vR 9 0), some (vI (x1)), some (vI (x2)), some (vI (x3)), some (vI (x4)), none, none] [] (lv, fr, fi, ai, ar, li, out, rho) (Po lv fr fi ai ar li out (some (vI r)) rho9) NX
  refine wp_iload_n dX9_step_0 rfl ?_
  obtain ⟨r1, rho2, hp3, h⟩ := ob_e h
  refine wp_callS (k1 := 0) (k2 := 0) (As := [vI (x1)]) (rest := []) (w9_isService hfr hp3) okX9_isService sm_X9_isService rfl ml_X9_199 dX9_step_1 rfl (by decide) (Nat.le_refl _) rfl (Nat.le_of_ble_eq_true rfl) (fun _ _ z => z.elim) (fun r' S' z => ?_)
  obtain ⟨rfl, rfl⟩ := z
  show WP _ _ _ _ [some (vR 9 0), some (vI (x1)), some (vI (x2)), some (vI (x3)), some (vI (x4)), none, none] [vI (r1)] _ _ _
  refine wp_if_eq (tgt := 32) dX9_step_4 (by decide) (fun c4 => ?_) (fun c4 => ?_)
  · replace h := itp c4 h
    refine wp_iconst (v := 0) dX9_step_32 (by decide) ?_
    exact w9_step_33 hfr h
  · replace h := itn c4 h
    refine wp_iload_n dX9_step_7 rfl ?_
    obtain ⟨r5, rho6, hp7, h⟩ := ob_e h
    refine wp_callS (k1 := 0) (k2 := 0) (As := [vI (x2)]) (rest := []) (w9_isService hfr hp7) okX9_isService sm_X9_isService rfl ml_X9_199 dX9_step_8 rfl (by decide) (Nat.le_refl _) rfl (Nat.le_of_ble_eq_true rfl) (fun _ _ z => z.elim) (fun r' S' z => ?_)
    obtain ⟨rfl, rfl⟩ := z
    show WP _ _ _ _ [some (vR 9 0), some (vI (x1)), some (vI (x2)), some (vI (x3)), some (vI (x4)), none, none] [vI (r5)] _ _ _
    refine wp_if_eq (tgt := 32) dX9_step_11 (by decide) (fun c8 => ?_) (fun c8 => ?_)
    · replace h := itp c8 h
      refine wp_iconst (v := 0) dX9_step_32 (by decide) ?_
      exact w9_step_33 hfr h
    · replace h := itn c8 h
      refine wp_iload dX9_step_14 rfl ?_
      refine wp_iconst (v := (-1)) dX9_step_16 (by decide) ?_
      refine wp_icmp_eq (tgt := 28) dX9_step_17 (by decide) (fun c9 => ?_) (fun c9 => ?_)
      · replace h := itp c9 h
        refine wp_iconst (v := 1) dX9_step_28 (by decide) ?_
        refine wp_goto (tgt := 33) dX9_step_29 (by decide) ?_
        exact w9_step_33 hfr h
      · replace h := itn c9 h
        refine wp_iload dX9_step_20 rfl ?_
        obtain ⟨r10, rho11, hp12, h⟩ := ob_e h
        refine wp_callS (k1 := 0) (k2 := 0) (As := [vI (x4)]) (rest := []) (w9_isService hfr hp12) okX9_isService sm_X9_isService rfl ml_X9_199 dX9_step_22 rfl (by decide) (Nat.le_refl _) rfl (Nat.le_of_ble_eq_true rfl) (fun _ _ z => z.elim) (fun r' S' z => ?_)
        obtain ⟨rfl, rfl⟩ := z
        show WP _ _ _ _ [some (vR 9 0), some (vI (x1)), some (vI (x2)), some (vI (x3)), some (vI (x4)), none, none] [vI (r10)] _ _ _
        refine wp_if_eq (tgt := 32) dX9_step_25 (by decide) (fun c13 => ?_) (fun c13 => ?_)
        · replace h := itp c13 h
          refine wp_iconst (v := 0) dX9_step_32 (by decide) ?_
          exact w9_step_33 hfr h
        · replace h := itn c13 h
          refine wp_iconst (v := 1) dX9_step_28 (by decide) ?_
          refine wp_goto (tgt := 33) dX9_step_29 (by decide) ?_
          exact w9_step_33 hfr h
def b9_instance_79 (x1 x2 x3 x4 x5 x6 s1 s2 s3 : Int32) (rho : RH) : Option (Int32 × RH) :=
  ob (f9_goes (s1) (s2) (s3) rho) fun r1 rho2 =>
  if r1 = 0 then
    some (0, rho2)
  else
    if vq ((rho2 6 0)) 12 then
    wr (up2 rho2 7 ((rho2 6 0)).toNatClampNeg (x1)) fun rho6 =>
    if vq ((rho6 6 0)) 12 then
    wr (up2 rho6 8 ((rho6 6 0)).toNatClampNeg (x2)) fun rho9 =>
    if vq ((rho9 6 0)) 12 then
    wr (up2 rho9 9 ((rho9 6 0)).toNatClampNeg (x3)) fun rho12 =>
    if vq ((rho12 6 0)) 12 then
    wr (up2 rho12 10 ((rho12 6 0)).toNatClampNeg (x4)) fun rho15 =>
    if vq ((rho15 6 0)) 12 then
    wr (up2 rho15 11 ((rho15 6 0)).toNatClampNeg (x5)) fun rho18 =>
    if vq ((rho18 6 0)) 12 then
    wr (up2 rho18 12 ((rho18 6 0)).toNatClampNeg (x6)) fun rho21 =>
    wr (up2 rho21 6 0 (((rho21 6 0) + 1))) fun rho23 =>
    some (((rho23 6 0) - 1), rho23)
    else none
    else none
    else none
    else none
    else none
    else none
theorem w9_instance_79 {r : Int32} {rho9 : RH} (hfr : RA fr) {x1 x2 x3 x4 x5 x6 s1 s2 s3 : Int32} {l7 : Option sV} {rho : RH} (h : b9_instance_79 x1 x2 x3 x4 x5 x6 s1 s2 s3 rho = some (r, rho9)) : WP mX9_instance 2 0 79 [some (vR 9 0), some (vI (x1)), some (vI (x2)), some (vI (x3)), some (vI (x4)), some (vI (x5)), some (vI (x6)), l7] [vI (s3), vI (s2), vI (s1), vR 9 0] (lv, fr, fi, ai, ar, li, out, rho) (Po lv fr fi ai ar li out (some (vI r)) rho9) NX := by
  unfold b9_instance_79 at h
  obtain ⟨r1, rho2, hp3, h⟩ := ob_e h
  refine wp_callV (k1 := 0) (k2 := 0) (As := [vI (s1), vI (s2), vI (s3)]) (rest := []) (w9_goes hfr hp3) okX9_goes ivX9_goes rfl (by decide) ml_X9_203 dX9_instance_79 rfl (by decide) (Nat.le_refl _) rfl (Nat.le_of_ble_eq_true rfl) (fun _ _ z => z.elim) (fun r' S' z => ?_)
  obtain ⟨rfl, rfl⟩ := z
  show WP _ _ _ _ [some (vR 9 0), some (vI (x1)), some (vI (x2)), some (vI (x3)), some (vI (x4)), some (vI (x5)), some (vI (x6)), l7] [vI (r1)] _ _ _
  refine wp_if_ne (tgt := 87) dX9_instance_82 (by decide) (fun c4 => ?_) (fun c4 => ?_)
  · replace h := itn c4 h
    refine wp_aload_n dX9_instance_87 rfl ?_
    refine wp_arrR (y := 7) (c := 207) hfr (by decide) rfl fl_X9_26 dX9_instance_88 ?_
    refine wp_aload_n dX9_instance_91 rfl ?_
    refine wp_getRI (y := 6) (by decide) rfl fl_X9_193 dX9_instance_92 ?_
    refine wp_iload_n dX9_instance_95 rfl ?_
    obtain ⟨c5, h⟩ := ock h
    refine wp_iastR (c := 207) (y := 7) rfl rfl (show vp_in ((rho2 6 0)) (len 207) from c5) dX9_instance_96 ?_
    obtain ⟨rho6, e7, h⟩ := wr_e h
    rw [e7]
    refine wp_aload_n dX9_instance_97 rfl ?_
    refine wp_arrR (y := 8) (c := 208) hfr (by decide) rfl fl_X9_29 dX9_instance_98 ?_
    refine wp_aload_n dX9_instance_101 rfl ?_
    refine wp_getRI (y := 6) (by decide) rfl fl_X9_193 dX9_instance_102 ?_
    refine wp_iload_n dX9_instance_105 rfl ?_
    obtain ⟨c8, h⟩ := ock h
    refine wp_iastR (c := 208) (y := 8) rfl rfl (show vp_in ((rho6 6 0)) (len 208) from c8) dX9_instance_106 ?_
    obtain ⟨rho9, e10, h⟩ := wr_e h
    rw [e10]
    refine wp_aload_n dX9_instance_107 rfl ?_
    refine wp_arrR (y := 9) (c := 209) hfr (by decide) rfl fl_X9_32 dX9_instance_108 ?_
    refine wp_aload_n dX9_instance_111 rfl ?_
    refine wp_getRI (y := 6) (by decide) rfl fl_X9_193 dX9_instance_112 ?_
    refine wp_iload_n dX9_instance_115 rfl ?_
    obtain ⟨c11, h⟩ := ock h
    refine wp_iastR (c := 209) (y := 9) rfl rfl (show vp_in ((rho9 6 0)) (len 209) from c11) dX9_instance_116 ?_
    obtain ⟨rho12, e13, h⟩ := wr_e h
    rw [e13]
    refine wp_aload_n dX9_instance_117 rfl ?_
    refine wp_arrR (y := 10) (c := 210) hfr (by decide) rfl fl_X9_35 dX9_instance_118 ?_
    refine wp_aload_n dX9_instance_121 rfl ?_
    refine wp_getRI (y := 6) (by decide) rfl fl_X9_193 dX9_instance_122 ?_
    refine wp_iload dX9_instance_125 rfl ?_
    obtain ⟨c14, h⟩ := ock h
    refine wp_iastR (c := 210) (y := 10) rfl rfl (show vp_in ((rho12 6 0)) (len 210) from c14) dX9_instance_127 ?_
    obtain ⟨rho15, e16, h⟩ := wr_e h
    rw [e16]
    refine wp_aload_n dX9_instance_128 rfl ?_
    refine wp_arrR (y := 11) (c := 211) hfr (by decide) rfl fl_X9_38 dX9_instance_129 ?_
    refine wp_aload_n dX9_instance_132 rfl ?_
    refine wp_getRI (y := 6) (by decide) rfl fl_X9_193 dX9_instance_133 ?_
    refine wp_iload dX9_instance_136 rfl ?_
    obtain ⟨c17, h⟩ := ock h
    refine wp_iastR (c := 211) (y := 11) rfl rfl (show vp_in ((rho15 6 0)) (len 211) from c17) dX9_instance_138 ?_
    obtain ⟨rho18, e19, h⟩ := wr_e h
    rw [e19]
    refine wp_aload_n dX9_instance_139 rfl ?_
    refine wp_arrR (y := 12) (c := 212) hfr (by decide) rfl fl_X9_41 dX9_instance_140 ?_
    refine wp_aload_n dX9_instance_143 rfl ?_
    refine wp_getRI (y := 6) (by decide) rfl fl_X9_193 dX9_instance_144 ?_
    refine wp_iload dX9_instance_147 rfl ?_
    obtain ⟨c20, h⟩ := ock h
    refine wp_iastR (c := 212) (y := 12) rfl rfl (show vp_in ((rho18 6 0)) (len 212) from c20) dX9_instance_149 ?_
    obtain ⟨rho21, e22, h⟩ := wr_e h
    rw [e22]
    refine wp_aload_n dX9_instance_150 rfl ?_
    refine wp_dup dX9_instance_151 trivial ?_
    refine wp_getRI (y := 6) (by decide) rfl fl_X9_193 dX9_instance_152 ?_
    refine wp_iconst (v := 1) dX9_instance_155 (by decide) ?_
    refine wp_iadd dX9_instance_156 ?_
    refine wp_putRI (y := 6) (by decide) rfl rfl fl_X9_193 dX9_instance_157 rfl ?_
    obtain ⟨rho23, e24, h⟩ := wr_e h
    rw [e24]
    refine wp_aload_n dX9_instance_160 rfl ?_
    refine wp_getRI (y := 6) (by decide) rfl fl_X9_193 dX9_instance_161 ?_
    refine wp_iconst (v := 1) dX9_instance_164 (by decide) ?_
    refine wp_isub dX9_instance_165 ?_
    obtain ⟨q1, q2⟩ := sm_e h
    subst q1
    subst q2
    exact wp_ireturn rfl dX9_instance_166 ⟨rfl, rfl⟩
  · replace h := itp c4 h
    refine wp_iconst (v := 0) dX9_instance_85 (by decide) ?_
    obtain ⟨q1, q2⟩ := sm_e h
    subst q1
    subst q2
    exact wp_ireturn rfl dX9_instance_86 ⟨rfl, rfl⟩
def b9_instance_56 (x1 x2 x3 x4 x5 x6 s0 : Int32) (rho : RH) : Option (Int32 × RH) :=
  ob (f9_isService (x1) rho) fun r1 rho2 =>
  if 12 ≤ (rho2 6 0) then
    b9_instance_79 (x1) (x2) (x3) (x4) (x5) (x6) (r1) (s0) (0) rho2
  else
    b9_instance_79 (x1) (x2) (x3) (x4) (x5) (x6) (r1) (s0) (1) rho2
theorem w9_instance_56 {r : Int32} {rho9 : RH} (hfr : RA fr) {x1 x2 x3 x4 x5 x6 s0 : Int32} {l7 : Option sV} {rho : RH} (h : b9_instance_56 x1 x2 x3 x4 x5 x6 s0 rho = some (r, rho9)) : WP mX9_instance 2 0 56 [some (vR 9 0), some (vI (x1)), some (vI (x2)), some (vI (x3)), some (vI (x4)), some (vI (x5)), some (vI (x6)), l7] [vI (s0)] (lv, fr, fi, ai, ar, li, out, rho) (Po lv fr fi ai ar li out (some (vI r)) rho9) NX := by
  unfold b9_instance_56 at h
  refine wp_istore (L' := [some (vR 9 0), some (vI (x1)), some (vI (x2)), some (vI (x3)), some (vI (x4)), some (vI (x5)), some (vI (x6)), some (vI (s0))]) dX9_instance_56 rfl rfl ?_
  refine wp_aload_n dX9_instance_58 rfl ?_
  refine wp_iload_n dX9_instance_59 rfl ?_
  obtain ⟨r1, rho2, hp3, h⟩ := ob_e h
  refine wp_callS (k1 := 0) (k2 := 0) (As := [vI (x1)]) (rest := [vR 9 0]) (w9_isService hfr hp3) okX9_isService sm_X9_isService rfl ml_X9_199 dX9_instance_60 rfl (by decide) (Nat.le_refl _) rfl (Nat.le_of_ble_eq_true rfl) (fun _ _ z => z.elim) (fun r' S' z => ?_)
  obtain ⟨rfl, rfl⟩ := z
  show WP _ _ _ _ [some (vR 9 0), some (vI (x1)), some (vI (x2)), some (vI (x3)), some (vI (x4)), some (vI (x5)), some (vI (x6)), some (vI (s0))] [vI (r1), vR 9 0] _ _ _
  refine wp_iload dX9_instance_63 rfl ?_
  refine wp_aload_n dX9_instance_65 rfl ?_
  refine wp_getRI (y := 6) (by decide) rfl fl_X9_193 dX9_instance_66 ?_
  refine wp_bipush (v := 12) dX9_instance_69 (by decide) ?_
  refine wp_icmp_ge (tgt := 78) dX9_instance_71 (by decide) (fun c4 => ?_) (fun c4 => ?_)
  · replace h := itp c4 h
    refine wp_iconst (v := 0) dX9_instance_78 (by decide) ?_
    exact w9_instance_79 hfr h
  · replace h := itn c4 h
    refine wp_iconst (v := 1) dX9_instance_74 (by decide) ?_
    refine wp_goto (tgt := 79) dX9_instance_75 (by decide) ?_
    exact w9_instance_79 hfr h
def f9_instance (x1 x2 x3 x4 x5 x6 : Int32) (rho : RH) : Option (Int32 × RH) :=
  ob (f9_in (x2) (0) (2) rho) fun r1 rho2 =>
  if r1 = 0 then
    b9_instance_56 (x1) (x2) (x3) (x4) (x5) (x6) (0) rho2
  else
    ob (f9_in (x3) (1) (9) rho2) fun r5 rho6 =>
    if r5 = 0 then
      b9_instance_56 (x1) (x2) (x3) (x4) (x5) (x6) (0) rho6
    else
      ob (f9_in (x4) (1) (9) rho6) fun r9 rho10 =>
      if r9 = 0 then
        b9_instance_56 (x1) (x2) (x3) (x4) (x5) (x6) (0) rho10
      else
        ob (f9_in (x5) (0) (9) rho10) fun r13 rho14 =>
        if r13 = 0 then
          b9_instance_56 (x1) (x2) (x3) (x4) (x5) (x6) (0) rho14
        else
          ob (f9_in (x6) (0) (1) rho14) fun r17 rho18 =>
          if r17 = 0 then
            b9_instance_56 (x1) (x2) (x3) (x4) (x5) (x6) (0) rho18
          else
            b9_instance_56 (x1) (x2) (x3) (x4) (x5) (x6) (1) rho18
theorem w9_instance {r : Int32} {rho9 : RH} (hfr : RA fr) {x1 x2 x3 x4 x5 x6 : Int32} {rho : RH} (h : f9_instance x1 x2 x3 x4 x5 x6 rho = some (r, rho9)) : Spec mX9_instance 2 0 [vR 9 0, vI x1, vI x2, vI x3, vI x4, vI x5, vI x6] (lv, fr, fi, ai, ar, li, out, rho) (Po lv fr fi ai ar li out (some (vI r)) rho9) NX := by
  unfold f9_instance at h
  refine spec_of (by decide) rfl (by simp [catS, cat1]) (Nat.le_of_ble_eq_true rfl) ?_
  show WP mX9_instance 2 0 0 [some (vR 9 0), some (vI (x1)), some (vI (x2)), some (vI (x3)), some (vI (x4)), some (vI (x5)), some (vI (x6)), none] [] (lv, fr, fi, ai, ar, li, out, rho) (Po lv fr fi ai ar li out (some (vI r)) rho9) NX
  refine wp_iload_n dX9_instance_0 rfl ?_
  refine wp_iconst (v := 0) dX9_instance_1 (by decide) ?_
  refine wp_iconst (v := 2) dX9_instance_2 (by decide) ?_
  obtain ⟨r1, rho2, hp3, h⟩ := ob_e h
  refine wp_callS (k1 := 0) (k2 := 0) (As := [vI (x2), vI (0), vI (2)]) (rest := []) (w9_in hfr hp3) okX9_in sm_X9_in rfl ml_X9_189 dX9_instance_3 rfl (by decide) (Nat.le_refl _) rfl (Nat.le_of_ble_eq_true rfl) (fun _ _ z => z.elim) (fun r' S' z => ?_)
  obtain ⟨rfl, rfl⟩ := z
  show WP _ _ _ _ [some (vR 9 0), some (vI (x1)), some (vI (x2)), some (vI (x3)), some (vI (x4)), some (vI (x5)), some (vI (x6)), none] [vI (r1)] _ _ _
  refine wp_if_eq (tgt := 55) dX9_instance_6 (by decide) (fun c4 => ?_) (fun c4 => ?_)
  · replace h := itp c4 h
    refine wp_iconst (v := 0) dX9_instance_55 (by decide) ?_
    exact w9_instance_56 hfr h
  · replace h := itn c4 h
    refine wp_iload_n dX9_instance_9 rfl ?_
    refine wp_iconst (v := 1) dX9_instance_10 (by decide) ?_
    refine wp_bipush (v := 9) dX9_instance_11 (by decide) ?_
    obtain ⟨r5, rho6, hp7, h⟩ := ob_e h
    refine wp_callS (k1 := 0) (k2 := 0) (As := [vI (x3), vI (1), vI (9)]) (rest := []) (w9_in hfr hp7) okX9_in sm_X9_in rfl ml_X9_189 dX9_instance_13 rfl (by decide) (Nat.le_refl _) rfl (Nat.le_of_ble_eq_true rfl) (fun _ _ z => z.elim) (fun r' S' z => ?_)
    obtain ⟨rfl, rfl⟩ := z
    show WP _ _ _ _ [some (vR 9 0), some (vI (x1)), some (vI (x2)), some (vI (x3)), some (vI (x4)), some (vI (x5)), some (vI (x6)), none] [vI (r5)] _ _ _
    refine wp_if_eq (tgt := 55) dX9_instance_16 (by decide) (fun c8 => ?_) (fun c8 => ?_)
    · replace h := itp c8 h
      refine wp_iconst (v := 0) dX9_instance_55 (by decide) ?_
      exact w9_instance_56 hfr h
    · replace h := itn c8 h
      refine wp_iload dX9_instance_19 rfl ?_
      refine wp_iconst (v := 1) dX9_instance_21 (by decide) ?_
      refine wp_bipush (v := 9) dX9_instance_22 (by decide) ?_
      obtain ⟨r9, rho10, hp11, h⟩ := ob_e h
      refine wp_callS (k1 := 0) (k2 := 0) (As := [vI (x4), vI (1), vI (9)]) (rest := []) (w9_in hfr hp11) okX9_in sm_X9_in rfl ml_X9_189 dX9_instance_24 rfl (by decide) (Nat.le_refl _) rfl (Nat.le_of_ble_eq_true rfl) (fun _ _ z => z.elim) (fun r' S' z => ?_)
      obtain ⟨rfl, rfl⟩ := z
      show WP _ _ _ _ [some (vR 9 0), some (vI (x1)), some (vI (x2)), some (vI (x3)), some (vI (x4)), some (vI (x5)), some (vI (x6)), none] [vI (r9)] _ _ _
      refine wp_if_eq (tgt := 55) dX9_instance_27 (by decide) (fun c12 => ?_) (fun c12 => ?_)
      · replace h := itp c12 h
        refine wp_iconst (v := 0) dX9_instance_55 (by decide) ?_
        exact w9_instance_56 hfr h
      · replace h := itn c12 h
        refine wp_iload dX9_instance_30 rfl ?_
        refine wp_iconst (v := 0) dX9_instance_32 (by decide) ?_
        refine wp_bipush (v := 9) dX9_instance_33 (by decide) ?_
        obtain ⟨r13, rho14, hp15, h⟩ := ob_e h
        refine wp_callS (k1 := 0) (k2 := 0) (As := [vI (x5), vI (0), vI (9)]) (rest := []) (w9_in hfr hp15) okX9_in sm_X9_in rfl ml_X9_189 dX9_instance_35 rfl (by decide) (Nat.le_refl _) rfl (Nat.le_of_ble_eq_true rfl) (fun _ _ z => z.elim) (fun r' S' z => ?_)
        obtain ⟨rfl, rfl⟩ := z
        show WP _ _ _ _ [some (vR 9 0), some (vI (x1)), some (vI (x2)), some (vI (x3)), some (vI (x4)), some (vI (x5)), some (vI (x6)), none] [vI (r13)] _ _ _
        refine wp_if_eq (tgt := 55) dX9_instance_38 (by decide) (fun c16 => ?_) (fun c16 => ?_)
        · replace h := itp c16 h
          refine wp_iconst (v := 0) dX9_instance_55 (by decide) ?_
          exact w9_instance_56 hfr h
        · replace h := itn c16 h
          refine wp_iload dX9_instance_41 rfl ?_
          refine wp_iconst (v := 0) dX9_instance_43 (by decide) ?_
          refine wp_iconst (v := 1) dX9_instance_44 (by decide) ?_
          obtain ⟨r17, rho18, hp19, h⟩ := ob_e h
          refine wp_callS (k1 := 0) (k2 := 0) (As := [vI (x6), vI (0), vI (1)]) (rest := []) (w9_in hfr hp19) okX9_in sm_X9_in rfl ml_X9_189 dX9_instance_45 rfl (by decide) (Nat.le_refl _) rfl (Nat.le_of_ble_eq_true rfl) (fun _ _ z => z.elim) (fun r' S' z => ?_)
          obtain ⟨rfl, rfl⟩ := z
          show WP _ _ _ _ [some (vR 9 0), some (vI (x1)), some (vI (x2)), some (vI (x3)), some (vI (x4)), some (vI (x5)), some (vI (x6)), none] [vI (r17)] _ _ _
          refine wp_if_eq (tgt := 55) dX9_instance_48 (by decide) (fun c20 => ?_) (fun c20 => ?_)
          · replace h := itp c20 h
            refine wp_iconst (v := 0) dX9_instance_55 (by decide) ?_
            exact w9_instance_56 hfr h
          · replace h := itn c20 h
            refine wp_iconst (v := 1) dX9_instance_51 (by decide) ?_
            refine wp_goto (tgt := 56) dX9_instance_52 (by decide) ?_
            exact w9_instance_56 hfr h
def f9_isInstance (x1 : Int32) (rho : RH) : Option (Int32 × RH) :=
  ob (f9_in (x1) (0) (((rho 6 0) - 1)) rho) fun r1 rho2 =>
  if r1 = 0 ∨ r1 = 1 then
  some (r1, rho2)
  else none
theorem w9_isInstance {r : Int32} {rho9 : RH} (hfr : RA fr) {x1 : Int32} {rho : RH} (h : f9_isInstance x1 rho = some (r, rho9)) : Spec mX9_isInstance 1 0 [vR 9 0, vI x1] (lv, fr, fi, ai, ar, li, out, rho) (Po lv fr fi ai ar li out (some (vI r)) rho9) NX := by
  unfold f9_isInstance at h
  refine spec_of (by decide) rfl (by simp [catS, cat1]) (Nat.le_of_ble_eq_true rfl) ?_
  show WP mX9_isInstance 1 0 0 [some (vR 9 0), some (vI (x1))] [] (lv, fr, fi, ai, ar, li, out, rho) (Po lv fr fi ai ar li out (some (vI r)) rho9) NX
  refine wp_iload_n dX9_isInstance_0 rfl ?_
  refine wp_iconst (v := 0) dX9_isInstance_1 (by decide) ?_
  refine wp_aload_n dX9_isInstance_2 rfl ?_
  refine wp_getRI (y := 6) (by decide) rfl fl_X9_193 dX9_isInstance_3 ?_
  refine wp_iconst (v := 1) dX9_isInstance_6 (by decide) ?_
  refine wp_isub dX9_isInstance_7 ?_
  obtain ⟨r1, rho2, hp3, h⟩ := ob_e h
  refine wp_callS (k1 := 0) (k2 := 0) (As := [vI (x1), vI (0), vI (((rho 6 0) - 1))]) (rest := []) (w9_in hfr hp3) okX9_in sm_X9_in rfl ml_X9_189 dX9_isInstance_8 rfl (by decide) (Nat.le_refl _) rfl (Nat.le_of_ble_eq_true rfl) (fun _ _ z => z.elim) (fun r' S' z => ?_)
  obtain ⟨rfl, rfl⟩ := z
  show WP _ _ _ _ [some (vR 9 0), some (vI (x1))] [vI (r1)] _ _ _
  obtain ⟨c4, h⟩ := ock h
  obtain ⟨q1, q2⟩ := sm_e h
  subst q1
  subst q2
  exact wp_zreturn rfl c4 dX9_isInstance_11 ⟨rfl, rfl⟩
def f9_fault (x1 x2 x3 : Int32) (rho : RH) : Option (Int32 × RH) :=
  ob (f9_isInstance (x1) rho) fun r1 rho2 =>
  ob (f9_in (x2) (0) (3) rho2) fun r4 rho5 =>
  if r4 = 0 then
    ob (f9_goes (r1) (0) (1) rho5) fun r8 rho9 =>
    if r8 = 0 then
      some (0, rho9)
    else
      if vq (((4 * x1) + x2)) 48 then
      wr (up2 rho9 13 (((4 * x1) + x2)).toNatClampNeg (x3)) fun rho13 =>
      some ((rho9 13 (((4 * x1) + x2)).toNatClampNeg), rho13)
      else none
  else
    if x2 = 0 then
      ob (f9_in (x3) (0) (50) rho5) fun r16 rho17 =>
      if r16 = 0 then
        ob (f9_goes (r1) (0) (1) rho17) fun r20 rho21 =>
        if r20 = 0 then
          some (0, rho21)
        else
          if vq (((4 * x1) + x2)) 48 then
          wr (up2 rho21 13 (((4 * x1) + x2)).toNatClampNeg (x3)) fun rho25 =>
          some ((rho21 13 (((4 * x1) + x2)).toNatClampNeg), rho25)
          else none
      else
        ob (f9_goes (r1) (1) (1) rho17) fun r27 rho28 =>
        if r27 = 0 then
          some (0, rho28)
        else
          if vq (((4 * x1) + x2)) 48 then
          wr (up2 rho28 13 (((4 * x1) + x2)).toNatClampNeg (x3)) fun rho32 =>
          some ((rho28 13 (((4 * x1) + x2)).toNatClampNeg), rho32)
          else none
    else
      ob (f9_in (x3) (0) (1) rho5) fun r34 rho35 =>
      if r34 = 0 then
        ob (f9_goes (r1) (0) (1) rho35) fun r38 rho39 =>
        if r38 = 0 then
          some (0, rho39)
        else
          if vq (((4 * x1) + x2)) 48 then
          wr (up2 rho39 13 (((4 * x1) + x2)).toNatClampNeg (x3)) fun rho43 =>
          some ((rho39 13 (((4 * x1) + x2)).toNatClampNeg), rho43)
          else none
      else
        ob (f9_goes (r1) (1) (1) rho35) fun r45 rho46 =>
        if r45 = 0 then
          some (0, rho46)
        else
          if vq (((4 * x1) + x2)) 48 then
          wr (up2 rho46 13 (((4 * x1) + x2)).toNatClampNeg (x3)) fun rho50 =>
          some ((rho46 13 (((4 * x1) + x2)).toNatClampNeg), rho50)
          else none
theorem w9_fault {r : Int32} {rho9 : RH} (hfr : RA fr) {x1 x2 x3 : Int32} {rho : RH} (h : f9_fault x1 x2 x3 rho = some (r, rho9)) : Spec mX9_fault 2 0 [vR 9 0, vI x1, vI x2, vI x3] (lv, fr, fi, ai, ar, li, out, rho) (Po lv fr fi ai ar li out (some (vI r)) rho9) NX := by
  unfold f9_fault at h
  refine spec_of (by decide) rfl (by simp [catS, cat1]) (Nat.le_of_ble_eq_true rfl) ?_
  show WP mX9_fault 2 0 0 [some (vR 9 0), some (vI (x1)), some (vI (x2)), some (vI (x3)), none] [] (lv, fr, fi, ai, ar, li, out, rho) (Po lv fr fi ai ar li out (some (vI r)) rho9) NX
  refine wp_aload_n dX9_fault_0 rfl ?_
  refine wp_aload_n dX9_fault_1 rfl ?_
  refine wp_iload_n dX9_fault_2 rfl ?_
  obtain ⟨r1, rho2, hp3, h⟩ := ob_e h
  refine wp_callV (k1 := 0) (k2 := 0) (As := [vI (x1)]) (rest := [vR 9 0]) (w9_isInstance hfr hp3) okX9_isInstance ivX9_isInstance rfl (by decide) ml_X9_207 dX9_fault_3 rfl (by decide) (Nat.le_refl _) rfl (Nat.le_of_ble_eq_true rfl) (fun _ _ z => z.elim) (fun r' S' z => ?_)
  obtain ⟨rfl, rfl⟩ := z
  show WP _ _ _ _ [some (vR 9 0), some (vI (x1)), some (vI (x2)), some (vI (x3)), none] [vI (r1), vR 9 0] _ _ _
  refine wp_iload_n dX9_fault_6 rfl ?_
  refine wp_iconst (v := 0) dX9_fault_7 (by decide) ?_
  refine wp_iconst (v := 3) dX9_fault_8 (by decide) ?_
  obtain ⟨r4, rho5, hp6, h⟩ := ob_e h
  refine wp_callS (k1 := 0) (k2 := 0) (As := [vI (x2), vI (0), vI (3)]) (rest := [vI (r1), vR 9 0]) (w9_in hfr hp6) okX9_in sm_X9_in rfl ml_X9_189 dX9_fault_9 rfl (by decide) (Nat.le_refl _) rfl (Nat.le_of_ble_eq_true rfl) (fun _ _ z => z.elim) (fun r' S' z => ?_)
  obtain ⟨rfl, rfl⟩ := z
  show WP _ _ _ _ [some (vR 9 0), some (vI (x1)), some (vI (x2)), some (vI (x3)), none] [vI (r4), vI (r1), vR 9 0] _ _ _
  refine wp_if_eq (tgt := 37) dX9_fault_12 (by decide) (fun c7 => ?_) (fun c7 => ?_)
  · replace h := itp c7 h
    refine wp_iconst (v := 0) dX9_fault_37 (by decide) ?_
    refine wp_iconst (v := 1) dX9_fault_38 (by decide) ?_
    obtain ⟨r8, rho9, hp10, h⟩ := ob_e h
    refine wp_callV (k1 := 0) (k2 := 0) (As := [vI (r1), vI (0), vI (1)]) (rest := []) (w9_goes hfr hp10) okX9_goes ivX9_goes rfl (by decide) ml_X9_203 dX9_fault_39 rfl (by decide) (Nat.le_refl _) rfl (Nat.le_of_ble_eq_true rfl) (fun _ _ z => z.elim) (fun r' S' z => ?_)
    obtain ⟨rfl, rfl⟩ := z
    show WP _ _ _ _ [some (vR 9 0), some (vI (x1)), some (vI (x2)), some (vI (x3)), none] [vI (r8)] _ _ _
    refine wp_if_ne (tgt := 47) dX9_fault_42 (by decide) (fun c11 => ?_) (fun c11 => ?_)
    · replace h := itn c11 h
      refine wp_aload_n dX9_fault_47 rfl ?_
      refine wp_arrR (y := 13) (c := 213) hfr (by decide) rfl fl_X9_44 dX9_fault_48 ?_
      refine wp_iconst (v := 4) dX9_fault_51 (by decide) ?_
      refine wp_iload_n dX9_fault_52 rfl ?_
      refine wp_imul dX9_fault_53 ?_
      refine wp_iload_n dX9_fault_54 rfl ?_
      refine wp_iadd dX9_fault_55 ?_
      obtain ⟨c12, h⟩ := ock h
      refine wp_ialdR (c := 213) (y := 13) rfl rfl (show vp_in (((4 * x1) + x2)) (len 213) from c12) dX9_fault_56 ?_
      refine wp_istore (L' := [some (vR 9 0), some (vI (x1)), some (vI (x2)), some (vI (x3)), some (vI ((rho9 13 (((4 * x1) + x2)).toNatClampNeg)))]) dX9_fault_57 rfl rfl ?_
      refine wp_aload_n dX9_fault_59 rfl ?_
      refine wp_arrR (y := 13) (c := 213) hfr (by decide) rfl fl_X9_44 dX9_fault_60 ?_
      refine wp_iconst (v := 4) dX9_fault_63 (by decide) ?_
      refine wp_iload_n dX9_fault_64 rfl ?_
      refine wp_imul dX9_fault_65 ?_
      refine wp_iload_n dX9_fault_66 rfl ?_
      refine wp_iadd dX9_fault_67 ?_
      refine wp_iload_n dX9_fault_68 rfl ?_
      refine wp_iastR (c := 213) (y := 13) rfl rfl (show vp_in (((4 * x1) + x2)) (len 213) from c12) dX9_fault_69 ?_
      obtain ⟨rho13, e14, h⟩ := wr_e h
      rw [e14]
      refine wp_iload dX9_fault_70 rfl ?_
      obtain ⟨q1, q2⟩ := sm_e h
      subst q1
      subst q2
      exact wp_ireturn rfl dX9_fault_72 ⟨rfl, rfl⟩
    · replace h := itp c11 h
      refine wp_iconst (v := 0) dX9_fault_45 (by decide) ?_
      obtain ⟨q1, q2⟩ := sm_e h
      subst q1
      subst q2
      exact wp_ireturn rfl dX9_fault_46 ⟨rfl, rfl⟩
  · replace h := itn c7 h
    refine wp_iload_n dX9_fault_15 rfl ?_
    refine wp_iconst (v := 0) dX9_fault_16 (by decide) ?_
    refine wp_iload_n dX9_fault_17 rfl ?_
    refine wp_if_ne (tgt := 26) dX9_fault_18 (by decide) (fun c15 => ?_) (fun c15 => ?_)
    · replace h := itn c15 h
      refine wp_iconst (v := 1) dX9_fault_26 (by decide) ?_
      obtain ⟨r34, rho35, hp36, h⟩ := ob_e h
      refine wp_callS (k1 := 0) (k2 := 0) (As := [vI (x3), vI (0), vI (1)]) (rest := [vI (r1), vR 9 0]) (w9_in hfr hp36) okX9_in sm_X9_in rfl ml_X9_189 dX9_fault_27 rfl (by decide) (Nat.le_refl _) rfl (Nat.le_of_ble_eq_true rfl) (fun _ _ z => z.elim) (fun r' S' z => ?_)
      obtain ⟨rfl, rfl⟩ := z
      show WP _ _ _ _ [some (vR 9 0), some (vI (x1)), some (vI (x2)), some (vI (x3)), none] [vI (r34), vI (r1), vR 9 0] _ _ _
      refine wp_if_eq (tgt := 37) dX9_fault_30 (by decide) (fun c37 => ?_) (fun c37 => ?_)
      · replace h := itp c37 h
        refine wp_iconst (v := 0) dX9_fault_37 (by decide) ?_
        refine wp_iconst (v := 1) dX9_fault_38 (by decide) ?_
        obtain ⟨r38, rho39, hp40, h⟩ := ob_e h
        refine wp_callV (k1 := 0) (k2 := 0) (As := [vI (r1), vI (0), vI (1)]) (rest := []) (w9_goes hfr hp40) okX9_goes ivX9_goes rfl (by decide) ml_X9_203 dX9_fault_39 rfl (by decide) (Nat.le_refl _) rfl (Nat.le_of_ble_eq_true rfl) (fun _ _ z => z.elim) (fun r' S' z => ?_)
        obtain ⟨rfl, rfl⟩ := z
        show WP _ _ _ _ [some (vR 9 0), some (vI (x1)), some (vI (x2)), some (vI (x3)), none] [vI (r38)] _ _ _
        refine wp_if_ne (tgt := 47) dX9_fault_42 (by decide) (fun c41 => ?_) (fun c41 => ?_)
        · replace h := itn c41 h
          refine wp_aload_n dX9_fault_47 rfl ?_
          refine wp_arrR (y := 13) (c := 213) hfr (by decide) rfl fl_X9_44 dX9_fault_48 ?_
          refine wp_iconst (v := 4) dX9_fault_51 (by decide) ?_
          refine wp_iload_n dX9_fault_52 rfl ?_
          refine wp_imul dX9_fault_53 ?_
          refine wp_iload_n dX9_fault_54 rfl ?_
          refine wp_iadd dX9_fault_55 ?_
          obtain ⟨c42, h⟩ := ock h
          refine wp_ialdR (c := 213) (y := 13) rfl rfl (show vp_in (((4 * x1) + x2)) (len 213) from c42) dX9_fault_56 ?_
          refine wp_istore (L' := [some (vR 9 0), some (vI (x1)), some (vI (x2)), some (vI (x3)), some (vI ((rho39 13 (((4 * x1) + x2)).toNatClampNeg)))]) dX9_fault_57 rfl rfl ?_
          refine wp_aload_n dX9_fault_59 rfl ?_
          refine wp_arrR (y := 13) (c := 213) hfr (by decide) rfl fl_X9_44 dX9_fault_60 ?_
          refine wp_iconst (v := 4) dX9_fault_63 (by decide) ?_
          refine wp_iload_n dX9_fault_64 rfl ?_
          refine wp_imul dX9_fault_65 ?_
          refine wp_iload_n dX9_fault_66 rfl ?_
          refine wp_iadd dX9_fault_67 ?_
          refine wp_iload_n dX9_fault_68 rfl ?_
          refine wp_iastR (c := 213) (y := 13) rfl rfl (show vp_in (((4 * x1) + x2)) (len 213) from c42) dX9_fault_69 ?_
          obtain ⟨rho43, e44, h⟩ := wr_e h
          rw [e44]
          refine wp_iload dX9_fault_70 rfl ?_
          obtain ⟨q1, q2⟩ := sm_e h
          subst q1
          subst q2
          exact wp_ireturn rfl dX9_fault_72 ⟨rfl, rfl⟩
        · replace h := itp c41 h
          refine wp_iconst (v := 0) dX9_fault_45 (by decide) ?_
          obtain ⟨q1, q2⟩ := sm_e h
          subst q1
          subst q2
          exact wp_ireturn rfl dX9_fault_46 ⟨rfl, rfl⟩
      · replace h := itn c37 h
        refine wp_iconst (v := 1) dX9_fault_33 (by decide) ?_
        refine wp_goto (tgt := 38) dX9_fault_34 (by decide) ?_
        refine wp_iconst (v := 1) dX9_fault_38 (by decide) ?_
        obtain ⟨r45, rho46, hp47, h⟩ := ob_e h
        refine wp_callV (k1 := 0) (k2 := 0) (As := [vI (r1), vI (1), vI (1)]) (rest := []) (w9_goes hfr hp47) okX9_goes ivX9_goes rfl (by decide) ml_X9_203 dX9_fault_39 rfl (by decide) (Nat.le_refl _) rfl (Nat.le_of_ble_eq_true rfl) (fun _ _ z => z.elim) (fun r' S' z => ?_)
        obtain ⟨rfl, rfl⟩ := z
        show WP _ _ _ _ [some (vR 9 0), some (vI (x1)), some (vI (x2)), some (vI (x3)), none] [vI (r45)] _ _ _
        refine wp_if_ne (tgt := 47) dX9_fault_42 (by decide) (fun c48 => ?_) (fun c48 => ?_)
        · replace h := itn c48 h
          refine wp_aload_n dX9_fault_47 rfl ?_
          refine wp_arrR (y := 13) (c := 213) hfr (by decide) rfl fl_X9_44 dX9_fault_48 ?_
          refine wp_iconst (v := 4) dX9_fault_51 (by decide) ?_
          refine wp_iload_n dX9_fault_52 rfl ?_
          refine wp_imul dX9_fault_53 ?_
          refine wp_iload_n dX9_fault_54 rfl ?_
          refine wp_iadd dX9_fault_55 ?_
          obtain ⟨c49, h⟩ := ock h
          refine wp_ialdR (c := 213) (y := 13) rfl rfl (show vp_in (((4 * x1) + x2)) (len 213) from c49) dX9_fault_56 ?_
          refine wp_istore (L' := [some (vR 9 0), some (vI (x1)), some (vI (x2)), some (vI (x3)), some (vI ((rho46 13 (((4 * x1) + x2)).toNatClampNeg)))]) dX9_fault_57 rfl rfl ?_
          refine wp_aload_n dX9_fault_59 rfl ?_
          refine wp_arrR (y := 13) (c := 213) hfr (by decide) rfl fl_X9_44 dX9_fault_60 ?_
          refine wp_iconst (v := 4) dX9_fault_63 (by decide) ?_
          refine wp_iload_n dX9_fault_64 rfl ?_
          refine wp_imul dX9_fault_65 ?_
          refine wp_iload_n dX9_fault_66 rfl ?_
          refine wp_iadd dX9_fault_67 ?_
          refine wp_iload_n dX9_fault_68 rfl ?_
          refine wp_iastR (c := 213) (y := 13) rfl rfl (show vp_in (((4 * x1) + x2)) (len 213) from c49) dX9_fault_69 ?_
          obtain ⟨rho50, e51, h⟩ := wr_e h
          rw [e51]
          refine wp_iload dX9_fault_70 rfl ?_
          obtain ⟨q1, q2⟩ := sm_e h
          subst q1
          subst q2
          exact wp_ireturn rfl dX9_fault_72 ⟨rfl, rfl⟩
        · replace h := itp c48 h
          refine wp_iconst (v := 0) dX9_fault_45 (by decide) ?_
          obtain ⟨q1, q2⟩ := sm_e h
          subst q1
          subst q2
          exact wp_ireturn rfl dX9_fault_46 ⟨rfl, rfl⟩
    · replace h := itp c15 h
      refine wp_bipush (v := 50) dX9_fault_21 (by decide) ?_
      refine wp_goto (tgt := 27) dX9_fault_23 (by decide) ?_
      obtain ⟨r16, rho17, hp18, h⟩ := ob_e h
      refine wp_callS (k1 := 0) (k2 := 0) (As := [vI (x3), vI (0), vI (50)]) (rest := [vI (r1), vR 9 0]) (w9_in hfr hp18) okX9_in sm_X9_in rfl ml_X9_189 dX9_fault_27 rfl (by decide) (Nat.le_refl _) rfl (Nat.le_of_ble_eq_true rfl) (fun _ _ z => z.elim) (fun r' S' z => ?_)
      obtain ⟨rfl, rfl⟩ := z
      show WP _ _ _ _ [some (vR 9 0), some (vI (x1)), some (vI (x2)), some (vI (x3)), none] [vI (r16), vI (r1), vR 9 0] _ _ _
      refine wp_if_eq (tgt := 37) dX9_fault_30 (by decide) (fun c19 => ?_) (fun c19 => ?_)
      · replace h := itp c19 h
        refine wp_iconst (v := 0) dX9_fault_37 (by decide) ?_
        refine wp_iconst (v := 1) dX9_fault_38 (by decide) ?_
        obtain ⟨r20, rho21, hp22, h⟩ := ob_e h
        refine wp_callV (k1 := 0) (k2 := 0) (As := [vI (r1), vI (0), vI (1)]) (rest := []) (w9_goes hfr hp22) okX9_goes ivX9_goes rfl (by decide) ml_X9_203 dX9_fault_39 rfl (by decide) (Nat.le_refl _) rfl (Nat.le_of_ble_eq_true rfl) (fun _ _ z => z.elim) (fun r' S' z => ?_)
        obtain ⟨rfl, rfl⟩ := z
        show WP _ _ _ _ [some (vR 9 0), some (vI (x1)), some (vI (x2)), some (vI (x3)), none] [vI (r20)] _ _ _
        refine wp_if_ne (tgt := 47) dX9_fault_42 (by decide) (fun c23 => ?_) (fun c23 => ?_)
        · replace h := itn c23 h
          refine wp_aload_n dX9_fault_47 rfl ?_
          refine wp_arrR (y := 13) (c := 213) hfr (by decide) rfl fl_X9_44 dX9_fault_48 ?_
          refine wp_iconst (v := 4) dX9_fault_51 (by decide) ?_
          refine wp_iload_n dX9_fault_52 rfl ?_
          refine wp_imul dX9_fault_53 ?_
          refine wp_iload_n dX9_fault_54 rfl ?_
          refine wp_iadd dX9_fault_55 ?_
          obtain ⟨c24, h⟩ := ock h
          refine wp_ialdR (c := 213) (y := 13) rfl rfl (show vp_in (((4 * x1) + x2)) (len 213) from c24) dX9_fault_56 ?_
          refine wp_istore (L' := [some (vR 9 0), some (vI (x1)), some (vI (x2)), some (vI (x3)), some (vI ((rho21 13 (((4 * x1) + x2)).toNatClampNeg)))]) dX9_fault_57 rfl rfl ?_
          refine wp_aload_n dX9_fault_59 rfl ?_
          refine wp_arrR (y := 13) (c := 213) hfr (by decide) rfl fl_X9_44 dX9_fault_60 ?_
          refine wp_iconst (v := 4) dX9_fault_63 (by decide) ?_
          refine wp_iload_n dX9_fault_64 rfl ?_
          refine wp_imul dX9_fault_65 ?_
          refine wp_iload_n dX9_fault_66 rfl ?_
          refine wp_iadd dX9_fault_67 ?_
          refine wp_iload_n dX9_fault_68 rfl ?_
          refine wp_iastR (c := 213) (y := 13) rfl rfl (show vp_in (((4 * x1) + x2)) (len 213) from c24) dX9_fault_69 ?_
          obtain ⟨rho25, e26, h⟩ := wr_e h
          rw [e26]
          refine wp_iload dX9_fault_70 rfl ?_
          obtain ⟨q1, q2⟩ := sm_e h
          subst q1
          subst q2
          exact wp_ireturn rfl dX9_fault_72 ⟨rfl, rfl⟩
        · replace h := itp c23 h
          refine wp_iconst (v := 0) dX9_fault_45 (by decide) ?_
          obtain ⟨q1, q2⟩ := sm_e h
          subst q1
          subst q2
          exact wp_ireturn rfl dX9_fault_46 ⟨rfl, rfl⟩
      · replace h := itn c19 h
        refine wp_iconst (v := 1) dX9_fault_33 (by decide) ?_
        refine wp_goto (tgt := 38) dX9_fault_34 (by decide) ?_
        refine wp_iconst (v := 1) dX9_fault_38 (by decide) ?_
        obtain ⟨r27, rho28, hp29, h⟩ := ob_e h
        refine wp_callV (k1 := 0) (k2 := 0) (As := [vI (r1), vI (1), vI (1)]) (rest := []) (w9_goes hfr hp29) okX9_goes ivX9_goes rfl (by decide) ml_X9_203 dX9_fault_39 rfl (by decide) (Nat.le_refl _) rfl (Nat.le_of_ble_eq_true rfl) (fun _ _ z => z.elim) (fun r' S' z => ?_)
        obtain ⟨rfl, rfl⟩ := z
        show WP _ _ _ _ [some (vR 9 0), some (vI (x1)), some (vI (x2)), some (vI (x3)), none] [vI (r27)] _ _ _
        refine wp_if_ne (tgt := 47) dX9_fault_42 (by decide) (fun c30 => ?_) (fun c30 => ?_)
        · replace h := itn c30 h
          refine wp_aload_n dX9_fault_47 rfl ?_
          refine wp_arrR (y := 13) (c := 213) hfr (by decide) rfl fl_X9_44 dX9_fault_48 ?_
          refine wp_iconst (v := 4) dX9_fault_51 (by decide) ?_
          refine wp_iload_n dX9_fault_52 rfl ?_
          refine wp_imul dX9_fault_53 ?_
          refine wp_iload_n dX9_fault_54 rfl ?_
          refine wp_iadd dX9_fault_55 ?_
          obtain ⟨c31, h⟩ := ock h
          refine wp_ialdR (c := 213) (y := 13) rfl rfl (show vp_in (((4 * x1) + x2)) (len 213) from c31) dX9_fault_56 ?_
          refine wp_istore (L' := [some (vR 9 0), some (vI (x1)), some (vI (x2)), some (vI (x3)), some (vI ((rho28 13 (((4 * x1) + x2)).toNatClampNeg)))]) dX9_fault_57 rfl rfl ?_
          refine wp_aload_n dX9_fault_59 rfl ?_
          refine wp_arrR (y := 13) (c := 213) hfr (by decide) rfl fl_X9_44 dX9_fault_60 ?_
          refine wp_iconst (v := 4) dX9_fault_63 (by decide) ?_
          refine wp_iload_n dX9_fault_64 rfl ?_
          refine wp_imul dX9_fault_65 ?_
          refine wp_iload_n dX9_fault_66 rfl ?_
          refine wp_iadd dX9_fault_67 ?_
          refine wp_iload_n dX9_fault_68 rfl ?_
          refine wp_iastR (c := 213) (y := 13) rfl rfl (show vp_in (((4 * x1) + x2)) (len 213) from c31) dX9_fault_69 ?_
          obtain ⟨rho32, e33, h⟩ := wr_e h
          rw [e33]
          refine wp_iload dX9_fault_70 rfl ?_
          obtain ⟨q1, q2⟩ := sm_e h
          subst q1
          subst q2
          exact wp_ireturn rfl dX9_fault_72 ⟨rfl, rfl⟩
        · replace h := itp c30 h
          refine wp_iconst (v := 0) dX9_fault_45 (by decide) ?_
          obtain ⟨q1, q2⟩ := sm_e h
          subst q1
          subst q2
          exact wp_ireturn rfl dX9_fault_46 ⟨rfl, rfl⟩
def f9_isCaller (x0 : Int32) (rho : RH) : Option (Int32 × RH) :=
  ob (f9_in (x0) (0) (6) rho) fun r1 rho2 =>
  if r1 = 0 ∨ r1 = 1 then
  some (r1, rho2)
  else none
theorem w9_isCaller {r : Int32} {rho9 : RH} (hfr : RA fr) {x0 : Int32} {rho : RH} (h : f9_isCaller x0 rho = some (r, rho9)) : Spec mX9_isCaller 1 0 [vI x0] (lv, fr, fi, ai, ar, li, out, rho) (Po lv fr fi ai ar li out (some (vI r)) rho9) NX := by
  unfold f9_isCaller at h
  refine spec_of (by decide) rfl (by simp [catS, cat1]) (Nat.le_of_ble_eq_true rfl) ?_
  show WP mX9_isCaller 1 0 0 [some (vI (x0))] [] (lv, fr, fi, ai, ar, li, out, rho) (Po lv fr fi ai ar li out (some (vI r)) rho9) NX
  refine wp_iload_n dX9_isCaller_0 rfl ?_
  refine wp_iconst (v := 0) dX9_isCaller_1 (by decide) ?_
  refine wp_bipush (v := 6) dX9_isCaller_2 (by decide) ?_
  obtain ⟨r1, rho2, hp3, h⟩ := ob_e h
  refine wp_callS (k1 := 0) (k2 := 0) (As := [vI (x0), vI (0), vI (6)]) (rest := []) (w9_in hfr hp3) okX9_in sm_X9_in rfl ml_X9_189 dX9_isCaller_4 rfl (by decide) (Nat.le_refl _) rfl (Nat.le_of_ble_eq_true rfl) (fun _ _ z => z.elim) (fun r' S' z => ?_)
  obtain ⟨rfl, rfl⟩ := z
  show WP _ _ _ _ [some (vI (x0))] [vI (r1)] _ _ _
  obtain ⟨c4, h⟩ := ock h
  obtain ⟨q1, q2⟩ := sm_e h
  subst q1
  subst q2
  exact wp_zreturn rfl c4 dX9_isCaller_7 ⟨rfl, rfl⟩
def f9_policyPlace (x0 x1 : Int32) (rho : RH) : Option (Int32 × RH) :=
  if x0 = (-1) then
    if x1 = (-1) then
      some (48, rho)
    else
      some ((42 + x1), rho)
  else
    some (((6 * x0) + x1), rho)
theorem w9_policyPlace {r : Int32} {rho9 : RH} (hfr : RA fr) {x0 x1 : Int32} {rho : RH} (h : f9_policyPlace x0 x1 rho = some (r, rho9)) : Spec mX9_policyPlace 0 0 [vI x0, vI x1] (lv, fr, fi, ai, ar, li, out, rho) (Po lv fr fi ai ar li out (some (vI r)) rho9) NX := by
  unfold f9_policyPlace at h
  refine spec_of (by decide) rfl (by simp [catS, cat1]) (Nat.le_of_ble_eq_true rfl) ?_
  show WP mX9_policyPlace 0 0 0 [some (vI (x0)), some (vI (x1))] [] (lv, fr, fi, ai, ar, li, out, rho) (Po lv fr fi ai ar li out (some (vI r)) rho9) NX
  refine wp_iload_n dX9_policyPlace_0 rfl ?_
  refine wp_iconst (v := (-1)) dX9_policyPlace_1 (by decide) ?_
  refine wp_icmp_eq (tgt := 14) dX9_policyPlace_2 (by decide) (fun c1 => ?_) (fun c1 => ?_)
  · replace h := itp c1 h
    refine wp_iload_n dX9_policyPlace_14 rfl ?_
    refine wp_iconst (v := (-1)) dX9_policyPlace_15 (by decide) ?_
    refine wp_icmp_eq (tgt := 26) dX9_policyPlace_16 (by decide) (fun c2 => ?_) (fun c2 => ?_)
    · replace h := itp c2 h
      refine wp_bipush (v := 48) dX9_policyPlace_26 (by decide) ?_
      obtain ⟨q1, q2⟩ := sm_e h
      subst q1
      subst q2
      exact wp_ireturn rfl dX9_policyPlace_28 ⟨rfl, rfl⟩
    · replace h := itn c2 h
      refine wp_bipush (v := 42) dX9_policyPlace_19 (by decide) ?_
      refine wp_iload_n dX9_policyPlace_21 rfl ?_
      refine wp_iadd dX9_policyPlace_22 ?_
      refine wp_goto (tgt := 28) dX9_policyPlace_23 (by decide) ?_
      obtain ⟨q1, q2⟩ := sm_e h
      subst q1
      subst q2
      exact wp_ireturn rfl dX9_policyPlace_28 ⟨rfl, rfl⟩
  · replace h := itn c1 h
    refine wp_bipush (v := 6) dX9_policyPlace_5 (by decide) ?_
    refine wp_iload_n dX9_policyPlace_7 rfl ?_
    refine wp_imul dX9_policyPlace_8 ?_
    refine wp_iload_n dX9_policyPlace_9 rfl ?_
    refine wp_iadd dX9_policyPlace_10 ?_
    refine wp_goto (tgt := 28) dX9_policyPlace_11 (by decide) ?_
    obtain ⟨q1, q2⟩ := sm_e h
    subst q1
    subst q2
    exact wp_ireturn rfl dX9_policyPlace_28 ⟨rfl, rfl⟩
def b9_policy_92 (x1 x2 x3 x4 x5 s0 : Int32) (rho : RH) : Option (Int32 × RH) :=
  ob (f9_goes (x5) (s0) (1) rho) fun r1 rho2 =>
  if r1 = 0 then
    some (0, rho2)
  else
    ob (f9_policyPlace (x1) (x2) rho2) fun r5 rho6 =>
    if vq (((3 * r5) + x3)) 147 then
    wr (up2 rho6 15 (((3 * r5) + x3)).toNatClampNeg (x4)) fun rho9 =>
    some ((rho6 15 (((3 * r5) + x3)).toNatClampNeg), rho9)
    else none
theorem w9_policy_92 {r : Int32} {rho9 : RH} (hfr : RA fr) {x1 x2 x3 x4 x5 s0 : Int32} {l6 l7 l8 : Option sV} {rho : RH} (h : b9_policy_92 x1 x2 x3 x4 x5 s0 rho = some (r, rho9)) : WP mX9_policy 2 0 92 [some (vR 9 0), some (vI (x1)), some (vI (x2)), some (vI (x3)), some (vI (x4)), some (vI (x5)), l6, l7, l8] [vI (s0)] (lv, fr, fi, ai, ar, li, out, rho) (Po lv fr fi ai ar li out (some (vI r)) rho9) NX := by
  unfold b9_policy_92 at h
  refine wp_istore (L' := [some (vR 9 0), some (vI (x1)), some (vI (x2)), some (vI (x3)), some (vI (x4)), some (vI (x5)), some (vI (s0)), l7, l8]) dX9_policy_92 rfl rfl ?_
  refine wp_aload_n dX9_policy_94 rfl ?_
  refine wp_iload dX9_policy_95 rfl ?_
  refine wp_iload dX9_policy_97 rfl ?_
  refine wp_iconst (v := 1) dX9_policy_99 (by decide) ?_
  obtain ⟨r1, rho2, hp3, h⟩ := ob_e h
  refine wp_callV (k1 := 0) (k2 := 0) (As := [vI (x5), vI (s0), vI (1)]) (rest := []) (w9_goes hfr hp3) okX9_goes ivX9_goes rfl (by decide) ml_X9_203 dX9_policy_100 rfl (by decide) (Nat.le_refl _) rfl (Nat.le_of_ble_eq_true rfl) (fun _ _ z => z.elim) (fun r' S' z => ?_)
  obtain ⟨rfl, rfl⟩ := z
  show WP _ _ _ _ [some (vR 9 0), some (vI (x1)), some (vI (x2)), some (vI (x3)), some (vI (x4)), some (vI (x5)), some (vI (s0)), l7, l8] [vI (r1)] _ _ _
  refine wp_if_ne (tgt := 108) dX9_policy_103 (by decide) (fun c4 => ?_) (fun c4 => ?_)
  · replace h := itn c4 h
    refine wp_iconst (v := 3) dX9_policy_108 (by decide) ?_
    refine wp_iload_n dX9_policy_109 rfl ?_
    refine wp_iload_n dX9_policy_110 rfl ?_
    obtain ⟨r5, rho6, hp7, h⟩ := ob_e h
    refine wp_callS (k1 := 0) (k2 := 0) (As := [vI (x1), vI (x2)]) (rest := [vI (3)]) (w9_policyPlace hfr hp7) okX9_policyPlace sm_X9_policyPlace rfl ml_X9_213 dX9_policy_111 rfl (by decide) (Nat.le_refl _) rfl (Nat.le_of_ble_eq_true rfl) (fun _ _ z => z.elim) (fun r' S' z => ?_)
    obtain ⟨rfl, rfl⟩ := z
    show WP _ _ _ _ [some (vR 9 0), some (vI (x1)), some (vI (x2)), some (vI (x3)), some (vI (x4)), some (vI (x5)), some (vI (s0)), l7, l8] [vI (r5), vI (3)] _ _ _
    refine wp_imul dX9_policy_114 ?_
    refine wp_iload_n dX9_policy_115 rfl ?_
    refine wp_iadd dX9_policy_116 ?_
    refine wp_istore (L' := [some (vR 9 0), some (vI (x1)), some (vI (x2)), some (vI (x3)), some (vI (x4)), some (vI (x5)), some (vI (s0)), some (vI (((3 * r5) + x3))), l8]) dX9_policy_117 rfl rfl ?_
    refine wp_aload_n dX9_policy_119 rfl ?_
    refine wp_arrR (y := 15) (c := 215) hfr (by decide) rfl fl_X9_50 dX9_policy_120 ?_
    refine wp_iload dX9_policy_123 rfl ?_
    obtain ⟨c8, h⟩ := ock h
    refine wp_ialdR (c := 215) (y := 15) rfl rfl (show vp_in (((3 * r5) + x3)) (len 215) from c8) dX9_policy_125 ?_
    refine wp_istore (L' := [some (vR 9 0), some (vI (x1)), some (vI (x2)), some (vI (x3)), some (vI (x4)), some (vI (x5)), some (vI (s0)), some (vI (((3 * r5) + x3))), some (vI ((rho6 15 (((3 * r5) + x3)).toNatClampNeg)))]) dX9_policy_126 rfl rfl ?_
    refine wp_aload_n dX9_policy_128 rfl ?_
    refine wp_arrR (y := 15) (c := 215) hfr (by decide) rfl fl_X9_50 dX9_policy_129 ?_
    refine wp_iload dX9_policy_132 rfl ?_
    refine wp_iload dX9_policy_134 rfl ?_
    refine wp_iastR (c := 215) (y := 15) rfl rfl (show vp_in (((3 * r5) + x3)) (len 215) from c8) dX9_policy_136 ?_
    obtain ⟨rho9, e10, h⟩ := wr_e h
    rw [e10]
    refine wp_iload dX9_policy_137 rfl ?_
    obtain ⟨q1, q2⟩ := sm_e h
    subst q1
    subst q2
    exact wp_ireturn rfl dX9_policy_139 ⟨rfl, rfl⟩
  · replace h := itp c4 h
    refine wp_iconst (v := 0) dX9_policy_106 (by decide) ?_
    obtain ⟨q1, q2⟩ := sm_e h
    subst q1
    subst q2
    exact wp_ireturn rfl dX9_policy_107 ⟨rfl, rfl⟩
def b9_policy_61 (x1 x2 x3 x4 x5 s0 s1 : Int32) (rho : RH) : Option (Int32 × RH) :=
  if x3 = 0 then
    ob (f9_in (s0) (s1) (100) rho) fun r2 rho3 =>
    if r2 = 0 then
      b9_policy_92 (x1) (x2) (x3) (x4) (x5) (0) rho3
    else
      b9_policy_92 (x1) (x2) (x3) (x4) (x5) (1) rho3
  else
    if x3 = 1 then
      ob (f9_in (s0) (s1) (3) rho) fun r7 rho8 =>
      if r7 = 0 then
        b9_policy_92 (x1) (x2) (x3) (x4) (x5) (0) rho8
      else
        b9_policy_92 (x1) (x2) (x3) (x4) (x5) (1) rho8
    else
      ob (f9_in (s0) (s1) (50) rho) fun r11 rho12 =>
      if r11 = 0 then
        b9_policy_92 (x1) (x2) (x3) (x4) (x5) (0) rho12
      else
        b9_policy_92 (x1) (x2) (x3) (x4) (x5) (1) rho12
theorem w9_policy_61 {r : Int32} {rho9 : RH} (hfr : RA fr) {x1 x2 x3 x4 x5 s0 s1 : Int32} {l6 l7 l8 : Option sV} {rho : RH} (h : b9_policy_61 x1 x2 x3 x4 x5 s0 s1 rho = some (r, rho9)) : WP mX9_policy 2 0 61 [some (vR 9 0), some (vI (x1)), some (vI (x2)), some (vI (x3)), some (vI (x4)), some (vI (x5)), l6, l7, l8] [vI (s1), vI (s0)] (lv, fr, fi, ai, ar, li, out, rho) (Po lv fr fi ai ar li out (some (vI r)) rho9) NX := by
  unfold b9_policy_61 at h
  refine wp_iload_n dX9_policy_61 rfl ?_
  refine wp_if_ne (tgt := 70) dX9_policy_62 (by decide) (fun c1 => ?_) (fun c1 => ?_)
  · replace h := itn c1 h
    refine wp_iload_n dX9_policy_70 rfl ?_
    refine wp_iconst (v := 1) dX9_policy_71 (by decide) ?_
    refine wp_icmp_ne (tgt := 79) dX9_policy_72 (by decide) (fun c6 => ?_) (fun c6 => ?_)
    · replace h := itn c6 h
      refine wp_bipush (v := 50) dX9_policy_79 (by decide) ?_
      obtain ⟨r11, rho12, hp13, h⟩ := ob_e h
      refine wp_callS (k1 := 0) (k2 := 0) (As := [vI (s0), vI (s1), vI (50)]) (rest := []) (w9_in hfr hp13) okX9_in sm_X9_in rfl ml_X9_189 dX9_policy_81 rfl (by decide) (Nat.le_refl _) rfl (Nat.le_of_ble_eq_true rfl) (fun _ _ z => z.elim) (fun r' S' z => ?_)
      obtain ⟨rfl, rfl⟩ := z
      show WP _ _ _ _ [some (vR 9 0), some (vI (x1)), some (vI (x2)), some (vI (x3)), some (vI (x4)), some (vI (x5)), l6, l7, l8] [vI (r11)] _ _ _
      refine wp_if_eq (tgt := 91) dX9_policy_84 (by decide) (fun c14 => ?_) (fun c14 => ?_)
      · replace h := itp c14 h
        refine wp_iconst (v := 0) dX9_policy_91 (by decide) ?_
        exact w9_policy_92 hfr h
      · replace h := itn c14 h
        refine wp_iconst (v := 1) dX9_policy_87 (by decide) ?_
        refine wp_goto (tgt := 92) dX9_policy_88 (by decide) ?_
        exact w9_policy_92 hfr h
    · replace h := itp c6 h
      refine wp_iconst (v := 3) dX9_policy_75 (by decide) ?_
      refine wp_goto (tgt := 81) dX9_policy_76 (by decide) ?_
      obtain ⟨r7, rho8, hp9, h⟩ := ob_e h
      refine wp_callS (k1 := 0) (k2 := 0) (As := [vI (s0), vI (s1), vI (3)]) (rest := []) (w9_in hfr hp9) okX9_in sm_X9_in rfl ml_X9_189 dX9_policy_81 rfl (by decide) (Nat.le_refl _) rfl (Nat.le_of_ble_eq_true rfl) (fun _ _ z => z.elim) (fun r' S' z => ?_)
      obtain ⟨rfl, rfl⟩ := z
      show WP _ _ _ _ [some (vR 9 0), some (vI (x1)), some (vI (x2)), some (vI (x3)), some (vI (x4)), some (vI (x5)), l6, l7, l8] [vI (r7)] _ _ _
      refine wp_if_eq (tgt := 91) dX9_policy_84 (by decide) (fun c10 => ?_) (fun c10 => ?_)
      · replace h := itp c10 h
        refine wp_iconst (v := 0) dX9_policy_91 (by decide) ?_
        exact w9_policy_92 hfr h
      · replace h := itn c10 h
        refine wp_iconst (v := 1) dX9_policy_87 (by decide) ?_
        refine wp_goto (tgt := 92) dX9_policy_88 (by decide) ?_
        exact w9_policy_92 hfr h
  · replace h := itp c1 h
    refine wp_bipush (v := 100) dX9_policy_65 (by decide) ?_
    refine wp_goto (tgt := 81) dX9_policy_67 (by decide) ?_
    obtain ⟨r2, rho3, hp4, h⟩ := ob_e h
    refine wp_callS (k1 := 0) (k2 := 0) (As := [vI (s0), vI (s1), vI (100)]) (rest := []) (w9_in hfr hp4) okX9_in sm_X9_in rfl ml_X9_189 dX9_policy_81 rfl (by decide) (Nat.le_refl _) rfl (Nat.le_of_ble_eq_true rfl) (fun _ _ z => z.elim) (fun r' S' z => ?_)
    obtain ⟨rfl, rfl⟩ := z
    show WP _ _ _ _ [some (vR 9 0), some (vI (x1)), some (vI (x2)), some (vI (x3)), some (vI (x4)), some (vI (x5)), l6, l7, l8] [vI (r2)] _ _ _
    refine wp_if_eq (tgt := 91) dX9_policy_84 (by decide) (fun c5 => ?_) (fun c5 => ?_)
    · replace h := itp c5 h
      refine wp_iconst (v := 0) dX9_policy_91 (by decide) ?_
      exact w9_policy_92 hfr h
    · replace h := itn c5 h
      refine wp_iconst (v := 1) dX9_policy_87 (by decide) ?_
      refine wp_goto (tgt := 92) dX9_policy_88 (by decide) ?_
      exact w9_policy_92 hfr h
def b9_policy_41 (x1 x2 x3 x4 x5 : Int32) (rho : RH) : Option (Int32 × RH) :=
  ob (f9_in (x3) (0) (2) rho) fun r1 rho2 =>
  if r1 = 0 then
    b9_policy_92 (x1) (x2) (x3) (x4) (x5) (0) rho2
  else
    if x3 = 0 then
      b9_policy_61 (x1) (x2) (x3) (x4) (x5) (x4) (1) rho2
    else
      b9_policy_61 (x1) (x2) (x3) (x4) (x5) (x4) (0) rho2
theorem w9_policy_41 {r : Int32} {rho9 : RH} (hfr : RA fr) {x1 x2 x3 x4 x5 : Int32} {l6 l7 l8 : Option sV} {rho : RH} (h : b9_policy_41 x1 x2 x3 x4 x5 rho = some (r, rho9)) : WP mX9_policy 2 0 41 [some (vR 9 0), some (vI (x1)), some (vI (x2)), some (vI (x3)), some (vI (x4)), some (vI (x5)), l6, l7, l8] [] (lv, fr, fi, ai, ar, li, out, rho) (Po lv fr fi ai ar li out (some (vI r)) rho9) NX := by
  unfold b9_policy_41 at h
  refine wp_iload_n dX9_policy_41 rfl ?_
  refine wp_iconst (v := 0) dX9_policy_42 (by decide) ?_
  refine wp_iconst (v := 2) dX9_policy_43 (by decide) ?_
  obtain ⟨r1, rho2, hp3, h⟩ := ob_e h
  refine wp_callS (k1 := 0) (k2 := 0) (As := [vI (x3), vI (0), vI (2)]) (rest := []) (w9_in hfr hp3) okX9_in sm_X9_in rfl ml_X9_189 dX9_policy_44 rfl (by decide) (Nat.le_refl _) rfl (Nat.le_of_ble_eq_true rfl) (fun _ _ z => z.elim) (fun r' S' z => ?_)
  obtain ⟨rfl, rfl⟩ := z
  show WP _ _ _ _ [some (vR 9 0), some (vI (x1)), some (vI (x2)), some (vI (x3)), some (vI (x4)), some (vI (x5)), l6, l7, l8] [vI (r1)] _ _ _
  refine wp_if_eq (tgt := 91) dX9_policy_47 (by decide) (fun c4 => ?_) (fun c4 => ?_)
  · replace h := itp c4 h
    refine wp_iconst (v := 0) dX9_policy_91 (by decide) ?_
    exact w9_policy_92 hfr h
  · replace h := itn c4 h
    refine wp_iload dX9_policy_50 rfl ?_
    refine wp_iload_n dX9_policy_52 rfl ?_
    refine wp_if_ne (tgt := 60) dX9_policy_53 (by decide) (fun c5 => ?_) (fun c5 => ?_)
    · replace h := itn c5 h
      refine wp_iconst (v := 0) dX9_policy_60 (by decide) ?_
      exact w9_policy_61 hfr h
    · replace h := itp c5 h
      refine wp_iconst (v := 1) dX9_policy_56 (by decide) ?_
      refine wp_goto (tgt := 61) dX9_policy_57 (by decide) ?_
      exact w9_policy_61 hfr h
def b9_policy_29 (x1 x2 x3 x4 s0 : Int32) (rho : RH) : Option (Int32 × RH) :=
  if x1 = (-1) then
    b9_policy_41 (x1) (x2) (x3) (x4) (s0) rho
  else
    if x2 = (-1) then
      b9_policy_92 (x1) (x2) (x3) (x4) (s0) (0) rho
    else
      b9_policy_41 (x1) (x2) (x3) (x4) (s0) rho
theorem w9_policy_29 {r : Int32} {rho9 : RH} (hfr : RA fr) {x1 x2 x3 x4 s0 : Int32} {l5 l6 l7 l8 : Option sV} {rho : RH} (h : b9_policy_29 x1 x2 x3 x4 s0 rho = some (r, rho9)) : WP mX9_policy 2 0 29 [some (vR 9 0), some (vI (x1)), some (vI (x2)), some (vI (x3)), some (vI (x4)), l5, l6, l7, l8] [vI (s0)] (lv, fr, fi, ai, ar, li, out, rho) (Po lv fr fi ai ar li out (some (vI r)) rho9) NX := by
  unfold b9_policy_29 at h
  refine wp_istore (L' := [some (vR 9 0), some (vI (x1)), some (vI (x2)), some (vI (x3)), some (vI (x4)), some (vI (s0)), l6, l7, l8]) dX9_policy_29 rfl rfl ?_
  refine wp_iload_n dX9_policy_31 rfl ?_
  refine wp_iconst (v := (-1)) dX9_policy_32 (by decide) ?_
  refine wp_icmp_eq (tgt := 41) dX9_policy_33 (by decide) (fun c1 => ?_) (fun c1 => ?_)
  · replace h := itp c1 h
    exact w9_policy_41 hfr h
  · replace h := itn c1 h
    refine wp_iload_n dX9_policy_36 rfl ?_
    refine wp_iconst (v := (-1)) dX9_policy_37 (by decide) ?_
    refine wp_icmp_eq (tgt := 91) dX9_policy_38 (by decide) (fun c2 => ?_) (fun c2 => ?_)
    · replace h := itp c2 h
      refine wp_iconst (v := 0) dX9_policy_91 (by decide) ?_
      exact w9_policy_92 hfr h
    · replace h := itn c2 h
      exact w9_policy_41 hfr h
def b9_policy_12 (x1 x2 x3 x4 : Int32) (rho : RH) : Option (Int32 × RH) :=
  if x2 = (-1) then
    b9_policy_29 (x1) (x2) (x3) (x4) (1) rho
  else
    ob (f9_isService (x2) rho) fun r2 rho3 =>
    if r2 = 0 then
      b9_policy_29 (x1) (x2) (x3) (x4) (0) rho3
    else
      b9_policy_29 (x1) (x2) (x3) (x4) (1) rho3
theorem w9_policy_12 {r : Int32} {rho9 : RH} (hfr : RA fr) {x1 x2 x3 x4 : Int32} {l5 l6 l7 l8 : Option sV} {rho : RH} (h : b9_policy_12 x1 x2 x3 x4 rho = some (r, rho9)) : WP mX9_policy 2 0 12 [some (vR 9 0), some (vI (x1)), some (vI (x2)), some (vI (x3)), some (vI (x4)), l5, l6, l7, l8] [] (lv, fr, fi, ai, ar, li, out, rho) (Po lv fr fi ai ar li out (some (vI r)) rho9) NX := by
  unfold b9_policy_12 at h
  refine wp_iload_n dX9_policy_12 rfl ?_
  refine wp_iconst (v := (-1)) dX9_policy_13 (by decide) ?_
  refine wp_icmp_eq (tgt := 24) dX9_policy_14 (by decide) (fun c1 => ?_) (fun c1 => ?_)
  · replace h := itp c1 h
    refine wp_iconst (v := 1) dX9_policy_24 (by decide) ?_
    refine wp_goto (tgt := 29) dX9_policy_25 (by decide) ?_
    exact w9_policy_29 hfr h
  · replace h := itn c1 h
    refine wp_iload_n dX9_policy_17 rfl ?_
    obtain ⟨r2, rho3, hp4, h⟩ := ob_e h
    refine wp_callS (k1 := 0) (k2 := 0) (As := [vI (x2)]) (rest := []) (w9_isService hfr hp4) okX9_isService sm_X9_isService rfl ml_X9_199 dX9_policy_18 rfl (by decide) (Nat.le_refl _) rfl (Nat.le_of_ble_eq_true rfl) (fun _ _ z => z.elim) (fun r' S' z => ?_)
    obtain ⟨rfl, rfl⟩ := z
    show WP _ _ _ _ [some (vR 9 0), some (vI (x1)), some (vI (x2)), some (vI (x3)), some (vI (x4)), l5, l6, l7, l8] [vI (r2)] _ _ _
    refine wp_if_eq (tgt := 28) dX9_policy_21 (by decide) (fun c5 => ?_) (fun c5 => ?_)
    · replace h := itp c5 h
      refine wp_iconst (v := 0) dX9_policy_28 (by decide) ?_
      exact w9_policy_29 hfr h
    · replace h := itn c5 h
      refine wp_iconst (v := 1) dX9_policy_24 (by decide) ?_
      refine wp_goto (tgt := 29) dX9_policy_25 (by decide) ?_
      exact w9_policy_29 hfr h
def f9_policy (x1 x2 x3 x4 : Int32) (rho : RH) : Option (Int32 × RH) :=
  if x1 = (-1) then
    b9_policy_12 (x1) (x2) (x3) (x4) rho
  else
    ob (f9_isCaller (x1) rho) fun r2 rho3 =>
    if r2 = 0 then
      b9_policy_29 (x1) (x2) (x3) (x4) (0) rho3
    else
      b9_policy_12 (x1) (x2) (x3) (x4) rho3
theorem w9_policy {r : Int32} {rho9 : RH} (hfr : RA fr) {x1 x2 x3 x4 : Int32} {rho : RH} (h : f9_policy x1 x2 x3 x4 rho = some (r, rho9)) : Spec mX9_policy 2 0 [vR 9 0, vI x1, vI x2, vI x3, vI x4] (lv, fr, fi, ai, ar, li, out, rho) (Po lv fr fi ai ar li out (some (vI r)) rho9) NX := by
  unfold f9_policy at h
  refine spec_of (by decide) rfl (by simp [catS, cat1]) (Nat.le_of_ble_eq_true rfl) ?_
  show WP mX9_policy 2 0 0 [some (vR 9 0), some (vI (x1)), some (vI (x2)), some (vI (x3)), some (vI (x4)), none, none, none, none] [] (lv, fr, fi, ai, ar, li, out, rho) (Po lv fr fi ai ar li out (some (vI r)) rho9) NX
  refine wp_iload_n dX9_policy_0 rfl ?_
  refine wp_iconst (v := (-1)) dX9_policy_1 (by decide) ?_
  refine wp_icmp_eq (tgt := 12) dX9_policy_2 (by decide) (fun c1 => ?_) (fun c1 => ?_)
  · replace h := itp c1 h
    exact w9_policy_12 hfr h
  · replace h := itn c1 h
    refine wp_iload_n dX9_policy_5 rfl ?_
    obtain ⟨r2, rho3, hp4, h⟩ := ob_e h
    refine wp_callS (k1 := 0) (k2 := 0) (As := [vI (x1)]) (rest := []) (w9_isCaller hfr hp4) okX9_isCaller sm_X9_isCaller rfl ml_X9_210 dX9_policy_6 rfl (by decide) (Nat.le_refl _) rfl (Nat.le_of_ble_eq_true rfl) (fun _ _ z => z.elim) (fun r' S' z => ?_)
    obtain ⟨rfl, rfl⟩ := z
    show WP _ _ _ _ [some (vR 9 0), some (vI (x1)), some (vI (x2)), some (vI (x3)), some (vI (x4)), none, none, none, none] [vI (r2)] _ _ _
    refine wp_if_eq (tgt := 28) dX9_policy_9 (by decide) (fun c5 => ?_) (fun c5 => ?_)
    · replace h := itp c5 h
      refine wp_iconst (v := 0) dX9_policy_28 (by decide) ?_
      exact w9_policy_29 hfr h
    · replace h := itn c5 h
      exact w9_policy_12 hfr h
end S9
