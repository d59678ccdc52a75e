section S9
variable {lv : Nat → Nat → Bool} {fr : Nat → Nat → Option Nat} {fi : Nat → Nat → Int32} {ai : Nat → Nat → Nat → Int32} {ar : Nat → Nat → Nat → Option Nat} {li : Nat → Nat → List Nat} {out : Int64}
def f9_in (x0 x1 x2 : Int32) (rho : RH) : Option (Int32 × RH) :=
  if x0 < x1 then
    some (0, rho)
  else
    if x2 < x0 then
      some (0, rho)
    else
      some (1, rho)
theorem w9_in {r : Int32} {rho9 : RH} (hfr : RA fr) {x0 x1 x2 : Int32} {rho : RH} (h : f9_in x0 x1 x2 rho = some (r, rho9)) : Spec mX9_in 0 0 [vI x0, vI x1, vI x2] (lv, fr, fi, ai, ar, li, out, rho) (Po lv fr fi ai ar li out (some (vI r)) rho9) NX := by
  unfold f9_in at h
  refine spec_of (by decide) rfl (by simp [catS, cat1]) (Nat.le_of_ble_eq_true rfl) ?_
  show WP mX9_in 0 0 0 [some (vI (x0)), some (vI (x1)), some (vI (x2))] [] (lv, fr, fi, ai, ar, li, out, rho) (Po lv fr fi ai ar li out (some (vI r)) rho9) NX
  refine wp_iload_n dX9_in_0 rfl ?_
  refine wp_iload_n dX9_in_1 rfl ?_
  refine wp_icmp_lt (tgt := 14) dX9_in_2 (by decide) (fun c1 => ?_) (fun c1 => ?_)
  · replace h := itp c1 h
    refine wp_iconst (v := 0) dX9_in_14 (by decide) ?_
    obtain ⟨q1, q2⟩ := sm_e h
    subst q1
    subst q2
    exact wp_zreturn rfl (by decide) dX9_in_15 ⟨rfl, rfl⟩
  · replace h := itn c1 h
    refine wp_iload_n dX9_in_5 rfl ?_
    refine wp_iload_n dX9_in_6 rfl ?_
    refine wp_icmp_gt (tgt := 14) dX9_in_7 (by decide) (fun c2 => ?_) (fun c2 => ?_)
    · replace h := itp c2 h
      refine wp_iconst (v := 0) dX9_in_14 (by decide) ?_
      obtain ⟨q1, q2⟩ := sm_e h
      subst q1
      subst q2
      exact wp_zreturn rfl (by decide) dX9_in_15 ⟨rfl, rfl⟩
    · replace h := itn c2 h
      refine wp_iconst (v := 1) dX9_in_10 (by decide) ?_
      refine wp_goto (tgt := 15) dX9_in_11 (by decide) ?_
      obtain ⟨q1, q2⟩ := sm_e h
      subst q1
      subst q2
      exact wp_zreturn rfl (by decide) dX9_in_15 ⟨rfl, rfl⟩
def f9_isService (x0 : Int32) (rho : RH) : Option (Int32 × RH) :=
  ob (f9_in (x0) (0) (5) rho) fun r1 rho2 =>
  if r1 = 0 ∨ r1 = 1 then
  some (r1, rho2)
  else none
theorem w9_isService {r : Int32} {rho9 : RH} (hfr : RA fr) {x0 : Int32} {rho : RH} (h : f9_isService x0 rho = some (r, rho9)) : Spec mX9_isService 1 0 [vI x0] (lv, fr, fi, ai, ar, li, out, rho) (Po lv fr fi ai ar li out (some (vI r)) rho9) NX := by
  unfold f9_isService at h
  refine spec_of (by decide) rfl (by simp [catS, cat1]) (Nat.le_of_ble_eq_true rfl) ?_
  show WP mX9_isService 1 0 0 [some (vI (x0))] [] (lv, fr, fi, ai, ar, li, out, rho) (Po lv fr fi ai ar li out (some (vI r)) rho9) NX
  refine wp_iload_n dX9_isService_0 rfl ?_
  refine wp_iconst (v := 0) dX9_isService_1 (by decide) ?_
  refine wp_iconst (v := 5) dX9_isService_2 (by decide) ?_
  obtain ⟨r1, rho2, hp3, h⟩ := ob_e h
  refine wp_callS (k1 := 0) (k2 := 0) (As := [vI (x0), vI (0), vI (5)]) (rest := []) (w9_in hfr hp3) okX9_in sm_X9_in rfl ml_X9_189 dX9_isService_3 rfl (by decide) (Nat.le_refl _) rfl (Nat.le_of_ble_eq_true rfl) (fun _ _ z => z.elim) (fun r' S' z => ?_)
  obtain ⟨rfl, rfl⟩ := z
  show WP _ _ _ _ [some (vI (x0))] [vI (r1)] _ _ _
  obtain ⟨c4, h⟩ := ock h
  obtain ⟨q1, q2⟩ := sm_e h
  subst q1
  subst q2
  exact wp_zreturn rfl c4 dX9_isService_6 ⟨rfl, rfl⟩
def f9_goes (x1 x2 x3 : Int32) (rho : RH) : Option (Int32 × RH) :=
  if x1 = 0 then
    wr (up2 rho 64 0 (1)) fun rho2 =>
    if (rho2 64 0) = 0 then
      some (1, rho2)
    else
      some (0, rho2)
  else
    if x2 = 0 then
      wr (up2 rho 64 0 (2)) fun rho6 =>
      if (rho6 64 0) = 0 then
        some (1, rho6)
      else
        some (0, rho6)
    else
      if x3 = 0 then
        wr (up2 rho 64 0 (3)) fun rho10 =>
        if (rho10 64 0) = 0 then
          some (1, rho10)
        else
          some (0, rho10)
      else
        wr (up2 rho 64 0 (0)) fun rho13 =>
        if (rho13 64 0) = 0 then
          some (1, rho13)
        else
          some (0, rho13)
theorem w9_goes {r : Int32} {rho9 : RH} (hfr : RA fr) {x1 x2 x3 : Int32} {rho : RH} (h : f9_goes x1 x2 x3 rho = some (r, rho9)) : Spec mX9_goes 0 0 [vR 9 0, vI x1, vI x2, vI x3] (lv, fr, fi, ai, ar, li, out, rho) (Po lv fr fi ai ar li out (some (vI r)) rho9) NX := by
  unfold f9_goes at h
  refine spec_of (by decide) rfl (by simp [catS, cat1]) (Nat.le_of_ble_eq_true rfl) ?_
  show WP mX9_goes 0 0 0 [some (vR 9 0), some (vI (x1)), some (vI (x2)), some (vI (x3))] [] (lv, fr, fi, ai, ar, li, out, rho) (Po lv fr fi ai ar li out (some (vI r)) rho9) NX
  refine wp_aload_n dX9_goes_0 rfl ?_
  refine wp_iload_n dX9_goes_1 rfl ?_
  refine wp_if_ne (tgt := 9) dX9_goes_2 (by decide) (fun c1 => ?_) (fun c1 => ?_)
  · replace h := itn c1 h
    refine wp_iload_n dX9_goes_9 rfl ?_
    refine wp_if_ne (tgt := 17) dX9_goes_10 (by decide) (fun c5 => ?_) (fun c5 => ?_)
    · replace h := itn c5 h
      refine wp_iload_n dX9_goes_17 rfl ?_
      refine wp_if_ne (tgt := 25) dX9_goes_18 (by decide) (fun c9 => ?_) (fun c9 => ?_)
      · replace h := itn c9 h
        refine wp_iconst (v := 0) dX9_goes_25 (by decide) ?_
        refine wp_putRI (y := 64) (by decide) rfl rfl fl_X9_186 dX9_goes_26 rfl ?_
        obtain ⟨rho13, e14, h⟩ := wr_e h
        rw [e14]
        refine wp_aload_n dX9_goes_29 rfl ?_
        refine wp_getRI (y := 64) (by decide) rfl fl_X9_186 dX9_goes_30 ?_
        refine wp_if_ne (tgt := 40) dX9_goes_33 (by decide) (fun c15 => ?_) (fun c15 => ?_)
        · replace h := itn c15 h
          refine wp_iconst (v := 0) dX9_goes_40 (by decide) ?_
          obtain ⟨q1, q2⟩ := sm_e h
          subst q1
          subst q2
          exact wp_zreturn rfl (by decide) dX9_goes_41 ⟨rfl, rfl⟩
        · replace h := itp c15 h
          refine wp_iconst (v := 1) dX9_goes_36 (by decide) ?_
          refine wp_goto (tgt := 41) dX9_goes_37 (by decide) ?_
          obtain ⟨q1, q2⟩ := sm_e h
          subst q1
          subst q2
          exact wp_zreturn rfl (by decide) dX9_goes_41 ⟨rfl, rfl⟩
      · replace h := itp c9 h
        refine wp_iconst (v := 3) dX9_goes_21 (by decide) ?_
        refine wp_goto (tgt := 26) dX9_goes_22 (by decide) ?_
        refine wp_putRI (y := 64) (by decide) rfl rfl fl_X9_186 dX9_goes_26 rfl ?_
        obtain ⟨rho10, e11, h⟩ := wr_e h
        rw [e11]
        refine wp_aload_n dX9_goes_29 rfl ?_
        refine wp_getRI (y := 64) (by decide) rfl fl_X9_186 dX9_goes_30 ?_
        refine wp_if_ne (tgt := 40) dX9_goes_33 (by decide) (fun c12 => ?_) (fun c12 => ?_)
        · replace h := itn c12 h
          refine wp_iconst (v := 0) dX9_goes_40 (by decide) ?_
          obtain ⟨q1, q2⟩ := sm_e h
          subst q1
          subst q2
          exact wp_zreturn rfl (by decide) dX9_goes_41 ⟨rfl, rfl⟩
        · replace h := itp c12 h
          refine wp_iconst (v := 1) dX9_goes_36 (by decide) ?_
          refine wp_goto (tgt := 41) dX9_goes_37 (by decide) ?_
          obtain ⟨q1, q2⟩ := sm_e h
          subst q1
          subst q2
          exact wp_zreturn rfl (by decide) dX9_goes_41 ⟨rfl, rfl⟩
    · replace h := itp c5 h
      refine wp_iconst (v := 2) dX9_goes_13 (by decide) ?_
      refine wp_goto (tgt := 26) dX9_goes_14 (by decide) ?_
      refine wp_putRI (y := 64) (by decide) rfl rfl fl_X9_186 dX9_goes_26 rfl ?_
      obtain ⟨rho6, e7, h⟩ := wr_e h
      rw [e7]
      refine wp_aload_n dX9_goes_29 rfl ?_
      refine wp_getRI (y := 64) (by decide) rfl fl_X9_186 dX9_goes_30 ?_
      refine wp_if_ne (tgt := 40) dX9_goes_33 (by decide) (fun c8 => ?_) (fun c8 => ?_)
      · replace h := itn c8 h
        refine wp_iconst (v := 0) dX9_goes_40 (by decide) ?_
        obtain ⟨q1, q2⟩ := sm_e h
        subst q1
        subst q2
        exact wp_zreturn rfl (by decide) dX9_goes_41 ⟨rfl, rfl⟩
      · replace h := itp c8 h
        refine wp_iconst (v := 1) dX9_goes_36 (by decide) ?_
        refine wp_goto (tgt := 41) dX9_goes_37 (by decide) ?_
        obtain ⟨q1, q2⟩ := sm_e h
        subst q1
        subst q2
        exact wp_zreturn rfl (by decide) dX9_goes_41 ⟨rfl, rfl⟩
  · replace h := itp c1 h
    refine wp_iconst (v := 1) dX9_goes_5 (by decide) ?_
    refine wp_goto (tgt := 26) dX9_goes_6 (by decide) ?_
    refine wp_putRI (y := 64) (by decide) rfl rfl fl_X9_186 dX9_goes_26 rfl ?_
    obtain ⟨rho2, e3, h⟩ := wr_e h
    rw [e3]
    refine wp_aload_n dX9_goes_29 rfl ?_
    refine wp_getRI (y := 64) (by decide) rfl fl_X9_186 dX9_goes_30 ?_
    refine wp_if_ne (tgt := 40) dX9_goes_33 (by decide) (fun c4 => ?_) (fun c4 => ?_)
    · replace h := itn c4 h
      refine wp_iconst (v := 0) dX9_goes_40 (by decide) ?_
      obtain ⟨q1, q2⟩ := sm_e h
      subst q1
      subst q2
      exact wp_zreturn rfl (by decide) dX9_goes_41 ⟨rfl, rfl⟩
    · replace h := itp c4 h
      refine wp_iconst (v := 1) dX9_goes_36 (by decide) ?_
      refine wp_goto (tgt := 41) dX9_goes_37 (by decide) ?_
      obtain ⟨q1, q2⟩ := sm_e h
      subst q1
      subst q2
      exact wp_zreturn rfl (by decide) dX9_goes_41 ⟨rfl, rfl⟩
def f9_work (x1 x2 : Int32) (rho : RH) : Option (Int32 × RH) :=
  ob (f9_isService (x1) rho) fun r1 rho2 =>
  ob (f9_in (x2) (0) (50) rho2) fun r4 rho5 =>
  ob (f9_goes (r1) (r4) (1) rho5) fun r7 rho8 =>
  if r7 = 0 then
    some (0, rho8)
  else
    if vq (x1) 6 then
    wr (up2 rho8 1 (x1).toNatClampNeg (x2)) fun rho12 =>
    some ((rho8 1 (x1).toNatClampNeg), rho12)
    else none
theorem w9_work {r : Int32} {rho9 : RH} (hfr : RA fr) {x1 x2 : Int32} {rho : RH} (h : f9_work x1 x2 rho = some (r, rho9)) : Spec mX9_work 2 0 [vR 9 0, vI x1, vI x2] (lv, fr, fi, ai, ar, li, out, rho) (Po lv fr fi ai ar li out (some (vI r)) rho9) NX := by
  unfold f9_work at h
  refine spec_of (by decide) rfl (by simp [catS, cat1]) (Nat.le_of_ble_eq_true rfl) ?_
  show WP mX9_work 2 0 0 [some (vR 9 0), some (vI (x1)), some (vI (x2)), none] [] (lv, fr, fi, ai, ar, li, out, rho) (Po lv fr fi ai ar li out (some (vI r)) rho9) NX
  refine wp_aload_n dX9_work_0 rfl ?_
  refine wp_iload_n dX9_work_1 rfl ?_
  obtain ⟨r1, rho2, hp3, h⟩ := ob_e h
  refine wp_callS (k1 := 0) (k2 := 0) (As := [vI (x1)]) (rest := [vR 9 0]) (w9_isService hfr hp3) okX9_isService sm_X9_isService rfl ml_X9_199 dX9_work_2 rfl (by decide) (Nat.le_refl _) rfl (Nat.le_of_ble_eq_true rfl) (fun _ _ z => z.elim) (fun r' S' z => ?_)
  obtain ⟨rfl, rfl⟩ := z
  show WP _ _ _ _ [some (vR 9 0), some (vI (x1)), some (vI (x2)), none] [vI (r1), vR 9 0] _ _ _
  refine wp_iload_n dX9_work_5 rfl ?_
  refine wp_iconst (v := 0) dX9_work_6 (by decide) ?_
  refine wp_bipush (v := 50) dX9_work_7 (by decide) ?_
  obtain ⟨r4, rho5, hp6, h⟩ := ob_e h
  refine wp_callS (k1 := 0) (k2 := 0) (As := [vI (x2), vI (0), vI (50)]) (rest := [vI (r1), vR 9 0]) (w9_in hfr hp6) okX9_in sm_X9_in rfl ml_X9_189 dX9_work_9 rfl (by decide) (Nat.le_refl _) rfl (Nat.le_of_ble_eq_true rfl) (fun _ _ z => z.elim) (fun r' S' z => ?_)
  obtain ⟨rfl, rfl⟩ := z
  show WP _ _ _ _ [some (vR 9 0), some (vI (x1)), some (vI (x2)), none] [vI (r4), vI (r1), vR 9 0] _ _ _
  refine wp_iconst (v := 1) dX9_work_12 (by decide) ?_
  obtain ⟨r7, rho8, hp9, h⟩ := ob_e h
  refine wp_callV (k1 := 0) (k2 := 0) (As := [vI (r1), vI (r4), vI (1)]) (rest := []) (w9_goes hfr hp9) okX9_goes ivX9_goes rfl (by decide) ml_X9_203 dX9_work_13 rfl (by decide) (Nat.le_refl _) rfl (Nat.le_of_ble_eq_true rfl) (fun _ _ z => z.elim) (fun r' S' z => ?_)
  obtain ⟨rfl, rfl⟩ := z
  show WP _ _ _ _ [some (vR 9 0), some (vI (x1)), some (vI (x2)), none] [vI (r7)] _ _ _
  refine wp_if_ne (tgt := 21) dX9_work_16 (by decide) (fun c10 => ?_) (fun c10 => ?_)
  · replace h := itn c10 h
    refine wp_aload_n dX9_work_21 rfl ?_
    refine wp_arrR (y := 1) (c := 201) hfr (by decide) rfl fl_X9_7 dX9_work_22 ?_
    refine wp_iload_n dX9_work_25 rfl ?_
    obtain ⟨c11, h⟩ := ock h
    refine wp_ialdR (c := 201) (y := 1) rfl rfl (show vp_in (x1) (len 201) from c11) dX9_work_26 ?_
    refine wp_istore_n (L' := [some (vR 9 0), some (vI (x1)), some (vI (x2)), some (vI ((rho8 1 (x1).toNatClampNeg)))]) dX9_work_27 rfl rfl ?_
    refine wp_aload_n dX9_work_28 rfl ?_
    refine wp_arrR (y := 1) (c := 201) hfr (by decide) rfl fl_X9_7 dX9_work_29 ?_
    refine wp_iload_n dX9_work_32 rfl ?_
    refine wp_iload_n dX9_work_33 rfl ?_
    refine wp_iastR (c := 201) (y := 1) rfl rfl (show vp_in (x1) (len 201) from c11) dX9_work_34 ?_
    obtain ⟨rho12, e13, h⟩ := wr_e h
    rw [e13]
    refine wp_iload_n dX9_work_35 rfl ?_
    obtain ⟨q1, q2⟩ := sm_e h
    subst q1
    subst q2
    exact wp_ireturn rfl dX9_work_36 ⟨rfl, rfl⟩
  · replace h := itp c10 h
    refine wp_iconst (v := 0) dX9_work_19 (by decide) ?_
    obtain ⟨q1, q2⟩ := sm_e h
    subst q1
    subst q2
    exact wp_ireturn rfl dX9_work_20 ⟨rfl, rfl⟩
def f9_isInstance (x1 : Int32) (rho : RH) : Option (Int32 × RH) :=
  ob (f9_in (x1) (0) (((rho 6 0) - 1)) rho) fun r1 rho2 =>
  if r1 = 0 ∨ r1 = 1 then
  some (r1, rho2)
  else none
theorem w9_isInstance {r : Int32} {rho9 : RH} (hfr : RA fr) {x1 : Int32} {rho : RH} (h : f9_isInstance x1 rho = some (r, rho9)) : Spec mX9_isInstance 1 0 [vR 9 0, vI x1] (lv, fr, fi, ai, ar, li, out, rho) (Po lv fr fi ai ar li out (some (vI r)) rho9) NX := by
  unfold f9_isInstance at h
  refine spec_of (by decide) rfl (by simp [catS, cat1]) (Nat.le_of_ble_eq_true rfl) ?_
  show WP mX9_isInstance 1 0 0 [some (vR 9 0), some (vI (x1))] [] (lv, fr, fi, ai, ar, li, out, rho) (Po lv fr fi ai ar li out (some (vI r)) rho9) NX
  refine wp_iload_n dX9_isInstance_0 rfl ?_
  refine wp_iconst (v := 0) dX9_isInstance_1 (by decide) ?_
  refine wp_aload_n dX9_isInstance_2 rfl ?_
  refine wp_getRI (y := 6) (by decide) rfl fl_X9_193 dX9_isInstance_3 ?_
  refine wp_iconst (v := 1) dX9_isInstance_6 (by decide) ?_
  refine wp_isub dX9_isInstance_7 ?_
  obtain ⟨r1, rho2, hp3, h⟩ := ob_e h
  refine wp_callS (k1 := 0) (k2 := 0) (As := [vI (x1), vI (0), vI (((rho 6 0) - 1))]) (rest := []) (w9_in hfr hp3) okX9_in sm_X9_in rfl ml_X9_189 dX9_isInstance_8 rfl (by decide) (Nat.le_refl _) rfl (Nat.le_of_ble_eq_true rfl) (fun _ _ z => z.elim) (fun r' S' z => ?_)
  obtain ⟨rfl, rfl⟩ := z
  show WP _ _ _ _ [some (vR 9 0), some (vI (x1))] [vI (r1)] _ _ _
  obtain ⟨c4, h⟩ := ock h
  obtain ⟨q1, q2⟩ := sm_e h
  subst q1
  subst q2
  exact wp_zreturn rfl c4 dX9_isInstance_11 ⟨rfl, rfl⟩
def f9_isCaller (x0 : Int32) (rho : RH) : Option (Int32 × RH) :=
  ob (f9_in (x0) (0) (6) rho) fun r1 rho2 =>
  if r1 = 0 ∨ r1 = 1 then
  some (r1, rho2)
  else none
theorem w9_isCaller {r : Int32} {rho9 : RH} (hfr : RA fr) {x0 : Int32} {rho : RH} (h : f9_isCaller x0 rho = some (r, rho9)) : Spec mX9_isCaller 1 0 [vI x0] (lv, fr, fi, ai, ar, li, out, rho) (Po lv fr fi ai ar li out (some (vI r)) rho9) NX := by
  unfold f9_isCaller at h
  refine spec_of (by decide) rfl (by simp [catS, cat1]) (Nat.le_of_ble_eq_true rfl) ?_
  show WP mX9_isCaller 1 0 0 [some (vI (x0))] [] (lv, fr, fi, ai, ar, li, out, rho) (Po lv fr fi ai ar li out (some (vI r)) rho9) NX
  refine wp_iload_n dX9_isCaller_0 rfl ?_
  refine wp_iconst (v := 0) dX9_isCaller_1 (by decide) ?_
  refine wp_bipush (v := 6) dX9_isCaller_2 (by decide) ?_
  obtain ⟨r1, rho2, hp3, h⟩ := ob_e h
  refine wp_callS (k1 := 0) (k2 := 0) (As := [vI (x0), vI (0), vI (6)]) (rest := []) (w9_in hfr hp3) okX9_in sm_X9_in rfl ml_X9_189 dX9_isCaller_4 rfl (by decide) (Nat.le_refl _) rfl (Nat.le_of_ble_eq_true rfl) (fun _ _ z => z.elim) (fun r' S' z => ?_)
  obtain ⟨rfl, rfl⟩ := z
  show WP _ _ _ _ [some (vI (x0))] [vI (r1)] _ _ _
  obtain ⟨c4, h⟩ := ock h
  obtain ⟨q1, q2⟩ := sm_e h
  subst q1
  subst q2
  exact wp_zreturn rfl c4 dX9_isCaller_7 ⟨rfl, rfl⟩
def f9_hasEnded (x1 : Int32) (rho : RH) : Option (Int32 × RH) :=
  if vq (x1) 400 then
  if (rho 37 (x1).toNatClampNeg) ≤ 2 then
    some (0, rho)
  else
    some (1, rho)
  else none
theorem w9_hasEnded {r : Int32} {rho9 : RH} (hfr : RA fr) {x1 : Int32} {rho : RH} (h : f9_hasEnded x1 rho = some (r, rho9)) : Spec mX9_hasEnded 0 0 [vR 9 0, vI x1] (lv, fr, fi, ai, ar, li, out, rho) (Po lv fr fi ai ar li out (some (vI r)) rho9) NX := by
  unfold f9_hasEnded at h
  refine spec_of (by decide) rfl (by simp [catS, cat1]) (Nat.le_of_ble_eq_true rfl) ?_
  show WP mX9_hasEnded 0 0 0 [some (vR 9 0), some (vI (x1))] [] (lv, fr, fi, ai, ar, li, out, rho) (Po lv fr fi ai ar li out (some (vI r)) rho9) NX
  refine wp_aload_n dX9_hasEnded_0 rfl ?_
  refine wp_arrR (y := 37) (c := 237) hfr (by decide) rfl fl_X9_114 dX9_hasEnded_1 ?_
  refine wp_iload_n dX9_hasEnded_4 rfl ?_
  obtain ⟨c1, h⟩ := ock h
  refine wp_ialdR (c := 237) (y := 37) rfl rfl (show vp_in (x1) (len 237) from c1) dX9_hasEnded_5 ?_
  refine wp_iconst (v := 2) dX9_hasEnded_6 (by decide) ?_
  refine wp_icmp_le (tgt := 14) dX9_hasEnded_7 (by decide) (fun c2 => ?_) (fun c2 => ?_)
  · replace h := itp c2 h
    refine wp_iconst (v := 0) dX9_hasEnded_14 (by decide) ?_
    obtain ⟨q1, q2⟩ := sm_e h
    subst q1
    subst q2
    exact wp_zreturn rfl (by decide) dX9_hasEnded_15 ⟨rfl, rfl⟩
  · replace h := itn c2 h
    refine wp_iconst (v := 1) dX9_hasEnded_10 (by decide) ?_
    refine wp_goto (tgt := 15) dX9_hasEnded_11 (by decide) ?_
    obtain ⟨q1, q2⟩ := sm_e h
    subst q1
    subst q2
    exact wp_zreturn rfl (by decide) dX9_hasEnded_15 ⟨rfl, rfl⟩
def l9_countOf_6 : Nat → Int32 → Int32 → Int32 → Int32 → Int32 → RH → Option (Int32 × RH)
  | 0, _, _, _, _, _, _ => none
  | n + 1, x1, x2, x3, x4, x5, rho =>
  if (rho 31 0) ≤ x5 then
    some (x4, rho)
  else
    if vq (x5) 400 then
    if (rho 36 (x5).toNatClampNeg) = x1 then
      ob (f9_in ((rho 37 (x5).toNatClampNeg)) (x2) (x3) rho) fun r4 rho5 =>
      if r4 = 0 then
        l9_countOf_6 n (x1) (x2) (x3) ((x4 + 0)) (x5 + 1) rho5
      else
        l9_countOf_6 n (x1) (x2) (x3) ((x4 + 1)) (x5 + 1) rho5
    else
      l9_countOf_6 n (x1) (x2) (x3) ((x4 + 0)) (x5 + 1) rho
    else none
theorem w9_countOf_6 {r : Int32} {rho9 : RH} (hfr : RA fr) : ∀ (n : Nat) {x1 x2 x3 x4 x5 : Int32} {rho : RH}, l9_countOf_6 n x1 x2 x3 x4 x5 rho = some (r, rho9) → WP mX9_countOf 1 0 6 [some (vR 9 0), some (vI (x1)), some (vI (x2)), some (vI (x3)), some (vI (x4)), some (vI (x5))] [] (lv, fr, fi, ai, ar, li, out, rho) (Po lv fr fi ai ar li out (some (vI r)) rho9) NX := by
  intro n
  induction n with
  | zero =>
    intro x1 x2 x3 x4 x5 rho h
    rw [l9_countOf_6] at h
    cases h
  | succ n ih =>
    intro x1 x2 x3 x4 x5 rho h
    rw [l9_countOf_6] at h
    refine wp_iload dX9_countOf_6 rfl ?_
    refine wp_aload_n dX9_countOf_8 rfl ?_
    refine wp_getRI (y := 31) (by decide) rfl fl_X9_217 dX9_countOf_9 ?_
    refine wp_icmp_ge (tgt := 57) dX9_countOf_12 (by decide) (fun c1 => ?_) (fun c1 => ?_)
    · replace h := itp c1 h
      refine wp_iload dX9_countOf_57 rfl ?_
      obtain ⟨q1, q2⟩ := sm_e h
      subst q1
      subst q2
      exact wp_ireturn rfl dX9_countOf_59 ⟨rfl, rfl⟩
    · replace h := itn c1 h
      refine wp_iload dX9_countOf_15 rfl ?_
      refine wp_aload_n dX9_countOf_17 rfl ?_
      refine wp_arrR (y := 36) (c := 236) hfr (by decide) rfl fl_X9_111 dX9_countOf_18 ?_
      refine wp_iload dX9_countOf_21 rfl ?_
      obtain ⟨c2, h⟩ := ock h
      refine wp_ialdR (c := 236) (y := 36) rfl rfl (show vp_in (x5) (len 236) from c2) dX9_countOf_23 ?_
      refine wp_iload_n dX9_countOf_24 rfl ?_
      refine wp_icmp_ne (tgt := 47) dX9_countOf_25 (by decide) (fun c3 => ?_) (fun c3 => ?_)
      · replace h := itn c3 h
        refine wp_iconst (v := 0) dX9_countOf_47 (by decide) ?_
        refine wp_iadd dX9_countOf_48 ?_
        refine wp_istore (L' := [some (vR 9 0), some (vI (x1)), some (vI (x2)), some (vI (x3)), some (vI ((x4 + 0))), some (vI (x5))]) dX9_countOf_49 rfl rfl ?_
        refine wp_iinc (v := x5 + 1) (L' := [some (vR 9 0), some (vI (x1)), some (vI (x2)), some (vI (x3)), some (vI ((x4 + 0))), some (vI (x5 + 1))]) dX9_countOf_51 rfl rfl rfl ?_
        refine wp_goto (tgt := 6) dX9_countOf_54 (by decide) ?_
        exact ih h
      · replace h := itp c3 h
        refine wp_aload_n dX9_countOf_28 rfl ?_
        refine wp_arrR (y := 37) (c := 237) hfr (by decide) rfl fl_X9_114 dX9_countOf_29 ?_
        refine wp_iload dX9_countOf_32 rfl ?_
        refine wp_ialdR (c := 237) (y := 37) rfl rfl (show vp_in (x5) (len 237) from c2) dX9_countOf_34 ?_
        refine wp_iload_n dX9_countOf_35 rfl ?_
        refine wp_iload_n dX9_countOf_36 rfl ?_
        obtain ⟨r4, rho5, hp6, h⟩ := ob_e h
        refine wp_callS (k1 := 0) (k2 := 0) (As := [vI ((rho 37 (x5).toNatClampNeg)), vI (x2), vI (x3)]) (rest := [vI (x4)]) (w9_in hfr hp6) okX9_in sm_X9_in rfl ml_X9_189 dX9_countOf_37 rfl (by decide) (Nat.le_refl _) rfl (Nat.le_of_ble_eq_true rfl) (fun _ _ z => z.elim) (fun r' S' z => ?_)
        obtain ⟨rfl, rfl⟩ := z
        show WP _ _ _ _ [some (vR 9 0), some (vI (x1)), some (vI (x2)), some (vI (x3)), some (vI (x4)), some (vI (x5))] [vI (r4), vI (x4)] _ _ _
        refine wp_if_eq (tgt := 47) dX9_countOf_40 (by decide) (fun c7 => ?_) (fun c7 => ?_)
        · replace h := itp c7 h
          refine wp_iconst (v := 0) dX9_countOf_47 (by decide) ?_
          refine wp_iadd dX9_countOf_48 ?_
          refine wp_istore (L' := [some (vR 9 0), some (vI (x1)), some (vI (x2)), some (vI (x3)), some (vI ((x4 + 0))), some (vI (x5))]) dX9_countOf_49 rfl rfl ?_
          refine wp_iinc (v := x5 + 1) (L' := [some (vR 9 0), some (vI (x1)), some (vI (x2)), some (vI (x3)), some (vI ((x4 + 0))), some (vI (x5 + 1))]) dX9_countOf_51 rfl rfl rfl ?_
          refine wp_goto (tgt := 6) dX9_countOf_54 (by decide) ?_
          exact ih h
        · replace h := itn c7 h
          refine wp_iconst (v := 1) dX9_countOf_43 (by decide) ?_
          refine wp_goto (tgt := 48) dX9_countOf_44 (by decide) ?_
          refine wp_iadd dX9_countOf_48 ?_
          refine wp_istore (L' := [some (vR 9 0), some (vI (x1)), some (vI (x2)), some (vI (x3)), some (vI ((x4 + 1))), some (vI (x5))]) dX9_countOf_49 rfl rfl ?_
          refine wp_iinc (v := x5 + 1) (L' := [some (vR 9 0), some (vI (x1)), some (vI (x2)), some (vI (x3)), some (vI ((x4 + 1))), some (vI (x5 + 1))]) dX9_countOf_51 rfl rfl rfl ?_
          refine wp_goto (tgt := 6) dX9_countOf_54 (by decide) ?_
          exact ih h
def f9_countOf (x1 x2 x3 : Int32) (rho : RH) : Option (Int32 × RH) :=
  l9_countOf_6 FU (x1) (x2) (x3) (0) (0) rho
theorem w9_countOf {r : Int32} {rho9 : RH} (hfr : RA fr) {x1 x2 x3 : Int32} {rho : RH} (h : f9_countOf x1 x2 x3 rho = some (r, rho9)) : Spec mX9_countOf 1 0 [vR 9 0, vI x1, vI x2, vI x3] (lv, fr, fi, ai, ar, li, out, rho) (Po lv fr fi ai ar li out (some (vI r)) rho9) NX := by
  unfold f9_countOf at h
  refine spec_of (by decide) rfl (by simp [catS, cat1]) (Nat.le_of_ble_eq_true rfl) ?_
  show WP mX9_countOf 1 0 0 [some (vR 9 0), some (vI (x1)), some (vI (x2)), some (vI (x3)), none, none] [] (lv, fr, fi, ai, ar, li, out, rho) (Po lv fr fi ai ar li out (some (vI r)) rho9) NX
  refine wp_iconst (v := 0) dX9_countOf_0 (by decide) ?_
  refine wp_istore (L' := [some (vR 9 0), some (vI (x1)), some (vI (x2)), some (vI (x3)), some (vI (0)), none]) dX9_countOf_1 rfl rfl ?_
  refine wp_iconst (v := 0) dX9_countOf_3 (by decide) ?_
  refine wp_istore (L' := [some (vR 9 0), some (vI (x1)), some (vI (x2)), some (vI (x3)), some (vI (0)), some (vI (0))]) dX9_countOf_4 rfl rfl ?_
  exact w9_countOf_6 hfr FU h
def f9_runs (x1 : Int32) (rho : RH) : Option (Int32 × RH) :=
  if vq (x1) 400 then
  wr (up2 rho 37 (x1).toNatClampNeg (1)) fun rho2 =>
  wr (up2 rho2 41 (x1).toNatClampNeg (1)) fun rho4 =>
  if vq ((rho4 34 (x1).toNatClampNeg)) 6 then
  if vq (((4 * (rho4 36 (x1).toNatClampNeg)) + 0)) 48 then
  if 1 ≤ ((rho4 1 ((rho4 34 (x1).toNatClampNeg)).toNatClampNeg) + (rho4 13 (((4 * (rho4 36 (x1).toNatClampNeg)) + 0)).toNatClampNeg)) then
    wr (up2 rho4 39 (x1).toNatClampNeg (((rho4 0 0) + ((rho4 1 ((rho4 34 (x1).toNatClampNeg)).toNatClampNeg) + (rho4 13 (((4 * (rho4 36 (x1).toNatClampNeg)) + 0)).toNatClampNeg))))) fun rho9 =>
    some (0, rho9)
  else
    wr (up2 rho4 39 (x1).toNatClampNeg (((rho4 0 0) + 1))) fun rho11 =>
    some (0, rho11)
  else none
  else none
  else none
theorem w9_runs {r : Int32} {rho9 : RH} (hfr : RA fr) {x1 : Int32} {rho : RH} (h : f9_runs x1 rho = some (r, rho9)) : Spec mX9_runs 0 0 [vR 9 0, vI x1] (lv, fr, fi, ai, ar, li, out, rho) (Po lv fr fi ai ar li out (none) rho9) NX := by
  unfold f9_runs at h
  refine spec_of (by decide) rfl (by simp [catS, cat1]) (Nat.le_of_ble_eq_true rfl) ?_
  show WP mX9_runs 0 0 0 [some (vR 9 0), some (vI (x1)), none] [] (lv, fr, fi, ai, ar, li, out, rho) (Po lv fr fi ai ar li out (none) rho9) NX
  refine wp_aload_n dX9_runs_0 rfl ?_
  refine wp_arrR (y := 37) (c := 237) hfr (by decide) rfl fl_X9_114 dX9_runs_1 ?_
  refine wp_iload_n dX9_runs_4 rfl ?_
  refine wp_iconst (v := 1) dX9_runs_5 (by decide) ?_
  obtain ⟨c1, h⟩ := ock h
  refine wp_iastR (c := 237) (y := 37) rfl rfl (show vp_in (x1) (len 237) from c1) dX9_runs_6 ?_
  obtain ⟨rho2, e3, h⟩ := wr_e h
  rw [e3]
  refine wp_aload_n dX9_runs_7 rfl ?_
  refine wp_arrR (y := 41) (c := 241) hfr (by decide) rfl fl_X9_126 dX9_runs_8 ?_
  refine wp_iload_n dX9_runs_11 rfl ?_
  refine wp_iconst (v := 1) dX9_runs_12 (by decide) ?_
  refine wp_bastR (c := 241) (y := 41) rfl rfl (show vp_in (x1) (len 241) from c1) (by decide) dX9_runs_13 ?_
  obtain ⟨rho4, e5, h⟩ := wr_e h
  rw [e5]
  refine wp_aload_n dX9_runs_14 rfl ?_
  refine wp_arrR (y := 1) (c := 201) hfr (by decide) rfl fl_X9_7 dX9_runs_15 ?_
  refine wp_aload_n dX9_runs_18 rfl ?_
  refine wp_arrR (y := 34) (c := 234) hfr (by decide) rfl fl_X9_105 dX9_runs_19 ?_
  refine wp_iload_n dX9_runs_22 rfl ?_
  refine wp_ialdR (c := 234) (y := 34) rfl rfl (show vp_in (x1) (len 234) from c1) dX9_runs_23 ?_
  obtain ⟨c6, h⟩ := ock h
  refine wp_ialdR (c := 201) (y := 1) rfl rfl (show vp_in ((rho4 34 (x1).toNatClampNeg)) (len 201) from c6) dX9_runs_24 ?_
  refine wp_aload_n dX9_runs_25 rfl ?_
  refine wp_arrR (y := 13) (c := 213) hfr (by decide) rfl fl_X9_44 dX9_runs_26 ?_
  refine wp_iconst (v := 4) dX9_runs_29 (by decide) ?_
  refine wp_aload_n dX9_runs_30 rfl ?_
  refine wp_arrR (y := 36) (c := 236) hfr (by decide) rfl fl_X9_111 dX9_runs_31 ?_
  refine wp_iload_n dX9_runs_34 rfl ?_
  refine wp_ialdR (c := 236) (y := 36) rfl rfl (show vp_in (x1) (len 236) from c1) dX9_runs_35 ?_
  refine wp_imul dX9_runs_36 ?_
  refine wp_iconst (v := 0) dX9_runs_37 (by decide) ?_
  refine wp_iadd dX9_runs_38 ?_
  obtain ⟨c7, h⟩ := ock h
  refine wp_ialdR (c := 213) (y := 13) rfl rfl (show vp_in (((4 * (rho4 36 (x1).toNatClampNeg)) + 0)) (len 213) from c7) dX9_runs_39 ?_
  refine wp_iadd dX9_runs_40 ?_
  refine wp_istore_n (L' := [some (vR 9 0), some (vI (x1)), some (vI (((rho4 1 ((rho4 34 (x1).toNatClampNeg)).toNatClampNeg) + (rho4 13 (((4 * (rho4 36 (x1).toNatClampNeg)) + 0)).toNatClampNeg))))]) dX9_runs_41 rfl rfl ?_
  refine wp_aload_n dX9_runs_42 rfl ?_
  refine wp_arrR (y := 39) (c := 239) hfr (by decide) rfl fl_X9_120 dX9_runs_43 ?_
  refine wp_iload_n dX9_runs_46 rfl ?_
  refine wp_aload_n dX9_runs_47 rfl ?_
  refine wp_getRI (y := 0) (by decide) rfl fl_X9_220 dX9_runs_48 ?_
  refine wp_iload_n dX9_runs_51 rfl ?_
  refine wp_iconst (v := 1) dX9_runs_52 (by decide) ?_
  refine wp_icmp_ge (tgt := 60) dX9_runs_53 (by decide) (fun c8 => ?_) (fun c8 => ?_)
  · replace h := itp c8 h
    refine wp_iload_n dX9_runs_60 rfl ?_
    refine wp_iadd dX9_runs_61 ?_
    refine wp_iastR (c := 239) (y := 39) rfl rfl (show vp_in (x1) (len 239) from c1) dX9_runs_62 ?_
    obtain ⟨rho9, e10, h⟩ := wr_e h
    rw [e10]
    obtain ⟨q1, q2⟩ := sm_e h
    subst q2
    exact wp_return rfl dX9_runs_63 ⟨rfl, rfl⟩
  · replace h := itn c8 h
    refine wp_iconst (v := 1) dX9_runs_56 (by decide) ?_
    refine wp_goto (tgt := 61) dX9_runs_57 (by decide) ?_
    refine wp_iadd dX9_runs_61 ?_
    refine wp_iastR (c := 239) (y := 39) rfl rfl (show vp_in (x1) (len 239) from c1) dX9_runs_62 ?_
    obtain ⟨rho11, e12, h⟩ := wr_e h
    rw [e12]
    obtain ⟨q1, q2⟩ := sm_e h
    subst q2
    exact wp_return rfl dX9_runs_63 ⟨rfl, rfl⟩
def f9_setsEnd (x1 x2 : Int32) (rho : RH) : Option (Int32 × RH) :=
  if vq (x1) 400 then
  wr (up2 rho 37 (x1).toNatClampNeg (x2)) fun rho2 =>
  if vq (((4 * (rho2 36 (x1).toNatClampNeg)) + 2)) 48 then
  if (rho2 13 (((4 * (rho2 36 (x1).toNatClampNeg)) + 2)).toNatClampNeg) = 1 then
    if x2 = 3 then
      wr (up2 rho2 42 (x1).toNatClampNeg (1)) fun rho7 =>
      some (0, rho7)
    else
      if x2 = 4 then
        wr (up2 rho2 42 (x1).toNatClampNeg (1)) fun rho10 =>
        some (0, rho10)
      else
        if x2 = 6 then
          wr (up2 rho2 42 (x1).toNatClampNeg (1)) fun rho13 =>
          some (0, rho13)
        else
          wr (up2 rho2 42 (x1).toNatClampNeg (0)) fun rho15 =>
          some (0, rho15)
  else
    wr (up2 rho2 42 (x1).toNatClampNeg (0)) fun rho17 =>
    some (0, rho17)
  else none
  else none
theorem w9_setsEnd {r : Int32} {rho9 : RH} (hfr : RA fr) {x1 x2 : Int32} {rho : RH} (h : f9_setsEnd x1 x2 rho = some (r, rho9)) : Spec mX9_setsEnd 0 0 [vR 9 0, vI x1, vI x2] (lv, fr, fi, ai, ar, li, out, rho) (Po lv fr fi ai ar li out (none) rho9) NX := by
  unfold f9_setsEnd at h
  refine spec_of (by decide) rfl (by simp [catS, cat1]) (Nat.le_of_ble_eq_true rfl) ?_
  show WP mX9_setsEnd 0 0 0 [some (vR 9 0), some (vI (x1)), some (vI (x2))] [] (lv, fr, fi, ai, ar, li, out, rho) (Po lv fr fi ai ar li out (none) rho9) NX
  refine wp_aload_n dX9_setsEnd_0 rfl ?_
  refine wp_arrR (y := 37) (c := 237) hfr (by decide) rfl fl_X9_114 dX9_setsEnd_1 ?_
  refine wp_iload_n dX9_setsEnd_4 rfl ?_
  refine wp_iload_n dX9_setsEnd_5 rfl ?_
  obtain ⟨c1, h⟩ := ock h
  refine wp_iastR (c := 237) (y := 37) rfl rfl (show vp_in (x1) (len 237) from c1) dX9_setsEnd_6 ?_
  obtain ⟨rho2, e3, h⟩ := wr_e h
  rw [e3]
  refine wp_aload_n dX9_setsEnd_7 rfl ?_
  refine wp_arrR (y := 42) (c := 242) hfr (by decide) rfl fl_X9_129 dX9_setsEnd_8 ?_
  refine wp_iload_n dX9_setsEnd_11 rfl ?_
  refine wp_aload_n dX9_setsEnd_12 rfl ?_
  refine wp_arrR (y := 13) (c := 213) hfr (by decide) rfl fl_X9_44 dX9_setsEnd_13 ?_
  refine wp_iconst (v := 4) dX9_setsEnd_16 (by decide) ?_
  refine wp_aload_n dX9_setsEnd_17 rfl ?_
  refine wp_arrR (y := 36) (c := 236) hfr (by decide) rfl fl_X9_111 dX9_setsEnd_18 ?_
  refine wp_iload_n dX9_setsEnd_21 rfl ?_
  refine wp_ialdR (c := 236) (y := 36) rfl rfl (show vp_in (x1) (len 236) from c1) dX9_setsEnd_22 ?_
  refine wp_imul dX9_setsEnd_23 ?_
  refine wp_iconst (v := 2) dX9_setsEnd_24 (by decide) ?_
  refine wp_iadd dX9_setsEnd_25 ?_
  obtain ⟨c4, h⟩ := ock h
  refine wp_ialdR (c := 213) (y := 13) rfl rfl (show vp_in (((4 * (rho2 36 (x1).toNatClampNeg)) + 2)) (len 213) from c4) dX9_setsEnd_26 ?_
  refine wp_iconst (v := 1) dX9_setsEnd_27 (by decide) ?_
  refine wp_icmp_ne (tgt := 51) dX9_setsEnd_28 (by decide) (fun c5 => ?_) (fun c5 => ?_)
  · replace h := itn c5 h
    refine wp_iconst (v := 0) dX9_setsEnd_51 (by decide) ?_
    refine wp_bastR (c := 242) (y := 42) rfl rfl (show vp_in (x1) (len 242) from c1) (by decide) dX9_setsEnd_52 ?_
    obtain ⟨rho17, e18, h⟩ := wr_e h
    rw [e18]
    obtain ⟨q1, q2⟩ := sm_e h
    subst q2
    exact wp_return rfl dX9_setsEnd_53 ⟨rfl, rfl⟩
  · replace h := itp c5 h
    refine wp_iload_n dX9_setsEnd_31 rfl ?_
    refine wp_iconst (v := 3) dX9_setsEnd_32 (by decide) ?_
    refine wp_icmp_eq (tgt := 47) dX9_setsEnd_33 (by decide) (fun c6 => ?_) (fun c6 => ?_)
    · replace h := itp c6 h
      refine wp_iconst (v := 1) dX9_setsEnd_47 (by decide) ?_
      refine wp_goto (tgt := 52) dX9_setsEnd_48 (by decide) ?_
      refine wp_bastR (c := 242) (y := 42) rfl rfl (show vp_in (x1) (len 242) from c1) (by decide) dX9_setsEnd_52 ?_
      obtain ⟨rho7, e8, h⟩ := wr_e h
      rw [e8]
      obtain ⟨q1, q2⟩ := sm_e h
      subst q2
      exact wp_return rfl dX9_setsEnd_53 ⟨rfl, rfl⟩
    · replace h := itn c6 h
      refine wp_iload_n dX9_setsEnd_36 rfl ?_
      refine wp_iconst (v := 4) dX9_setsEnd_37 (by decide) ?_
      refine wp_icmp_eq (tgt := 47) dX9_setsEnd_38 (by decide) (fun c9 => ?_) (fun c9 => ?_)
      · replace h := itp c9 h
        refine wp_iconst (v := 1) dX9_setsEnd_47 (by decide) ?_
        refine wp_goto (tgt := 52) dX9_setsEnd_48 (by decide) ?_
        refine wp_bastR (c := 242) (y := 42) rfl rfl (show vp_in (x1) (len 242) from c1) (by decide) dX9_setsEnd_52 ?_
        obtain ⟨rho10, e11, h⟩ := wr_e h
        rw [e11]
        obtain ⟨q1, q2⟩ := sm_e h
        subst q2
        exact wp_return rfl dX9_setsEnd_53 ⟨rfl, rfl⟩
      · replace h := itn c9 h
        refine wp_iload_n dX9_setsEnd_41 rfl ?_
        refine wp_bipush (v := 6) dX9_setsEnd_42 (by decide) ?_
        refine wp_icmp_ne (tgt := 51) dX9_setsEnd_44 (by decide) (fun c12 => ?_) (fun c12 => ?_)
        · replace h := itn c12 h
          refine wp_iconst (v := 0) dX9_setsEnd_51 (by decide) ?_
          refine wp_bastR (c := 242) (y := 42) rfl rfl (show vp_in (x1) (len 242) from c1) (by decide) dX9_setsEnd_52 ?_
          obtain ⟨rho15, e16, h⟩ := wr_e h
          rw [e16]
          obtain ⟨q1, q2⟩ := sm_e h
          subst q2
          exact wp_return rfl dX9_setsEnd_53 ⟨rfl, rfl⟩
        · replace h := itp c12 h
          refine wp_iconst (v := 1) dX9_setsEnd_47 (by decide) ?_
          refine wp_goto (tgt := 52) dX9_setsEnd_48 (by decide) ?_
          refine wp_bastR (c := 242) (y := 42) rfl rfl (show vp_in (x1) (len 242) from c1) (by decide) dX9_setsEnd_52 ?_
          obtain ⟨rho13, e14, h⟩ := wr_e h
          rw [e14]
          obtain ⟨q1, q2⟩ := sm_e h
          subst q2
          exact wp_return rfl dX9_setsEnd_53 ⟨rfl, rfl⟩
def l9_liveOf_2 : Nat → Int32 → Int32 → Int32 → RH → Option (Int32 × RH)
  | 0, _, _, _, _ => none
  | n + 1, x1, x2, x3, rho =>
  if (rho 31 0) ≤ x3 then
    some ((-1), rho)
  else
    if vq (x3) 400 then
    if (rho 32 (x3).toNatClampNeg) = x1 then
      ob (f9_hasEnded (x3) rho) fun r4 rho5 =>
      if r4 = 0 then
        if x3 = x2 then
          l9_liveOf_2 n (x1) (x2) (x3 + 1) rho5
        else
          some (x3, rho5)
      else
        l9_liveOf_2 n (x1) (x2) (x3 + 1) rho5
    else
      l9_liveOf_2 n (x1) (x2) (x3 + 1) rho
    else none
theorem w9_liveOf_2 {r : Int32} {rho9 : RH} (hfr : RA fr) : ∀ (n : Nat) {x1 x2 x3 : Int32} {rho : RH}, l9_liveOf_2 n x1 x2 x3 rho = some (r, rho9) → WP mX9_liveOf 1 0 2 [some (vR 9 0), some (vI (x1)), some (vI (x2)), some (vI (x3))] [] (lv, fr, fi, ai, ar, li, out, rho) (Po lv fr fi ai ar li out (some (vI r)) rho9) NX := by
  intro n
  induction n with
  | zero =>
    intro x1 x2 x3 rho h
    rw [l9_liveOf_2] at h
    cases h
  | succ n ih =>
    intro x1 x2 x3 rho h
    rw [l9_liveOf_2] at h
    refine wp_iload_n dX9_liveOf_2 rfl ?_
    refine wp_aload_n dX9_liveOf_3 rfl ?_
    refine wp_getRI (y := 31) (by decide) rfl fl_X9_217 dX9_liveOf_4 ?_
    refine wp_icmp_ge (tgt := 41) dX9_liveOf_7 (by decide) (fun c1 => ?_) (fun c1 => ?_)
    · replace h := itp c1 h
      refine wp_iconst (v := (-1)) dX9_liveOf_41 (by decide) ?_
      obtain ⟨q1, q2⟩ := sm_e h
      subst q1
      subst q2
      exact wp_ireturn rfl dX9_liveOf_42 ⟨rfl, rfl⟩
    · replace h := itn c1 h
      refine wp_aload_n dX9_liveOf_10 rfl ?_
      refine wp_arrR (y := 32) (c := 232) hfr (by decide) rfl fl_X9_99 dX9_liveOf_11 ?_
      refine wp_iload_n dX9_liveOf_14 rfl ?_
      obtain ⟨c2, h⟩ := ock h
      refine wp_ialdR (c := 232) (y := 32) rfl rfl (show vp_in (x3) (len 232) from c2) dX9_liveOf_15 ?_
      refine wp_iload_n dX9_liveOf_16 rfl ?_
      refine wp_icmp_ne (tgt := 35) dX9_liveOf_17 (by decide) (fun c3 => ?_) (fun c3 => ?_)
      · replace h := itn c3 h
        refine wp_iinc (v := x3 + 1) (L' := [some (vR 9 0), some (vI (x1)), some (vI (x2)), some (vI (x3 + 1))]) dX9_liveOf_35 rfl rfl rfl ?_
        refine wp_goto (tgt := 2) dX9_liveOf_38 (by decide) ?_
        exact ih h
      · replace h := itp c3 h
        refine wp_aload_n dX9_liveOf_20 rfl ?_
        refine wp_iload_n dX9_liveOf_21 rfl ?_
        obtain ⟨r4, rho5, hp6, h⟩ := ob_e h
        refine wp_callV (k1 := 0) (k2 := 0) (As := [vI (x3)]) (rest := []) (w9_hasEnded hfr hp6) okX9_hasEnded ivX9_hasEnded rfl (by decide) ml_X9_223 dX9_liveOf_22 rfl (by decide) (Nat.le_refl _) rfl (Nat.le_of_ble_eq_true rfl) (fun _ _ z => z.elim) (fun r' S' z => ?_)
        obtain ⟨rfl, rfl⟩ := z
        show WP _ _ _ _ [some (vR 9 0), some (vI (x1)), some (vI (x2)), some (vI (x3))] [vI (r4)] _ _ _
        refine wp_if_ne (tgt := 35) dX9_liveOf_25 (by decide) (fun c7 => ?_) (fun c7 => ?_)
        · replace h := itn c7 h
          refine wp_iinc (v := x3 + 1) (L' := [some (vR 9 0), some (vI (x1)), some (vI (x2)), some (vI (x3 + 1))]) dX9_liveOf_35 rfl rfl rfl ?_
          refine wp_goto (tgt := 2) dX9_liveOf_38 (by decide) ?_
          exact ih h
        · replace h := itp c7 h
          refine wp_iload_n dX9_liveOf_28 rfl ?_
          refine wp_iload_n dX9_liveOf_29 rfl ?_
          refine wp_icmp_eq (tgt := 35) dX9_liveOf_30 (by decide) (fun c8 => ?_) (fun c8 => ?_)
          · replace h := itp c8 h
            refine wp_iinc (v := x3 + 1) (L' := [some (vR 9 0), some (vI (x1)), some (vI (x2)), some (vI (x3 + 1))]) dX9_liveOf_35 rfl rfl rfl ?_
            refine wp_goto (tgt := 2) dX9_liveOf_38 (by decide) ?_
            exact ih h
          · replace h := itn c8 h
            refine wp_iload_n dX9_liveOf_33 rfl ?_
            obtain ⟨q1, q2⟩ := sm_e h
            subst q1
            subst q2
            exact wp_ireturn rfl dX9_liveOf_34 ⟨rfl, rfl⟩
def f9_liveOf (x1 x2 : Int32) (rho : RH) : Option (Int32 × RH) :=
  l9_liveOf_2 FU (x1) (x2) (0) rho
theorem w9_liveOf {r : Int32} {rho9 : RH} (hfr : RA fr) {x1 x2 : Int32} {rho : RH} (h : f9_liveOf x1 x2 rho = some (r, rho9)) : Spec mX9_liveOf 1 0 [vR 9 0, vI x1, vI x2] (lv, fr, fi, ai, ar, li, out, rho) (Po lv fr fi ai ar li out (some (vI r)) rho9) NX := by
  unfold f9_liveOf at h
  refine spec_of (by decide) rfl (by simp [catS, cat1]) (Nat.le_of_ble_eq_true rfl) ?_
  show WP mX9_liveOf 1 0 0 [some (vR 9 0), some (vI (x1)), some (vI (x2)), none] [] (lv, fr, fi, ai, ar, li, out, rho) (Po lv fr fi ai ar li out (some (vI r)) rho9) NX
  refine wp_iconst (v := 0) dX9_liveOf_0 (by decide) ?_
  refine wp_istore_n (L' := [some (vR 9 0), some (vI (x1)), some (vI (x2)), some (vI (0))]) dX9_liveOf_1 rfl rfl ?_
  exact w9_liveOf_2 hfr FU h
def l9_hasRunIn_5 : Nat → Int32 → Int32 → Int32 → Int32 → RH → Option (Int32 × RH)
  | 0, _, _, _, _, _ => none
  | n + 1, x1, x2, x3, x4, rho =>
  if (rho 31 0) ≤ x4 then
    if x3 = 0 ∨ x3 = 1 then
    some (x3, rho)
    else none
  else
    if x3 = 0 then
      if vq (x4) 400 then
      if (rho 32 (x4).toNatClampNeg) = x1 then
        if (rho 33 (x4).toNatClampNeg) = x2 then
          if (rho 41 (x4).toNatClampNeg) = 0 then
            l9_hasRunIn_5 n (x1) (x2) (0) (x4 + 1) rho
          else
            l9_hasRunIn_5 n (x1) (x2) (1) (x4 + 1) rho
        else
          l9_hasRunIn_5 n (x1) (x2) (0) (x4 + 1) rho
      else
        l9_hasRunIn_5 n (x1) (x2) (0) (x4 + 1) rho
      else none
    else
      l9_hasRunIn_5 n (x1) (x2) (1) (x4 + 1) rho
theorem w9_hasRunIn_5 {r : Int32} {rho9 : RH} (hfr : RA fr) : ∀ (n : Nat) {x1 x2 x3 x4 : Int32} {rho : RH}, l9_hasRunIn_5 n x1 x2 x3 x4 rho = some (r, rho9) → WP mX9_hasRunIn 0 0 5 [some (vR 9 0), some (vI (x1)), some (vI (x2)), some (vI (x3)), some (vI (x4))] [] (lv, fr, fi, ai, ar, li, out, rho) (Po lv fr fi ai ar li out (some (vI r)) rho9) NX := by
  intro n
  induction n with
  | zero =>
    intro x1 x2 x3 x4 rho h
    rw [l9_hasRunIn_5] at h
    cases h
  | succ n ih =>
    intro x1 x2 x3 x4 rho h
    rw [l9_hasRunIn_5] at h
    refine wp_iload dX9_hasRunIn_5 rfl ?_
    refine wp_aload_n dX9_hasRunIn_7 rfl ?_
    refine wp_getRI (y := 31) (by decide) rfl fl_X9_217 dX9_hasRunIn_8 ?_
    refine wp_icmp_ge (tgt := 62) dX9_hasRunIn_11 (by decide) (fun c1 => ?_) (fun c1 => ?_)
    · replace h := itp c1 h
      refine wp_iload_n dX9_hasRunIn_62 rfl ?_
      obtain ⟨c2, h⟩ := ock h
      obtain ⟨q1, q2⟩ := sm_e h
      subst q1
      subst q2
      exact wp_zreturn rfl c2 dX9_hasRunIn_63 ⟨rfl, rfl⟩
    · replace h := itn c1 h
      refine wp_iload_n dX9_hasRunIn_14 rfl ?_
      refine wp_if_ne (tgt := 50) dX9_hasRunIn_15 (by decide) (fun c3 => ?_) (fun c3 => ?_)
      · replace h := itn c3 h
        refine wp_iconst (v := 1) dX9_hasRunIn_50 (by decide) ?_
        refine wp_goto (tgt := 55) dX9_hasRunIn_51 (by decide) ?_
        refine wp_istore_n (L' := [some (vR 9 0), some (vI (x1)), some (vI (x2)), some (vI (1)), some (vI (x4))]) dX9_hasRunIn_55 rfl rfl ?_
        refine wp_iinc (v := x4 + 1) (L' := [some (vR 9 0), some (vI (x1)), some (vI (x2)), some (vI (1)), some (vI (x4 + 1))]) dX9_hasRunIn_56 rfl rfl rfl ?_
        refine wp_goto (tgt := 5) dX9_hasRunIn_59 (by decide) ?_
        exact ih h
      · replace h := itp c3 h
        refine wp_aload_n dX9_hasRunIn_18 rfl ?_
        refine wp_arrR (y := 32) (c := 232) hfr (by decide) rfl fl_X9_99 dX9_hasRunIn_19 ?_
        refine wp_iload dX9_hasRunIn_22 rfl ?_
        obtain ⟨c4, h⟩ := ock h
        refine wp_ialdR (c := 232) (y := 32) rfl rfl (show vp_in (x4) (len 232) from c4) dX9_hasRunIn_24 ?_
        refine wp_iload_n dX9_hasRunIn_25 rfl ?_
        refine wp_icmp_ne (tgt := 54) dX9_hasRunIn_26 (by decide) (fun c5 => ?_) (fun c5 => ?_)
        · replace h := itn c5 h
          refine wp_iconst (v := 0) dX9_hasRunIn_54 (by decide) ?_
          refine wp_istore_n (L' := [some (vR 9 0), some (vI (x1)), some (vI (x2)), some (vI (0)), some (vI (x4))]) dX9_hasRunIn_55 rfl rfl ?_
          refine wp_iinc (v := x4 + 1) (L' := [some (vR 9 0), some (vI (x1)), some (vI (x2)), some (vI (0)), some (vI (x4 + 1))]) dX9_hasRunIn_56 rfl rfl rfl ?_
          refine wp_goto (tgt := 5) dX9_hasRunIn_59 (by decide) ?_
          exact ih h
        · replace h := itp c5 h
          refine wp_aload_n dX9_hasRunIn_29 rfl ?_
          refine wp_arrR (y := 33) (c := 233) hfr (by decide) rfl fl_X9_102 dX9_hasRunIn_30 ?_
          refine wp_iload dX9_hasRunIn_33 rfl ?_
          refine wp_ialdR (c := 233) (y := 33) rfl rfl (show vp_in (x4) (len 233) from c4) dX9_hasRunIn_35 ?_
          refine wp_iload_n dX9_hasRunIn_36 rfl ?_
          refine wp_icmp_ne (tgt := 54) dX9_hasRunIn_37 (by decide) (fun c6 => ?_) (fun c6 => ?_)
          · replace h := itn c6 h
            refine wp_iconst (v := 0) dX9_hasRunIn_54 (by decide) ?_
            refine wp_istore_n (L' := [some (vR 9 0), some (vI (x1)), some (vI (x2)), some (vI (0)), some (vI (x4))]) dX9_hasRunIn_55 rfl rfl ?_
            refine wp_iinc (v := x4 + 1) (L' := [some (vR 9 0), some (vI (x1)), some (vI (x2)), some (vI (0)), some (vI (x4 + 1))]) dX9_hasRunIn_56 rfl rfl rfl ?_
            refine wp_goto (tgt := 5) dX9_hasRunIn_59 (by decide) ?_
            exact ih h
          · replace h := itp c6 h
            refine wp_aload_n dX9_hasRunIn_40 rfl ?_
            refine wp_arrR (y := 41) (c := 241) hfr (by decide) rfl fl_X9_126 dX9_hasRunIn_41 ?_
            refine wp_iload dX9_hasRunIn_44 rfl ?_
            refine wp_baldR (c := 241) (y := 41) rfl rfl (show vp_in (x4) (len 241) from c4) dX9_hasRunIn_46 ?_
            refine wp_if_eq (tgt := 54) dX9_hasRunIn_47 (by decide) (fun c7 => ?_) (fun c7 => ?_)
            · replace h := itp c7 h
              refine wp_iconst (v := 0) dX9_hasRunIn_54 (by decide) ?_
              refine wp_istore_n (L' := [some (vR 9 0), some (vI (x1)), some (vI (x2)), some (vI (0)), some (vI (x4))]) dX9_hasRunIn_55 rfl rfl ?_
              refine wp_iinc (v := x4 + 1) (L' := [some (vR 9 0), some (vI (x1)), some (vI (x2)), some (vI (0)), some (vI (x4 + 1))]) dX9_hasRunIn_56 rfl rfl rfl ?_
              refine wp_goto (tgt := 5) dX9_hasRunIn_59 (by decide) ?_
              exact ih h
            · replace h := itn c7 h
              refine wp_iconst (v := 1) dX9_hasRunIn_50 (by decide) ?_
              refine wp_goto (tgt := 55) dX9_hasRunIn_51 (by decide) ?_
              refine wp_istore_n (L' := [some (vR 9 0), some (vI (x1)), some (vI (x2)), some (vI (1)), some (vI (x4))]) dX9_hasRunIn_55 rfl rfl ?_
              refine wp_iinc (v := x4 + 1) (L' := [some (vR 9 0), some (vI (x1)), some (vI (x2)), some (vI (1)), some (vI (x4 + 1))]) dX9_hasRunIn_56 rfl rfl rfl ?_
              refine wp_goto (tgt := 5) dX9_hasRunIn_59 (by decide) ?_
              exact ih h
def f9_hasRunIn (x1 x2 : Int32) (rho : RH) : Option (Int32 × RH) :=
  l9_hasRunIn_5 FU (x1) (x2) (0) (0) rho
theorem w9_hasRunIn {r : Int32} {rho9 : RH} (hfr : RA fr) {x1 x2 : Int32} {rho : RH} (h : f9_hasRunIn x1 x2 rho = some (r, rho9)) : Spec mX9_hasRunIn 0 0 [vR 9 0, vI x1, vI x2] (lv, fr, fi, ai, ar, li, out, rho) (Po lv fr fi ai ar li out (some (vI r)) rho9) NX := by
  unfold f9_hasRunIn at h
  refine spec_of (by decide) rfl (by simp [catS, cat1]) (Nat.le_of_ble_eq_true rfl) ?_
  show WP mX9_hasRunIn 0 0 0 [some (vR 9 0), some (vI (x1)), some (vI (x2)), none, none] [] (lv, fr, fi, ai, ar, li, out, rho) (Po lv fr fi ai ar li out (some (vI r)) rho9) NX
  refine wp_iconst (v := 0) dX9_hasRunIn_0 (by decide) ?_
  refine wp_istore_n (L' := [some (vR 9 0), some (vI (x1)), some (vI (x2)), some (vI (0)), none]) dX9_hasRunIn_1 rfl rfl ?_
  refine wp_iconst (v := 0) dX9_hasRunIn_2 (by decide) ?_
  refine wp_istore (L' := [some (vR 9 0), some (vI (x1)), some (vI (x2)), some (vI (0)), some (vI (0))]) dX9_hasRunIn_3 rfl rfl ?_
  exact w9_hasRunIn_5 hfr FU h
end S9
