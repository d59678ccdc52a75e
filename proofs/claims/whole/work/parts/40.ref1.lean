section S9
variable {lv : Nat → Nat → Bool} {fr : Nat → Nat → Option Nat} {fi : Nat → Nat → Int32} {ai : Nat → Nat → Nat → Int32} {ar : Nat → Nat → Nat → Option Nat} {li : Nat → Nat → List Nat} {out : Int64}
def f9_share (x1 x2 : Int32) (rho : RH) : Option (Int32 × RH) :=
  ob (f9_isCaller (x1) rho) fun r1 rho2 =>
  ob (f9_in (x2) (0) (100) rho2) fun r4 rho5 =>
  ob (f9_goes (r1) (r4) (1) rho5) fun r7 rho8 =>
  if r7 = 0 then
    some (0, rho8)
  else
    if vq (x1) 7 then
    wr (up2 rho8 16 (x1).toNatClampNeg (x2)) fun rho12 =>
    some ((rho8 16 (x1).toNatClampNeg), rho12)
    else none
theorem w9_share {r : Int32} {rho9 : RH} (hfr : RA fr) {x1 x2 : Int32} {rho : RH} (h : f9_share x1 x2 rho = some (r, rho9)) : Spec mX9_share 2 0 [vR 9 0, vI x1, vI x2] (lv, fr, fi, ai, ar, li, out, rho) (Po lv fr fi ai ar li out (some (vI r)) rho9) NX := by
  unfold f9_share at h
  refine spec_of (by decide) rfl (by simp [catS, cat1]) (Nat.le_of_ble_eq_true rfl) ?_
  show WP mX9_share 2 0 0 [some (vR 9 0), some (vI (x1)), some (vI (x2)), none] [] (lv, fr, fi, ai, ar, li, out, rho) (Po lv fr fi ai ar li out (some (vI r)) rho9) NX
  refine wp_aload_n dX9_share_0 rfl ?_
  refine wp_iload_n dX9_share_1 rfl ?_
  obtain ⟨r1, rho2, hp3, h⟩ := ob_e h
  refine wp_callS (k1 := 0) (k2 := 0) (As := [vI (x1)]) (rest := [vR 9 0]) (w9_isCaller hfr hp3) okX9_isCaller sm_X9_isCaller rfl ml_X9_210 dX9_share_2 rfl (by decide) (Nat.le_refl _) rfl (Nat.le_of_ble_eq_true rfl) (fun _ _ z => z.elim) (fun r' S' z => ?_)
  obtain ⟨rfl, rfl⟩ := z
  show WP _ _ _ _ [some (vR 9 0), some (vI (x1)), some (vI (x2)), none] [vI (r1), vR 9 0] _ _ _
  refine wp_iload_n dX9_share_5 rfl ?_
  refine wp_iconst (v := 0) dX9_share_6 (by decide) ?_
  refine wp_bipush (v := 100) dX9_share_7 (by decide) ?_
  obtain ⟨r4, rho5, hp6, h⟩ := ob_e h
  refine wp_callS (k1 := 0) (k2 := 0) (As := [vI (x2), vI (0), vI (100)]) (rest := [vI (r1), vR 9 0]) (w9_in hfr hp6) okX9_in sm_X9_in rfl ml_X9_189 dX9_share_9 rfl (by decide) (Nat.le_refl _) rfl (Nat.le_of_ble_eq_true rfl) (fun _ _ z => z.elim) (fun r' S' z => ?_)
  obtain ⟨rfl, rfl⟩ := z
  show WP _ _ _ _ [some (vR 9 0), some (vI (x1)), some (vI (x2)), none] [vI (r4), vI (r1), vR 9 0] _ _ _
  refine wp_iconst (v := 1) dX9_share_12 (by decide) ?_
  obtain ⟨r7, rho8, hp9, h⟩ := ob_e h
  refine wp_callV (k1 := 0) (k2 := 0) (As := [vI (r1), vI (r4), vI (1)]) (rest := []) (w9_goes hfr hp9) okX9_goes ivX9_goes rfl (by decide) ml_X9_203 dX9_share_13 rfl (by decide) (Nat.le_refl _) rfl (Nat.le_of_ble_eq_true rfl) (fun _ _ z => z.elim) (fun r' S' z => ?_)
  obtain ⟨rfl, rfl⟩ := z
  show WP _ _ _ _ [some (vR 9 0), some (vI (x1)), some (vI (x2)), none] [vI (r7)] _ _ _
  refine wp_if_ne (tgt := 21) dX9_share_16 (by decide) (fun c10 => ?_) (fun c10 => ?_)
  · replace h := itn c10 h
    refine wp_aload_n dX9_share_21 rfl ?_
    refine wp_arrR (y := 16) (c := 216) hfr (by decide) rfl fl_X9_53 dX9_share_22 ?_
    refine wp_iload_n dX9_share_25 rfl ?_
    obtain ⟨c11, h⟩ := ock h
    refine wp_ialdR (c := 216) (y := 16) rfl rfl (show vp_in (x1) (len 216) from c11) dX9_share_26 ?_
    refine wp_istore_n (L' := [some (vR 9 0), some (vI (x1)), some (vI (x2)), some (vI ((rho8 16 (x1).toNatClampNeg)))]) dX9_share_27 rfl rfl ?_
    refine wp_aload_n dX9_share_28 rfl ?_
    refine wp_arrR (y := 16) (c := 216) hfr (by decide) rfl fl_X9_53 dX9_share_29 ?_
    refine wp_iload_n dX9_share_32 rfl ?_
    refine wp_iload_n dX9_share_33 rfl ?_
    refine wp_iastR (c := 216) (y := 16) rfl rfl (show vp_in (x1) (len 216) from c11) dX9_share_34 ?_
    obtain ⟨rho12, e13, h⟩ := wr_e h
    rw [e13]
    refine wp_iload_n dX9_share_35 rfl ?_
    obtain ⟨q1, q2⟩ := sm_e h
    subst q1
    subst q2
    exact wp_ireturn rfl dX9_share_36 ⟨rfl, rfl⟩
  · replace h := itp c10 h
    refine wp_iconst (v := 0) dX9_share_19 (by decide) ?_
    obtain ⟨q1, q2⟩ := sm_e h
    subst q1
    subst q2
    exact wp_ireturn rfl dX9_share_20 ⟨rfl, rfl⟩
def f9_eyes (x1 : Int32) (rho : RH) : Option (Int32 × RH) :=
  ob (f9_in (x1) (1) (7) rho) fun r1 rho2 =>
  ob (f9_goes (r1) (1) (1) rho2) fun r4 rho5 =>
  if r4 = 0 then
    some (0, rho5)
  else
    wr (up2 rho5 20 0 (x1)) fun rho8 =>
    some ((rho5 20 0), rho8)
theorem w9_eyes {r : Int32} {rho9 : RH} (hfr : RA fr) {x1 : Int32} {rho : RH} (h : f9_eyes x1 rho = some (r, rho9)) : Spec mX9_eyes 1 0 [vR 9 0, vI x1] (lv, fr, fi, ai, ar, li, out, rho) (Po lv fr fi ai ar li out (some (vI r)) rho9) NX := by
  unfold f9_eyes at h
  refine spec_of (by decide) rfl (by simp [catS, cat1]) (Nat.le_of_ble_eq_true rfl) ?_
  show WP mX9_eyes 1 0 0 [some (vR 9 0), some (vI (x1)), none] [] (lv, fr, fi, ai, ar, li, out, rho) (Po lv fr fi ai ar li out (some (vI r)) rho9) NX
  refine wp_aload_n dX9_eyes_0 rfl ?_
  refine wp_iload_n dX9_eyes_1 rfl ?_
  refine wp_iconst (v := 1) dX9_eyes_2 (by decide) ?_
  refine wp_bipush (v := 7) dX9_eyes_3 (by decide) ?_
  obtain ⟨r1, rho2, hp3, h⟩ := ob_e h
  refine wp_callS (k1 := 0) (k2 := 0) (As := [vI (x1), vI (1), vI (7)]) (rest := [vR 9 0]) (w9_in hfr hp3) okX9_in sm_X9_in rfl ml_X9_189 dX9_eyes_5 rfl (by decide) (Nat.le_refl _) rfl (Nat.le_of_ble_eq_true rfl) (fun _ _ z => z.elim) (fun r' S' z => ?_)
  obtain ⟨rfl, rfl⟩ := z
  show WP _ _ _ _ [some (vR 9 0), some (vI (x1)), none] [vI (r1), vR 9 0] _ _ _
  refine wp_iconst (v := 1) dX9_eyes_8 (by decide) ?_
  refine wp_iconst (v := 1) dX9_eyes_9 (by decide) ?_
  obtain ⟨r4, rho5, hp6, h⟩ := ob_e h
  refine wp_callV (k1 := 0) (k2 := 0) (As := [vI (r1), vI (1), vI (1)]) (rest := []) (w9_goes hfr hp6) okX9_goes ivX9_goes rfl (by decide) ml_X9_203 dX9_eyes_10 rfl (by decide) (Nat.le_refl _) rfl (Nat.le_of_ble_eq_true rfl) (fun _ _ z => z.elim) (fun r' S' z => ?_)
  obtain ⟨rfl, rfl⟩ := z
  show WP _ _ _ _ [some (vR 9 0), some (vI (x1)), none] [vI (r4)] _ _ _
  refine wp_if_ne (tgt := 18) dX9_eyes_13 (by decide) (fun c7 => ?_) (fun c7 => ?_)
  · replace h := itn c7 h
    refine wp_aload_n dX9_eyes_18 rfl ?_
    refine wp_getRI (y := 20) (by decide) rfl fl_X9_65 dX9_eyes_19 ?_
    refine wp_istore_n (L' := [some (vR 9 0), some (vI (x1)), some (vI ((rho5 20 0)))]) dX9_eyes_22 rfl rfl ?_
    refine wp_aload_n dX9_eyes_23 rfl ?_
    refine wp_iload_n dX9_eyes_24 rfl ?_
    refine wp_putRI (y := 20) (by decide) rfl rfl fl_X9_65 dX9_eyes_25 rfl ?_
    obtain ⟨rho8, e9, h⟩ := wr_e h
    rw [e9]
    refine wp_iload_n dX9_eyes_28 rfl ?_
    obtain ⟨q1, q2⟩ := sm_e h
    subst q1
    subst q2
    exact wp_ireturn rfl dX9_eyes_29 ⟨rfl, rfl⟩
  · replace h := itp c7 h
    refine wp_iconst (v := 0) dX9_eyes_16 (by decide) ?_
    obtain ⟨q1, q2⟩ := sm_e h
    subst q1
    subst q2
    exact wp_ireturn rfl dX9_eyes_17 ⟨rfl, rfl⟩
def l9_canary_47 : Nat → Int32 → Int32 → Int32 → RH → Option (Int32 × RH)
  | 0, _, _, _, _ => none
  | n + 1, x1, x3, x4, rho =>
  if ((2 * x1) + 2) ≤ x4 then
    some (x3, rho)
  else
    if vq (x4) 12 then
    wr (up2 rho 27 (x4).toNatClampNeg (0)) fun rho3 =>
    wr (up2 rho3 28 (x4).toNatClampNeg (0)) fun rho5 =>
    l9_canary_47 n (x1) (x3) (x4 + 1) rho5
    else none
theorem w9_canary_47 {r : Int32} {rho9 : RH} (hfr : RA fr) : ∀ (n : Nat) {x1 x3 x4 : Int32} {l2 : Option sV} {rho : RH}, l9_canary_47 n x1 x3 x4 rho = some (r, rho9) → WP mX9_canary 2 0 47 [some (vR 9 0), some (vI (x1)), l2, some (vI (x3)), some (vI (x4))] [] (lv, fr, fi, ai, ar, li, out, rho) (Po lv fr fi ai ar li out (some (vI r)) rho9) NX := by
  intro n
  induction n with
  | zero =>
    intro x1 x3 x4 l2 rho h
    rw [l9_canary_47] at h
    cases h
  | succ n ih =>
    intro x1 x3 x4 l2 rho h
    rw [l9_canary_47] at h
    refine wp_iload dX9_canary_47 rfl ?_
    refine wp_iconst (v := 2) dX9_canary_49 (by decide) ?_
    refine wp_iload_n dX9_canary_50 rfl ?_
    refine wp_imul dX9_canary_51 ?_
    refine wp_iconst (v := 2) dX9_canary_52 (by decide) ?_
    refine wp_iadd dX9_canary_53 ?_
    refine wp_icmp_ge (tgt := 79) dX9_canary_54 (by decide) (fun c1 => ?_) (fun c1 => ?_)
    · replace h := itp c1 h
      refine wp_iload_n dX9_canary_79 rfl ?_
      obtain ⟨q1, q2⟩ := sm_e h
      subst q1
      subst q2
      exact wp_ireturn rfl dX9_canary_80 ⟨rfl, rfl⟩
    · replace h := itn c1 h
      refine wp_aload_n dX9_canary_57 rfl ?_
      refine wp_arrR (y := 27) (c := 227) hfr (by decide) rfl fl_X9_87 dX9_canary_58 ?_
      refine wp_iload dX9_canary_61 rfl ?_
      refine wp_iconst (v := 0) dX9_canary_63 (by decide) ?_
      obtain ⟨c2, h⟩ := ock h
      refine wp_iastR (c := 227) (y := 27) rfl rfl (show vp_in (x4) (len 227) from c2) dX9_canary_64 ?_
      obtain ⟨rho3, e4, h⟩ := wr_e h
      rw [e4]
      refine wp_aload_n dX9_canary_65 rfl ?_
      refine wp_arrR (y := 28) (c := 228) hfr (by decide) rfl fl_X9_90 dX9_canary_66 ?_
      refine wp_iload dX9_canary_69 rfl ?_
      refine wp_iconst (v := 0) dX9_canary_71 (by decide) ?_
      refine wp_iastR (c := 228) (y := 28) rfl rfl (show vp_in (x4) (len 228) from c2) dX9_canary_72 ?_
      obtain ⟨rho5, e6, h⟩ := wr_e h
      rw [e6]
      refine wp_iinc (v := x4 + 1) (L' := [some (vR 9 0), some (vI (x1)), l2, some (vI (x3)), some (vI (x4 + 1))]) dX9_canary_73 rfl rfl rfl ?_
      refine wp_goto (tgt := 47) dX9_canary_76 (by decide) ?_
      exact ih h
def f9_canary (x1 x2 : Int32) (rho : RH) : Option (Int32 × RH) :=
  ob (f9_isService (x1) rho) fun r1 rho2 =>
  ob (f9_in (x2) (0) (100) rho2) fun r4 rho5 =>
  ob (f9_goes (r1) (r4) (1) rho5) fun r7 rho8 =>
  if r7 = 0 then
    some (0, rho8)
  else
    if vq (x1) 6 then
    wr (up2 rho8 25 (x1).toNatClampNeg (x2)) fun rho12 =>
    wr (up2 rho12 26 (x1).toNatClampNeg (0)) fun rho14 =>
    l9_canary_47 FU (x1) ((rho8 25 (x1).toNatClampNeg)) ((2 * x1)) rho14
    else none
theorem w9_canary {r : Int32} {rho9 : RH} (hfr : RA fr) {x1 x2 : Int32} {rho : RH} (h : f9_canary x1 x2 rho = some (r, rho9)) : Spec mX9_canary 2 0 [vR 9 0, vI x1, vI x2] (lv, fr, fi, ai, ar, li, out, rho) (Po lv fr fi ai ar li out (some (vI r)) rho9) NX := by
  unfold f9_canary at h
  refine spec_of (by decide) rfl (by simp [catS, cat1]) (Nat.le_of_ble_eq_true rfl) ?_
  show WP mX9_canary 2 0 0 [some (vR 9 0), some (vI (x1)), some (vI (x2)), none, none] [] (lv, fr, fi, ai, ar, li, out, rho) (Po lv fr fi ai ar li out (some (vI r)) rho9) NX
  refine wp_aload_n dX9_canary_0 rfl ?_
  refine wp_iload_n dX9_canary_1 rfl ?_
  obtain ⟨r1, rho2, hp3, h⟩ := ob_e h
  refine wp_callS (k1 := 0) (k2 := 0) (As := [vI (x1)]) (rest := [vR 9 0]) (w9_isService hfr hp3) okX9_isService sm_X9_isService rfl ml_X9_199 dX9_canary_2 rfl (by decide) (Nat.le_refl _) rfl (Nat.le_of_ble_eq_true rfl) (fun _ _ z => z.elim) (fun r' S' z => ?_)
  obtain ⟨rfl, rfl⟩ := z
  show WP _ _ _ _ [some (vR 9 0), some (vI (x1)), some (vI (x2)), none, none] [vI (r1), vR 9 0] _ _ _
  refine wp_iload_n dX9_canary_5 rfl ?_
  refine wp_iconst (v := 0) dX9_canary_6 (by decide) ?_
  refine wp_bipush (v := 100) dX9_canary_7 (by decide) ?_
  obtain ⟨r4, rho5, hp6, h⟩ := ob_e h
  refine wp_callS (k1 := 0) (k2 := 0) (As := [vI (x2), vI (0), vI (100)]) (rest := [vI (r1), vR 9 0]) (w9_in hfr hp6) okX9_in sm_X9_in rfl ml_X9_189 dX9_canary_9 rfl (by decide) (Nat.le_refl _) rfl (Nat.le_of_ble_eq_true rfl) (fun _ _ z => z.elim) (fun r' S' z => ?_)
  obtain ⟨rfl, rfl⟩ := z
  show WP _ _ _ _ [some (vR 9 0), some (vI (x1)), some (vI (x2)), none, none] [vI (r4), vI (r1), vR 9 0] _ _ _
  refine wp_iconst (v := 1) dX9_canary_12 (by decide) ?_
  obtain ⟨r7, rho8, hp9, h⟩ := ob_e h
  refine wp_callV (k1 := 0) (k2 := 0) (As := [vI (r1), vI (r4), vI (1)]) (rest := []) (w9_goes hfr hp9) okX9_goes ivX9_goes rfl (by decide) ml_X9_203 dX9_canary_13 rfl (by decide) (Nat.le_refl _) rfl (Nat.le_of_ble_eq_true rfl) (fun _ _ z => z.elim) (fun r' S' z => ?_)
  obtain ⟨rfl, rfl⟩ := z
  show WP _ _ _ _ [some (vR 9 0), some (vI (x1)), some (vI (x2)), none, none] [vI (r7)] _ _ _
  refine wp_if_ne (tgt := 21) dX9_canary_16 (by decide) (fun c10 => ?_) (fun c10 => ?_)
  · replace h := itn c10 h
    refine wp_aload_n dX9_canary_21 rfl ?_
    refine wp_arrR (y := 25) (c := 225) hfr (by decide) rfl fl_X9_81 dX9_canary_22 ?_
    refine wp_iload_n dX9_canary_25 rfl ?_
    obtain ⟨c11, h⟩ := ock h
    refine wp_ialdR (c := 225) (y := 25) rfl rfl (show vp_in (x1) (len 225) from c11) dX9_canary_26 ?_
    refine wp_istore_n (L' := [some (vR 9 0), some (vI (x1)), some (vI (x2)), some (vI ((rho8 25 (x1).toNatClampNeg))), none]) dX9_canary_27 rfl rfl ?_
    refine wp_aload_n dX9_canary_28 rfl ?_
    refine wp_arrR (y := 25) (c := 225) hfr (by decide) rfl fl_X9_81 dX9_canary_29 ?_
    refine wp_iload_n dX9_canary_32 rfl ?_
    refine wp_iload_n dX9_canary_33 rfl ?_
    refine wp_iastR (c := 225) (y := 25) rfl rfl (show vp_in (x1) (len 225) from c11) dX9_canary_34 ?_
    obtain ⟨rho12, e13, h⟩ := wr_e h
    rw [e13]
    refine wp_aload_n dX9_canary_35 rfl ?_
    refine wp_arrR (y := 26) (c := 226) hfr (by decide) rfl fl_X9_84 dX9_canary_36 ?_
    refine wp_iload_n dX9_canary_39 rfl ?_
    refine wp_iconst (v := 0) dX9_canary_40 (by decide) ?_
    refine wp_iastR (c := 226) (y := 26) rfl rfl (show vp_in (x1) (len 226) from c11) dX9_canary_41 ?_
    obtain ⟨rho14, e15, h⟩ := wr_e h
    rw [e15]
    refine wp_iconst (v := 2) dX9_canary_42 (by decide) ?_
    refine wp_iload_n dX9_canary_43 rfl ?_
    refine wp_imul dX9_canary_44 ?_
    refine wp_istore (L' := [some (vR 9 0), some (vI (x1)), some (vI (x2)), some (vI ((rho8 25 (x1).toNatClampNeg))), some (vI ((2 * x1)))]) dX9_canary_45 rfl rfl ?_
    exact w9_canary_47 hfr FU h
  · replace h := itp c10 h
    refine wp_iconst (v := 0) dX9_canary_19 (by decide) ?_
    obtain ⟨q1, q2⟩ := sm_e h
    subst q1
    subst q2
    exact wp_ireturn rfl dX9_canary_20 ⟨rfl, rfl⟩
def f9_traces (x1 x2 : Int32) (rho : RH) : Option (Int32 × RH) :=
  ob (f9_in (x1) (1) (10) rho) fun r1 rho2 =>
  if r1 = 0 then
    ob (f9_goes (0) (1) (1) rho2) fun r5 rho6 =>
    if r5 = 0 then
      some (0, rho6)
    else
      wr (up2 rho6 29 0 (x1)) fun rho9 =>
      wr (up2 rho9 30 0 (x2)) fun rho11 =>
      some (0, rho11)
  else
    ob (f9_in (x2) (1) (600) rho2) fun r13 rho14 =>
    if r13 = 0 then
      ob (f9_goes (0) (1) (1) rho14) fun r17 rho18 =>
      if r17 = 0 then
        some (0, rho18)
      else
        wr (up2 rho18 29 0 (x1)) fun rho21 =>
        wr (up2 rho21 30 0 (x2)) fun rho23 =>
        some (0, rho23)
    else
      ob (f9_goes (1) (1) (1) rho14) fun r25 rho26 =>
      if r25 = 0 then
        some (0, rho26)
      else
        wr (up2 rho26 29 0 (x1)) fun rho29 =>
        wr (up2 rho29 30 0 (x2)) fun rho31 =>
        some (0, rho31)
theorem w9_traces {r : Int32} {rho9 : RH} (hfr : RA fr) {x1 x2 : Int32} {rho : RH} (h : f9_traces x1 x2 rho = some (r, rho9)) : Spec mX9_traces 1 0 [vR 9 0, vI x1, vI x2] (lv, fr, fi, ai, ar, li, out, rho) (Po lv fr fi ai ar li out (none) rho9) NX := by
  unfold f9_traces at h
  refine spec_of (by decide) rfl (by simp [catS, cat1]) (Nat.le_of_ble_eq_true rfl) ?_
  show WP mX9_traces 1 0 0 [some (vR 9 0), some (vI (x1)), some (vI (x2))] [] (lv, fr, fi, ai, ar, li, out, rho) (Po lv fr fi ai ar li out (none) rho9) NX
  refine wp_aload_n dX9_traces_0 rfl ?_
  refine wp_iload_n dX9_traces_1 rfl ?_
  refine wp_iconst (v := 1) dX9_traces_2 (by decide) ?_
  refine wp_bipush (v := 10) dX9_traces_3 (by decide) ?_
  obtain ⟨r1, rho2, hp3, h⟩ := ob_e h
  refine wp_callS (k1 := 0) (k2 := 0) (As := [vI (x1), vI (1), vI (10)]) (rest := [vR 9 0]) (w9_in hfr hp3) okX9_in sm_X9_in rfl ml_X9_189 dX9_traces_5 rfl (by decide) (Nat.le_refl _) rfl (Nat.le_of_ble_eq_true rfl) (fun _ _ z => z.elim) (fun r' S' z => ?_)
  obtain ⟨rfl, rfl⟩ := z
  show WP _ _ _ _ [some (vR 9 0), some (vI (x1)), some (vI (x2))] [vI (r1), vR 9 0] _ _ _
  refine wp_if_eq (tgt := 26) dX9_traces_8 (by decide) (fun c4 => ?_) (fun c4 => ?_)
  · replace h := itp c4 h
    refine wp_iconst (v := 0) dX9_traces_26 (by decide) ?_
    refine wp_iconst (v := 1) dX9_traces_27 (by decide) ?_
    refine wp_iconst (v := 1) dX9_traces_28 (by decide) ?_
    obtain ⟨r5, rho6, hp7, h⟩ := ob_e h
    refine wp_callV (k1 := 0) (k2 := 0) (As := [vI (0), vI (1), vI (1)]) (rest := []) (w9_goes hfr hp7) okX9_goes ivX9_goes rfl (by decide) ml_X9_203 dX9_traces_29 rfl (by decide) (Nat.le_refl _) rfl (Nat.le_of_ble_eq_true rfl) (fun _ _ z => z.elim) (fun r' S' z => ?_)
    obtain ⟨rfl, rfl⟩ := z
    show WP _ _ _ _ [some (vR 9 0), some (vI (x1)), some (vI (x2))] [vI (r5)] _ _ _
    refine wp_if_eq (tgt := 45) dX9_traces_32 (by decide) (fun c8 => ?_) (fun c8 => ?_)
    · replace h := itp c8 h
      obtain ⟨q1, q2⟩ := sm_e h
      subst q2
      exact wp_return rfl dX9_traces_45 ⟨rfl, rfl⟩
    · replace h := itn c8 h
      refine wp_aload_n dX9_traces_35 rfl ?_
      refine wp_iload_n dX9_traces_36 rfl ?_
      refine wp_putRI (y := 29) (by decide) rfl rfl fl_X9_93 dX9_traces_37 rfl ?_
      obtain ⟨rho9, e10, h⟩ := wr_e h
      rw [e10]
      refine wp_aload_n dX9_traces_40 rfl ?_
      refine wp_iload_n dX9_traces_41 rfl ?_
      refine wp_putRI (y := 30) (by decide) rfl rfl fl_X9_96 dX9_traces_42 rfl ?_
      obtain ⟨rho11, e12, h⟩ := wr_e h
      rw [e12]
      obtain ⟨q1, q2⟩ := sm_e h
      subst q2
      exact wp_return rfl dX9_traces_45 ⟨rfl, rfl⟩
  · replace h := itn c4 h
    refine wp_iload_n dX9_traces_11 rfl ?_
    refine wp_iconst (v := 1) dX9_traces_12 (by decide) ?_
    refine wp_sipush (v := 600) dX9_traces_13 (by decide) ?_
    obtain ⟨r13, rho14, hp15, h⟩ := ob_e h
    refine wp_callS (k1 := 0) (k2 := 0) (As := [vI (x2), vI (1), vI (600)]) (rest := [vR 9 0]) (w9_in hfr hp15) okX9_in sm_X9_in rfl ml_X9_189 dX9_traces_16 rfl (by decide) (Nat.le_refl _) rfl (Nat.le_of_ble_eq_true rfl) (fun _ _ z => z.elim) (fun r' S' z => ?_)
    obtain ⟨rfl, rfl⟩ := z
    show WP _ _ _ _ [some (vR 9 0), some (vI (x1)), some (vI (x2))] [vI (r13), vR 9 0] _ _ _
    refine wp_if_eq (tgt := 26) dX9_traces_19 (by decide) (fun c16 => ?_) (fun c16 => ?_)
    · replace h := itp c16 h
      refine wp_iconst (v := 0) dX9_traces_26 (by decide) ?_
      refine wp_iconst (v := 1) dX9_traces_27 (by decide) ?_
      refine wp_iconst (v := 1) dX9_traces_28 (by decide) ?_
      obtain ⟨r17, rho18, hp19, h⟩ := ob_e h
      refine wp_callV (k1 := 0) (k2 := 0) (As := [vI (0), vI (1), vI (1)]) (rest := []) (w9_goes hfr hp19) okX9_goes ivX9_goes rfl (by decide) ml_X9_203 dX9_traces_29 rfl (by decide) (Nat.le_refl _) rfl (Nat.le_of_ble_eq_true rfl) (fun _ _ z => z.elim) (fun r' S' z => ?_)
      obtain ⟨rfl, rfl⟩ := z
      show WP _ _ _ _ [some (vR 9 0), some (vI (x1)), some (vI (x2))] [vI (r17)] _ _ _
      refine wp_if_eq (tgt := 45) dX9_traces_32 (by decide) (fun c20 => ?_) (fun c20 => ?_)
      · replace h := itp c20 h
        obtain ⟨q1, q2⟩ := sm_e h
        subst q2
        exact wp_return rfl dX9_traces_45 ⟨rfl, rfl⟩
      · replace h := itn c20 h
        refine wp_aload_n dX9_traces_35 rfl ?_
        refine wp_iload_n dX9_traces_36 rfl ?_
        refine wp_putRI (y := 29) (by decide) rfl rfl fl_X9_93 dX9_traces_37 rfl ?_
        obtain ⟨rho21, e22, h⟩ := wr_e h
        rw [e22]
        refine wp_aload_n dX9_traces_40 rfl ?_
        refine wp_iload_n dX9_traces_41 rfl ?_
        refine wp_putRI (y := 30) (by decide) rfl rfl fl_X9_96 dX9_traces_42 rfl ?_
        obtain ⟨rho23, e24, h⟩ := wr_e h
        rw [e24]
        obtain ⟨q1, q2⟩ := sm_e h
        subst q2
        exact wp_return rfl dX9_traces_45 ⟨rfl, rfl⟩
    · replace h := itn c16 h
      refine wp_iconst (v := 1) dX9_traces_22 (by decide) ?_
      refine wp_goto (tgt := 27) dX9_traces_23 (by decide) ?_
      refine wp_iconst (v := 1) dX9_traces_27 (by decide) ?_
      refine wp_iconst (v := 1) dX9_traces_28 (by decide) ?_
      obtain ⟨r25, rho26, hp27, h⟩ := ob_e h
      refine wp_callV (k1 := 0) (k2 := 0) (As := [vI (1), vI (1), vI (1)]) (rest := []) (w9_goes hfr hp27) okX9_goes ivX9_goes rfl (by decide) ml_X9_203 dX9_traces_29 rfl (by decide) (Nat.le_refl _) rfl (Nat.le_of_ble_eq_true rfl) (fun _ _ z => z.elim) (fun r' S' z => ?_)
      obtain ⟨rfl, rfl⟩ := z
      show WP _ _ _ _ [some (vR 9 0), some (vI (x1)), some (vI (x2))] [vI (r25)] _ _ _
      refine wp_if_eq (tgt := 45) dX9_traces_32 (by decide) (fun c28 => ?_) (fun c28 => ?_)
      · replace h := itp c28 h
        obtain ⟨q1, q2⟩ := sm_e h
        subst q2
        exact wp_return rfl dX9_traces_45 ⟨rfl, rfl⟩
      · replace h := itn c28 h
        refine wp_aload_n dX9_traces_35 rfl ?_
        refine wp_iload_n dX9_traces_36 rfl ?_
        refine wp_putRI (y := 29) (by decide) rfl rfl fl_X9_93 dX9_traces_37 rfl ?_
        obtain ⟨rho29, e30, h⟩ := wr_e h
        rw [e30]
        refine wp_aload_n dX9_traces_40 rfl ?_
        refine wp_iload_n dX9_traces_41 rfl ?_
        refine wp_putRI (y := 30) (by decide) rfl rfl fl_X9_96 dX9_traces_42 rfl ?_
        obtain ⟨rho31, e32, h⟩ := wr_e h
        rw [e32]
        obtain ⟨q1, q2⟩ := sm_e h
        subst q2
        exact wp_return rfl dX9_traces_45 ⟨rfl, rfl⟩
def f9_callerOf (x1 : Int32) (rho : RH) : Option (Int32 × RH) :=
  if 400 ≤ x1 then
    if 440 ≤ x1 then
      if vq (((x1 - 400) - 40)) 100 then
      some ((rho 61 (((x1 - 400) - 40)).toNatClampNeg), rho)
      else none
    else
      some (6, rho)
  else
    if vq (x1) 400 then
    some ((rho 34 (x1).toNatClampNeg), rho)
    else none
theorem w9_callerOf {r : Int32} {rho9 : RH} (hfr : RA fr) {x1 : Int32} {rho : RH} (h : f9_callerOf x1 rho = some (r, rho9)) : Spec mX9_callerOf 0 0 [vR 9 0, vI x1] (lv, fr, fi, ai, ar, li, out, rho) (Po lv fr fi ai ar li out (some (vI r)) rho9) NX := by
  unfold f9_callerOf at h
  refine spec_of (by decide) rfl (by simp [catS, cat1]) (Nat.le_of_ble_eq_true rfl) ?_
  show WP mX9_callerOf 0 0 0 [some (vR 9 0), some (vI (x1))] [] (lv, fr, fi, ai, ar, li, out, rho) (Po lv fr fi ai ar li out (some (vI r)) rho9) NX
  refine wp_iload_n dX9_callerOf_0 rfl ?_
  refine wp_sipush (v := 400) dX9_callerOf_1 (by decide) ?_
  refine wp_icmp_ge (tgt := 16) dX9_callerOf_4 (by decide) (fun c1 => ?_) (fun c1 => ?_)
  · replace h := itp c1 h
    refine wp_iload_n dX9_callerOf_16 rfl ?_
    refine wp_sipush (v := 440) dX9_callerOf_17 (by decide) ?_
    refine wp_icmp_ge (tgt := 28) dX9_callerOf_20 (by decide) (fun c2 => ?_) (fun c2 => ?_)
    · replace h := itp c2 h
      refine wp_aload_n dX9_callerOf_28 rfl ?_
      refine wp_arrR (y := 61) (c := 261) hfr (by decide) rfl fl_X9_177 dX9_callerOf_29 ?_
      refine wp_iload_n dX9_callerOf_32 rfl ?_
      refine wp_sipush (v := 400) dX9_callerOf_33 (by decide) ?_
      refine wp_isub dX9_callerOf_36 ?_
      refine wp_bipush (v := 40) dX9_callerOf_37 (by decide) ?_
      refine wp_isub dX9_callerOf_39 ?_
      obtain ⟨c3, h⟩ := ock h
      refine wp_ialdR (c := 261) (y := 61) rfl rfl (show vp_in (((x1 - 400) - 40)) (len 261) from c3) dX9_callerOf_40 ?_
      obtain ⟨q1, q2⟩ := sm_e h
      subst q1
      subst q2
      exact wp_ireturn rfl dX9_callerOf_41 ⟨rfl, rfl⟩
    · replace h := itn c2 h
      refine wp_bipush (v := 6) dX9_callerOf_23 (by decide) ?_
      refine wp_goto (tgt := 41) dX9_callerOf_25 (by decide) ?_
      obtain ⟨q1, q2⟩ := sm_e h
      subst q1
      subst q2
      exact wp_ireturn rfl dX9_callerOf_41 ⟨rfl, rfl⟩
  · replace h := itn c1 h
    refine wp_aload_n dX9_callerOf_7 rfl ?_
    refine wp_arrR (y := 34) (c := 234) hfr (by decide) rfl fl_X9_105 dX9_callerOf_8 ?_
    refine wp_iload_n dX9_callerOf_11 rfl ?_
    obtain ⟨c4, h⟩ := ock h
    refine wp_ialdR (c := 234) (y := 34) rfl rfl (show vp_in (x1) (len 234) from c4) dX9_callerOf_12 ?_
    refine wp_goto (tgt := 41) dX9_callerOf_13 (by decide) ?_
    obtain ⟨q1, q2⟩ := sm_e h
    subst q1
    subst q2
    exact wp_ireturn rfl dX9_callerOf_41 ⟨rfl, rfl⟩
def f9_calledBy (x1 : Int32) (rho : RH) : Option (Int32 × RH) :=
  if 400 ≤ x1 then
    if 440 ≤ x1 then
      if vq (((x1 - 400) - 40)) 100 then
      some ((rho 62 (((x1 - 400) - 40)).toNatClampNeg), rho)
      else none
    else
      if vq ((x1 - 400)) 40 then
      some ((rho 52 ((x1 - 400)).toNatClampNeg), rho)
      else none
  else
    if vq (x1) 400 then
    if vq (x1) 540 then
    if vq (((4 * (rho 34 (x1).toNatClampNeg)) + (rho 46 (x1).toNatClampNeg))) 24 then
    some ((rho 3 (((4 * (rho 34 (x1).toNatClampNeg)) + (rho 46 (x1).toNatClampNeg))).toNatClampNeg), rho)
    else none
    else none
    else none
theorem w9_calledBy {r : Int32} {rho9 : RH} (hfr : RA fr) {x1 : Int32} {rho : RH} (h : f9_calledBy x1 rho = some (r, rho9)) : Spec mX9_calledBy 0 0 [vR 9 0, vI x1] (lv, fr, fi, ai, ar, li, out, rho) (Po lv fr fi ai ar li out (some (vI r)) rho9) NX := by
  unfold f9_calledBy at h
  refine spec_of (by decide) rfl (by simp [catS, cat1]) (Nat.le_of_ble_eq_true rfl) ?_
  show WP mX9_calledBy 0 0 0 [some (vR 9 0), some (vI (x1))] [] (lv, fr, fi, ai, ar, li, out, rho) (Po lv fr fi ai ar li out (some (vI r)) rho9) NX
  refine wp_iload_n dX9_calledBy_0 rfl ?_
  refine wp_sipush (v := 400) dX9_calledBy_1 (by decide) ?_
  refine wp_icmp_ge (tgt := 30) dX9_calledBy_4 (by decide) (fun c1 => ?_) (fun c1 => ?_)
  · replace h := itp c1 h
    refine wp_iload_n dX9_calledBy_30 rfl ?_
    refine wp_sipush (v := 440) dX9_calledBy_31 (by decide) ?_
    refine wp_icmp_ge (tgt := 50) dX9_calledBy_34 (by decide) (fun c2 => ?_) (fun c2 => ?_)
    · replace h := itp c2 h
      refine wp_aload_n dX9_calledBy_50 rfl ?_
      refine wp_arrR (y := 62) (c := 262) hfr (by decide) rfl fl_X9_180 dX9_calledBy_51 ?_
      refine wp_iload_n dX9_calledBy_54 rfl ?_
      refine wp_sipush (v := 400) dX9_calledBy_55 (by decide) ?_
      refine wp_isub dX9_calledBy_58 ?_
      refine wp_bipush (v := 40) dX9_calledBy_59 (by decide) ?_
      refine wp_isub dX9_calledBy_61 ?_
      obtain ⟨c3, h⟩ := ock h
      refine wp_ialdR (c := 262) (y := 62) rfl rfl (show vp_in (((x1 - 400) - 40)) (len 262) from c3) dX9_calledBy_62 ?_
      obtain ⟨q1, q2⟩ := sm_e h
      subst q1
      subst q2
      exact wp_ireturn rfl dX9_calledBy_63 ⟨rfl, rfl⟩
    · replace h := itn c2 h
      refine wp_aload_n dX9_calledBy_37 rfl ?_
      refine wp_arrR (y := 52) (c := 252) hfr (by decide) rfl fl_X9_156 dX9_calledBy_38 ?_
      refine wp_iload_n dX9_calledBy_41 rfl ?_
      refine wp_sipush (v := 400) dX9_calledBy_42 (by decide) ?_
      refine wp_isub dX9_calledBy_45 ?_
      obtain ⟨c4, h⟩ := ock h
      refine wp_ialdR (c := 252) (y := 52) rfl rfl (show vp_in ((x1 - 400)) (len 252) from c4) dX9_calledBy_46 ?_
      refine wp_goto (tgt := 63) dX9_calledBy_47 (by decide) ?_
      obtain ⟨q1, q2⟩ := sm_e h
      subst q1
      subst q2
      exact wp_ireturn rfl dX9_calledBy_63 ⟨rfl, rfl⟩
  · replace h := itn c1 h
    refine wp_aload_n dX9_calledBy_7 rfl ?_
    refine wp_arrR (y := 3) (c := 203) hfr (by decide) rfl fl_X9_16 dX9_calledBy_8 ?_
    refine wp_iconst (v := 4) dX9_calledBy_11 (by decide) ?_
    refine wp_aload_n dX9_calledBy_12 rfl ?_
    refine wp_arrR (y := 34) (c := 234) hfr (by decide) rfl fl_X9_105 dX9_calledBy_13 ?_
    refine wp_iload_n dX9_calledBy_16 rfl ?_
    obtain ⟨c5, h⟩ := ock h
    refine wp_ialdR (c := 234) (y := 34) rfl rfl (show vp_in (x1) (len 234) from c5) dX9_calledBy_17 ?_
    refine wp_imul dX9_calledBy_18 ?_
    refine wp_aload_n dX9_calledBy_19 rfl ?_
    refine wp_arrR (y := 46) (c := 246) hfr (by decide) rfl fl_X9_141 dX9_calledBy_20 ?_
    refine wp_iload_n dX9_calledBy_23 rfl ?_
    obtain ⟨c6, h⟩ := ock h
    refine wp_ialdR (c := 246) (y := 46) rfl rfl (show vp_in (x1) (len 246) from c6) dX9_calledBy_24 ?_
    refine wp_iadd dX9_calledBy_25 ?_
    obtain ⟨c7, h⟩ := ock h
    refine wp_ialdR (c := 203) (y := 3) rfl rfl (show vp_in (((4 * (rho 34 (x1).toNatClampNeg)) + (rho 46 (x1).toNatClampNeg))) (len 203) from c7) dX9_calledBy_26 ?_
    refine wp_goto (tgt := 63) dX9_calledBy_27 (by decide) ?_
    obtain ⟨q1, q2⟩ := sm_e h
    subst q1
    subst q2
    exact wp_ireturn rfl dX9_calledBy_63 ⟨rfl, rfl⟩
def f9_wantedVersion (x1 : Int32) (rho : RH) : Option (Int32 × RH) :=
  if vq (x1) 6 then
  if (rho 25 (x1).toNatClampNeg) = 0 then
    some ((-1), rho)
  else
    wr (up2 rho 26 (x1).toNatClampNeg (((rho 26 (x1).toNatClampNeg) + 1))) fun rho3 =>
    if (((rho3 26 (x1).toNatClampNeg) * (rho3 25 (x1).toNatClampNeg)) / 100) ≤ ((((rho3 26 (x1).toNatClampNeg) - 1) * (rho3 25 (x1).toNatClampNeg)) / 100) then
      some (0, rho3)
    else
      some (1, rho3)
  else none
theorem w9_wantedVersion {r : Int32} {rho9 : RH} (hfr : RA fr) {x1 : Int32} {rho : RH} (h : f9_wantedVersion x1 rho = some (r, rho9)) : Spec mX9_wantedVersion 0 0 [vR 9 0, vI x1] (lv, fr, fi, ai, ar, li, out, rho) (Po lv fr fi ai ar li out (some (vI r)) rho9) NX := by
  unfold f9_wantedVersion at h
  refine spec_of (by decide) rfl (by simp [catS, cat1]) (Nat.le_of_ble_eq_true rfl) ?_
  show WP mX9_wantedVersion 0 0 0 [some (vR 9 0), some (vI (x1)), none] [] (lv, fr, fi, ai, ar, li, out, rho) (Po lv fr fi ai ar li out (some (vI r)) rho9) NX
  refine wp_aload_n dX9_wantedVersion_0 rfl ?_
  refine wp_arrR (y := 25) (c := 225) hfr (by decide) rfl fl_X9_81 dX9_wantedVersion_1 ?_
  refine wp_iload_n dX9_wantedVersion_4 rfl ?_
  obtain ⟨c1, h⟩ := ock h
  refine wp_ialdR (c := 225) (y := 25) rfl rfl (show vp_in (x1) (len 225) from c1) dX9_wantedVersion_5 ?_
  refine wp_if_ne (tgt := 11) dX9_wantedVersion_6 (by decide) (fun c2 => ?_) (fun c2 => ?_)
  · replace h := itn c2 h
    refine wp_aload_n dX9_wantedVersion_11 rfl ?_
    refine wp_arrR (y := 26) (c := 226) hfr (by decide) rfl fl_X9_84 dX9_wantedVersion_12 ?_
    refine wp_iload_n dX9_wantedVersion_15 rfl ?_
    refine wp_dup2 dX9_wantedVersion_16 trivial trivial ?_
    refine wp_ialdR (c := 226) (y := 26) rfl rfl (show vp_in (x1) (len 226) from c1) dX9_wantedVersion_17 ?_
    refine wp_iconst (v := 1) dX9_wantedVersion_18 (by decide) ?_
    refine wp_iadd dX9_wantedVersion_19 ?_
    refine wp_iastR (c := 226) (y := 26) rfl rfl (show vp_in (x1) (len 226) from c1) dX9_wantedVersion_20 ?_
    obtain ⟨rho3, e4, h⟩ := wr_e h
    rw [e4]
    refine wp_aload_n dX9_wantedVersion_21 rfl ?_
    refine wp_arrR (y := 26) (c := 226) hfr (by decide) rfl fl_X9_84 dX9_wantedVersion_22 ?_
    refine wp_iload_n dX9_wantedVersion_25 rfl ?_
    refine wp_ialdR (c := 226) (y := 26) rfl rfl (show vp_in (x1) (len 226) from c1) dX9_wantedVersion_26 ?_
    refine wp_istore_n (L' := [some (vR 9 0), some (vI (x1)), some (vI ((rho3 26 (x1).toNatClampNeg)))]) dX9_wantedVersion_27 rfl rfl ?_
    refine wp_iload_n dX9_wantedVersion_28 rfl ?_
    refine wp_aload_n dX9_wantedVersion_29 rfl ?_
    refine wp_arrR (y := 25) (c := 225) hfr (by decide) rfl fl_X9_81 dX9_wantedVersion_30 ?_
    refine wp_iload_n dX9_wantedVersion_33 rfl ?_
    refine wp_ialdR (c := 225) (y := 25) rfl rfl (show vp_in (x1) (len 225) from c1) dX9_wantedVersion_34 ?_
    refine wp_imul dX9_wantedVersion_35 ?_
    refine wp_bipush (v := 100) dX9_wantedVersion_36 (by decide) ?_
    refine wp_idiv dX9_wantedVersion_38 (by decide) ?_
    refine wp_iload_n dX9_wantedVersion_39 rfl ?_
    refine wp_iconst (v := 1) dX9_wantedVersion_40 (by decide) ?_
    refine wp_isub dX9_wantedVersion_41 ?_
    refine wp_aload_n dX9_wantedVersion_42 rfl ?_
    refine wp_arrR (y := 25) (c := 225) hfr (by decide) rfl fl_X9_81 dX9_wantedVersion_43 ?_
    refine wp_iload_n dX9_wantedVersion_46 rfl ?_
    refine wp_ialdR (c := 225) (y := 25) rfl rfl (show vp_in (x1) (len 225) from c1) dX9_wantedVersion_47 ?_
    refine wp_imul dX9_wantedVersion_48 ?_
    refine wp_bipush (v := 100) dX9_wantedVersion_49 (by decide) ?_
    refine wp_idiv dX9_wantedVersion_51 (by decide) ?_
    refine wp_icmp_le (tgt := 59) dX9_wantedVersion_52 (by decide) (fun c5 => ?_) (fun c5 => ?_)
    · replace h := itp c5 h
      refine wp_iconst (v := 0) dX9_wantedVersion_59 (by decide) ?_
      obtain ⟨q1, q2⟩ := sm_e h
      subst q1
      subst q2
      exact wp_ireturn rfl dX9_wantedVersion_60 ⟨rfl, rfl⟩
    · replace h := itn c5 h
      refine wp_iconst (v := 1) dX9_wantedVersion_55 (by decide) ?_
      refine wp_goto (tgt := 60) dX9_wantedVersion_56 (by decide) ?_
      obtain ⟨q1, q2⟩ := sm_e h
      subst q1
      subst q2
      exact wp_ireturn rfl dX9_wantedVersion_60 ⟨rfl, rfl⟩
  · replace h := itp c2 h
    refine wp_iconst (v := (-1)) dX9_wantedVersion_9 (by decide) ?_
    obtain ⟨q1, q2⟩ := sm_e h
    subst q1
    subst q2
    exact wp_ireturn rfl dX9_wantedVersion_10 ⟨rfl, rfl⟩
def l9_isAvoided_4 : Nat → Int32 → Int32 → Int32 → RH → Option (Int32 × RH)
  | 0, _, _, _, _ => none
  | n + 1, x1, x2, x3, rho =>
  if 7 ≤ x3 then
    if x2 < (rho 20 0) then
      some (0, rho)
    else
      some (1, rho)
  else
    if vq (((12 * x3) + x1)) 84 then
    if (rho 21 (((12 * x3) + x1)).toNatClampNeg) = 1 then
      l9_isAvoided_4 n (x1) ((x2 + 1)) (x3 + 1) rho
    else
      l9_isAvoided_4 n (x1) ((x2 + 0)) (x3 + 1) rho
    else none
theorem w9_isAvoided_4 {r : Int32} {rho9 : RH} (hfr : RA fr) : ∀ (n : Nat) {x1 x2 x3 : Int32} {rho : RH}, l9_isAvoided_4 n x1 x2 x3 rho = some (r, rho9) → WP mX9_isAvoided 0 0 4 [some (vR 9 0), some (vI (x1)), some (vI (x2)), some (vI (x3))] [] (lv, fr, fi, ai, ar, li, out, rho) (Po lv fr fi ai ar li out (some (vI r)) rho9) NX := by
  intro n
  induction n with
  | zero =>
    intro x1 x2 x3 rho h
    rw [l9_isAvoided_4] at h
    cases h
  | succ n ih =>
    intro x1 x2 x3 rho h
    rw [l9_isAvoided_4] at h
    refine wp_iload_n dX9_isAvoided_4 rfl ?_
    refine wp_bipush (v := 7) dX9_isAvoided_5 (by decide) ?_
    refine wp_icmp_ge (tgt := 39) dX9_isAvoided_7 (by decide) (fun c1 => ?_) (fun c1 => ?_)
    · replace h := itp c1 h
      refine wp_iload_n dX9_isAvoided_39 rfl ?_
      refine wp_aload_n dX9_isAvoided_40 rfl ?_
      refine wp_getRI (y := 20) (by decide) rfl fl_X9_65 dX9_isAvoided_41 ?_
      refine wp_icmp_lt (tgt := 51) dX9_isAvoided_44 (by decide) (fun c2 => ?_) (fun c2 => ?_)
      · replace h := itp c2 h
        refine wp_iconst (v := 0) dX9_isAvoided_51 (by decide) ?_
        obtain ⟨q1, q2⟩ := sm_e h
        subst q1
        subst q2
        exact wp_zreturn rfl (by decide) dX9_isAvoided_52 ⟨rfl, rfl⟩
      · replace h := itn c2 h
        refine wp_iconst (v := 1) dX9_isAvoided_47 (by decide) ?_
        refine wp_goto (tgt := 52) dX9_isAvoided_48 (by decide) ?_
        obtain ⟨q1, q2⟩ := sm_e h
        subst q1
        subst q2
        exact wp_zreturn rfl (by decide) dX9_isAvoided_52 ⟨rfl, rfl⟩
    · replace h := itn c1 h
      refine wp_iload_n dX9_isAvoided_10 rfl ?_
      refine wp_aload_n dX9_isAvoided_11 rfl ?_
      refine wp_arrR (y := 21) (c := 221) hfr (by decide) rfl fl_X9_69 dX9_isAvoided_12 ?_
      refine wp_bipush (v := 12) dX9_isAvoided_15 (by decide) ?_
      refine wp_iload_n dX9_isAvoided_17 rfl ?_
      refine wp_imul dX9_isAvoided_18 ?_
      refine wp_iload_n dX9_isAvoided_19 rfl ?_
      refine wp_iadd dX9_isAvoided_20 ?_
      obtain ⟨c3, h⟩ := ock h
      refine wp_ialdR (c := 221) (y := 21) rfl rfl (show vp_in (((12 * x3) + x1)) (len 221) from c3) dX9_isAvoided_21 ?_
      refine wp_iconst (v := 1) dX9_isAvoided_22 (by decide) ?_
      refine wp_icmp_ne (tgt := 30) dX9_isAvoided_23 (by decide) (fun c4 => ?_) (fun c4 => ?_)
      · replace h := itn c4 h
        refine wp_iconst (v := 0) dX9_isAvoided_30 (by decide) ?_
        refine wp_iadd dX9_isAvoided_31 ?_
        refine wp_istore_n (L' := [some (vR 9 0), some (vI (x1)), some (vI ((x2 + 0))), some (vI (x3))]) dX9_isAvoided_32 rfl rfl ?_
        refine wp_iinc (v := x3 + 1) (L' := [some (vR 9 0), some (vI (x1)), some (vI ((x2 + 0))), some (vI (x3 + 1))]) dX9_isAvoided_33 rfl rfl rfl ?_
        refine wp_goto (tgt := 4) dX9_isAvoided_36 (by decide) ?_
        exact ih h
      · replace h := itp c4 h
        refine wp_iconst (v := 1) dX9_isAvoided_26 (by decide) ?_
        refine wp_goto (tgt := 31) dX9_isAvoided_27 (by decide) ?_
        refine wp_iadd dX9_isAvoided_31 ?_
        refine wp_istore_n (L' := [some (vR 9 0), some (vI (x1)), some (vI ((x2 + 1))), some (vI (x3))]) dX9_isAvoided_32 rfl rfl ?_
        refine wp_iinc (v := x3 + 1) (L' := [some (vR 9 0), some (vI (x1)), some (vI ((x2 + 1))), some (vI (x3 + 1))]) dX9_isAvoided_33 rfl rfl rfl ?_
        refine wp_goto (tgt := 4) dX9_isAvoided_36 (by decide) ?_
        exact ih h
def f9_isAvoided (x1 : Int32) (rho : RH) : Option (Int32 × RH) :=
  l9_isAvoided_4 FU (x1) (0) (0) rho
theorem w9_isAvoided {r : Int32} {rho9 : RH} (hfr : RA fr) {x1 : Int32} {rho : RH} (h : f9_isAvoided x1 rho = some (r, rho9)) : Spec mX9_isAvoided 0 0 [vR 9 0, vI x1] (lv, fr, fi, ai, ar, li, out, rho) (Po lv fr fi ai ar li out (some (vI r)) rho9) NX := by
  unfold f9_isAvoided at h
  refine spec_of (by decide) rfl (by simp [catS, cat1]) (Nat.le_of_ble_eq_true rfl) ?_
  show WP mX9_isAvoided 0 0 0 [some (vR 9 0), some (vI (x1)), none, none] [] (lv, fr, fi, ai, ar, li, out, rho) (Po lv fr fi ai ar li out (some (vI r)) rho9) NX
  refine wp_iconst (v := 0) dX9_isAvoided_0 (by decide) ?_
  refine wp_istore_n (L' := [some (vR 9 0), some (vI (x1)), some (vI (0)), none]) dX9_isAvoided_1 rfl rfl ?_
  refine wp_iconst (v := 0) dX9_isAvoided_2 (by decide) ?_
  refine wp_istore_n (L' := [some (vR 9 0), some (vI (x1)), some (vI (0)), some (vI (0))]) dX9_isAvoided_3 rfl rfl ?_
  exact w9_isAvoided_4 hfr FU h
def f9_hasEnded (x1 : Int32) (rho : RH) : Option (Int32 × RH) :=
  if vq (x1) 400 then
  if (rho 37 (x1).toNatClampNeg) ≤ 2 then
    some (0, rho)
  else
    some (1, rho)
  else none
theorem w9_hasEnded {r : Int32} {rho9 : RH} (hfr : RA fr) {x1 : Int32} {rho : RH} (h : f9_hasEnded x1 rho = some (r, rho9)) : Spec mX9_hasEnded 0 0 [vR 9 0, vI x1] (lv, fr, fi, ai, ar, li, out, rho) (Po lv fr fi ai ar li out (some (vI r)) rho9) NX := by
  unfold f9_hasEnded at h
  refine spec_of (by decide) rfl (by simp [catS, cat1]) (Nat.le_of_ble_eq_true rfl) ?_
  show WP mX9_hasEnded 0 0 0 [some (vR 9 0), some (vI (x1))] [] (lv, fr, fi, ai, ar, li, out, rho) (Po lv fr fi ai ar li out (some (vI r)) rho9) NX
  refine wp_aload_n dX9_hasEnded_0 rfl ?_
  refine wp_arrR (y := 37) (c := 237) hfr (by decide) rfl fl_X9_114 dX9_hasEnded_1 ?_
  refine wp_iload_n dX9_hasEnded_4 rfl ?_
  obtain ⟨c1, h⟩ := ock h
  refine wp_ialdR (c := 237) (y := 37) rfl rfl (show vp_in (x1) (len 237) from c1) dX9_hasEnded_5 ?_
  refine wp_iconst (v := 2) dX9_hasEnded_6 (by decide) ?_
  refine wp_icmp_le (tgt := 14) dX9_hasEnded_7 (by decide) (fun c2 => ?_) (fun c2 => ?_)
  · replace h := itp c2 h
    refine wp_iconst (v := 0) dX9_hasEnded_14 (by decide) ?_
    obtain ⟨q1, q2⟩ := sm_e h
    subst q1
    subst q2
    exact wp_zreturn rfl (by decide) dX9_hasEnded_15 ⟨rfl, rfl⟩
  · replace h := itn c2 h
    refine wp_iconst (v := 1) dX9_hasEnded_10 (by decide) ?_
    refine wp_goto (tgt := 15) dX9_hasEnded_11 (by decide) ?_
    obtain ⟨q1, q2⟩ := sm_e h
    subst q1
    subst q2
    exact wp_zreturn rfl (by decide) dX9_hasEnded_15 ⟨rfl, rfl⟩
def f9_isKnown (x1 : Int32) (rho : RH) : Option (Int32 × RH) :=
  ob (f9_hasEnded (x1) rho) fun r1 rho2 =>
  if r1 = 0 then
    some (0, rho2)
  else
    if vq (x1) 400 then
    if (rho2 37 (x1).toNatClampNeg) = 7 then
      some (0, rho2)
    else
      if (rho2 42 (x1).toNatClampNeg) = 0 then
        some (1, rho2)
      else
        if (rho2 0 0) < (rho2 38 (x1).toNatClampNeg) then
          some (0, rho2)
        else
          some (1, rho2)
    else none
theorem w9_isKnown {r : Int32} {rho9 : RH} (hfr : RA fr) {x1 : Int32} {rho : RH} (h : f9_isKnown x1 rho = some (r, rho9)) : Spec mX9_isKnown 1 0 [vR 9 0, vI x1] (lv, fr, fi, ai, ar, li, out, rho) (Po lv fr fi ai ar li out (some (vI r)) rho9) NX := by
  unfold f9_isKnown at h
  refine spec_of (by decide) rfl (by simp [catS, cat1]) (Nat.le_of_ble_eq_true rfl) ?_
  show WP mX9_isKnown 1 0 0 [some (vR 9 0), some (vI (x1))] [] (lv, fr, fi, ai, ar, li, out, rho) (Po lv fr fi ai ar li out (some (vI r)) rho9) NX
  refine wp_aload_n dX9_isKnown_0 rfl ?_
  refine wp_iload_n dX9_isKnown_1 rfl ?_
  obtain ⟨r1, rho2, hp3, h⟩ := ob_e h
  refine wp_callV (k1 := 0) (k2 := 0) (As := [vI (x1)]) (rest := []) (w9_hasEnded hfr hp3) okX9_hasEnded ivX9_hasEnded rfl (by decide) ml_X9_223 dX9_isKnown_2 rfl (by decide) (Nat.le_refl _) rfl (Nat.le_of_ble_eq_true rfl) (fun _ _ z => z.elim) (fun r' S' z => ?_)
  obtain ⟨rfl, rfl⟩ := z
  show WP _ _ _ _ [some (vR 9 0), some (vI (x1))] [vI (r1)] _ _ _
  refine wp_if_eq (tgt := 45) dX9_isKnown_5 (by decide) (fun c4 => ?_) (fun c4 => ?_)
  · replace h := itp c4 h
    refine wp_iconst (v := 0) dX9_isKnown_45 (by decide) ?_
    obtain ⟨q1, q2⟩ := sm_e h
    subst q1
    subst q2
    exact wp_zreturn rfl (by decide) dX9_isKnown_46 ⟨rfl, rfl⟩
  · replace h := itn c4 h
    refine wp_aload_n dX9_isKnown_8 rfl ?_
    refine wp_arrR (y := 37) (c := 237) hfr (by decide) rfl fl_X9_114 dX9_isKnown_9 ?_
    refine wp_iload_n dX9_isKnown_12 rfl ?_
    obtain ⟨c5, h⟩ := ock h
    refine wp_ialdR (c := 237) (y := 37) rfl rfl (show vp_in (x1) (len 237) from c5) dX9_isKnown_13 ?_
    refine wp_bipush (v := 7) dX9_isKnown_14 (by decide) ?_
    refine wp_icmp_eq (tgt := 45) dX9_isKnown_16 (by decide) (fun c6 => ?_) (fun c6 => ?_)
    · replace h := itp c6 h
      refine wp_iconst (v := 0) dX9_isKnown_45 (by decide) ?_
      obtain ⟨q1, q2⟩ := sm_e h
      subst q1
      subst q2
      exact wp_zreturn rfl (by decide) dX9_isKnown_46 ⟨rfl, rfl⟩
    · replace h := itn c6 h
      refine wp_aload_n dX9_isKnown_19 rfl ?_
      refine wp_arrR (y := 42) (c := 242) hfr (by decide) rfl fl_X9_129 dX9_isKnown_20 ?_
      refine wp_iload_n dX9_isKnown_23 rfl ?_
      refine wp_baldR (c := 242) (y := 42) rfl rfl (show vp_in (x1) (len 242) from c5) dX9_isKnown_24 ?_
      refine wp_if_eq (tgt := 41) dX9_isKnown_25 (by decide) (fun c7 => ?_) (fun c7 => ?_)
      · replace h := itp c7 h
        refine wp_iconst (v := 1) dX9_isKnown_41 (by decide) ?_
        refine wp_goto (tgt := 46) dX9_isKnown_42 (by decide) ?_
        obtain ⟨q1, q2⟩ := sm_e h
        subst q1
        subst q2
        exact wp_zreturn rfl (by decide) dX9_isKnown_46 ⟨rfl, rfl⟩
      · replace h := itn c7 h
        refine wp_aload_n dX9_isKnown_28 rfl ?_
        refine wp_getRI (y := 0) (by decide) rfl fl_X9_220 dX9_isKnown_29 ?_
        refine wp_aload_n dX9_isKnown_32 rfl ?_
        refine wp_arrR (y := 38) (c := 238) hfr (by decide) rfl fl_X9_117 dX9_isKnown_33 ?_
        refine wp_iload_n dX9_isKnown_36 rfl ?_
        refine wp_ialdR (c := 238) (y := 38) rfl rfl (show vp_in (x1) (len 238) from c5) dX9_isKnown_37 ?_
        refine wp_icmp_lt (tgt := 45) dX9_isKnown_38 (by decide) (fun c8 => ?_) (fun c8 => ?_)
        · replace h := itp c8 h
          refine wp_iconst (v := 0) dX9_isKnown_45 (by decide) ?_
          obtain ⟨q1, q2⟩ := sm_e h
          subst q1
          subst q2
          exact wp_zreturn rfl (by decide) dX9_isKnown_46 ⟨rfl, rfl⟩
        · replace h := itn c8 h
          refine wp_iconst (v := 1) dX9_isKnown_41 (by decide) ?_
          refine wp_goto (tgt := 46) dX9_isKnown_42 (by decide) ?_
          obtain ⟨q1, q2⟩ := sm_e h
          subst q1
          subst q2
          exact wp_zreturn rfl (by decide) dX9_isKnown_46 ⟨rfl, rfl⟩
def f9_goesOn (x1 : Int32) (rho : RH) : Option (Int32 × RH) :=
  if 400 ≤ x1 then
    if 440 ≤ x1 then
      if vq (((x1 - 400) - 40)) 100 then
      if (rho 63 (((x1 - 400) - 40)).toNatClampNeg) = 0 then
        some (1, rho)
      else
        some (0, rho)
      else none
    else
      if vq ((x1 - 400)) 40 then
      if (rho 56 ((x1 - 400)).toNatClampNeg) = 8 then
        some (1, rho)
      else
        some (0, rho)
      else none
  else
    if vq (x1) 400 then
    if (rho 37 (x1).toNatClampNeg) = 2 then
      some (1, rho)
    else
      some (0, rho)
    else none
theorem w9_goesOn {r : Int32} {rho9 : RH} (hfr : RA fr) {x1 : Int32} {rho : RH} (h : f9_goesOn x1 rho = some (r, rho9)) : Spec mX9_goesOn 0 0 [vR 9 0, vI x1] (lv, fr, fi, ai, ar, li, out, rho) (Po lv fr fi ai ar li out (some (vI r)) rho9) NX := by
  unfold f9_goesOn at h
  refine spec_of (by decide) rfl (by simp [catS, cat1]) (Nat.le_of_ble_eq_true rfl) ?_
  show WP mX9_goesOn 0 0 0 [some (vR 9 0), some (vI (x1))] [] (lv, fr, fi, ai, ar, li, out, rho) (Po lv fr fi ai ar li out (some (vI r)) rho9) NX
  refine wp_iload_n dX9_goesOn_0 rfl ?_
  refine wp_sipush (v := 400) dX9_goesOn_1 (by decide) ?_
  refine wp_icmp_ge (tgt := 23) dX9_goesOn_4 (by decide) (fun c1 => ?_) (fun c1 => ?_)
  · replace h := itp c1 h
    refine wp_iload_n dX9_goesOn_23 rfl ?_
    refine wp_sipush (v := 440) dX9_goesOn_24 (by decide) ?_
    refine wp_icmp_ge (tgt := 53) dX9_goesOn_27 (by decide) (fun c2 => ?_) (fun c2 => ?_)
    · replace h := itp c2 h
      refine wp_aload_n dX9_goesOn_53 rfl ?_
      refine wp_arrR (y := 63) (c := 263) hfr (by decide) rfl fl_X9_183 dX9_goesOn_54 ?_
      refine wp_iload_n dX9_goesOn_57 rfl ?_
      refine wp_sipush (v := 400) dX9_goesOn_58 (by decide) ?_
      refine wp_isub dX9_goesOn_61 ?_
      refine wp_bipush (v := 40) dX9_goesOn_62 (by decide) ?_
      refine wp_isub dX9_goesOn_64 ?_
      obtain ⟨c3, h⟩ := ock h
      refine wp_baldR (c := 263) (y := 63) rfl rfl (show vp_in (((x1 - 400) - 40)) (len 263) from c3) dX9_goesOn_65 ?_
      refine wp_if_ne (tgt := 73) dX9_goesOn_66 (by decide) (fun c4 => ?_) (fun c4 => ?_)
      · replace h := itn c4 h
        refine wp_iconst (v := 0) dX9_goesOn_73 (by decide) ?_
        obtain ⟨q1, q2⟩ := sm_e h
        subst q1
        subst q2
        exact wp_zreturn rfl (by decide) dX9_goesOn_74 ⟨rfl, rfl⟩
      · replace h := itp c4 h
        refine wp_iconst (v := 1) dX9_goesOn_69 (by decide) ?_
        refine wp_goto (tgt := 74) dX9_goesOn_70 (by decide) ?_
        obtain ⟨q1, q2⟩ := sm_e h
        subst q1
        subst q2
        exact wp_zreturn rfl (by decide) dX9_goesOn_74 ⟨rfl, rfl⟩
    · replace h := itn c2 h
      refine wp_aload_n dX9_goesOn_30 rfl ?_
      refine wp_arrR (y := 56) (c := 256) hfr (by decide) rfl fl_X9_168 dX9_goesOn_31 ?_
      refine wp_iload_n dX9_goesOn_34 rfl ?_
      refine wp_sipush (v := 400) dX9_goesOn_35 (by decide) ?_
      refine wp_isub dX9_goesOn_38 ?_
      obtain ⟨c5, h⟩ := ock h
      refine wp_ialdR (c := 256) (y := 56) rfl rfl (show vp_in ((x1 - 400)) (len 256) from c5) dX9_goesOn_39 ?_
      refine wp_bipush (v := 8) dX9_goesOn_40 (by decide) ?_
      refine wp_icmp_ne (tgt := 49) dX9_goesOn_42 (by decide) (fun c6 => ?_) (fun c6 => ?_)
      · replace h := itn c6 h
        refine wp_iconst (v := 0) dX9_goesOn_49 (by decide) ?_
        refine wp_goto (tgt := 74) dX9_goesOn_50 (by decide) ?_
        obtain ⟨q1, q2⟩ := sm_e h
        subst q1
        subst q2
        exact wp_zreturn rfl (by decide) dX9_goesOn_74 ⟨rfl, rfl⟩
      · replace h := itp c6 h
        refine wp_iconst (v := 1) dX9_goesOn_45 (by decide) ?_
        refine wp_goto (tgt := 74) dX9_goesOn_46 (by decide) ?_
        obtain ⟨q1, q2⟩ := sm_e h
        subst q1
        subst q2
        exact wp_zreturn rfl (by decide) dX9_goesOn_74 ⟨rfl, rfl⟩
  · replace h := itn c1 h
    refine wp_aload_n dX9_goesOn_7 rfl ?_
    refine wp_arrR (y := 37) (c := 237) hfr (by decide) rfl fl_X9_114 dX9_goesOn_8 ?_
    refine wp_iload_n dX9_goesOn_11 rfl ?_
    obtain ⟨c7, h⟩ := ock h
    refine wp_ialdR (c := 237) (y := 37) rfl rfl (show vp_in (x1) (len 237) from c7) dX9_goesOn_12 ?_
    refine wp_iconst (v := 2) dX9_goesOn_13 (by decide) ?_
    refine wp_icmp_ne (tgt := 21) dX9_goesOn_14 (by decide) (fun c8 => ?_) (fun c8 => ?_)
    · replace h := itn c8 h
      refine wp_iconst (v := 0) dX9_goesOn_21 (by decide) ?_
      obtain ⟨q1, q2⟩ := sm_e h
      subst q1
      subst q2
      exact wp_zreturn rfl (by decide) dX9_goesOn_22 ⟨rfl, rfl⟩
    · replace h := itp c8 h
      refine wp_iconst (v := 1) dX9_goesOn_17 (by decide) ?_
      refine wp_goto (tgt := 22) dX9_goesOn_18 (by decide) ?_
      obtain ⟨q1, q2⟩ := sm_e h
      subst q1
      subst q2
      exact wp_zreturn rfl (by decide) dX9_goesOn_22 ⟨rfl, rfl⟩
def f9_isOut (x1 : Int32) (rho : RH) : Option (Int32 × RH) :=
  if vq (x1) 400 then
  if (rho 37 (x1).toNatClampNeg) = 7 then
    some (0, rho)
  else
    ob (f9_isKnown (x1) rho) fun r3 rho4 =>
    if r3 = 0 then
      ob (f9_goesOn ((rho4 32 (x1).toNatClampNeg)) rho4) fun r7 rho8 =>
      if r7 = 0 then
        some (0, rho8)
      else
        if vq ((rho8 32 (x1).toNatClampNeg)) 540 then
        if (rho8 46 ((rho8 32 (x1).toNatClampNeg)).toNatClampNeg) = (rho8 33 (x1).toNatClampNeg) then
          some (1, rho8)
        else
          some (0, rho8)
        else none
    else
      some (0, rho4)
  else none
theorem w9_isOut {r : Int32} {rho9 : RH} (hfr : RA fr) {x1 : Int32} {rho : RH} (h : f9_isOut x1 rho = some (r, rho9)) : Spec mX9_isOut 2 0 [vR 9 0, vI x1] (lv, fr, fi, ai, ar, li, out, rho) (Po lv fr fi ai ar li out (some (vI r)) rho9) NX := by
  unfold f9_isOut at h
  refine spec_of (by decide) rfl (by simp [catS, cat1]) (Nat.le_of_ble_eq_true rfl) ?_
  show WP mX9_isOut 2 0 0 [some (vR 9 0), some (vI (x1))] [] (lv, fr, fi, ai, ar, li, out, rho) (Po lv fr fi ai ar li out (some (vI r)) rho9) NX
  refine wp_aload_n dX9_isOut_0 rfl ?_
  refine wp_arrR (y := 37) (c := 237) hfr (by decide) rfl fl_X9_114 dX9_isOut_1 ?_
  refine wp_iload_n dX9_isOut_4 rfl ?_
  obtain ⟨c1, h⟩ := ock h
  refine wp_ialdR (c := 237) (y := 37) rfl rfl (show vp_in (x1) (len 237) from c1) dX9_isOut_5 ?_
  refine wp_bipush (v := 7) dX9_isOut_6 (by decide) ?_
  refine wp_icmp_eq (tgt := 56) dX9_isOut_8 (by decide) (fun c2 => ?_) (fun c2 => ?_)
  · replace h := itp c2 h
    refine wp_iconst (v := 0) dX9_isOut_56 (by decide) ?_
    obtain ⟨q1, q2⟩ := sm_e h
    subst q1
    subst q2
    exact wp_zreturn rfl (by decide) dX9_isOut_57 ⟨rfl, rfl⟩
  · replace h := itn c2 h
    refine wp_aload_n dX9_isOut_11 rfl ?_
    refine wp_iload_n dX9_isOut_12 rfl ?_
    obtain ⟨r3, rho4, hp5, h⟩ := ob_e h
    refine wp_callV (k1 := 0) (k2 := 0) (As := [vI (x1)]) (rest := []) (w9_isKnown hfr hp5) okX9_isKnown ivX9_isKnown rfl (by decide) ml_X9_247 dX9_isOut_13 rfl (by decide) (Nat.le_refl _) rfl (Nat.le_of_ble_eq_true rfl) (fun _ _ z => z.elim) (fun r' S' z => ?_)
    obtain ⟨rfl, rfl⟩ := z
    show WP _ _ _ _ [some (vR 9 0), some (vI (x1))] [vI (r3)] _ _ _
    refine wp_if_ne (tgt := 56) dX9_isOut_16 (by decide) (fun c6 => ?_) (fun c6 => ?_)
    · replace h := itn c6 h
      refine wp_iconst (v := 0) dX9_isOut_56 (by decide) ?_
      obtain ⟨q1, q2⟩ := sm_e h
      subst q1
      subst q2
      exact wp_zreturn rfl (by decide) dX9_isOut_57 ⟨rfl, rfl⟩
    · replace h := itp c6 h
      refine wp_aload_n dX9_isOut_19 rfl ?_
      refine wp_aload_n dX9_isOut_20 rfl ?_
      refine wp_arrR (y := 32) (c := 232) hfr (by decide) rfl fl_X9_99 dX9_isOut_21 ?_
      refine wp_iload_n dX9_isOut_24 rfl ?_
      refine wp_ialdR (c := 232) (y := 32) rfl rfl (show vp_in (x1) (len 232) from c1) dX9_isOut_25 ?_
      obtain ⟨r7, rho8, hp9, h⟩ := ob_e h
      refine wp_callV (k1 := 0) (k2 := 0) (As := [vI ((rho4 32 (x1).toNatClampNeg))]) (rest := []) (w9_goesOn hfr hp9) okX9_goesOn ivX9_goesOn rfl (by decide) ml_X9_250 dX9_isOut_26 rfl (by decide) (Nat.le_refl _) rfl (Nat.le_of_ble_eq_true rfl) (fun _ _ z => z.elim) (fun r' S' z => ?_)
      obtain ⟨rfl, rfl⟩ := z
      show WP _ _ _ _ [some (vR 9 0), some (vI (x1))] [vI (r7)] _ _ _
      refine wp_if_eq (tgt := 56) dX9_isOut_29 (by decide) (fun c10 => ?_) (fun c10 => ?_)
      · replace h := itp c10 h
        refine wp_iconst (v := 0) dX9_isOut_56 (by decide) ?_
        obtain ⟨q1, q2⟩ := sm_e h
        subst q1
        subst q2
        exact wp_zreturn rfl (by decide) dX9_isOut_57 ⟨rfl, rfl⟩
      · replace h := itn c10 h
        refine wp_aload_n dX9_isOut_32 rfl ?_
        refine wp_arrR (y := 46) (c := 246) hfr (by decide) rfl fl_X9_141 dX9_isOut_33 ?_
        refine wp_aload_n dX9_isOut_36 rfl ?_
        refine wp_arrR (y := 32) (c := 232) hfr (by decide) rfl fl_X9_99 dX9_isOut_37 ?_
        refine wp_iload_n dX9_isOut_40 rfl ?_
        refine wp_ialdR (c := 232) (y := 32) rfl rfl (show vp_in (x1) (len 232) from c1) dX9_isOut_41 ?_
        obtain ⟨c11, h⟩ := ock h
        refine wp_ialdR (c := 246) (y := 46) rfl rfl (show vp_in ((rho8 32 (x1).toNatClampNeg)) (len 246) from c11) dX9_isOut_42 ?_
        refine wp_aload_n dX9_isOut_43 rfl ?_
        refine wp_arrR (y := 33) (c := 233) hfr (by decide) rfl fl_X9_102 dX9_isOut_44 ?_
        refine wp_iload_n dX9_isOut_47 rfl ?_
        refine wp_ialdR (c := 233) (y := 33) rfl rfl (show vp_in (x1) (len 233) from c1) dX9_isOut_48 ?_
        refine wp_icmp_ne (tgt := 56) dX9_isOut_49 (by decide) (fun c12 => ?_) (fun c12 => ?_)
        · replace h := itn c12 h
          refine wp_iconst (v := 0) dX9_isOut_56 (by decide) ?_
          obtain ⟨q1, q2⟩ := sm_e h
          subst q1
          subst q2
          exact wp_zreturn rfl (by decide) dX9_isOut_57 ⟨rfl, rfl⟩
        · replace h := itp c12 h
          refine wp_iconst (v := 1) dX9_isOut_52 (by decide) ?_
          refine wp_goto (tgt := 57) dX9_isOut_53 (by decide) ?_
          obtain ⟨q1, q2⟩ := sm_e h
          subst q1
          subst q2
          exact wp_zreturn rfl (by decide) dX9_isOut_57 ⟨rfl, rfl⟩
def l9_hasOut_5 : Nat → Int32 → Int32 → Int32 → Int32 → RH → Option (Int32 × RH)
  | 0, _, _, _, _, _ => none
  | n + 1, x1, x2, x3, x4, rho =>
  if (rho 31 0) ≤ x4 then
    if x3 = 0 ∨ x3 = 1 then
    some (x3, rho)
    else none
  else
    if x3 = 0 then
      if vq (x4) 400 then
      if (rho 35 (x4).toNatClampNeg) = x1 then
        if (rho 36 (x4).toNatClampNeg) = x2 then
          ob (f9_isOut (x4) rho) fun r7 rho8 =>
          if r7 = 0 then
            l9_hasOut_5 n (x1) (x2) (0) (x4 + 1) rho8
          else
            l9_hasOut_5 n (x1) (x2) (1) (x4 + 1) rho8
        else
          l9_hasOut_5 n (x1) (x2) (0) (x4 + 1) rho
      else
        l9_hasOut_5 n (x1) (x2) (0) (x4 + 1) rho
      else none
    else
      l9_hasOut_5 n (x1) (x2) (1) (x4 + 1) rho
theorem w9_hasOut_5 {r : Int32} {rho9 : RH} (hfr : RA fr) : ∀ (n : Nat) {x1 x2 x3 x4 : Int32} {rho : RH}, l9_hasOut_5 n x1 x2 x3 x4 rho = some (r, rho9) → WP mX9_hasOut 3 0 5 [some (vR 9 0), some (vI (x1)), some (vI (x2)), some (vI (x3)), some (vI (x4))] [] (lv, fr, fi, ai, ar, li, out, rho) (Po lv fr fi ai ar li out (some (vI r)) rho9) NX := by
  intro n
  induction n with
  | zero =>
    intro x1 x2 x3 x4 rho h
    rw [l9_hasOut_5] at h
    cases h
  | succ n ih =>
    intro x1 x2 x3 x4 rho h
    rw [l9_hasOut_5] at h
    refine wp_iload dX9_hasOut_5 rfl ?_
    refine wp_aload_n dX9_hasOut_7 rfl ?_
    refine wp_getRI (y := 31) (by decide) rfl fl_X9_217 dX9_hasOut_8 ?_
    refine wp_icmp_ge (tgt := 61) dX9_hasOut_11 (by decide) (fun c1 => ?_) (fun c1 => ?_)
    · replace h := itp c1 h
      refine wp_iload_n dX9_hasOut_61 rfl ?_
      obtain ⟨c2, h⟩ := ock h
      obtain ⟨q1, q2⟩ := sm_e h
      subst q1
      subst q2
      exact wp_zreturn rfl c2 dX9_hasOut_62 ⟨rfl, rfl⟩
    · replace h := itn c1 h
      refine wp_iload_n dX9_hasOut_14 rfl ?_
      refine wp_if_ne (tgt := 49) dX9_hasOut_15 (by decide) (fun c3 => ?_) (fun c3 => ?_)
      · replace h := itn c3 h
        refine wp_iconst (v := 1) dX9_hasOut_49 (by decide) ?_
        refine wp_goto (tgt := 54) dX9_hasOut_50 (by decide) ?_
        refine wp_istore_n (L' := [some (vR 9 0), some (vI (x1)), some (vI (x2)), some (vI (1)), some (vI (x4))]) dX9_hasOut_54 rfl rfl ?_
        refine wp_iinc (v := x4 + 1) (L' := [some (vR 9 0), some (vI (x1)), some (vI (x2)), some (vI (1)), some (vI (x4 + 1))]) dX9_hasOut_55 rfl rfl rfl ?_
        refine wp_goto (tgt := 5) dX9_hasOut_58 (by decide) ?_
        exact ih h
      · replace h := itp c3 h
        refine wp_aload_n dX9_hasOut_18 rfl ?_
        refine wp_arrR (y := 35) (c := 235) hfr (by decide) rfl fl_X9_108 dX9_hasOut_19 ?_
        refine wp_iload dX9_hasOut_22 rfl ?_
        obtain ⟨c4, h⟩ := ock h
        refine wp_ialdR (c := 235) (y := 35) rfl rfl (show vp_in (x4) (len 235) from c4) dX9_hasOut_24 ?_
        refine wp_iload_n dX9_hasOut_25 rfl ?_
        refine wp_icmp_ne (tgt := 53) dX9_hasOut_26 (by decide) (fun c5 => ?_) (fun c5 => ?_)
        · replace h := itn c5 h
          refine wp_iconst (v := 0) dX9_hasOut_53 (by decide) ?_
          refine wp_istore_n (L' := [some (vR 9 0), some (vI (x1)), some (vI (x2)), some (vI (0)), some (vI (x4))]) dX9_hasOut_54 rfl rfl ?_
          refine wp_iinc (v := x4 + 1) (L' := [some (vR 9 0), some (vI (x1)), some (vI (x2)), some (vI (0)), some (vI (x4 + 1))]) dX9_hasOut_55 rfl rfl rfl ?_
          refine wp_goto (tgt := 5) dX9_hasOut_58 (by decide) ?_
          exact ih h
        · replace h := itp c5 h
          refine wp_aload_n dX9_hasOut_29 rfl ?_
          refine wp_arrR (y := 36) (c := 236) hfr (by decide) rfl fl_X9_111 dX9_hasOut_30 ?_
          refine wp_iload dX9_hasOut_33 rfl ?_
          refine wp_ialdR (c := 236) (y := 36) rfl rfl (show vp_in (x4) (len 236) from c4) dX9_hasOut_35 ?_
          refine wp_iload_n dX9_hasOut_36 rfl ?_
          refine wp_icmp_ne (tgt := 53) dX9_hasOut_37 (by decide) (fun c6 => ?_) (fun c6 => ?_)
          · replace h := itn c6 h
            refine wp_iconst (v := 0) dX9_hasOut_53 (by decide) ?_
            refine wp_istore_n (L' := [some (vR 9 0), some (vI (x1)), some (vI (x2)), some (vI (0)), some (vI (x4))]) dX9_hasOut_54 rfl rfl ?_
            refine wp_iinc (v := x4 + 1) (L' := [some (vR 9 0), some (vI (x1)), some (vI (x2)), some (vI (0)), some (vI (x4 + 1))]) dX9_hasOut_55 rfl rfl rfl ?_
            refine wp_goto (tgt := 5) dX9_hasOut_58 (by decide) ?_
            exact ih h
          · replace h := itp c6 h
            refine wp_aload_n dX9_hasOut_40 rfl ?_
            refine wp_iload dX9_hasOut_41 rfl ?_
            obtain ⟨r7, rho8, hp9, h⟩ := ob_e h
            refine wp_callV (k1 := 0) (k2 := 0) (As := [vI (x4)]) (rest := []) (w9_isOut hfr hp9) okX9_isOut ivX9_isOut rfl (by decide) ml_X9_257 dX9_hasOut_43 rfl (by decide) (Nat.le_refl _) rfl (Nat.le_of_ble_eq_true rfl) (fun _ _ z => z.elim) (fun r' S' z => ?_)
            obtain ⟨rfl, rfl⟩ := z
            show WP _ _ _ _ [some (vR 9 0), some (vI (x1)), some (vI (x2)), some (vI (x3)), some (vI (x4))] [vI (r7)] _ _ _
            refine wp_if_eq (tgt := 53) dX9_hasOut_46 (by decide) (fun c10 => ?_) (fun c10 => ?_)
            · replace h := itp c10 h
              refine wp_iconst (v := 0) dX9_hasOut_53 (by decide) ?_
              refine wp_istore_n (L' := [some (vR 9 0), some (vI (x1)), some (vI (x2)), some (vI (0)), some (vI (x4))]) dX9_hasOut_54 rfl rfl ?_
              refine wp_iinc (v := x4 + 1) (L' := [some (vR 9 0), some (vI (x1)), some (vI (x2)), some (vI (0)), some (vI (x4 + 1))]) dX9_hasOut_55 rfl rfl rfl ?_
              refine wp_goto (tgt := 5) dX9_hasOut_58 (by decide) ?_
              exact ih h
            · replace h := itn c10 h
              refine wp_iconst (v := 1) dX9_hasOut_49 (by decide) ?_
              refine wp_goto (tgt := 54) dX9_hasOut_50 (by decide) ?_
              refine wp_istore_n (L' := [some (vR 9 0), some (vI (x1)), some (vI (x2)), some (vI (1)), some (vI (x4))]) dX9_hasOut_54 rfl rfl ?_
              refine wp_iinc (v := x4 + 1) (L' := [some (vR 9 0), some (vI (x1)), some (vI (x2)), some (vI (1)), some (vI (x4 + 1))]) dX9_hasOut_55 rfl rfl rfl ?_
              refine wp_goto (tgt := 5) dX9_hasOut_58 (by decide) ?_
              exact ih h
def f9_hasOut (x1 x2 : Int32) (rho : RH) : Option (Int32 × RH) :=
  l9_hasOut_5 FU (x1) (x2) (0) (0) rho
theorem w9_hasOut {r : Int32} {rho9 : RH} (hfr : RA fr) {x1 x2 : Int32} {rho : RH} (h : f9_hasOut x1 x2 rho = some (r, rho9)) : Spec mX9_hasOut 3 0 [vR 9 0, vI x1, vI x2] (lv, fr, fi, ai, ar, li, out, rho) (Po lv fr fi ai ar li out (some (vI r)) rho9) NX := by
  unfold f9_hasOut at h
  refine spec_of (by decide) rfl (by simp [catS, cat1]) (Nat.le_of_ble_eq_true rfl) ?_
  show WP mX9_hasOut 3 0 0 [some (vR 9 0), some (vI (x1)), some (vI (x2)), none, none] [] (lv, fr, fi, ai, ar, li, out, rho) (Po lv fr fi ai ar li out (some (vI r)) rho9) NX
  refine wp_iconst (v := 0) dX9_hasOut_0 (by decide) ?_
  refine wp_istore_n (L' := [some (vR 9 0), some (vI (x1)), some (vI (x2)), some (vI (0)), none]) dX9_hasOut_1 rfl rfl ?_
  refine wp_iconst (v := 0) dX9_hasOut_2 (by decide) ?_
  refine wp_istore (L' := [some (vR 9 0), some (vI (x1)), some (vI (x2)), some (vI (0)), some (vI (0))]) dX9_hasOut_3 rfl rfl ?_
  exact w9_hasOut_5 hfr FU h
def f9_canChoose (x1 x2 x3 : Int32) (rho : RH) : Option (Int32 × RH) :=
  if vq (((12 * x1) + x3)) 84 then
  if vq (x3) 12 then
  if (rho 7 (x3).toNatClampNeg) = x2 then
    ob (f9_isAvoided (x3) rho) fun r4 rho5 =>
    if r4 = 0 then
      if (rho 21 (((12 * x1) + x3)).toNatClampNeg) = 0 then
        some (1, rho5)
      else
        if (rho 21 (((12 * x1) + x3)).toNatClampNeg) = 2 then
          ob (f9_hasOut (x1) (x3) rho5) fun r10 rho11 =>
          if r10 = 0 then
            some (1, rho11)
          else
            some (0, rho11)
        else
          some (0, rho5)
    else
      some (0, rho5)
  else
    some (0, rho)
  else none
  else none
theorem w9_canChoose {r : Int32} {rho9 : RH} (hfr : RA fr) {x1 x2 x3 : Int32} {rho : RH} (h : f9_canChoose x1 x2 x3 rho = some (r, rho9)) : Spec mX9_canChoose 4 0 [vR 9 0, vI x1, vI x2, vI x3] (lv, fr, fi, ai, ar, li, out, rho) (Po lv fr fi ai ar li out (some (vI r)) rho9) NX := by
  unfold f9_canChoose at h
  refine spec_of (by decide) rfl (by simp [catS, cat1]) (Nat.le_of_ble_eq_true rfl) ?_
  show WP mX9_canChoose 4 0 0 [some (vR 9 0), some (vI (x1)), some (vI (x2)), some (vI (x3)), none] [] (lv, fr, fi, ai, ar, li, out, rho) (Po lv fr fi ai ar li out (some (vI r)) rho9) NX
  refine wp_aload_n dX9_canChoose_0 rfl ?_
  refine wp_arrR (y := 21) (c := 221) hfr (by decide) rfl fl_X9_69 dX9_canChoose_1 ?_
  refine wp_bipush (v := 12) dX9_canChoose_4 (by decide) ?_
  refine wp_iload_n dX9_canChoose_6 rfl ?_
  refine wp_imul dX9_canChoose_7 ?_
  refine wp_iload_n dX9_canChoose_8 rfl ?_
  refine wp_iadd dX9_canChoose_9 ?_
  obtain ⟨c1, h⟩ := ock h
  refine wp_ialdR (c := 221) (y := 21) rfl rfl (show vp_in (((12 * x1) + x3)) (len 221) from c1) dX9_canChoose_10 ?_
  refine wp_istore (L' := [some (vR 9 0), some (vI (x1)), some (vI (x2)), some (vI (x3)), some (vI ((rho 21 (((12 * x1) + x3)).toNatClampNeg)))]) dX9_canChoose_11 rfl rfl ?_
  refine wp_aload_n dX9_canChoose_13 rfl ?_
  refine wp_arrR (y := 7) (c := 207) hfr (by decide) rfl fl_X9_26 dX9_canChoose_14 ?_
  refine wp_iload_n dX9_canChoose_17 rfl ?_
  obtain ⟨c2, h⟩ := ock h
  refine wp_ialdR (c := 207) (y := 7) rfl rfl (show vp_in (x3) (len 207) from c2) dX9_canChoose_18 ?_
  refine wp_iload_n dX9_canChoose_19 rfl ?_
  refine wp_icmp_ne (tgt := 55) dX9_canChoose_20 (by decide) (fun c3 => ?_) (fun c3 => ?_)
  · replace h := itn c3 h
    refine wp_iconst (v := 0) dX9_canChoose_55 (by decide) ?_
    obtain ⟨q1, q2⟩ := sm_e h
    subst q1
    subst q2
    exact wp_zreturn rfl (by decide) dX9_canChoose_56 ⟨rfl, rfl⟩
  · replace h := itp c3 h
    refine wp_aload_n dX9_canChoose_23 rfl ?_
    refine wp_iload_n dX9_canChoose_24 rfl ?_
    obtain ⟨r4, rho5, hp6, h⟩ := ob_e h
    refine wp_callV (k1 := 0) (k2 := 0) (As := [vI (x3)]) (rest := []) (w9_isAvoided hfr hp6) okX9_isAvoided ivX9_isAvoided rfl (by decide) ml_X9_260 dX9_canChoose_25 rfl (by decide) (Nat.le_refl _) rfl (Nat.le_of_ble_eq_true rfl) (fun _ _ z => z.elim) (fun r' S' z => ?_)
    obtain ⟨rfl, rfl⟩ := z
    show WP _ _ _ _ [some (vR 9 0), some (vI (x1)), some (vI (x2)), some (vI (x3)), some (vI ((rho 21 (((12 * x1) + x3)).toNatClampNeg)))] [vI (r4)] _ _ _
    refine wp_if_ne (tgt := 55) dX9_canChoose_28 (by decide) (fun c7 => ?_) (fun c7 => ?_)
    · replace h := itn c7 h
      refine wp_iconst (v := 0) dX9_canChoose_55 (by decide) ?_
      obtain ⟨q1, q2⟩ := sm_e h
      subst q1
      subst q2
      exact wp_zreturn rfl (by decide) dX9_canChoose_56 ⟨rfl, rfl⟩
    · replace h := itp c7 h
      refine wp_iload dX9_canChoose_31 rfl ?_
      refine wp_if_eq (tgt := 51) dX9_canChoose_33 (by decide) (fun c8 => ?_) (fun c8 => ?_)
      · replace h := itp c8 h
        refine wp_iconst (v := 1) dX9_canChoose_51 (by decide) ?_
        refine wp_goto (tgt := 56) dX9_canChoose_52 (by decide) ?_
        obtain ⟨q1, q2⟩ := sm_e h
        subst q1
        subst q2
        exact wp_zreturn rfl (by decide) dX9_canChoose_56 ⟨rfl, rfl⟩
      · replace h := itn c8 h
        refine wp_iload dX9_canChoose_36 rfl ?_
        refine wp_iconst (v := 2) dX9_canChoose_38 (by decide) ?_
        refine wp_icmp_ne (tgt := 55) dX9_canChoose_39 (by decide) (fun c9 => ?_) (fun c9 => ?_)
        · replace h := itn c9 h
          refine wp_iconst (v := 0) dX9_canChoose_55 (by decide) ?_
          obtain ⟨q1, q2⟩ := sm_e h
          subst q1
          subst q2
          exact wp_zreturn rfl (by decide) dX9_canChoose_56 ⟨rfl, rfl⟩
        · replace h := itp c9 h
          refine wp_aload_n dX9_canChoose_42 rfl ?_
          refine wp_iload_n dX9_canChoose_43 rfl ?_
          refine wp_iload_n dX9_canChoose_44 rfl ?_
          obtain ⟨r10, rho11, hp12, h⟩ := ob_e h
          refine wp_callV (k1 := 0) (k2 := 0) (As := [vI (x1), vI (x3)]) (rest := []) (w9_hasOut hfr hp12) okX9_hasOut ivX9_hasOut rfl (by decide) ml_X9_263 dX9_canChoose_45 rfl (by decide) (Nat.le_refl _) rfl (Nat.le_of_ble_eq_true rfl) (fun _ _ z => z.elim) (fun r' S' z => ?_)
          obtain ⟨rfl, rfl⟩ := z
          show WP _ _ _ _ [some (vR 9 0), some (vI (x1)), some (vI (x2)), some (vI (x3)), some (vI ((rho 21 (((12 * x1) + x3)).toNatClampNeg)))] [vI (r10)] _ _ _
          refine wp_if_ne (tgt := 55) dX9_canChoose_48 (by decide) (fun c13 => ?_) (fun c13 => ?_)
          · replace h := itn c13 h
            refine wp_iconst (v := 0) dX9_canChoose_55 (by decide) ?_
            obtain ⟨q1, q2⟩ := sm_e h
            subst q1
            subst q2
            exact wp_zreturn rfl (by decide) dX9_canChoose_56 ⟨rfl, rfl⟩
          · replace h := itp c13 h
            refine wp_iconst (v := 1) dX9_canChoose_51 (by decide) ?_
            refine wp_goto (tgt := 56) dX9_canChoose_52 (by decide) ?_
            obtain ⟨q1, q2⟩ := sm_e h
            subst q1
            subst q2
            exact wp_zreturn rfl (by decide) dX9_canChoose_56 ⟨rfl, rfl⟩
def l9_hasTried_5 : Nat → Int32 → Int32 → Int32 → Int32 → RH → Option (Int32 × RH)
  | 0, _, _, _, _, _ => none
  | n + 1, x1, x2, x3, x4, rho =>
  if (rho 31 0) ≤ x4 then
    if x3 = 0 ∨ x3 = 1 then
    some (x3, rho)
    else none
  else
    if x3 = 0 then
      if vq (x4) 400 then
      if (rho 32 (x4).toNatClampNeg) = x1 then
        if vq (x1) 540 then
        if (rho 33 (x4).toNatClampNeg) = (rho 46 (x1).toNatClampNeg) then
          if (rho 36 (x4).toNatClampNeg) = x2 then
            l9_hasTried_5 n (x1) (x2) (1) (x4 + 1) rho
          else
            l9_hasTried_5 n (x1) (x2) (0) (x4 + 1) rho
        else
          l9_hasTried_5 n (x1) (x2) (0) (x4 + 1) rho
        else none
      else
        l9_hasTried_5 n (x1) (x2) (0) (x4 + 1) rho
      else none
    else
      l9_hasTried_5 n (x1) (x2) (1) (x4 + 1) rho
theorem w9_hasTried_5 {r : Int32} {rho9 : RH} (hfr : RA fr) : ∀ (n : Nat) {x1 x2 x3 x4 : Int32} {rho : RH}, l9_hasTried_5 n x1 x2 x3 x4 rho = some (r, rho9) → WP mX9_hasTried 0 0 5 [some (vR 9 0), some (vI (x1)), some (vI (x2)), some (vI (x3)), some (vI (x4))] [] (lv, fr, fi, ai, ar, li, out, rho) (Po lv fr fi ai ar li out (some (vI r)) rho9) NX := by
  intro n
  induction n with
  | zero =>
    intro x1 x2 x3 x4 rho h
    rw [l9_hasTried_5] at h
    cases h
  | succ n ih =>
    intro x1 x2 x3 x4 rho h
    rw [l9_hasTried_5] at h
    refine wp_iload dX9_hasTried_5 rfl ?_
    refine wp_aload_n dX9_hasTried_7 rfl ?_
    refine wp_getRI (y := 31) (by decide) rfl fl_X9_217 dX9_hasTried_8 ?_
    refine wp_icmp_ge (tgt := 68) dX9_hasTried_11 (by decide) (fun c1 => ?_) (fun c1 => ?_)
    · replace h := itp c1 h
      refine wp_iload_n dX9_hasTried_68 rfl ?_
      obtain ⟨c2, h⟩ := ock h
      obtain ⟨q1, q2⟩ := sm_e h
      subst q1
      subst q2
      exact wp_zreturn rfl c2 dX9_hasTried_69 ⟨rfl, rfl⟩
    · replace h := itn c1 h
      refine wp_iload_n dX9_hasTried_14 rfl ?_
      refine wp_if_ne (tgt := 56) dX9_hasTried_15 (by decide) (fun c3 => ?_) (fun c3 => ?_)
      · replace h := itn c3 h
        refine wp_iconst (v := 1) dX9_hasTried_56 (by decide) ?_
        refine wp_goto (tgt := 61) dX9_hasTried_57 (by decide) ?_
        refine wp_istore_n (L' := [some (vR 9 0), some (vI (x1)), some (vI (x2)), some (vI (1)), some (vI (x4))]) dX9_hasTried_61 rfl rfl ?_
        refine wp_iinc (v := x4 + 1) (L' := [some (vR 9 0), some (vI (x1)), some (vI (x2)), some (vI (1)), some (vI (x4 + 1))]) dX9_hasTried_62 rfl rfl rfl ?_
        refine wp_goto (tgt := 5) dX9_hasTried_65 (by decide) ?_
        exact ih h
      · replace h := itp c3 h
        refine wp_aload_n dX9_hasTried_18 rfl ?_
        refine wp_arrR (y := 32) (c := 232) hfr (by decide) rfl fl_X9_99 dX9_hasTried_19 ?_
        refine wp_iload dX9_hasTried_22 rfl ?_
        obtain ⟨c4, h⟩ := ock h
        refine wp_ialdR (c := 232) (y := 32) rfl rfl (show vp_in (x4) (len 232) from c4) dX9_hasTried_24 ?_
        refine wp_iload_n dX9_hasTried_25 rfl ?_
        refine wp_icmp_ne (tgt := 60) dX9_hasTried_26 (by decide) (fun c5 => ?_) (fun c5 => ?_)
        · replace h := itn c5 h
          refine wp_iconst (v := 0) dX9_hasTried_60 (by decide) ?_
          refine wp_istore_n (L' := [some (vR 9 0), some (vI (x1)), some (vI (x2)), some (vI (0)), some (vI (x4))]) dX9_hasTried_61 rfl rfl ?_
          refine wp_iinc (v := x4 + 1) (L' := [some (vR 9 0), some (vI (x1)), some (vI (x2)), some (vI (0)), some (vI (x4 + 1))]) dX9_hasTried_62 rfl rfl rfl ?_
          refine wp_goto (tgt := 5) dX9_hasTried_65 (by decide) ?_
          exact ih h
        · replace h := itp c5 h
          refine wp_aload_n dX9_hasTried_29 rfl ?_
          refine wp_arrR (y := 33) (c := 233) hfr (by decide) rfl fl_X9_102 dX9_hasTried_30 ?_
          refine wp_iload dX9_hasTried_33 rfl ?_
          refine wp_ialdR (c := 233) (y := 33) rfl rfl (show vp_in (x4) (len 233) from c4) dX9_hasTried_35 ?_
          refine wp_aload_n dX9_hasTried_36 rfl ?_
          refine wp_arrR (y := 46) (c := 246) hfr (by decide) rfl fl_X9_141 dX9_hasTried_37 ?_
          refine wp_iload_n dX9_hasTried_40 rfl ?_
          obtain ⟨c6, h⟩ := ock h
          refine wp_ialdR (c := 246) (y := 46) rfl rfl (show vp_in (x1) (len 246) from c6) dX9_hasTried_41 ?_
          refine wp_icmp_ne (tgt := 60) dX9_hasTried_42 (by decide) (fun c7 => ?_) (fun c7 => ?_)
          · replace h := itn c7 h
            refine wp_iconst (v := 0) dX9_hasTried_60 (by decide) ?_
            refine wp_istore_n (L' := [some (vR 9 0), some (vI (x1)), some (vI (x2)), some (vI (0)), some (vI (x4))]) dX9_hasTried_61 rfl rfl ?_
            refine wp_iinc (v := x4 + 1) (L' := [some (vR 9 0), some (vI (x1)), some (vI (x2)), some (vI (0)), some (vI (x4 + 1))]) dX9_hasTried_62 rfl rfl rfl ?_
            refine wp_goto (tgt := 5) dX9_hasTried_65 (by decide) ?_
            exact ih h
          · replace h := itp c7 h
            refine wp_aload_n dX9_hasTried_45 rfl ?_
            refine wp_arrR (y := 36) (c := 236) hfr (by decide) rfl fl_X9_111 dX9_hasTried_46 ?_
            refine wp_iload dX9_hasTried_49 rfl ?_
            refine wp_ialdR (c := 236) (y := 36) rfl rfl (show vp_in (x4) (len 236) from c4) dX9_hasTried_51 ?_
            refine wp_iload_n dX9_hasTried_52 rfl ?_
            refine wp_icmp_ne (tgt := 60) dX9_hasTried_53 (by decide) (fun c8 => ?_) (fun c8 => ?_)
            · replace h := itn c8 h
              refine wp_iconst (v := 0) dX9_hasTried_60 (by decide) ?_
              refine wp_istore_n (L' := [some (vR 9 0), some (vI (x1)), some (vI (x2)), some (vI (0)), some (vI (x4))]) dX9_hasTried_61 rfl rfl ?_
              refine wp_iinc (v := x4 + 1) (L' := [some (vR 9 0), some (vI (x1)), some (vI (x2)), some (vI (0)), some (vI (x4 + 1))]) dX9_hasTried_62 rfl rfl rfl ?_
              refine wp_goto (tgt := 5) dX9_hasTried_65 (by decide) ?_
              exact ih h
            · replace h := itp c8 h
              refine wp_iconst (v := 1) dX9_hasTried_56 (by decide) ?_
              refine wp_goto (tgt := 61) dX9_hasTried_57 (by decide) ?_
              refine wp_istore_n (L' := [some (vR 9 0), some (vI (x1)), some (vI (x2)), some (vI (1)), some (vI (x4))]) dX9_hasTried_61 rfl rfl ?_
              refine wp_iinc (v := x4 + 1) (L' := [some (vR 9 0), some (vI (x1)), some (vI (x2)), some (vI (1)), some (vI (x4 + 1))]) dX9_hasTried_62 rfl rfl rfl ?_
              refine wp_goto (tgt := 5) dX9_hasTried_65 (by decide) ?_
              exact ih h
def f9_hasTried (x1 x2 : Int32) (rho : RH) : Option (Int32 × RH) :=
  l9_hasTried_5 FU (x1) (x2) (0) (0) rho
theorem w9_hasTried {r : Int32} {rho9 : RH} (hfr : RA fr) {x1 x2 : Int32} {rho : RH} (h : f9_hasTried x1 x2 rho = some (r, rho9)) : Spec mX9_hasTried 0 0 [vR 9 0, vI x1, vI x2] (lv, fr, fi, ai, ar, li, out, rho) (Po lv fr fi ai ar li out (some (vI r)) rho9) NX := by
  unfold f9_hasTried at h
  refine spec_of (by decide) rfl (by simp [catS, cat1]) (Nat.le_of_ble_eq_true rfl) ?_
  show WP mX9_hasTried 0 0 0 [some (vR 9 0), some (vI (x1)), some (vI (x2)), none, none] [] (lv, fr, fi, ai, ar, li, out, rho) (Po lv fr fi ai ar li out (some (vI r)) rho9) NX
  refine wp_iconst (v := 0) dX9_hasTried_0 (by decide) ?_
  refine wp_istore_n (L' := [some (vR 9 0), some (vI (x1)), some (vI (x2)), some (vI (0)), none]) dX9_hasTried_1 rfl rfl ?_
  refine wp_iconst (v := 0) dX9_hasTried_2 (by decide) ?_
  refine wp_istore (L' := [some (vR 9 0), some (vI (x1)), some (vI (x2)), some (vI (0)), some (vI (0))]) dX9_hasTried_3 rfl rfl ?_
  exact w9_hasTried_5 hfr FU h
end S9
