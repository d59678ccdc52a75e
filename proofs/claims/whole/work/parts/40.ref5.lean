section S9
variable {lv : Nat → Nat → Bool} {fr : Nat → Nat → Option Nat} {fi : Nat → Nat → Int32} {ai : Nat → Nat → Nat → Int32} {ar : Nat → Nat → Nat → Option Nat} {li : Nat → Nat → List Nat} {out : Int64}
def f9_endsRequest (x1 x2 : Int32) (rho : RH) : Option (Int32 × RH) :=
  if vq (x1) 40 then
  wr (up2 rho 56 (x1).toNatClampNeg (x2)) fun rho2 =>
  wr (up2 rho2 57 (x1).toNatClampNeg ((rho2 0 0))) fun rho4 =>
  if ¬ (rho4 29 0) = 0 then
  if (x1 - x1 / (rho4 29 0) * (rho4 29 0)) = 0 then
    wr (up2 rho4 58 (x1).toNatClampNeg (1)) fun rho8 =>
    ob (f9_turnsOff ((400 + x1)) rho8) fun _ rho11 =>
    some (0, rho11)
  else
    if x2 = 3 then
      if ((rho4 0 0) - (rho4 55 (x1).toNatClampNeg)) ≤ (rho4 30 0) then
        wr (up2 rho4 58 (x1).toNatClampNeg (0)) fun rho15 =>
        ob (f9_turnsOff ((400 + x1)) rho15) fun _ rho18 =>
        some (0, rho18)
      else
        wr (up2 rho4 58 (x1).toNatClampNeg (1)) fun rho20 =>
        ob (f9_turnsOff ((400 + x1)) rho20) fun _ rho23 =>
        some (0, rho23)
    else
      wr (up2 rho4 58 (x1).toNatClampNeg (1)) fun rho25 =>
      ob (f9_turnsOff ((400 + x1)) rho25) fun _ rho28 =>
      some (0, rho28)
  else none
  else none
theorem w9_endsRequest {r : Int32} {rho9 : RH} (hfr : RA fr) {x1 x2 : Int32} {rho : RH} (h : f9_endsRequest x1 x2 rho = some (r, rho9)) : Spec mX9_endsRequest 4 0 [vR 9 0, vI x1, vI x2] (lv, fr, fi, ai, ar, li, out, rho) (Po lv fr fi ai ar li out (none) rho9) NX := by
  unfold f9_endsRequest at h
  refine spec_of (by decide) rfl (by simp [catS, cat1]) (Nat.le_of_ble_eq_true rfl) ?_
  show WP mX9_endsRequest 4 0 0 [some (vR 9 0), some (vI (x1)), some (vI (x2))] [] (lv, fr, fi, ai, ar, li, out, rho) (Po lv fr fi ai ar li out (none) rho9) NX
  refine wp_aload_n dX9_endsRequest_0 rfl ?_
  refine wp_arrR (y := 56) (c := 256) hfr (by decide) rfl fl_X9_168 dX9_endsRequest_1 ?_
  refine wp_iload_n dX9_endsRequest_4 rfl ?_
  refine wp_iload_n dX9_endsRequest_5 rfl ?_
  obtain ⟨c1, h⟩ := ock h
  refine wp_iastR (c := 256) (y := 56) rfl rfl (show vp_in (x1) (len 256) from c1) dX9_endsRequest_6 ?_
  obtain ⟨rho2, e3, h⟩ := wr_e h
  rw [e3]
  refine wp_aload_n dX9_endsRequest_7 rfl ?_
  refine wp_arrR (y := 57) (c := 257) hfr (by decide) rfl fl_X9_171 dX9_endsRequest_8 ?_
  refine wp_iload_n dX9_endsRequest_11 rfl ?_
  refine wp_aload_n dX9_endsRequest_12 rfl ?_
  refine wp_getRI (y := 0) (by decide) rfl fl_X9_220 dX9_endsRequest_13 ?_
  refine wp_iastR (c := 257) (y := 57) rfl rfl (show vp_in (x1) (len 257) from c1) dX9_endsRequest_16 ?_
  obtain ⟨rho4, e5, h⟩ := wr_e h
  rw [e5]
  refine wp_aload_n dX9_endsRequest_17 rfl ?_
  refine wp_arrR (y := 58) (c := 258) hfr (by decide) rfl fl_X9_174 dX9_endsRequest_18 ?_
  refine wp_iload_n dX9_endsRequest_21 rfl ?_
  refine wp_iload_n dX9_endsRequest_22 rfl ?_
  refine wp_aload_n dX9_endsRequest_23 rfl ?_
  refine wp_getRI (y := 29) (by decide) rfl fl_X9_93 dX9_endsRequest_24 ?_
  obtain ⟨c6, h⟩ := ock h
  refine wp_irem dX9_endsRequest_27 c6 ?_
  refine wp_if_eq (tgt := 54) dX9_endsRequest_28 (by decide) (fun c7 => ?_) (fun c7 => ?_)
  · replace h := itp c7 h
    refine wp_iconst (v := 1) dX9_endsRequest_54 (by decide) ?_
    refine wp_goto (tgt := 59) dX9_endsRequest_55 (by decide) ?_
    refine wp_bastR (c := 258) (y := 58) rfl rfl (show vp_in (x1) (len 258) from c1) (by decide) dX9_endsRequest_59 ?_
    obtain ⟨rho8, e9, h⟩ := wr_e h
    rw [e9]
    refine wp_aload_n dX9_endsRequest_60 rfl ?_
    refine wp_sipush (v := 400) dX9_endsRequest_61 (by decide) ?_
    refine wp_iload_n dX9_endsRequest_64 rfl ?_
    refine wp_iadd dX9_endsRequest_65 ?_
    obtain ⟨r10, rho11, hp12, h⟩ := ob_e h
    refine wp_callV (k1 := 0) (k2 := 0) (As := [vI ((400 + x1))]) (rest := []) (w9_turnsOff hfr hp12) okX9_turnsOff ivX9_turnsOff rfl (by decide) ml_X9_307 dX9_endsRequest_66 rfl (by decide) (Nat.le_refl _) rfl (Nat.le_of_ble_eq_true rfl) (fun _ _ z => z.elim) (fun r' S' z => ?_)
    obtain ⟨rfl, rfl⟩ := z
    show WP _ _ _ _ [some (vR 9 0), some (vI (x1)), some (vI (x2))] [] _ _ _
    obtain ⟨q1, q2⟩ := sm_e h
    subst q2
    exact wp_return rfl dX9_endsRequest_69 ⟨rfl, rfl⟩
  · replace h := itn c7 h
    refine wp_iload_n dX9_endsRequest_31 rfl ?_
    refine wp_iconst (v := 3) dX9_endsRequest_32 (by decide) ?_
    refine wp_icmp_ne (tgt := 54) dX9_endsRequest_33 (by decide) (fun c13 => ?_) (fun c13 => ?_)
    · replace h := itn c13 h
      refine wp_iconst (v := 1) dX9_endsRequest_54 (by decide) ?_
      refine wp_goto (tgt := 59) dX9_endsRequest_55 (by decide) ?_
      refine wp_bastR (c := 258) (y := 58) rfl rfl (show vp_in (x1) (len 258) from c1) (by decide) dX9_endsRequest_59 ?_
      obtain ⟨rho25, e26, h⟩ := wr_e h
      rw [e26]
      refine wp_aload_n dX9_endsRequest_60 rfl ?_
      refine wp_sipush (v := 400) dX9_endsRequest_61 (by decide) ?_
      refine wp_iload_n dX9_endsRequest_64 rfl ?_
      refine wp_iadd dX9_endsRequest_65 ?_
      obtain ⟨r27, rho28, hp29, h⟩ := ob_e h
      refine wp_callV (k1 := 0) (k2 := 0) (As := [vI ((400 + x1))]) (rest := []) (w9_turnsOff hfr hp29) okX9_turnsOff ivX9_turnsOff rfl (by decide) ml_X9_307 dX9_endsRequest_66 rfl (by decide) (Nat.le_refl _) rfl (Nat.le_of_ble_eq_true rfl) (fun _ _ z => z.elim) (fun r' S' z => ?_)
      obtain ⟨rfl, rfl⟩ := z
      show WP _ _ _ _ [some (vR 9 0), some (vI (x1)), some (vI (x2))] [] _ _ _
      obtain ⟨q1, q2⟩ := sm_e h
      subst q2
      exact wp_return rfl dX9_endsRequest_69 ⟨rfl, rfl⟩
    · replace h := itp c13 h
      refine wp_aload_n dX9_endsRequest_36 rfl ?_
      refine wp_getRI (y := 0) (by decide) rfl fl_X9_220 dX9_endsRequest_37 ?_
      refine wp_aload_n dX9_endsRequest_40 rfl ?_
      refine wp_arrR (y := 55) (c := 255) hfr (by decide) rfl fl_X9_165 dX9_endsRequest_41 ?_
      refine wp_iload_n dX9_endsRequest_44 rfl ?_
      refine wp_ialdR (c := 255) (y := 55) rfl rfl (show vp_in (x1) (len 255) from c1) dX9_endsRequest_45 ?_
      refine wp_isub dX9_endsRequest_46 ?_
      refine wp_aload_n dX9_endsRequest_47 rfl ?_
      refine wp_getRI (y := 30) (by decide) rfl fl_X9_96 dX9_endsRequest_48 ?_
      refine wp_icmp_le (tgt := 58) dX9_endsRequest_51 (by decide) (fun c14 => ?_) (fun c14 => ?_)
      · replace h := itp c14 h
        refine wp_iconst (v := 0) dX9_endsRequest_58 (by decide) ?_
        refine wp_bastR (c := 258) (y := 58) rfl rfl (show vp_in (x1) (len 258) from c1) (by decide) dX9_endsRequest_59 ?_
        obtain ⟨rho15, e16, h⟩ := wr_e h
        rw [e16]
        refine wp_aload_n dX9_endsRequest_60 rfl ?_
        refine wp_sipush (v := 400) dX9_endsRequest_61 (by decide) ?_
        refine wp_iload_n dX9_endsRequest_64 rfl ?_
        refine wp_iadd dX9_endsRequest_65 ?_
        obtain ⟨r17, rho18, hp19, h⟩ := ob_e h
        refine wp_callV (k1 := 0) (k2 := 0) (As := [vI ((400 + x1))]) (rest := []) (w9_turnsOff hfr hp19) okX9_turnsOff ivX9_turnsOff rfl (by decide) ml_X9_307 dX9_endsRequest_66 rfl (by decide) (Nat.le_refl _) rfl (Nat.le_of_ble_eq_true rfl) (fun _ _ z => z.elim) (fun r' S' z => ?_)
        obtain ⟨rfl, rfl⟩ := z
        show WP _ _ _ _ [some (vR 9 0), some (vI (x1)), some (vI (x2))] [] _ _ _
        obtain ⟨q1, q2⟩ := sm_e h
        subst q2
        exact wp_return rfl dX9_endsRequest_69 ⟨rfl, rfl⟩
      · replace h := itn c14 h
        refine wp_iconst (v := 1) dX9_endsRequest_54 (by decide) ?_
        refine wp_goto (tgt := 59) dX9_endsRequest_55 (by decide) ?_
        refine wp_bastR (c := 258) (y := 58) rfl rfl (show vp_in (x1) (len 258) from c1) (by decide) dX9_endsRequest_59 ?_
        obtain ⟨rho20, e21, h⟩ := wr_e h
        rw [e21]
        refine wp_aload_n dX9_endsRequest_60 rfl ?_
        refine wp_sipush (v := 400) dX9_endsRequest_61 (by decide) ?_
        refine wp_iload_n dX9_endsRequest_64 rfl ?_
        refine wp_iadd dX9_endsRequest_65 ?_
        obtain ⟨r22, rho23, hp24, h⟩ := ob_e h
        refine wp_callV (k1 := 0) (k2 := 0) (As := [vI ((400 + x1))]) (rest := []) (w9_turnsOff hfr hp24) okX9_turnsOff ivX9_turnsOff rfl (by decide) ml_X9_307 dX9_endsRequest_66 rfl (by decide) (Nat.le_refl _) rfl (Nat.le_of_ble_eq_true rfl) (fun _ _ z => z.elim) (fun r' S' z => ?_)
        obtain ⟨rfl, rfl⟩ := z
        show WP _ _ _ _ [some (vR 9 0), some (vI (x1)), some (vI (x2))] [] _ _ _
        obtain ⟨q1, q2⟩ := sm_e h
        subst q2
        exact wp_return rfl dX9_endsRequest_69 ⟨rfl, rfl⟩
def f9_goesRequest (x1 : Int32) (rho : RH) : Option (Int32 × RH) :=
  ob (f9_goesStep ((400 + x1)) rho) fun r1 rho2 =>
  if r1 ≤ 0 then
    some (0, rho2)
  else
    if r1 = 1 then
      ob (f9_endsRequest (x1) (3) rho2) fun _ rho7 =>
      some (0, rho7)
    else
      ob (f9_endsRequest (x1) (4) rho2) fun _ rho10 =>
      some (0, rho10)
theorem w9_goesRequest {r : Int32} {rho9 : RH} (hfr : RA fr) {x1 : Int32} {rho : RH} (h : f9_goesRequest x1 rho = some (r, rho9)) : Spec mX9_goesRequest 8 0 [vR 9 0, vI x1] (lv, fr, fi, ai, ar, li, out, rho) (Po lv fr fi ai ar li out (none) rho9) NX := by
  unfold f9_goesRequest at h
  refine spec_of (by decide) rfl (by simp [catS, cat1]) (Nat.le_of_ble_eq_true rfl) ?_
  show WP mX9_goesRequest 8 0 0 [some (vR 9 0), some (vI (x1)), none] [] (lv, fr, fi, ai, ar, li, out, rho) (Po lv fr fi ai ar li out (none) rho9) NX
  refine wp_aload_n dX9_goesRequest_0 rfl ?_
  refine wp_sipush (v := 400) dX9_goesRequest_1 (by decide) ?_
  refine wp_iload_n dX9_goesRequest_4 rfl ?_
  refine wp_iadd dX9_goesRequest_5 ?_
  obtain ⟨r1, rho2, hp3, h⟩ := ob_e h
  refine wp_callV (k1 := 0) (k2 := 0) (As := [vI ((400 + x1))]) (rest := []) (w9_goesStep hfr hp3) okX9_goesStep ivX9_goesStep rfl (by decide) ml_X9_319 dX9_goesRequest_6 rfl (by decide) (Nat.le_refl _) rfl (Nat.le_of_ble_eq_true rfl) (fun _ _ z => z.elim) (fun r' S' z => ?_)
  obtain ⟨rfl, rfl⟩ := z
  show WP _ _ _ _ [some (vR 9 0), some (vI (x1)), none] [vI (r1)] _ _ _
  refine wp_istore_n (L' := [some (vR 9 0), some (vI (x1)), some (vI (r1))]) dX9_goesRequest_9 rfl rfl ?_
  refine wp_iload_n dX9_goesRequest_10 rfl ?_
  refine wp_if_le (tgt := 29) dX9_goesRequest_11 (by decide) (fun c4 => ?_) (fun c4 => ?_)
  · replace h := itp c4 h
    obtain ⟨q1, q2⟩ := sm_e h
    subst q2
    exact wp_return rfl dX9_goesRequest_29 ⟨rfl, rfl⟩
  · replace h := itn c4 h
    refine wp_aload_n dX9_goesRequest_14 rfl ?_
    refine wp_iload_n dX9_goesRequest_15 rfl ?_
    refine wp_iload_n dX9_goesRequest_16 rfl ?_
    refine wp_iconst (v := 1) dX9_goesRequest_17 (by decide) ?_
    refine wp_icmp_ne (tgt := 25) dX9_goesRequest_18 (by decide) (fun c5 => ?_) (fun c5 => ?_)
    · replace h := itn c5 h
      refine wp_iconst (v := 4) dX9_goesRequest_25 (by decide) ?_
      obtain ⟨r9, rho10, hp11, h⟩ := ob_e h
      refine wp_callV (k1 := 0) (k2 := 0) (As := [vI (x1), vI (4)]) (rest := []) (w9_endsRequest hfr hp11) okX9_endsRequest ivX9_endsRequest rfl (by decide) ml_X9_322 dX9_goesRequest_26 rfl (by decide) (Nat.le_refl _) rfl (Nat.le_of_ble_eq_true rfl) (fun _ _ z => z.elim) (fun r' S' z => ?_)
      obtain ⟨rfl, rfl⟩ := z
      show WP _ _ _ _ [some (vR 9 0), some (vI (x1)), some (vI (r1))] [] _ _ _
      obtain ⟨q1, q2⟩ := sm_e h
      subst q2
      exact wp_return rfl dX9_goesRequest_29 ⟨rfl, rfl⟩
    · replace h := itp c5 h
      refine wp_iconst (v := 3) dX9_goesRequest_21 (by decide) ?_
      refine wp_goto (tgt := 26) dX9_goesRequest_22 (by decide) ?_
      obtain ⟨r6, rho7, hp8, h⟩ := ob_e h
      refine wp_callV (k1 := 0) (k2 := 0) (As := [vI (x1), vI (3)]) (rest := []) (w9_endsRequest hfr hp8) okX9_endsRequest ivX9_endsRequest rfl (by decide) ml_X9_322 dX9_goesRequest_26 rfl (by decide) (Nat.le_refl _) rfl (Nat.le_of_ble_eq_true rfl) (fun _ _ z => z.elim) (fun r' S' z => ?_)
      obtain ⟨rfl, rfl⟩ := z
      show WP _ _ _ _ [some (vR 9 0), some (vI (x1)), some (vI (r1))] [] _ _ _
      obtain ⟨q1, q2⟩ := sm_e h
      subst q2
      exact wp_return rfl dX9_goesRequest_29 ⟨rfl, rfl⟩
def f9_request (x1 x2 x3 : Int32) (rho : RH) : Option (Int32 × RH) :=
  ob (f9_isService (x1) rho) fun r1 rho2 =>
  ob (f9_in (x3) (1) (200) rho2) fun r4 rho5 =>
  if 40 ≤ (rho5 51 0) then
    ob (f9_goes (r1) (r4) (0) rho5) fun r8 rho9 =>
    if r8 = 0 then
      some (0, rho9)
    else
      wr (up2 rho9 51 0 (((rho9 51 0) + 1))) fun rho12 =>
      if vq ((rho9 51 0)) 40 then
      wr (up2 rho12 52 ((rho9 51 0)).toNatClampNeg (x1)) fun rho15 =>
      if (x2 = 0 ∨ x2 = 1) then
      wr (up2 rho15 53 ((rho9 51 0)).toNatClampNeg (x2)) fun rho18 =>
      wr (up2 rho18 54 ((rho9 51 0)).toNatClampNeg (((rho18 0 0) + x3))) fun rho20 =>
      wr (up2 rho20 55 ((rho9 51 0)).toNatClampNeg ((rho20 0 0))) fun rho22 =>
      wr (up2 rho22 56 ((rho9 51 0)).toNatClampNeg (8)) fun rho24 =>
      if vq ((400 + (rho9 51 0))) 540 then
      wr (up2 rho24 46 ((400 + (rho9 51 0))).toNatClampNeg ((-1))) fun rho27 =>
      ob (f9_begins ((400 + (rho9 51 0))) rho27) fun _ rho30 =>
      ob (f9_goesRequest ((rho9 51 0)) rho30) fun _ rho33 =>
      some ((rho9 51 0), rho33)
      else none
      else none
      else none
  else
    ob (f9_goes (r1) (r4) (1) rho5) fun r35 rho36 =>
    if r35 = 0 then
      some (0, rho36)
    else
      wr (up2 rho36 51 0 (((rho36 51 0) + 1))) fun rho39 =>
      if vq ((rho36 51 0)) 40 then
      wr (up2 rho39 52 ((rho36 51 0)).toNatClampNeg (x1)) fun rho42 =>
      if (x2 = 0 ∨ x2 = 1) then
      wr (up2 rho42 53 ((rho36 51 0)).toNatClampNeg (x2)) fun rho45 =>
      wr (up2 rho45 54 ((rho36 51 0)).toNatClampNeg (((rho45 0 0) + x3))) fun rho47 =>
      wr (up2 rho47 55 ((rho36 51 0)).toNatClampNeg ((rho47 0 0))) fun rho49 =>
      wr (up2 rho49 56 ((rho36 51 0)).toNatClampNeg (8)) fun rho51 =>
      if vq ((400 + (rho36 51 0))) 540 then
      wr (up2 rho51 46 ((400 + (rho36 51 0))).toNatClampNeg ((-1))) fun rho54 =>
      ob (f9_begins ((400 + (rho36 51 0))) rho54) fun _ rho57 =>
      ob (f9_goesRequest ((rho36 51 0)) rho57) fun _ rho60 =>
      some ((rho36 51 0), rho60)
      else none
      else none
      else none
theorem w9_request {r : Int32} {rho9 : RH} (hfr : RA fr) {x1 x2 x3 : Int32} {rho : RH} (h : f9_request x1 x2 x3 rho = some (r, rho9)) : Spec mX9_request 9 0 [vR 9 0, vI x1, vI x2, vI x3] (lv, fr, fi, ai, ar, li, out, rho) (Po lv fr fi ai ar li out (some (vI r)) rho9) NX := by
  unfold f9_request at h
  refine spec_of (by decide) rfl (by simp [catS, cat1]) (Nat.le_of_ble_eq_true rfl) ?_
  show WP mX9_request 9 0 0 [some (vR 9 0), some (vI (x1)), some (vI (x2)), some (vI (x3)), none] [] (lv, fr, fi, ai, ar, li, out, rho) (Po lv fr fi ai ar li out (some (vI r)) rho9) NX
  refine wp_aload_n dX9_request_0 rfl ?_
  refine wp_iload_n dX9_request_1 rfl ?_
  obtain ⟨r1, rho2, hp3, h⟩ := ob_e h
  refine wp_callS (k1 := 0) (k2 := 0) (As := [vI (x1)]) (rest := [vR 9 0]) (w9_isService hfr hp3) okX9_isService sm_X9_isService rfl ml_X9_199 dX9_request_2 rfl (by decide) (Nat.le_refl _) rfl (Nat.le_of_ble_eq_true rfl) (fun _ _ z => z.elim) (fun r' S' z => ?_)
  obtain ⟨rfl, rfl⟩ := z
  show WP _ _ _ _ [some (vR 9 0), some (vI (x1)), some (vI (x2)), some (vI (x3)), none] [vI (r1), vR 9 0] _ _ _
  refine wp_iload_n dX9_request_5 rfl ?_
  refine wp_iconst (v := 1) dX9_request_6 (by decide) ?_
  refine wp_sipush (v := 200) dX9_request_7 (by decide) ?_
  obtain ⟨r4, rho5, hp6, h⟩ := ob_e h
  refine wp_callS (k1 := 0) (k2 := 0) (As := [vI (x3), vI (1), vI (200)]) (rest := [vI (r1), vR 9 0]) (w9_in hfr hp6) okX9_in sm_X9_in rfl ml_X9_189 dX9_request_10 rfl (by decide) (Nat.le_refl _) rfl (Nat.le_of_ble_eq_true rfl) (fun _ _ z => z.elim) (fun r' S' z => ?_)
  obtain ⟨rfl, rfl⟩ := z
  show WP _ _ _ _ [some (vR 9 0), some (vI (x1)), some (vI (x2)), some (vI (x3)), none] [vI (r4), vI (r1), vR 9 0] _ _ _
  refine wp_aload_n dX9_request_13 rfl ?_
  refine wp_getRI (y := 51) (by decide) rfl fl_X9_196 dX9_request_14 ?_
  refine wp_bipush (v := 40) dX9_request_17 (by decide) ?_
  refine wp_icmp_ge (tgt := 26) dX9_request_19 (by decide) (fun c7 => ?_) (fun c7 => ?_)
  · replace h := itp c7 h
    refine wp_iconst (v := 0) dX9_request_26 (by decide) ?_
    obtain ⟨r8, rho9, hp10, h⟩ := ob_e h
    refine wp_callV (k1 := 0) (k2 := 0) (As := [vI (r1), vI (r4), vI (0)]) (rest := []) (w9_goes hfr hp10) okX9_goes ivX9_goes rfl (by decide) ml_X9_203 dX9_request_27 rfl (by decide) (Nat.le_refl _) rfl (Nat.le_of_ble_eq_true rfl) (fun _ _ z => z.elim) (fun r' S' z => ?_)
    obtain ⟨rfl, rfl⟩ := z
    show WP _ _ _ _ [some (vR 9 0), some (vI (x1)), some (vI (x2)), some (vI (x3)), none] [vI (r8)] _ _ _
    refine wp_if_ne (tgt := 35) dX9_request_30 (by decide) (fun c11 => ?_) (fun c11 => ?_)
    · replace h := itn c11 h
      refine wp_aload_n dX9_request_35 rfl ?_
      refine wp_getRI (y := 51) (by decide) rfl fl_X9_196 dX9_request_36 ?_
      refine wp_istore (L' := [some (vR 9 0), some (vI (x1)), some (vI (x2)), some (vI (x3)), some (vI ((rho9 51 0)))]) dX9_request_39 rfl rfl ?_
      refine wp_aload_n dX9_request_41 rfl ?_
      refine wp_dup dX9_request_42 trivial ?_
      refine wp_getRI (y := 51) (by decide) rfl fl_X9_196 dX9_request_43 ?_
      refine wp_iconst (v := 1) dX9_request_46 (by decide) ?_
      refine wp_iadd dX9_request_47 ?_
      refine wp_putRI (y := 51) (by decide) rfl rfl fl_X9_196 dX9_request_48 rfl ?_
      obtain ⟨rho12, e13, h⟩ := wr_e h
      rw [e13]
      refine wp_aload_n dX9_request_51 rfl ?_
      refine wp_arrR (y := 52) (c := 252) hfr (by decide) rfl fl_X9_156 dX9_request_52 ?_
      refine wp_iload dX9_request_55 rfl ?_
      refine wp_iload_n dX9_request_57 rfl ?_
      obtain ⟨c14, h⟩ := ock h
      refine wp_iastR (c := 252) (y := 52) rfl rfl (show vp_in ((rho9 51 0)) (len 252) from c14) dX9_request_58 ?_
      obtain ⟨rho15, e16, h⟩ := wr_e h
      rw [e16]
      refine wp_aload_n dX9_request_59 rfl ?_
      refine wp_arrR (y := 53) (c := 253) hfr (by decide) rfl fl_X9_159 dX9_request_60 ?_
      refine wp_iload dX9_request_63 rfl ?_
      refine wp_iload_n dX9_request_65 rfl ?_
      obtain ⟨c17, h⟩ := ock h
      refine wp_bastR (c := 253) (y := 53) rfl rfl (show vp_in ((rho9 51 0)) (len 253) from c14) c17 dX9_request_66 ?_
      obtain ⟨rho18, e19, h⟩ := wr_e h
      rw [e19]
      refine wp_aload_n dX9_request_67 rfl ?_
      refine wp_arrR (y := 54) (c := 254) hfr (by decide) rfl fl_X9_162 dX9_request_68 ?_
      refine wp_iload dX9_request_71 rfl ?_
      refine wp_aload_n dX9_request_73 rfl ?_
      refine wp_getRI (y := 0) (by decide) rfl fl_X9_220 dX9_request_74 ?_
      refine wp_iload_n dX9_request_77 rfl ?_
      refine wp_iadd dX9_request_78 ?_
      refine wp_iastR (c := 254) (y := 54) rfl rfl (show vp_in ((rho9 51 0)) (len 254) from c14) dX9_request_79 ?_
      obtain ⟨rho20, e21, h⟩ := wr_e h
      rw [e21]
      refine wp_aload_n dX9_request_80 rfl ?_
      refine wp_arrR (y := 55) (c := 255) hfr (by decide) rfl fl_X9_165 dX9_request_81 ?_
      refine wp_iload dX9_request_84 rfl ?_
      refine wp_aload_n dX9_request_86 rfl ?_
      refine wp_getRI (y := 0) (by decide) rfl fl_X9_220 dX9_request_87 ?_
      refine wp_iastR (c := 255) (y := 55) rfl rfl (show vp_in ((rho9 51 0)) (len 255) from c14) dX9_request_90 ?_
      obtain ⟨rho22, e23, h⟩ := wr_e h
      rw [e23]
      refine wp_aload_n dX9_request_91 rfl ?_
      refine wp_arrR (y := 56) (c := 256) hfr (by decide) rfl fl_X9_168 dX9_request_92 ?_
      refine wp_iload dX9_request_95 rfl ?_
      refine wp_bipush (v := 8) dX9_request_97 (by decide) ?_
      refine wp_iastR (c := 256) (y := 56) rfl rfl (show vp_in ((rho9 51 0)) (len 256) from c14) dX9_request_99 ?_
      obtain ⟨rho24, e25, h⟩ := wr_e h
      rw [e25]
      refine wp_aload_n dX9_request_100 rfl ?_
      refine wp_arrR (y := 46) (c := 246) hfr (by decide) rfl fl_X9_141 dX9_request_101 ?_
      refine wp_sipush (v := 400) dX9_request_104 (by decide) ?_
      refine wp_iload dX9_request_107 rfl ?_
      refine wp_iadd dX9_request_109 ?_
      refine wp_iconst (v := (-1)) dX9_request_110 (by decide) ?_
      obtain ⟨c26, h⟩ := ock h
      refine wp_iastR (c := 246) (y := 46) rfl rfl (show vp_in ((400 + (rho9 51 0))) (len 246) from c26) dX9_request_111 ?_
      obtain ⟨rho27, e28, h⟩ := wr_e h
      rw [e28]
      refine wp_aload_n dX9_request_112 rfl ?_
      refine wp_sipush (v := 400) dX9_request_113 (by decide) ?_
      refine wp_iload dX9_request_116 rfl ?_
      refine wp_iadd dX9_request_118 ?_
      obtain ⟨r29, rho30, hp31, h⟩ := ob_e h
      refine wp_callV (k1 := 0) (k2 := 0) (As := [vI ((400 + (rho9 51 0)))]) (rest := []) (w9_begins hfr hp31) okX9_begins ivX9_begins rfl (by decide) ml_X9_316 dX9_request_119 rfl (by decide) (Nat.le_refl _) rfl (Nat.le_of_ble_eq_true rfl) (fun _ _ z => z.elim) (fun r' S' z => ?_)
      obtain ⟨rfl, rfl⟩ := z
      show WP _ _ _ _ [some (vR 9 0), some (vI (x1)), some (vI (x2)), some (vI (x3)), some (vI ((rho9 51 0)))] [] _ _ _
      refine wp_aload_n dX9_request_122 rfl ?_
      refine wp_iload dX9_request_123 rfl ?_
      obtain ⟨r32, rho33, hp34, h⟩ := ob_e h
      refine wp_callV (k1 := 0) (k2 := 0) (As := [vI ((rho9 51 0))]) (rest := []) (w9_goesRequest hfr hp34) okX9_goesRequest ivX9_goesRequest rfl (by decide) ml_X9_325 dX9_request_125 rfl (by decide) (Nat.le_refl _) rfl (Nat.le_of_ble_eq_true rfl) (fun _ _ z => z.elim) (fun r' S' z => ?_)
      obtain ⟨rfl, rfl⟩ := z
      show WP _ _ _ _ [some (vR 9 0), some (vI (x1)), some (vI (x2)), some (vI (x3)), some (vI ((rho9 51 0)))] [] _ _ _
      refine wp_iload dX9_request_128 rfl ?_
      obtain ⟨q1, q2⟩ := sm_e h
      subst q1
      subst q2
      exact wp_ireturn rfl dX9_request_130 ⟨rfl, rfl⟩
    · replace h := itp c11 h
      refine wp_iconst (v := 0) dX9_request_33 (by decide) ?_
      obtain ⟨q1, q2⟩ := sm_e h
      subst q1
      subst q2
      exact wp_ireturn rfl dX9_request_34 ⟨rfl, rfl⟩
  · replace h := itn c7 h
    refine wp_iconst (v := 1) dX9_request_22 (by decide) ?_
    refine wp_goto (tgt := 27) dX9_request_23 (by decide) ?_
    obtain ⟨r35, rho36, hp37, h⟩ := ob_e h
    refine wp_callV (k1 := 0) (k2 := 0) (As := [vI (r1), vI (r4), vI (1)]) (rest := []) (w9_goes hfr hp37) okX9_goes ivX9_goes rfl (by decide) ml_X9_203 dX9_request_27 rfl (by decide) (Nat.le_refl _) rfl (Nat.le_of_ble_eq_true rfl) (fun _ _ z => z.elim) (fun r' S' z => ?_)
    obtain ⟨rfl, rfl⟩ := z
    show WP _ _ _ _ [some (vR 9 0), some (vI (x1)), some (vI (x2)), some (vI (x3)), none] [vI (r35)] _ _ _
    refine wp_if_ne (tgt := 35) dX9_request_30 (by decide) (fun c38 => ?_) (fun c38 => ?_)
    · replace h := itn c38 h
      refine wp_aload_n dX9_request_35 rfl ?_
      refine wp_getRI (y := 51) (by decide) rfl fl_X9_196 dX9_request_36 ?_
      refine wp_istore (L' := [some (vR 9 0), some (vI (x1)), some (vI (x2)), some (vI (x3)), some (vI ((rho36 51 0)))]) dX9_request_39 rfl rfl ?_
      refine wp_aload_n dX9_request_41 rfl ?_
      refine wp_dup dX9_request_42 trivial ?_
      refine wp_getRI (y := 51) (by decide) rfl fl_X9_196 dX9_request_43 ?_
      refine wp_iconst (v := 1) dX9_request_46 (by decide) ?_
      refine wp_iadd dX9_request_47 ?_
      refine wp_putRI (y := 51) (by decide) rfl rfl fl_X9_196 dX9_request_48 rfl ?_
      obtain ⟨rho39, e40, h⟩ := wr_e h
      rw [e40]
      refine wp_aload_n dX9_request_51 rfl ?_
      refine wp_arrR (y := 52) (c := 252) hfr (by decide) rfl fl_X9_156 dX9_request_52 ?_
      refine wp_iload dX9_request_55 rfl ?_
      refine wp_iload_n dX9_request_57 rfl ?_
      obtain ⟨c41, h⟩ := ock h
      refine wp_iastR (c := 252) (y := 52) rfl rfl (show vp_in ((rho36 51 0)) (len 252) from c41) dX9_request_58 ?_
      obtain ⟨rho42, e43, h⟩ := wr_e h
      rw [e43]
      refine wp_aload_n dX9_request_59 rfl ?_
      refine wp_arrR (y := 53) (c := 253) hfr (by decide) rfl fl_X9_159 dX9_request_60 ?_
      refine wp_iload dX9_request_63 rfl ?_
      refine wp_iload_n dX9_request_65 rfl ?_
      obtain ⟨c44, h⟩ := ock h
      refine wp_bastR (c := 253) (y := 53) rfl rfl (show vp_in ((rho36 51 0)) (len 253) from c41) c44 dX9_request_66 ?_
      obtain ⟨rho45, e46, h⟩ := wr_e h
      rw [e46]
      refine wp_aload_n dX9_request_67 rfl ?_
      refine wp_arrR (y := 54) (c := 254) hfr (by decide) rfl fl_X9_162 dX9_request_68 ?_
      refine wp_iload dX9_request_71 rfl ?_
      refine wp_aload_n dX9_request_73 rfl ?_
      refine wp_getRI (y := 0) (by decide) rfl fl_X9_220 dX9_request_74 ?_
      refine wp_iload_n dX9_request_77 rfl ?_
      refine wp_iadd dX9_request_78 ?_
      refine wp_iastR (c := 254) (y := 54) rfl rfl (show vp_in ((rho36 51 0)) (len 254) from c41) dX9_request_79 ?_
      obtain ⟨rho47, e48, h⟩ := wr_e h
      rw [e48]
      refine wp_aload_n dX9_request_80 rfl ?_
      refine wp_arrR (y := 55) (c := 255) hfr (by decide) rfl fl_X9_165 dX9_request_81 ?_
      refine wp_iload dX9_request_84 rfl ?_
      refine wp_aload_n dX9_request_86 rfl ?_
      refine wp_getRI (y := 0) (by decide) rfl fl_X9_220 dX9_request_87 ?_
      refine wp_iastR (c := 255) (y := 55) rfl rfl (show vp_in ((rho36 51 0)) (len 255) from c41) dX9_request_90 ?_
      obtain ⟨rho49, e50, h⟩ := wr_e h
      rw [e50]
      refine wp_aload_n dX9_request_91 rfl ?_
      refine wp_arrR (y := 56) (c := 256) hfr (by decide) rfl fl_X9_168 dX9_request_92 ?_
      refine wp_iload dX9_request_95 rfl ?_
      refine wp_bipush (v := 8) dX9_request_97 (by decide) ?_
      refine wp_iastR (c := 256) (y := 56) rfl rfl (show vp_in ((rho36 51 0)) (len 256) from c41) dX9_request_99 ?_
      obtain ⟨rho51, e52, h⟩ := wr_e h
      rw [e52]
      refine wp_aload_n dX9_request_100 rfl ?_
      refine wp_arrR (y := 46) (c := 246) hfr (by decide) rfl fl_X9_141 dX9_request_101 ?_
      refine wp_sipush (v := 400) dX9_request_104 (by decide) ?_
      refine wp_iload dX9_request_107 rfl ?_
      refine wp_iadd dX9_request_109 ?_
      refine wp_iconst (v := (-1)) dX9_request_110 (by decide) ?_
      obtain ⟨c53, h⟩ := ock h
      refine wp_iastR (c := 246) (y := 46) rfl rfl (show vp_in ((400 + (rho36 51 0))) (len 246) from c53) dX9_request_111 ?_
      obtain ⟨rho54, e55, h⟩ := wr_e h
      rw [e55]
      refine wp_aload_n dX9_request_112 rfl ?_
      refine wp_sipush (v := 400) dX9_request_113 (by decide) ?_
      refine wp_iload dX9_request_116 rfl ?_
      refine wp_iadd dX9_request_118 ?_
      obtain ⟨r56, rho57, hp58, h⟩ := ob_e h
      refine wp_callV (k1 := 0) (k2 := 0) (As := [vI ((400 + (rho36 51 0)))]) (rest := []) (w9_begins hfr hp58) okX9_begins ivX9_begins rfl (by decide) ml_X9_316 dX9_request_119 rfl (by decide) (Nat.le_refl _) rfl (Nat.le_of_ble_eq_true rfl) (fun _ _ z => z.elim) (fun r' S' z => ?_)
      obtain ⟨rfl, rfl⟩ := z
      show WP _ _ _ _ [some (vR 9 0), some (vI (x1)), some (vI (x2)), some (vI (x3)), some (vI ((rho36 51 0)))] [] _ _ _
      refine wp_aload_n dX9_request_122 rfl ?_
      refine wp_iload dX9_request_123 rfl ?_
      obtain ⟨r59, rho60, hp61, h⟩ := ob_e h
      refine wp_callV (k1 := 0) (k2 := 0) (As := [vI ((rho36 51 0))]) (rest := []) (w9_goesRequest hfr hp61) okX9_goesRequest ivX9_goesRequest rfl (by decide) ml_X9_325 dX9_request_125 rfl (by decide) (Nat.le_refl _) rfl (Nat.le_of_ble_eq_true rfl) (fun _ _ z => z.elim) (fun r' S' z => ?_)
      obtain ⟨rfl, rfl⟩ := z
      show WP _ _ _ _ [some (vR 9 0), some (vI (x1)), some (vI (x2)), some (vI (x3)), some (vI ((rho36 51 0)))] [] _ _ _
      refine wp_iload dX9_request_128 rfl ?_
      obtain ⟨q1, q2⟩ := sm_e h
      subst q1
      subst q2
      exact wp_ireturn rfl dX9_request_130 ⟨rfl, rfl⟩
    · replace h := itp c38 h
      refine wp_iconst (v := 0) dX9_request_33 (by decide) ?_
      obtain ⟨q1, q2⟩ := sm_e h
      subst q1
      subst q2
      exact wp_ireturn rfl dX9_request_34 ⟨rfl, rfl⟩
def f9_finishesWork (x1 : Int32) (rho : RH) : Option (Int32 × RH) :=
  if vq (x1) 400 then
  if vq (((4 * (rho 36 (x1).toNatClampNeg)) + 1)) 48 then
  if (rho 13 (((4 * (rho 36 (x1).toNatClampNeg)) + 1)).toNatClampNeg) = 1 then
    ob (f9_endsCall (x1) (4) rho) fun _ rho5 =>
    some (0, rho5)
  else
    if vq ((rho 34 (x1).toNatClampNeg)) 6 then
    if (rho 2 ((rho 34 (x1).toNatClampNeg)).toNatClampNeg) = 0 then
      ob (f9_endsCall (x1) (3) rho) fun _ rho10 =>
      some (0, rho10)
    else
      wr (up2 rho 37 (x1).toNatClampNeg (2)) fun rho12 =>
      some (0, rho12)
    else none
  else none
  else none
theorem w9_finishesWork {r : Int32} {rho9 : RH} (hfr : RA fr) {x1 : Int32} {rho : RH} (h : f9_finishesWork x1 rho = some (r, rho9)) : Spec mX9_finishesWork 3 0 [vR 9 0, vI x1] (lv, fr, fi, ai, ar, li, out, rho) (Po lv fr fi ai ar li out (none) rho9) NX := by
  unfold f9_finishesWork at h
  refine spec_of (by decide) rfl (by simp [catS, cat1]) (Nat.le_of_ble_eq_true rfl) ?_
  show WP mX9_finishesWork 3 0 0 [some (vR 9 0), some (vI (x1))] [] (lv, fr, fi, ai, ar, li, out, rho) (Po lv fr fi ai ar li out (none) rho9) NX
  refine wp_aload_n dX9_finishesWork_0 rfl ?_
  refine wp_arrR (y := 13) (c := 213) hfr (by decide) rfl fl_X9_44 dX9_finishesWork_1 ?_
  refine wp_iconst (v := 4) dX9_finishesWork_4 (by decide) ?_
  refine wp_aload_n dX9_finishesWork_5 rfl ?_
  refine wp_arrR (y := 36) (c := 236) hfr (by decide) rfl fl_X9_111 dX9_finishesWork_6 ?_
  refine wp_iload_n dX9_finishesWork_9 rfl ?_
  obtain ⟨c1, h⟩ := ock h
  refine wp_ialdR (c := 236) (y := 36) rfl rfl (show vp_in (x1) (len 236) from c1) dX9_finishesWork_10 ?_
  refine wp_imul dX9_finishesWork_11 ?_
  refine wp_iconst (v := 1) dX9_finishesWork_12 (by decide) ?_
  refine wp_iadd dX9_finishesWork_13 ?_
  obtain ⟨c2, h⟩ := ock h
  refine wp_ialdR (c := 213) (y := 13) rfl rfl (show vp_in (((4 * (rho 36 (x1).toNatClampNeg)) + 1)) (len 213) from c2) dX9_finishesWork_14 ?_
  refine wp_iconst (v := 1) dX9_finishesWork_15 (by decide) ?_
  refine wp_icmp_ne (tgt := 28) dX9_finishesWork_16 (by decide) (fun c3 => ?_) (fun c3 => ?_)
  · replace h := itn c3 h
    refine wp_aload_n dX9_finishesWork_28 rfl ?_
    refine wp_arrR (y := 2) (c := 202) hfr (by decide) rfl fl_X9_13 dX9_finishesWork_29 ?_
    refine wp_aload_n dX9_finishesWork_32 rfl ?_
    refine wp_arrR (y := 34) (c := 234) hfr (by decide) rfl fl_X9_105 dX9_finishesWork_33 ?_
    refine wp_iload_n dX9_finishesWork_36 rfl ?_
    refine wp_ialdR (c := 234) (y := 34) rfl rfl (show vp_in (x1) (len 234) from c1) dX9_finishesWork_37 ?_
    obtain ⟨c7, h⟩ := ock h
    refine wp_ialdR (c := 202) (y := 2) rfl rfl (show vp_in ((rho 34 (x1).toNatClampNeg)) (len 202) from c7) dX9_finishesWork_38 ?_
    refine wp_if_ne (tgt := 51) dX9_finishesWork_39 (by decide) (fun c8 => ?_) (fun c8 => ?_)
    · replace h := itn c8 h
      refine wp_aload_n dX9_finishesWork_51 rfl ?_
      refine wp_arrR (y := 37) (c := 237) hfr (by decide) rfl fl_X9_114 dX9_finishesWork_52 ?_
      refine wp_iload_n dX9_finishesWork_55 rfl ?_
      refine wp_iconst (v := 2) dX9_finishesWork_56 (by decide) ?_
      refine wp_iastR (c := 237) (y := 37) rfl rfl (show vp_in (x1) (len 237) from c1) dX9_finishesWork_57 ?_
      obtain ⟨rho12, e13, h⟩ := wr_e h
      rw [e13]
      obtain ⟨q1, q2⟩ := sm_e h
      subst q2
      exact wp_return rfl dX9_finishesWork_58 ⟨rfl, rfl⟩
    · replace h := itp c8 h
      refine wp_aload_n dX9_finishesWork_42 rfl ?_
      refine wp_iload_n dX9_finishesWork_43 rfl ?_
      refine wp_iconst (v := 3) dX9_finishesWork_44 (by decide) ?_
      obtain ⟨r9, rho10, hp11, h⟩ := ob_e h
      refine wp_callV (k1 := 0) (k2 := 0) (As := [vI (x1), vI (3)]) (rest := []) (w9_endsCall hfr hp11) okX9_endsCall ivX9_endsCall rfl (by decide) ml_X9_244 dX9_finishesWork_45 rfl (by decide) (Nat.le_refl _) rfl (Nat.le_of_ble_eq_true rfl) (fun _ _ z => z.elim) (fun r' S' z => ?_)
      obtain ⟨rfl, rfl⟩ := z
      show WP _ _ _ _ [some (vR 9 0), some (vI (x1))] [] _ _ _
      refine wp_goto (tgt := 58) dX9_finishesWork_48 (by decide) ?_
      obtain ⟨q1, q2⟩ := sm_e h
      subst q2
      exact wp_return rfl dX9_finishesWork_58 ⟨rfl, rfl⟩
  · replace h := itp c3 h
    refine wp_aload_n dX9_finishesWork_19 rfl ?_
    refine wp_iload_n dX9_finishesWork_20 rfl ?_
    refine wp_iconst (v := 4) dX9_finishesWork_21 (by decide) ?_
    obtain ⟨r4, rho5, hp6, h⟩ := ob_e h
    refine wp_callV (k1 := 0) (k2 := 0) (As := [vI (x1), vI (4)]) (rest := []) (w9_endsCall hfr hp6) okX9_endsCall ivX9_endsCall rfl (by decide) ml_X9_244 dX9_finishesWork_22 rfl (by decide) (Nat.le_refl _) rfl (Nat.le_of_ble_eq_true rfl) (fun _ _ z => z.elim) (fun r' S' z => ?_)
    obtain ⟨rfl, rfl⟩ := z
    show WP _ _ _ _ [some (vR 9 0), some (vI (x1))] [] _ _ _
    refine wp_goto (tgt := 58) dX9_finishesWork_25 (by decide) ?_
    obtain ⟨q1, q2⟩ := sm_e h
    subst q2
    exact wp_return rfl dX9_finishesWork_58 ⟨rfl, rfl⟩
def l9_goesCall_21 : Nat → Int32 → Int32 → RH → Option (Int32 × RH)
  | 0, _, _, _ => none
  | n + 1, x1, x2, rho =>
  if x2 = 1 then
    if vq (x1) 540 then
    if vq (x1) 400 then
    if vq ((rho 34 (x1).toNatClampNeg)) 6 then
    if ((rho 2 ((rho 34 (x1).toNatClampNeg)).toNatClampNeg) - 1) ≤ (rho 46 (x1).toNatClampNeg) then
      if x2 ≤ 0 then
        some (0, rho)
      else
        ob (f9_endsCall (x1) (3) rho) fun _ rho8 =>
        some (0, rho8)
    else
      ob (f9_begins (x1) rho) fun _ rho11 =>
      ob (f9_goesStep (x1) rho11) fun r13 rho14 =>
      l9_goesCall_21 n (x1) (r13) rho14
    else none
    else none
    else none
  else
    if x2 ≤ 0 then
      some (0, rho)
    else
      ob (f9_endsCall (x1) (4) rho) fun _ rho18 =>
      some (0, rho18)
theorem w9_goesCall_21 {r : Int32} {rho9 : RH} (hfr : RA fr) : ∀ (n : Nat) {x1 x2 : Int32} {rho : RH}, l9_goesCall_21 n x1 x2 rho = some (r, rho9) → WP mX9_goesCall 8 0 21 [some (vR 9 0), some (vI (x1)), some (vI (x2))] [] (lv, fr, fi, ai, ar, li, out, rho) (Po lv fr fi ai ar li out (none) rho9) NX := by
  intro n
  induction n with
  | zero =>
    intro x1 x2 rho h
    rw [l9_goesCall_21] at h
    cases h
  | succ n ih =>
    intro x1 x2 rho h
    rw [l9_goesCall_21] at h
    refine wp_iload_n dX9_goesCall_21 rfl ?_
    refine wp_iconst (v := 1) dX9_goesCall_22 (by decide) ?_
    refine wp_icmp_ne (tgt := 62) dX9_goesCall_23 (by decide) (fun c1 => ?_) (fun c1 => ?_)
    · replace h := itn c1 h
      refine wp_iload_n dX9_goesCall_62 rfl ?_
      refine wp_if_le (tgt := 81) dX9_goesCall_63 (by decide) (fun c16 => ?_) (fun c16 => ?_)
      · replace h := itp c16 h
        obtain ⟨q1, q2⟩ := sm_e h
        subst q2
        exact wp_return rfl dX9_goesCall_81 ⟨rfl, rfl⟩
      · replace h := itn c16 h
        refine wp_aload_n dX9_goesCall_66 rfl ?_
        refine wp_iload_n dX9_goesCall_67 rfl ?_
        refine wp_iload_n dX9_goesCall_68 rfl ?_
        refine wp_iconst (v := 1) dX9_goesCall_69 (by decide) ?_
        refine wp_icmp_ne (tgt := 77) dX9_goesCall_70 (by decide) (fun _ => ?_) (fun z => absurd z c1)
        refine wp_iconst (v := 4) dX9_goesCall_77 (by decide) ?_
        obtain ⟨r17, rho18, hp19, h⟩ := ob_e h
        refine wp_callV (k1 := 0) (k2 := 0) (As := [vI (x1), vI (4)]) (rest := []) (w9_endsCall hfr hp19) okX9_endsCall ivX9_endsCall rfl (by decide) ml_X9_244 dX9_goesCall_78 rfl (by decide) (Nat.le_refl _) rfl (Nat.le_of_ble_eq_true rfl) (fun _ _ z => z.elim) (fun r' S' z => ?_)
        obtain ⟨rfl, rfl⟩ := z
        show WP _ _ _ _ [some (vR 9 0), some (vI (x1)), some (vI (x2))] [] _ _ _
        obtain ⟨q1, q2⟩ := sm_e h
        subst q2
        exact wp_return rfl dX9_goesCall_81 ⟨rfl, rfl⟩
    · replace h := itp c1 h
      refine wp_aload_n dX9_goesCall_26 rfl ?_
      refine wp_arrR (y := 46) (c := 246) hfr (by decide) rfl fl_X9_141 dX9_goesCall_27 ?_
      refine wp_iload_n dX9_goesCall_30 rfl ?_
      obtain ⟨c2, h⟩ := ock h
      refine wp_ialdR (c := 246) (y := 46) rfl rfl (show vp_in (x1) (len 246) from c2) dX9_goesCall_31 ?_
      refine wp_aload_n dX9_goesCall_32 rfl ?_
      refine wp_arrR (y := 2) (c := 202) hfr (by decide) rfl fl_X9_13 dX9_goesCall_33 ?_
      refine wp_aload_n dX9_goesCall_36 rfl ?_
      refine wp_arrR (y := 34) (c := 234) hfr (by decide) rfl fl_X9_105 dX9_goesCall_37 ?_
      refine wp_iload_n dX9_goesCall_40 rfl ?_
      obtain ⟨c3, h⟩ := ock h
      refine wp_ialdR (c := 234) (y := 34) rfl rfl (show vp_in (x1) (len 234) from c3) dX9_goesCall_41 ?_
      obtain ⟨c4, h⟩ := ock h
      refine wp_ialdR (c := 202) (y := 2) rfl rfl (show vp_in ((rho 34 (x1).toNatClampNeg)) (len 202) from c4) dX9_goesCall_42 ?_
      refine wp_iconst (v := 1) dX9_goesCall_43 (by decide) ?_
      refine wp_isub dX9_goesCall_44 ?_
      refine wp_icmp_ge (tgt := 62) dX9_goesCall_45 (by decide) (fun c5 => ?_) (fun c5 => ?_)
      · replace h := itp c5 h
        refine wp_iload_n dX9_goesCall_62 rfl ?_
        refine wp_if_le (tgt := 81) dX9_goesCall_63 (by decide) (fun c6 => ?_) (fun c6 => ?_)
        · replace h := itp c6 h
          obtain ⟨q1, q2⟩ := sm_e h
          subst q2
          exact wp_return rfl dX9_goesCall_81 ⟨rfl, rfl⟩
        · replace h := itn c6 h
          refine wp_aload_n dX9_goesCall_66 rfl ?_
          refine wp_iload_n dX9_goesCall_67 rfl ?_
          refine wp_iload_n dX9_goesCall_68 rfl ?_
          refine wp_iconst (v := 1) dX9_goesCall_69 (by decide) ?_
          refine wp_icmp_ne (tgt := 77) dX9_goesCall_70 (by decide) (fun z => absurd c1 z) (fun _ => ?_)
          refine wp_iconst (v := 3) dX9_goesCall_73 (by decide) ?_
          refine wp_goto (tgt := 78) dX9_goesCall_74 (by decide) ?_
          obtain ⟨r7, rho8, hp9, h⟩ := ob_e h
          refine wp_callV (k1 := 0) (k2 := 0) (As := [vI (x1), vI (3)]) (rest := []) (w9_endsCall hfr hp9) okX9_endsCall ivX9_endsCall rfl (by decide) ml_X9_244 dX9_goesCall_78 rfl (by decide) (Nat.le_refl _) rfl (Nat.le_of_ble_eq_true rfl) (fun _ _ z => z.elim) (fun r' S' z => ?_)
          obtain ⟨rfl, rfl⟩ := z
          show WP _ _ _ _ [some (vR 9 0), some (vI (x1)), some (vI (x2))] [] _ _ _
          obtain ⟨q1, q2⟩ := sm_e h
          subst q2
          exact wp_return rfl dX9_goesCall_81 ⟨rfl, rfl⟩
      · replace h := itn c5 h
        refine wp_aload_n dX9_goesCall_48 rfl ?_
        refine wp_iload_n dX9_goesCall_49 rfl ?_
        obtain ⟨r10, rho11, hp12, h⟩ := ob_e h
        refine wp_callV (k1 := 0) (k2 := 0) (As := [vI (x1)]) (rest := []) (w9_begins hfr hp12) okX9_begins ivX9_begins rfl (by decide) ml_X9_316 dX9_goesCall_50 rfl (by decide) (Nat.le_refl _) rfl (Nat.le_of_ble_eq_true rfl) (fun _ _ z => z.elim) (fun r' S' z => ?_)
        obtain ⟨rfl, rfl⟩ := z
        show WP _ _ _ _ [some (vR 9 0), some (vI (x1)), some (vI (x2))] [] _ _ _
        refine wp_aload_n dX9_goesCall_53 rfl ?_
        refine wp_iload_n dX9_goesCall_54 rfl ?_
        obtain ⟨r13, rho14, hp15, h⟩ := ob_e h
        refine wp_callV (k1 := 0) (k2 := 0) (As := [vI (x1)]) (rest := []) (w9_goesStep hfr hp15) okX9_goesStep ivX9_goesStep rfl (by decide) ml_X9_319 dX9_goesCall_55 rfl (by decide) (Nat.le_refl _) rfl (Nat.le_of_ble_eq_true rfl) (fun _ _ z => z.elim) (fun r' S' z => ?_)
        obtain ⟨rfl, rfl⟩ := z
        show WP _ _ _ _ [some (vR 9 0), some (vI (x1)), some (vI (x2))] [vI (r13)] _ _ _
        refine wp_istore_n (L' := [some (vR 9 0), some (vI (x1)), some (vI (r13))]) dX9_goesCall_58 rfl rfl ?_
        refine wp_goto (tgt := 21) dX9_goesCall_59 (by decide) ?_
        exact ih h
def f9_goesCall (x1 : Int32) (rho : RH) : Option (Int32 × RH) :=
  if vq (x1) 540 then
  if (rho 46 (x1).toNatClampNeg) = (-1) then
    ob (f9_begins (x1) rho) fun _ rho4 =>
    ob (f9_goesStep (x1) rho4) fun r6 rho7 =>
    l9_goesCall_21 FU (x1) (r6) rho7
  else
    ob (f9_goesStep (x1) rho) fun r9 rho10 =>
    l9_goesCall_21 FU (x1) (r9) rho10
  else none
theorem w9_goesCall {r : Int32} {rho9 : RH} (hfr : RA fr) {x1 : Int32} {rho : RH} (h : f9_goesCall x1 rho = some (r, rho9)) : Spec mX9_goesCall 8 0 [vR 9 0, vI x1] (lv, fr, fi, ai, ar, li, out, rho) (Po lv fr fi ai ar li out (none) rho9) NX := by
  unfold f9_goesCall at h
  refine spec_of (by decide) rfl (by simp [catS, cat1]) (Nat.le_of_ble_eq_true rfl) ?_
  show WP mX9_goesCall 8 0 0 [some (vR 9 0), some (vI (x1)), none] [] (lv, fr, fi, ai, ar, li, out, rho) (Po lv fr fi ai ar li out (none) rho9) NX
  refine wp_aload_n dX9_goesCall_0 rfl ?_
  refine wp_arrR (y := 46) (c := 246) hfr (by decide) rfl fl_X9_141 dX9_goesCall_1 ?_
  refine wp_iload_n dX9_goesCall_4 rfl ?_
  obtain ⟨c1, h⟩ := ock h
  refine wp_ialdR (c := 246) (y := 46) rfl rfl (show vp_in (x1) (len 246) from c1) dX9_goesCall_5 ?_
  refine wp_iconst (v := (-1)) dX9_goesCall_6 (by decide) ?_
  refine wp_icmp_ne (tgt := 15) dX9_goesCall_7 (by decide) (fun c2 => ?_) (fun c2 => ?_)
  · replace h := itn c2 h
    refine wp_aload_n dX9_goesCall_15 rfl ?_
    refine wp_iload_n dX9_goesCall_16 rfl ?_
    obtain ⟨r9, rho10, hp11, h⟩ := ob_e h
    refine wp_callV (k1 := 0) (k2 := 0) (As := [vI (x1)]) (rest := []) (w9_goesStep hfr hp11) okX9_goesStep ivX9_goesStep rfl (by decide) ml_X9_319 dX9_goesCall_17 rfl (by decide) (Nat.le_refl _) rfl (Nat.le_of_ble_eq_true rfl) (fun _ _ z => z.elim) (fun r' S' z => ?_)
    obtain ⟨rfl, rfl⟩ := z
    show WP _ _ _ _ [some (vR 9 0), some (vI (x1)), none] [vI (r9)] _ _ _
    refine wp_istore_n (L' := [some (vR 9 0), some (vI (x1)), some (vI (r9))]) dX9_goesCall_20 rfl rfl ?_
    exact w9_goesCall_21 hfr FU h
  · replace h := itp c2 h
    refine wp_aload_n dX9_goesCall_10 rfl ?_
    refine wp_iload_n dX9_goesCall_11 rfl ?_
    obtain ⟨r3, rho4, hp5, h⟩ := ob_e h
    refine wp_callV (k1 := 0) (k2 := 0) (As := [vI (x1)]) (rest := []) (w9_begins hfr hp5) okX9_begins ivX9_begins rfl (by decide) ml_X9_316 dX9_goesCall_12 rfl (by decide) (Nat.le_refl _) rfl (Nat.le_of_ble_eq_true rfl) (fun _ _ z => z.elim) (fun r' S' z => ?_)
    obtain ⟨rfl, rfl⟩ := z
    show WP _ _ _ _ [some (vR 9 0), some (vI (x1)), none] [] _ _ _
    refine wp_aload_n dX9_goesCall_15 rfl ?_
    refine wp_iload_n dX9_goesCall_16 rfl ?_
    obtain ⟨r6, rho7, hp8, h⟩ := ob_e h
    refine wp_callV (k1 := 0) (k2 := 0) (As := [vI (x1)]) (rest := []) (w9_goesStep hfr hp8) okX9_goesStep ivX9_goesStep rfl (by decide) ml_X9_319 dX9_goesCall_17 rfl (by decide) (Nat.le_refl _) rfl (Nat.le_of_ble_eq_true rfl) (fun _ _ z => z.elim) (fun r' S' z => ?_)
    obtain ⟨rfl, rfl⟩ := z
    show WP _ _ _ _ [some (vR 9 0), some (vI (x1)), none] [vI (r6)] _ _ _
    refine wp_istore_n (L' := [some (vR 9 0), some (vI (x1)), some (vI (r6))]) dX9_goesCall_20 rfl rfl ?_
    exact w9_goesCall_21 hfr FU h
def f9_goesRepair (x1 : Int32) (rho : RH) : Option (Int32 × RH) :=
  ob (f9_looks ((440 + x1)) rho) fun r1 rho2 =>
  if r1 = 0 then
    ob (f9_hasOutOf ((440 + x1)) rho2) fun r5 rho6 =>
    if r5 = 0 then
      ob (f9_tries ((440 + x1)) (3) rho6) fun _ rho10 =>
      some (0, rho10)
    else
      some (0, rho6)
  else
    if vq (x1) 100 then
    wr (up2 rho2 63 (x1).toNatClampNeg (1)) fun rho13 =>
    wr (up2 rho13 60 0 (((rho13 60 0) + 1))) fun rho15 =>
    ob (f9_turnsOff ((440 + x1)) rho15) fun _ rho18 =>
    some (0, rho18)
    else none
theorem w9_goesRepair {r : Int32} {rho9 : RH} (hfr : RA fr) {x1 : Int32} {rho : RH} (h : f9_goesRepair x1 rho = some (r, rho9)) : Spec mX9_goesRepair 7 0 [vR 9 0, vI x1] (lv, fr, fi, ai, ar, li, out, rho) (Po lv fr fi ai ar li out (none) rho9) NX := by
  unfold f9_goesRepair at h
  refine spec_of (by decide) rfl (by simp [catS, cat1]) (Nat.le_of_ble_eq_true rfl) ?_
  show WP mX9_goesRepair 7 0 0 [some (vR 9 0), some (vI (x1)), none] [] (lv, fr, fi, ai, ar, li, out, rho) (Po lv fr fi ai ar li out (none) rho9) NX
  refine wp_sipush (v := 440) dX9_goesRepair_0 (by decide) ?_
  refine wp_iload_n dX9_goesRepair_3 rfl ?_
  refine wp_iadd dX9_goesRepair_4 ?_
  refine wp_istore_n (L' := [some (vR 9 0), some (vI (x1)), some (vI ((440 + x1)))]) dX9_goesRepair_5 rfl rfl ?_
  refine wp_aload_n dX9_goesRepair_6 rfl ?_
  refine wp_iload_n dX9_goesRepair_7 rfl ?_
  obtain ⟨r1, rho2, hp3, h⟩ := ob_e h
  refine wp_callV (k1 := 0) (k2 := 0) (As := [vI ((440 + x1))]) (rest := []) (w9_looks hfr hp3) okX9_looks ivX9_looks rfl (by decide) ml_X9_304 dX9_goesRepair_8 rfl (by decide) (Nat.le_refl _) rfl (Nat.le_of_ble_eq_true rfl) (fun _ _ z => z.elim) (fun r' S' z => ?_)
  obtain ⟨rfl, rfl⟩ := z
  show WP _ _ _ _ [some (vR 9 0), some (vI (x1)), some (vI ((440 + x1)))] [vI (r1)] _ _ _
  refine wp_if_eq (tgt := 39) dX9_goesRepair_11 (by decide) (fun c4 => ?_) (fun c4 => ?_)
  · replace h := itp c4 h
    refine wp_aload_n dX9_goesRepair_39 rfl ?_
    refine wp_iload_n dX9_goesRepair_40 rfl ?_
    obtain ⟨r5, rho6, hp7, h⟩ := ob_e h
    refine wp_callV (k1 := 0) (k2 := 0) (As := [vI ((440 + x1))]) (rest := []) (w9_hasOutOf hfr hp7) okX9_hasOutOf ivX9_hasOutOf rfl (by decide) ml_X9_310 dX9_goesRepair_41 rfl (by decide) (Nat.le_refl _) rfl (Nat.le_of_ble_eq_true rfl) (fun _ _ z => z.elim) (fun r' S' z => ?_)
    obtain ⟨rfl, rfl⟩ := z
    show WP _ _ _ _ [some (vR 9 0), some (vI (x1)), some (vI ((440 + x1)))] [vI (r5)] _ _ _
    refine wp_if_ne (tgt := 53) dX9_goesRepair_44 (by decide) (fun c8 => ?_) (fun c8 => ?_)
    · replace h := itn c8 h
      obtain ⟨q1, q2⟩ := sm_e h
      subst q2
      exact wp_return rfl dX9_goesRepair_53 ⟨rfl, rfl⟩
    · replace h := itp c8 h
      refine wp_aload_n dX9_goesRepair_47 rfl ?_
      refine wp_iload_n dX9_goesRepair_48 rfl ?_
      refine wp_iconst (v := 3) dX9_goesRepair_49 (by decide) ?_
      obtain ⟨r9, rho10, hp11, h⟩ := ob_e h
      refine wp_callV (k1 := 0) (k2 := 0) (As := [vI ((440 + x1)), vI (3)]) (rest := []) (w9_tries hfr hp11) okX9_tries ivX9_tries rfl (by decide) ml_X9_302 dX9_goesRepair_50 rfl (by decide) (Nat.le_refl _) rfl (Nat.le_of_ble_eq_true rfl) (fun _ _ z => z.elim) (fun r' S' z => ?_)
      obtain ⟨rfl, rfl⟩ := z
      show WP _ _ _ _ [some (vR 9 0), some (vI (x1)), some (vI ((440 + x1)))] [] _ _ _
      obtain ⟨q1, q2⟩ := sm_e h
      subst q2
      exact wp_return rfl dX9_goesRepair_53 ⟨rfl, rfl⟩
  · replace h := itn c4 h
    refine wp_aload_n dX9_goesRepair_14 rfl ?_
    refine wp_arrR (y := 63) (c := 263) hfr (by decide) rfl fl_X9_183 dX9_goesRepair_15 ?_
    refine wp_iload_n dX9_goesRepair_18 rfl ?_
    refine wp_iconst (v := 1) dX9_goesRepair_19 (by decide) ?_
    obtain ⟨c12, h⟩ := ock h
    refine wp_bastR (c := 263) (y := 63) rfl rfl (show vp_in (x1) (len 263) from c12) (by decide) dX9_goesRepair_20 ?_
    obtain ⟨rho13, e14, h⟩ := wr_e h
    rw [e14]
    refine wp_aload_n dX9_goesRepair_21 rfl ?_
    refine wp_dup dX9_goesRepair_22 trivial ?_
    refine wp_getRI (y := 60) (by decide) rfl fl_X9_328 dX9_goesRepair_23 ?_
    refine wp_iconst (v := 1) dX9_goesRepair_26 (by decide) ?_
    refine wp_iadd dX9_goesRepair_27 ?_
    refine wp_putRI (y := 60) (by decide) rfl rfl fl_X9_328 dX9_goesRepair_28 rfl ?_
    obtain ⟨rho15, e16, h⟩ := wr_e h
    rw [e16]
    refine wp_aload_n dX9_goesRepair_31 rfl ?_
    refine wp_iload_n dX9_goesRepair_32 rfl ?_
    obtain ⟨r17, rho18, hp19, h⟩ := ob_e h
    refine wp_callV (k1 := 0) (k2 := 0) (As := [vI ((440 + x1))]) (rest := []) (w9_turnsOff hfr hp19) okX9_turnsOff ivX9_turnsOff rfl (by decide) ml_X9_307 dX9_goesRepair_33 rfl (by decide) (Nat.le_refl _) rfl (Nat.le_of_ble_eq_true rfl) (fun _ _ z => z.elim) (fun r' S' z => ?_)
    obtain ⟨rfl, rfl⟩ := z
    show WP _ _ _ _ [some (vR 9 0), some (vI (x1)), some (vI ((440 + x1)))] [] _ _ _
    refine wp_goto (tgt := 53) dX9_goesRepair_36 (by decide) ?_
    obtain ⟨q1, q2⟩ := sm_e h
    subst q2
    exact wp_return rfl dX9_goesRepair_53 ⟨rfl, rfl⟩
def l9_dequeues_10 : Nat → Int32 → Int32 → Int32 → RH → Option (Int32 × RH)
  | 0, _, _, _, _ => none
  | n + 1, x1, x2, x3, rho =>
  if (rho 31 0) ≤ x3 then
    some (0, rho)
  else
    if vq (x1) 12 then
    if (rho 10 (x1).toNatClampNeg) ≤ x2 then
      some (0, rho)
    else
      if vq (x3) 400 then
      if (rho 36 (x3).toNatClampNeg) = x1 then
        if (rho 37 (x3).toNatClampNeg) = 0 then
          ob (f9_runs (x3) rho) fun _ rho8 =>
          l9_dequeues_10 n (x1) (x2 + 1) (x3 + 1) rho8
        else
          l9_dequeues_10 n (x1) (x2) (x3 + 1) rho
      else
        l9_dequeues_10 n (x1) (x2) (x3 + 1) rho
      else none
    else none
theorem w9_dequeues_10 {r : Int32} {rho9 : RH} (hfr : RA fr) : ∀ (n : Nat) {x1 x2 x3 : Int32} {rho : RH}, l9_dequeues_10 n x1 x2 x3 rho = some (r, rho9) → WP mX9_dequeues 2 0 10 [some (vR 9 0), some (vI (x1)), some (vI (x2)), some (vI (x3))] [] (lv, fr, fi, ai, ar, li, out, rho) (Po lv fr fi ai ar li out (none) rho9) NX := by
  intro n
  induction n with
  | zero =>
    intro x1 x2 x3 rho h
    rw [l9_dequeues_10] at h
    cases h
  | succ n ih =>
    intro x1 x2 x3 rho h
    rw [l9_dequeues_10] at h
    refine wp_iload_n dX9_dequeues_10 rfl ?_
    refine wp_aload_n dX9_dequeues_11 rfl ?_
    refine wp_getRI (y := 31) (by decide) rfl fl_X9_217 dX9_dequeues_12 ?_
    refine wp_icmp_ge (tgt := 61) dX9_dequeues_15 (by decide) (fun c1 => ?_) (fun c1 => ?_)
    · replace h := itp c1 h
      obtain ⟨q1, q2⟩ := sm_e h
      subst q2
      exact wp_return rfl dX9_dequeues_61 ⟨rfl, rfl⟩
    · replace h := itn c1 h
      refine wp_iload_n dX9_dequeues_18 rfl ?_
      refine wp_aload_n dX9_dequeues_19 rfl ?_
      refine wp_arrR (y := 10) (c := 210) hfr (by decide) rfl fl_X9_35 dX9_dequeues_20 ?_
      refine wp_iload_n dX9_dequeues_23 rfl ?_
      obtain ⟨c2, h⟩ := ock h
      refine wp_ialdR (c := 210) (y := 10) rfl rfl (show vp_in (x1) (len 210) from c2) dX9_dequeues_24 ?_
      refine wp_icmp_ge (tgt := 61) dX9_dequeues_25 (by decide) (fun c3 => ?_) (fun c3 => ?_)
      · replace h := itp c3 h
        obtain ⟨q1, q2⟩ := sm_e h
        subst q2
        exact wp_return rfl dX9_dequeues_61 ⟨rfl, rfl⟩
      · replace h := itn c3 h
        refine wp_aload_n dX9_dequeues_28 rfl ?_
        refine wp_arrR (y := 36) (c := 236) hfr (by decide) rfl fl_X9_111 dX9_dequeues_29 ?_
        refine wp_iload_n dX9_dequeues_32 rfl ?_
        obtain ⟨c4, h⟩ := ock h
        refine wp_ialdR (c := 236) (y := 36) rfl rfl (show vp_in (x3) (len 236) from c4) dX9_dequeues_33 ?_
        refine wp_iload_n dX9_dequeues_34 rfl ?_
        refine wp_icmp_ne (tgt := 55) dX9_dequeues_35 (by decide) (fun c5 => ?_) (fun c5 => ?_)
        · replace h := itn c5 h
          refine wp_iinc (v := x3 + 1) (L' := [some (vR 9 0), some (vI (x1)), some (vI (x2)), some (vI (x3 + 1))]) dX9_dequeues_55 rfl rfl rfl ?_
          refine wp_goto (tgt := 10) dX9_dequeues_58 (by decide) ?_
          exact ih h
        · replace h := itp c5 h
          refine wp_aload_n dX9_dequeues_38 rfl ?_
          refine wp_arrR (y := 37) (c := 237) hfr (by decide) rfl fl_X9_114 dX9_dequeues_39 ?_
          refine wp_iload_n dX9_dequeues_42 rfl ?_
          refine wp_ialdR (c := 237) (y := 37) rfl rfl (show vp_in (x3) (len 237) from c4) dX9_dequeues_43 ?_
          refine wp_if_ne (tgt := 55) dX9_dequeues_44 (by decide) (fun c6 => ?_) (fun c6 => ?_)
          · replace h := itn c6 h
            refine wp_iinc (v := x3 + 1) (L' := [some (vR 9 0), some (vI (x1)), some (vI (x2)), some (vI (x3 + 1))]) dX9_dequeues_55 rfl rfl rfl ?_
            refine wp_goto (tgt := 10) dX9_dequeues_58 (by decide) ?_
            exact ih h
          · replace h := itp c6 h
            refine wp_aload_n dX9_dequeues_47 rfl ?_
            refine wp_iload_n dX9_dequeues_48 rfl ?_
            obtain ⟨r7, rho8, hp9, h⟩ := ob_e h
            refine wp_callV (k1 := 0) (k2 := 0) (As := [vI (x3)]) (rest := []) (w9_runs hfr hp9) okX9_runs ivX9_runs rfl (by decide) ml_X9_296 dX9_dequeues_49 rfl (by decide) (Nat.le_refl _) rfl (Nat.le_of_ble_eq_true rfl) (fun _ _ z => z.elim) (fun r' S' z => ?_)
            obtain ⟨rfl, rfl⟩ := z
            show WP _ _ _ _ [some (vR 9 0), some (vI (x1)), some (vI (x2)), some (vI (x3))] [] _ _ _
            refine wp_iinc (v := x2 + 1) (L' := [some (vR 9 0), some (vI (x1)), some (vI (x2 + 1)), some (vI (x3))]) dX9_dequeues_52 rfl rfl rfl ?_
            refine wp_iinc (v := x3 + 1) (L' := [some (vR 9 0), some (vI (x1)), some (vI (x2 + 1)), some (vI (x3 + 1))]) dX9_dequeues_55 rfl rfl rfl ?_
            refine wp_goto (tgt := 10) dX9_dequeues_58 (by decide) ?_
            exact ih h
def f9_dequeues (x1 : Int32) (rho : RH) : Option (Int32 × RH) :=
  ob (f9_countOf (x1) (1) (2) rho) fun r1 rho2 =>
  l9_dequeues_10 FU (x1) (r1) (0) rho2
theorem w9_dequeues {r : Int32} {rho9 : RH} (hfr : RA fr) {x1 : Int32} {rho : RH} (h : f9_dequeues x1 rho = some (r, rho9)) : Spec mX9_dequeues 2 0 [vR 9 0, vI x1] (lv, fr, fi, ai, ar, li, out, rho) (Po lv fr fi ai ar li out (none) rho9) NX := by
  unfold f9_dequeues at h
  refine spec_of (by decide) rfl (by simp [catS, cat1]) (Nat.le_of_ble_eq_true rfl) ?_
  show WP mX9_dequeues 2 0 0 [some (vR 9 0), some (vI (x1)), none, none] [] (lv, fr, fi, ai, ar, li, out, rho) (Po lv fr fi ai ar li out (none) rho9) NX
  refine wp_aload_n dX9_dequeues_0 rfl ?_
  refine wp_iload_n dX9_dequeues_1 rfl ?_
  refine wp_iconst (v := 1) dX9_dequeues_2 (by decide) ?_
  refine wp_iconst (v := 2) dX9_dequeues_3 (by decide) ?_
  obtain ⟨r1, rho2, hp3, h⟩ := ob_e h
  refine wp_callV (k1 := 0) (k2 := 0) (As := [vI (x1), vI (1), vI (2)]) (rest := []) (w9_countOf hfr hp3) okX9_countOf ivX9_countOf rfl (by decide) ml_X9_293 dX9_dequeues_4 rfl (by decide) (Nat.le_refl _) rfl (Nat.le_of_ble_eq_true rfl) (fun _ _ z => z.elim) (fun r' S' z => ?_)
  obtain ⟨rfl, rfl⟩ := z
  show WP _ _ _ _ [some (vR 9 0), some (vI (x1)), none, none] [vI (r1)] _ _ _
  refine wp_istore_n (L' := [some (vR 9 0), some (vI (x1)), some (vI (r1)), none]) dX9_dequeues_7 rfl rfl ?_
  refine wp_iconst (v := 0) dX9_dequeues_8 (by decide) ?_
  refine wp_istore_n (L' := [some (vR 9 0), some (vI (x1)), some (vI (r1)), some (vI (0))]) dX9_dequeues_9 rfl rfl ?_
  exact w9_dequeues_10 hfr FU h
def l9_passes_380 (K348 : Int32 → RH → Option (Int32 × RH)) : Nat → Int32 → Int32 → RH → Option (Int32 × RH)
  | 0, _, _, _ => none
  | n + 1, x2, x3, rho =>
  if 7 ≤ x3 then
    K348 (x2 + 1) rho
  else
    if vq (((12 * x3) + x2)) 84 then
    wr (up2 rho 24 (((12 * x3) + x2)).toNatClampNeg (0)) fun rho3 =>
    l9_passes_380 K348 n (x2) (x3 + 1) rho3
    else none
theorem w9_passes_380 {K348 : Int32 → RH → Option (Int32 × RH)} {r : Int32} {rho9 : RH} (hfr : RA fr) (hK348 : ∀ {x2 : Int32} {l1 l3 : Option sV} {rho : RH}, K348 x2 rho = some (r, rho9) → WP mX9_passes 9 0 348 [some (vR 9 0), l1, some (vI (x2)), l3] [] (lv, fr, fi, ai, ar, li, out, rho) (Po lv fr fi ai ar li out (none) rho9) NX) : ∀ (n : Nat) {x2 x3 : Int32} {l1 : Option sV} {rho : RH}, l9_passes_380 K348 n x2 x3 rho = some (r, rho9) → WP mX9_passes 9 0 380 [some (vR 9 0), l1, some (vI (x2)), some (vI (x3))] [] (lv, fr, fi, ai, ar, li, out, rho) (Po lv fr fi ai ar li out (none) rho9) NX := by
  intro n
  induction n with
  | zero =>
    intro x2 x3 l1 rho h
    rw [l9_passes_380] at h
    cases h
  | succ n ih =>
    intro x2 x3 l1 rho h
    rw [l9_passes_380] at h
    refine wp_iload_n dX9_passes_380 rfl ?_
    refine wp_bipush (v := 7) dX9_passes_381 (by decide) ?_
    refine wp_icmp_ge (tgt := 404) dX9_passes_383 (by decide) (fun c1 => ?_) (fun c1 => ?_)
    · replace h := itp c1 h
      refine wp_iinc (v := x2 + 1) (L' := [some (vR 9 0), l1, some (vI (x2 + 1)), some (vI (x3))]) dX9_passes_404 rfl rfl rfl ?_
      refine wp_goto (tgt := 348) dX9_passes_407 (by decide) ?_
      exact hK348 h
    · replace h := itn c1 h
      refine wp_aload_n dX9_passes_386 rfl ?_
      refine wp_arrR (y := 24) (c := 224) hfr (by decide) rfl fl_X9_78 dX9_passes_387 ?_
      refine wp_bipush (v := 12) dX9_passes_390 (by decide) ?_
      refine wp_iload_n dX9_passes_392 rfl ?_
      refine wp_imul dX9_passes_393 ?_
      refine wp_iload_n dX9_passes_394 rfl ?_
      refine wp_iadd dX9_passes_395 ?_
      refine wp_iconst (v := 0) dX9_passes_396 (by decide) ?_
      obtain ⟨c2, h⟩ := ock h
      refine wp_iastR (c := 224) (y := 24) rfl rfl (show vp_in (((12 * x3) + x2)) (len 224) from c2) dX9_passes_397 ?_
      obtain ⟨rho3, e4, h⟩ := wr_e h
      rw [e4]
      refine wp_iinc (v := x3 + 1) (L' := [some (vR 9 0), l1, some (vI (x2)), some (vI (x3 + 1))]) dX9_passes_398 rfl rfl rfl ?_
      refine wp_goto (tgt := 380) dX9_passes_401 (by decide) ?_
      exact ih h
def l9_passes_348 : Nat → Int32 → RH → Option (Int32 × RH)
  | 0, _, _ => none
  | n + 1, x2, rho =>
  if (rho 6 0) ≤ x2 then
    some (0, rho)
  else
    if ((rho 0 0) - (rho 0 0) / 5 * 5) = 0 then
      ob (f9_countOf (x2) (0) (2) rho) fun r3 rho4 =>
      if vq (x2) 12 then
      wr (up2 rho4 14 (x2).toNatClampNeg (r3)) fun rho7 =>
      l9_passes_380 (l9_passes_348 n) FU (x2) (0) rho7
      else none
    else
      some (0, rho)
theorem w9_passes_348 {r : Int32} {rho9 : RH} (hfr : RA fr) : ∀ (n : Nat) {x2 : Int32} {l1 l3 : Option sV} {rho : RH}, l9_passes_348 n x2 rho = some (r, rho9) → WP mX9_passes 9 0 348 [some (vR 9 0), l1, some (vI (x2)), l3] [] (lv, fr, fi, ai, ar, li, out, rho) (Po lv fr fi ai ar li out (none) rho9) NX := by
  intro n
  induction n with
  | zero =>
    intro x2 l1 l3 rho h
    rw [l9_passes_348] at h
    cases h
  | succ n ih =>
    intro x2 l1 l3 rho h
    rw [l9_passes_348] at h
    refine wp_iload_n dX9_passes_348 rfl ?_
    refine wp_aload_n dX9_passes_349 rfl ?_
    refine wp_getRI (y := 6) (by decide) rfl fl_X9_193 dX9_passes_350 ?_
    refine wp_icmp_ge (tgt := 410) dX9_passes_353 (by decide) (fun c1 => ?_) (fun c1 => ?_)
    · replace h := itp c1 h
      obtain ⟨q1, q2⟩ := sm_e h
      subst q2
      exact wp_return rfl dX9_passes_410 ⟨rfl, rfl⟩
    · replace h := itn c1 h
      refine wp_aload_n dX9_passes_356 rfl ?_
      refine wp_getRI (y := 0) (by decide) rfl fl_X9_220 dX9_passes_357 ?_
      refine wp_iconst (v := 5) dX9_passes_360 (by decide) ?_
      refine wp_irem dX9_passes_361 (by decide) ?_
      refine wp_if_ne (tgt := 410) dX9_passes_362 (by decide) (fun c2 => ?_) (fun c2 => ?_)
      · replace h := itn c2 h
        obtain ⟨q1, q2⟩ := sm_e h
        subst q2
        exact wp_return rfl dX9_passes_410 ⟨rfl, rfl⟩
      · replace h := itp c2 h
        refine wp_aload_n dX9_passes_365 rfl ?_
        refine wp_arrR (y := 14) (c := 214) hfr (by decide) rfl fl_X9_47 dX9_passes_366 ?_
        refine wp_iload_n dX9_passes_369 rfl ?_
        refine wp_aload_n dX9_passes_370 rfl ?_
        refine wp_iload_n dX9_passes_371 rfl ?_
        refine wp_iconst (v := 0) dX9_passes_372 (by decide) ?_
        refine wp_iconst (v := 2) dX9_passes_373 (by decide) ?_
        obtain ⟨r3, rho4, hp5, h⟩ := ob_e h
        refine wp_callV (k1 := 0) (k2 := 0) (As := [vI (x2), vI (0), vI (2)]) (rest := [vI (x2), vR 214 0]) (w9_countOf hfr hp5) okX9_countOf ivX9_countOf rfl (by decide) ml_X9_293 dX9_passes_374 rfl (by decide) (Nat.le_refl _) rfl (Nat.le_of_ble_eq_true rfl) (fun _ _ z => z.elim) (fun r' S' z => ?_)
        obtain ⟨rfl, rfl⟩ := z
        show WP _ _ _ _ [some (vR 9 0), l1, some (vI (x2)), l3] [vI (r3), vI (x2), vR 214 0] _ _ _
        obtain ⟨c6, h⟩ := ock h
        refine wp_iastR (c := 214) (y := 14) rfl rfl (show vp_in (x2) (len 214) from c6) dX9_passes_377 ?_
        obtain ⟨rho7, e8, h⟩ := wr_e h
        rw [e8]
        refine wp_iconst (v := 0) dX9_passes_378 (by decide) ?_
        refine wp_istore_n (L' := [some (vR 9 0), l1, some (vI (x2)), some (vI (0))]) dX9_passes_379 rfl rfl ?_
        exact w9_passes_380 hfr ih FU h
def l9_passes_327 : Nat → Int32 → RH → Option (Int32 × RH)
  | 0, _, _ => none
  | n + 1, x2, rho =>
  if (rho 6 0) ≤ x2 then
    l9_passes_348 FU (0) rho
  else
    ob (f9_dequeues (x2) rho) fun _ rho3 =>
    l9_passes_327 n (x2 + 1) rho3
theorem w9_passes_327 {r : Int32} {rho9 : RH} (hfr : RA fr) : ∀ (n : Nat) {x2 : Int32} {l1 l3 : Option sV} {rho : RH}, l9_passes_327 n x2 rho = some (r, rho9) → WP mX9_passes 9 0 327 [some (vR 9 0), l1, some (vI (x2)), l3] [] (lv, fr, fi, ai, ar, li, out, rho) (Po lv fr fi ai ar li out (none) rho9) NX := by
  intro n
  induction n with
  | zero =>
    intro x2 l1 l3 rho h
    rw [l9_passes_327] at h
    cases h
  | succ n ih =>
    intro x2 l1 l3 rho h
    rw [l9_passes_327] at h
    refine wp_iload_n dX9_passes_327 rfl ?_
    refine wp_aload_n dX9_passes_328 rfl ?_
    refine wp_getRI (y := 6) (by decide) rfl fl_X9_193 dX9_passes_329 ?_
    refine wp_icmp_ge (tgt := 346) dX9_passes_332 (by decide) (fun c1 => ?_) (fun c1 => ?_)
    · replace h := itp c1 h
      refine wp_iconst (v := 0) dX9_passes_346 (by decide) ?_
      refine wp_istore_n (L' := [some (vR 9 0), l1, some (vI (0)), l3]) dX9_passes_347 rfl rfl ?_
      exact w9_passes_348 hfr FU h
    · replace h := itn c1 h
      refine wp_aload_n dX9_passes_335 rfl ?_
      refine wp_iload_n dX9_passes_336 rfl ?_
      obtain ⟨r2, rho3, hp4, h⟩ := ob_e h
      refine wp_callV (k1 := 0) (k2 := 0) (As := [vI (x2)]) (rest := []) (w9_dequeues hfr hp4) okX9_dequeues ivX9_dequeues rfl (by decide) ml_X9_340 dX9_passes_337 rfl (by decide) (Nat.le_refl _) rfl (Nat.le_of_ble_eq_true rfl) (fun _ _ z => z.elim) (fun r' S' z => ?_)
      obtain ⟨rfl, rfl⟩ := z
      show WP _ _ _ _ [some (vR 9 0), l1, some (vI (x2)), l3] [] _ _ _
      refine wp_iinc (v := x2 + 1) (L' := [some (vR 9 0), l1, some (vI (x2 + 1)), l3]) dX9_passes_340 rfl rfl rfl ?_
      refine wp_goto (tgt := 327) dX9_passes_343 (by decide) ?_
      exact ih h
def l9_passes_297 : Nat → Int32 → RH → Option (Int32 × RH)
  | 0, _, _ => none
  | n + 1, x2, rho =>
  if (rho 59 0) ≤ x2 then
    l9_passes_327 FU (0) rho
  else
    if vq (x2) 100 then
    if (rho 63 (x2).toNatClampNeg) = 0 then
      ob (f9_goesRepair (x2) rho) fun _ rho5 =>
      l9_passes_297 n (x2 + 1) rho5
    else
      l9_passes_297 n (x2 + 1) rho
    else none
theorem w9_passes_297 {r : Int32} {rho9 : RH} (hfr : RA fr) : ∀ (n : Nat) {x2 : Int32} {l1 l3 : Option sV} {rho : RH}, l9_passes_297 n x2 rho = some (r, rho9) → WP mX9_passes 9 0 297 [some (vR 9 0), l1, some (vI (x2)), l3] [] (lv, fr, fi, ai, ar, li, out, rho) (Po lv fr fi ai ar li out (none) rho9) NX := by
  intro n
  induction n with
  | zero =>
    intro x2 l1 l3 rho h
    rw [l9_passes_297] at h
    cases h
  | succ n ih =>
    intro x2 l1 l3 rho h
    rw [l9_passes_297] at h
    refine wp_iload_n dX9_passes_297 rfl ?_
    refine wp_aload_n dX9_passes_298 rfl ?_
    refine wp_getRI (y := 59) (by decide) rfl fl_X9_230 dX9_passes_299 ?_
    refine wp_icmp_ge (tgt := 325) dX9_passes_302 (by decide) (fun c1 => ?_) (fun c1 => ?_)
    · replace h := itp c1 h
      refine wp_iconst (v := 0) dX9_passes_325 (by decide) ?_
      refine wp_istore_n (L' := [some (vR 9 0), l1, some (vI (0)), l3]) dX9_passes_326 rfl rfl ?_
      exact w9_passes_327 hfr FU h
    · replace h := itn c1 h
      refine wp_aload_n dX9_passes_305 rfl ?_
      refine wp_arrR (y := 63) (c := 263) hfr (by decide) rfl fl_X9_183 dX9_passes_306 ?_
      refine wp_iload_n dX9_passes_309 rfl ?_
      obtain ⟨c2, h⟩ := ock h
      refine wp_baldR (c := 263) (y := 63) rfl rfl (show vp_in (x2) (len 263) from c2) dX9_passes_310 ?_
      refine wp_if_ne (tgt := 319) dX9_passes_311 (by decide) (fun c3 => ?_) (fun c3 => ?_)
      · replace h := itn c3 h
        refine wp_iinc (v := x2 + 1) (L' := [some (vR 9 0), l1, some (vI (x2 + 1)), l3]) dX9_passes_319 rfl rfl rfl ?_
        refine wp_goto (tgt := 297) dX9_passes_322 (by decide) ?_
        exact ih h
      · replace h := itp c3 h
        refine wp_aload_n dX9_passes_314 rfl ?_
        refine wp_iload_n dX9_passes_315 rfl ?_
        obtain ⟨r4, rho5, hp6, h⟩ := ob_e h
        refine wp_callV (k1 := 0) (k2 := 0) (As := [vI (x2)]) (rest := []) (w9_goesRepair hfr hp6) okX9_goesRepair ivX9_goesRepair rfl (by decide) ml_X9_337 dX9_passes_316 rfl (by decide) (Nat.le_refl _) rfl (Nat.le_of_ble_eq_true rfl) (fun _ _ z => z.elim) (fun r' S' z => ?_)
        obtain ⟨rfl, rfl⟩ := z
        show WP _ _ _ _ [some (vR 9 0), l1, some (vI (x2)), l3] [] _ _ _
        refine wp_iinc (v := x2 + 1) (L' := [some (vR 9 0), l1, some (vI (x2 + 1)), l3]) dX9_passes_319 rfl rfl rfl ?_
        refine wp_goto (tgt := 297) dX9_passes_322 (by decide) ?_
        exact ih h
def l9_passes_232 : Nat → Int32 → RH → Option (Int32 × RH)
  | 0, _, _ => none
  | n + 1, x2, rho =>
  if (rho 51 0) ≤ x2 then
    l9_passes_297 FU (0) rho
  else
    if vq (x2) 40 then
    if (rho 56 (x2).toNatClampNeg) = 8 then
      if (rho 0 0) < (rho 54 (x2).toNatClampNeg) then
        ob (f9_goesRequest (x2) rho) fun _ rho6 =>
        l9_passes_232 n (x2 + 1) rho6
      else
        ob (f9_endsRequest (x2) (5) rho) fun _ rho9 =>
        l9_passes_232 n (x2 + 1) rho9
    else
      l9_passes_232 n (x2 + 1) rho
    else none
theorem w9_passes_232 {r : Int32} {rho9 : RH} (hfr : RA fr) : ∀ (n : Nat) {x2 : Int32} {l1 l3 : Option sV} {rho : RH}, l9_passes_232 n x2 rho = some (r, rho9) → WP mX9_passes 9 0 232 [some (vR 9 0), l1, some (vI (x2)), l3] [] (lv, fr, fi, ai, ar, li, out, rho) (Po lv fr fi ai ar li out (none) rho9) NX := by
  intro n
  induction n with
  | zero =>
    intro x2 l1 l3 rho h
    rw [l9_passes_232] at h
    cases h
  | succ n ih =>
    intro x2 l1 l3 rho h
    rw [l9_passes_232] at h
    refine wp_iload_n dX9_passes_232 rfl ?_
    refine wp_aload_n dX9_passes_233 rfl ?_
    refine wp_getRI (y := 51) (by decide) rfl fl_X9_196 dX9_passes_234 ?_
    refine wp_icmp_ge (tgt := 295) dX9_passes_237 (by decide) (fun c1 => ?_) (fun c1 => ?_)
    · replace h := itp c1 h
      refine wp_iconst (v := 0) dX9_passes_295 (by decide) ?_
      refine wp_istore_n (L' := [some (vR 9 0), l1, some (vI (0)), l3]) dX9_passes_296 rfl rfl ?_
      exact w9_passes_297 hfr FU h
    · replace h := itn c1 h
      refine wp_aload_n dX9_passes_240 rfl ?_
      refine wp_arrR (y := 56) (c := 256) hfr (by decide) rfl fl_X9_168 dX9_passes_241 ?_
      refine wp_iload_n dX9_passes_244 rfl ?_
      obtain ⟨c2, h⟩ := ock h
      refine wp_ialdR (c := 256) (y := 56) rfl rfl (show vp_in (x2) (len 256) from c2) dX9_passes_245 ?_
      refine wp_bipush (v := 8) dX9_passes_246 (by decide) ?_
      refine wp_icmp_ne (tgt := 273) dX9_passes_248 (by decide) (fun c3 => ?_) (fun c3 => ?_)
      · replace h := itn c3 h
        refine wp_aload_n dX9_passes_273 rfl ?_
        refine wp_arrR (y := 56) (c := 256) hfr (by decide) rfl fl_X9_168 dX9_passes_274 ?_
        refine wp_iload_n dX9_passes_277 rfl ?_
        refine wp_ialdR (c := 256) (y := 56) rfl rfl (show vp_in (x2) (len 256) from c2) dX9_passes_278 ?_
        refine wp_bipush (v := 8) dX9_passes_279 (by decide) ?_
        refine wp_icmp_ne (tgt := 289) dX9_passes_281 (by decide) (fun _ => ?_) (fun z => absurd z c3)
        refine wp_iinc (v := x2 + 1) (L' := [some (vR 9 0), l1, some (vI (x2 + 1)), l3]) dX9_passes_289 rfl rfl rfl ?_
        refine wp_goto (tgt := 232) dX9_passes_292 (by decide) ?_
        exact ih h
      · replace h := itp c3 h
        refine wp_aload_n dX9_passes_251 rfl ?_
        refine wp_getRI (y := 0) (by decide) rfl fl_X9_220 dX9_passes_252 ?_
        refine wp_aload_n dX9_passes_255 rfl ?_
        refine wp_arrR (y := 54) (c := 254) hfr (by decide) rfl fl_X9_162 dX9_passes_256 ?_
        refine wp_iload_n dX9_passes_259 rfl ?_
        refine wp_ialdR (c := 254) (y := 54) rfl rfl (show vp_in (x2) (len 254) from c2) dX9_passes_260 ?_
        refine wp_icmp_lt (tgt := 273) dX9_passes_261 (by decide) (fun c4 => ?_) (fun c4 => ?_)
        · replace h := itp c4 h
          refine wp_aload_n dX9_passes_273 rfl ?_
          refine wp_arrR (y := 56) (c := 256) hfr (by decide) rfl fl_X9_168 dX9_passes_274 ?_
          refine wp_iload_n dX9_passes_277 rfl ?_
          refine wp_ialdR (c := 256) (y := 56) rfl rfl (show vp_in (x2) (len 256) from c2) dX9_passes_278 ?_
          refine wp_bipush (v := 8) dX9_passes_279 (by decide) ?_
          refine wp_icmp_ne (tgt := 289) dX9_passes_281 (by decide) (fun z => absurd c3 z) (fun _ => ?_)
          refine wp_aload_n dX9_passes_284 rfl ?_
          refine wp_iload_n dX9_passes_285 rfl ?_
          obtain ⟨r5, rho6, hp7, h⟩ := ob_e h
          refine wp_callV (k1 := 0) (k2 := 0) (As := [vI (x2)]) (rest := []) (w9_goesRequest hfr hp7) okX9_goesRequest ivX9_goesRequest rfl (by decide) ml_X9_325 dX9_passes_286 rfl (by decide) (Nat.le_refl _) rfl (Nat.le_of_ble_eq_true rfl) (fun _ _ z => z.elim) (fun r' S' z => ?_)
          obtain ⟨rfl, rfl⟩ := z
          show WP _ _ _ _ [some (vR 9 0), l1, some (vI (x2)), l3] [] _ _ _
          refine wp_iinc (v := x2 + 1) (L' := [some (vR 9 0), l1, some (vI (x2 + 1)), l3]) dX9_passes_289 rfl rfl rfl ?_
          refine wp_goto (tgt := 232) dX9_passes_292 (by decide) ?_
          exact ih h
        · replace h := itn c4 h
          refine wp_aload_n dX9_passes_264 rfl ?_
          refine wp_iload_n dX9_passes_265 rfl ?_
          refine wp_iconst (v := 5) dX9_passes_266 (by decide) ?_
          obtain ⟨r8, rho9, hp10, h⟩ := ob_e h
          refine wp_callV (k1 := 0) (k2 := 0) (As := [vI (x2), vI (5)]) (rest := []) (w9_endsRequest hfr hp10) okX9_endsRequest ivX9_endsRequest rfl (by decide) ml_X9_322 dX9_passes_267 rfl (by decide) (Nat.le_refl _) rfl (Nat.le_of_ble_eq_true rfl) (fun _ _ z => z.elim) (fun r' S' z => ?_)
          obtain ⟨rfl, rfl⟩ := z
          show WP _ _ _ _ [some (vR 9 0), l1, some (vI (x2)), l3] [] _ _ _
          refine wp_goto (tgt := 289) dX9_passes_270 (by decide) ?_
          refine wp_iinc (v := x2 + 1) (L' := [some (vR 9 0), l1, some (vI (x2 + 1)), l3]) dX9_passes_289 rfl rfl rfl ?_
          refine wp_goto (tgt := 232) dX9_passes_292 (by decide) ?_
          exact ih h
def l9_passes_196 : Nat → Int32 → RH → Option (Int32 × RH)
  | 0, _, _ => none
  | n + 1, x2, rho =>
  if x2 < 0 then
    l9_passes_232 FU (0) rho
  else
    if vq (x2) 400 then
    if (rho 44 (x2).toNatClampNeg) = 0 then
      l9_passes_196 n (x2 + (-1)) rho
    else
      if (rho 37 (x2).toNatClampNeg) = 2 then
        ob (f9_goesCall (x2) rho) fun _ rho6 =>
        l9_passes_196 n (x2 + (-1)) rho6
      else
        l9_passes_196 n (x2 + (-1)) rho
    else none
theorem w9_passes_196 {r : Int32} {rho9 : RH} (hfr : RA fr) : ∀ (n : Nat) {x2 : Int32} {l1 l3 : Option sV} {rho : RH}, l9_passes_196 n x2 rho = some (r, rho9) → WP mX9_passes 9 0 196 [some (vR 9 0), l1, some (vI (x2)), l3] [] (lv, fr, fi, ai, ar, li, out, rho) (Po lv fr fi ai ar li out (none) rho9) NX := by
  intro n
  induction n with
  | zero =>
    intro x2 l1 l3 rho h
    rw [l9_passes_196] at h
    cases h
  | succ n ih =>
    intro x2 l1 l3 rho h
    rw [l9_passes_196] at h
    refine wp_iload_n dX9_passes_196 rfl ?_
    refine wp_if_lt (tgt := 230) dX9_passes_197 (by decide) (fun c1 => ?_) (fun c1 => ?_)
    · replace h := itp c1 h
      refine wp_iconst (v := 0) dX9_passes_230 (by decide) ?_
      refine wp_istore_n (L' := [some (vR 9 0), l1, some (vI (0)), l3]) dX9_passes_231 rfl rfl ?_
      exact w9_passes_232 hfr FU h
    · replace h := itn c1 h
      refine wp_aload_n dX9_passes_200 rfl ?_
      refine wp_arrR (y := 44) (c := 244) hfr (by decide) rfl fl_X9_135 dX9_passes_201 ?_
      refine wp_iload_n dX9_passes_204 rfl ?_
      obtain ⟨c2, h⟩ := ock h
      refine wp_baldR (c := 244) (y := 44) rfl rfl (show vp_in (x2) (len 244) from c2) dX9_passes_205 ?_
      refine wp_if_eq (tgt := 224) dX9_passes_206 (by decide) (fun c3 => ?_) (fun c3 => ?_)
      · replace h := itp c3 h
        refine wp_iinc (v := x2 + (-1)) (L' := [some (vR 9 0), l1, some (vI (x2 + (-1))), l3]) dX9_passes_224 rfl rfl rfl ?_
        refine wp_goto (tgt := 196) dX9_passes_227 (by decide) ?_
        exact ih h
      · replace h := itn c3 h
        refine wp_aload_n dX9_passes_209 rfl ?_
        refine wp_arrR (y := 37) (c := 237) hfr (by decide) rfl fl_X9_114 dX9_passes_210 ?_
        refine wp_iload_n dX9_passes_213 rfl ?_
        refine wp_ialdR (c := 237) (y := 37) rfl rfl (show vp_in (x2) (len 237) from c2) dX9_passes_214 ?_
        refine wp_iconst (v := 2) dX9_passes_215 (by decide) ?_
        refine wp_icmp_ne (tgt := 224) dX9_passes_216 (by decide) (fun c4 => ?_) (fun c4 => ?_)
        · replace h := itn c4 h
          refine wp_iinc (v := x2 + (-1)) (L' := [some (vR 9 0), l1, some (vI (x2 + (-1))), l3]) dX9_passes_224 rfl rfl rfl ?_
          refine wp_goto (tgt := 196) dX9_passes_227 (by decide) ?_
          exact ih h
        · replace h := itp c4 h
          refine wp_aload_n dX9_passes_219 rfl ?_
          refine wp_iload_n dX9_passes_220 rfl ?_
          obtain ⟨r5, rho6, hp7, h⟩ := ob_e h
          refine wp_callV (k1 := 0) (k2 := 0) (As := [vI (x2)]) (rest := []) (w9_goesCall hfr hp7) okX9_goesCall ivX9_goesCall rfl (by decide) ml_X9_334 dX9_passes_221 rfl (by decide) (Nat.le_refl _) rfl (Nat.le_of_ble_eq_true rfl) (fun _ _ z => z.elim) (fun r' S' z => ?_)
          obtain ⟨rfl, rfl⟩ := z
          show WP _ _ _ _ [some (vR 9 0), l1, some (vI (x2)), l3] [] _ _ _
          refine wp_iinc (v := x2 + (-1)) (L' := [some (vR 9 0), l1, some (vI (x2 + (-1))), l3]) dX9_passes_224 rfl rfl rfl ?_
          refine wp_goto (tgt := 196) dX9_passes_227 (by decide) ?_
          exact ih h
def l9_passes_160 : Nat → Int32 → Int32 → RH → Option (Int32 × RH)
  | 0, _, _, _ => none
  | n + 1, x1, x2, rho =>
  if x1 ≤ x2 then
    l9_passes_196 FU ((x1 - 1)) rho
  else
    if vq (x2) 400 then
    if (rho 37 (x2).toNatClampNeg) = 2 then
      wr (up2 rho 44 (x2).toNatClampNeg (1)) fun rho4 =>
      l9_passes_160 n (x1) (x2 + 1) rho4
    else
      wr (up2 rho 44 (x2).toNatClampNeg (0)) fun rho6 =>
      l9_passes_160 n (x1) (x2 + 1) rho6
    else none
theorem w9_passes_160 {r : Int32} {rho9 : RH} (hfr : RA fr) : ∀ (n : Nat) {x1 x2 : Int32} {l3 : Option sV} {rho : RH}, l9_passes_160 n x1 x2 rho = some (r, rho9) → WP mX9_passes 9 0 160 [some (vR 9 0), some (vI (x1)), some (vI (x2)), l3] [] (lv, fr, fi, ai, ar, li, out, rho) (Po lv fr fi ai ar li out (none) rho9) NX := by
  intro n
  induction n with
  | zero =>
    intro x1 x2 l3 rho h
    rw [l9_passes_160] at h
    cases h
  | succ n ih =>
    intro x1 x2 l3 rho h
    rw [l9_passes_160] at h
    refine wp_iload_n dX9_passes_160 rfl ?_
    refine wp_iload_n dX9_passes_161 rfl ?_
    refine wp_icmp_ge (tgt := 192) dX9_passes_162 (by decide) (fun c1 => ?_) (fun c1 => ?_)
    · replace h := itp c1 h
      refine wp_iload_n dX9_passes_192 rfl ?_
      refine wp_iconst (v := 1) dX9_passes_193 (by decide) ?_
      refine wp_isub dX9_passes_194 ?_
      refine wp_istore_n (L' := [some (vR 9 0), some (vI (x1)), some (vI ((x1 - 1))), l3]) dX9_passes_195 rfl rfl ?_
      exact w9_passes_196 hfr FU h
    · replace h := itn c1 h
      refine wp_aload_n dX9_passes_165 rfl ?_
      refine wp_arrR (y := 44) (c := 244) hfr (by decide) rfl fl_X9_135 dX9_passes_166 ?_
      refine wp_iload_n dX9_passes_169 rfl ?_
      refine wp_aload_n dX9_passes_170 rfl ?_
      refine wp_arrR (y := 37) (c := 237) hfr (by decide) rfl fl_X9_114 dX9_passes_171 ?_
      refine wp_iload_n dX9_passes_174 rfl ?_
      obtain ⟨c2, h⟩ := ock h
      refine wp_ialdR (c := 237) (y := 37) rfl rfl (show vp_in (x2) (len 237) from c2) dX9_passes_175 ?_
      refine wp_iconst (v := 2) dX9_passes_176 (by decide) ?_
      refine wp_icmp_ne (tgt := 184) dX9_passes_177 (by decide) (fun c3 => ?_) (fun c3 => ?_)
      · replace h := itn c3 h
        refine wp_iconst (v := 0) dX9_passes_184 (by decide) ?_
        refine wp_bastR (c := 244) (y := 44) rfl rfl (show vp_in (x2) (len 244) from c2) (by decide) dX9_passes_185 ?_
        obtain ⟨rho6, e7, h⟩ := wr_e h
        rw [e7]
        refine wp_iinc (v := x2 + 1) (L' := [some (vR 9 0), some (vI (x1)), some (vI (x2 + 1)), l3]) dX9_passes_186 rfl rfl rfl ?_
        refine wp_goto (tgt := 160) dX9_passes_189 (by decide) ?_
        exact ih h
      · replace h := itp c3 h
        refine wp_iconst (v := 1) dX9_passes_180 (by decide) ?_
        refine wp_goto (tgt := 185) dX9_passes_181 (by decide) ?_
        refine wp_bastR (c := 244) (y := 44) rfl rfl (show vp_in (x2) (len 244) from c2) (by decide) dX9_passes_185 ?_
        obtain ⟨rho4, e5, h⟩ := wr_e h
        rw [e5]
        refine wp_iinc (v := x2 + 1) (L' := [some (vR 9 0), some (vI (x1)), some (vI (x2 + 1)), l3]) dX9_passes_186 rfl rfl rfl ?_
        refine wp_goto (tgt := 160) dX9_passes_189 (by decide) ?_
        exact ih h
def l9_passes_111 : Nat → Int32 → RH → Option (Int32 × RH)
  | 0, _, _ => none
  | n + 1, x1, rho =>
  if (rho 31 0) ≤ x1 then
    l9_passes_160 FU ((rho 31 0)) (0) rho
  else
    if vq (x1) 400 then
    if (rho 37 (x1).toNatClampNeg) = 1 then
      if (rho 0 0) < (rho 39 (x1).toNatClampNeg) then
        l9_passes_111 n (x1 + 1) rho
      else
        ob (f9_finishesWork (x1) rho) fun _ rho6 =>
        l9_passes_111 n (x1 + 1) rho6
    else
      l9_passes_111 n (x1 + 1) rho
    else none
theorem w9_passes_111 {r : Int32} {rho9 : RH} (hfr : RA fr) : ∀ (n : Nat) {x1 : Int32} {l2 l3 : Option sV} {rho : RH}, l9_passes_111 n x1 rho = some (r, rho9) → WP mX9_passes 9 0 111 [some (vR 9 0), some (vI (x1)), l2, l3] [] (lv, fr, fi, ai, ar, li, out, rho) (Po lv fr fi ai ar li out (none) rho9) NX := by
  intro n
  induction n with
  | zero =>
    intro x1 l2 l3 rho h
    rw [l9_passes_111] at h
    cases h
  | succ n ih =>
    intro x1 l2 l3 rho h
    rw [l9_passes_111] at h
    refine wp_iload_n dX9_passes_111 rfl ?_
    refine wp_aload_n dX9_passes_112 rfl ?_
    refine wp_getRI (y := 31) (by decide) rfl fl_X9_217 dX9_passes_113 ?_
    refine wp_icmp_ge (tgt := 153) dX9_passes_116 (by decide) (fun c1 => ?_) (fun c1 => ?_)
    · replace h := itp c1 h
      refine wp_aload_n dX9_passes_153 rfl ?_
      refine wp_getRI (y := 31) (by decide) rfl fl_X9_217 dX9_passes_154 ?_
      refine wp_istore_n (L' := [some (vR 9 0), some (vI ((rho 31 0))), l2, l3]) dX9_passes_157 rfl rfl ?_
      refine wp_iconst (v := 0) dX9_passes_158 (by decide) ?_
      refine wp_istore_n (L' := [some (vR 9 0), some (vI ((rho 31 0))), some (vI (0)), l3]) dX9_passes_159 rfl rfl ?_
      exact w9_passes_160 hfr FU h
    · replace h := itn c1 h
      refine wp_aload_n dX9_passes_119 rfl ?_
      refine wp_arrR (y := 37) (c := 237) hfr (by decide) rfl fl_X9_114 dX9_passes_120 ?_
      refine wp_iload_n dX9_passes_123 rfl ?_
      obtain ⟨c2, h⟩ := ock h
      refine wp_ialdR (c := 237) (y := 37) rfl rfl (show vp_in (x1) (len 237) from c2) dX9_passes_124 ?_
      refine wp_iconst (v := 1) dX9_passes_125 (by decide) ?_
      refine wp_icmp_ne (tgt := 147) dX9_passes_126 (by decide) (fun c3 => ?_) (fun c3 => ?_)
      · replace h := itn c3 h
        refine wp_iinc (v := x1 + 1) (L' := [some (vR 9 0), some (vI (x1 + 1)), l2, l3]) dX9_passes_147 rfl rfl rfl ?_
        refine wp_goto (tgt := 111) dX9_passes_150 (by decide) ?_
        exact ih h
      · replace h := itp c3 h
        refine wp_aload_n dX9_passes_129 rfl ?_
        refine wp_getRI (y := 0) (by decide) rfl fl_X9_220 dX9_passes_130 ?_
        refine wp_aload_n dX9_passes_133 rfl ?_
        refine wp_arrR (y := 39) (c := 239) hfr (by decide) rfl fl_X9_120 dX9_passes_134 ?_
        refine wp_iload_n dX9_passes_137 rfl ?_
        refine wp_ialdR (c := 239) (y := 39) rfl rfl (show vp_in (x1) (len 239) from c2) dX9_passes_138 ?_
        refine wp_icmp_lt (tgt := 147) dX9_passes_139 (by decide) (fun c4 => ?_) (fun c4 => ?_)
        · replace h := itp c4 h
          refine wp_iinc (v := x1 + 1) (L' := [some (vR 9 0), some (vI (x1 + 1)), l2, l3]) dX9_passes_147 rfl rfl rfl ?_
          refine wp_goto (tgt := 111) dX9_passes_150 (by decide) ?_
          exact ih h
        · replace h := itn c4 h
          refine wp_aload_n dX9_passes_142 rfl ?_
          refine wp_iload_n dX9_passes_143 rfl ?_
          obtain ⟨r5, rho6, hp7, h⟩ := ob_e h
          refine wp_callV (k1 := 0) (k2 := 0) (As := [vI (x1)]) (rest := []) (w9_finishesWork hfr hp7) okX9_finishesWork ivX9_finishesWork rfl (by decide) ml_X9_331 dX9_passes_144 rfl (by decide) (Nat.le_refl _) rfl (Nat.le_of_ble_eq_true rfl) (fun _ _ z => z.elim) (fun r' S' z => ?_)
          obtain ⟨rfl, rfl⟩ := z
          show WP _ _ _ _ [some (vR 9 0), some (vI (x1)), l2, l3] [] _ _ _
          refine wp_iinc (v := x1 + 1) (L' := [some (vR 9 0), some (vI (x1 + 1)), l2, l3]) dX9_passes_147 rfl rfl rfl ?_
          refine wp_goto (tgt := 111) dX9_passes_150 (by decide) ?_
          exact ih h
def l9_passes_68 : Nat → Int32 → RH → Option (Int32 × RH)
  | 0, _, _ => none
  | n + 1, x1, rho =>
  if (rho 31 0) ≤ x1 then
    l9_passes_111 FU (0) rho
  else
    ob (f9_hasEnded (x1) rho) fun r2 rho3 =>
    if r2 = 0 then
      if vq (x1) 400 then
      if (rho3 0 0) < (rho3 38 (x1).toNatClampNeg) then
        l9_passes_68 n (x1 + 1) rho3
      else
        ob (f9_endsCall (x1) (5) rho3) fun _ rho9 =>
        l9_passes_68 n (x1 + 1) rho9
      else none
    else
      l9_passes_68 n (x1 + 1) rho3
theorem w9_passes_68 {r : Int32} {rho9 : RH} (hfr : RA fr) : ∀ (n : Nat) {x1 : Int32} {l2 l3 : Option sV} {rho : RH}, l9_passes_68 n x1 rho = some (r, rho9) → WP mX9_passes 9 0 68 [some (vR 9 0), some (vI (x1)), l2, l3] [] (lv, fr, fi, ai, ar, li, out, rho) (Po lv fr fi ai ar li out (none) rho9) NX := by
  intro n
  induction n with
  | zero =>
    intro x1 l2 l3 rho h
    rw [l9_passes_68] at h
    cases h
  | succ n ih =>
    intro x1 l2 l3 rho h
    rw [l9_passes_68] at h
    refine wp_iload_n dX9_passes_68 rfl ?_
    refine wp_aload_n dX9_passes_69 rfl ?_
    refine wp_getRI (y := 31) (by decide) rfl fl_X9_217 dX9_passes_70 ?_
    refine wp_icmp_ge (tgt := 109) dX9_passes_73 (by decide) (fun c1 => ?_) (fun c1 => ?_)
    · replace h := itp c1 h
      refine wp_iconst (v := 0) dX9_passes_109 (by decide) ?_
      refine wp_istore_n (L' := [some (vR 9 0), some (vI (0)), l2, l3]) dX9_passes_110 rfl rfl ?_
      exact w9_passes_111 hfr FU h
    · replace h := itn c1 h
      refine wp_aload_n dX9_passes_76 rfl ?_
      refine wp_iload_n dX9_passes_77 rfl ?_
      obtain ⟨r2, rho3, hp4, h⟩ := ob_e h
      refine wp_callV (k1 := 0) (k2 := 0) (As := [vI (x1)]) (rest := []) (w9_hasEnded hfr hp4) okX9_hasEnded ivX9_hasEnded rfl (by decide) ml_X9_223 dX9_passes_78 rfl (by decide) (Nat.le_refl _) rfl (Nat.le_of_ble_eq_true rfl) (fun _ _ z => z.elim) (fun r' S' z => ?_)
      obtain ⟨rfl, rfl⟩ := z
      show WP _ _ _ _ [some (vR 9 0), some (vI (x1)), l2, l3] [vI (r2)] _ _ _
      refine wp_if_ne (tgt := 103) dX9_passes_81 (by decide) (fun c5 => ?_) (fun c5 => ?_)
      · replace h := itn c5 h
        refine wp_iinc (v := x1 + 1) (L' := [some (vR 9 0), some (vI (x1 + 1)), l2, l3]) dX9_passes_103 rfl rfl rfl ?_
        refine wp_goto (tgt := 68) dX9_passes_106 (by decide) ?_
        exact ih h
      · replace h := itp c5 h
        refine wp_aload_n dX9_passes_84 rfl ?_
        refine wp_getRI (y := 0) (by decide) rfl fl_X9_220 dX9_passes_85 ?_
        refine wp_aload_n dX9_passes_88 rfl ?_
        refine wp_arrR (y := 38) (c := 238) hfr (by decide) rfl fl_X9_117 dX9_passes_89 ?_
        refine wp_iload_n dX9_passes_92 rfl ?_
        obtain ⟨c6, h⟩ := ock h
        refine wp_ialdR (c := 238) (y := 38) rfl rfl (show vp_in (x1) (len 238) from c6) dX9_passes_93 ?_
        refine wp_icmp_lt (tgt := 103) dX9_passes_94 (by decide) (fun c7 => ?_) (fun c7 => ?_)
        · replace h := itp c7 h
          refine wp_iinc (v := x1 + 1) (L' := [some (vR 9 0), some (vI (x1 + 1)), l2, l3]) dX9_passes_103 rfl rfl rfl ?_
          refine wp_goto (tgt := 68) dX9_passes_106 (by decide) ?_
          exact ih h
        · replace h := itn c7 h
          refine wp_aload_n dX9_passes_97 rfl ?_
          refine wp_iload_n dX9_passes_98 rfl ?_
          refine wp_iconst (v := 5) dX9_passes_99 (by decide) ?_
          obtain ⟨r8, rho9, hp10, h⟩ := ob_e h
          refine wp_callV (k1 := 0) (k2 := 0) (As := [vI (x1), vI (5)]) (rest := []) (w9_endsCall hfr hp10) okX9_endsCall ivX9_endsCall rfl (by decide) ml_X9_244 dX9_passes_100 rfl (by decide) (Nat.le_refl _) rfl (Nat.le_of_ble_eq_true rfl) (fun _ _ z => z.elim) (fun r' S' z => ?_)
          obtain ⟨rfl, rfl⟩ := z
          show WP _ _ _ _ [some (vR 9 0), some (vI (x1)), l2, l3] [] _ _ _
          refine wp_iinc (v := x1 + 1) (L' := [some (vR 9 0), some (vI (x1 + 1)), l2, l3]) dX9_passes_103 rfl rfl rfl ?_
          refine wp_goto (tgt := 68) dX9_passes_106 (by decide) ?_
          exact ih h
def l9_passes_12 : Nat → Int32 → RH → Option (Int32 × RH)
  | 0, _, _ => none
  | n + 1, x1, rho =>
  if 84 ≤ x1 then
    l9_passes_68 FU (0) rho
  else
    if vq (x1) 84 then
    if (rho 21 (x1).toNatClampNeg) = 1 then
      if ((rho 0 0) - (rho 23 (x1).toNatClampNeg)) < 10 then
        wr (up2 rho 21 (x1).toNatClampNeg ((rho 21 (x1).toNatClampNeg))) fun rho5 =>
        l9_passes_12 n (x1 + 1) rho5
      else
        wr (up2 rho 21 (x1).toNatClampNeg (2)) fun rho7 =>
        l9_passes_12 n (x1 + 1) rho7
    else
      wr (up2 rho 21 (x1).toNatClampNeg ((rho 21 (x1).toNatClampNeg))) fun rho9 =>
      l9_passes_12 n (x1 + 1) rho9
    else none
theorem w9_passes_12 {r : Int32} {rho9 : RH} (hfr : RA fr) : ∀ (n : Nat) {x1 : Int32} {l2 l3 : Option sV} {rho : RH}, l9_passes_12 n x1 rho = some (r, rho9) → WP mX9_passes 9 0 12 [some (vR 9 0), some (vI (x1)), l2, l3] [] (lv, fr, fi, ai, ar, li, out, rho) (Po lv fr fi ai ar li out (none) rho9) NX := by
  intro n
  induction n with
  | zero =>
    intro x1 l2 l3 rho h
    rw [l9_passes_12] at h
    cases h
  | succ n ih =>
    intro x1 l2 l3 rho h
    rw [l9_passes_12] at h
    refine wp_iload_n dX9_passes_12 rfl ?_
    refine wp_bipush (v := 84) dX9_passes_13 (by decide) ?_
    refine wp_icmp_ge (tgt := 66) dX9_passes_15 (by decide) (fun c1 => ?_) (fun c1 => ?_)
    · replace h := itp c1 h
      refine wp_iconst (v := 0) dX9_passes_66 (by decide) ?_
      refine wp_istore_n (L' := [some (vR 9 0), some (vI (0)), l2, l3]) dX9_passes_67 rfl rfl ?_
      exact w9_passes_68 hfr FU h
    · replace h := itn c1 h
      refine wp_aload_n dX9_passes_18 rfl ?_
      refine wp_arrR (y := 21) (c := 221) hfr (by decide) rfl fl_X9_69 dX9_passes_19 ?_
      refine wp_iload_n dX9_passes_22 rfl ?_
      refine wp_aload_n dX9_passes_23 rfl ?_
      refine wp_arrR (y := 21) (c := 221) hfr (by decide) rfl fl_X9_69 dX9_passes_24 ?_
      refine wp_iload_n dX9_passes_27 rfl ?_
      obtain ⟨c2, h⟩ := ock h
      refine wp_ialdR (c := 221) (y := 21) rfl rfl (show vp_in (x1) (len 221) from c2) dX9_passes_28 ?_
      refine wp_iconst (v := 1) dX9_passes_29 (by decide) ?_
      refine wp_icmp_ne (tgt := 53) dX9_passes_30 (by decide) (fun c3 => ?_) (fun c3 => ?_)
      · replace h := itn c3 h
        refine wp_aload_n dX9_passes_53 rfl ?_
        refine wp_arrR (y := 21) (c := 221) hfr (by decide) rfl fl_X9_69 dX9_passes_54 ?_
        refine wp_iload_n dX9_passes_57 rfl ?_
        refine wp_ialdR (c := 221) (y := 21) rfl rfl (show vp_in (x1) (len 221) from c2) dX9_passes_58 ?_
        refine wp_iastR (c := 221) (y := 21) rfl rfl (show vp_in (x1) (len 221) from c2) dX9_passes_59 ?_
        obtain ⟨rho9, e10, h⟩ := wr_e h
        rw [e10]
        refine wp_iinc (v := x1 + 1) (L' := [some (vR 9 0), some (vI (x1 + 1)), l2, l3]) dX9_passes_60 rfl rfl rfl ?_
        refine wp_goto (tgt := 12) dX9_passes_63 (by decide) ?_
        exact ih h
      · replace h := itp c3 h
        refine wp_aload_n dX9_passes_33 rfl ?_
        refine wp_getRI (y := 0) (by decide) rfl fl_X9_220 dX9_passes_34 ?_
        refine wp_aload_n dX9_passes_37 rfl ?_
        refine wp_arrR (y := 23) (c := 223) hfr (by decide) rfl fl_X9_75 dX9_passes_38 ?_
        refine wp_iload_n dX9_passes_41 rfl ?_
        refine wp_ialdR (c := 223) (y := 23) rfl rfl (show vp_in (x1) (len 223) from c2) dX9_passes_42 ?_
        refine wp_isub dX9_passes_43 ?_
        refine wp_bipush (v := 10) dX9_passes_44 (by decide) ?_
        refine wp_icmp_lt (tgt := 53) dX9_passes_46 (by decide) (fun c4 => ?_) (fun c4 => ?_)
        · replace h := itp c4 h
          refine wp_aload_n dX9_passes_53 rfl ?_
          refine wp_arrR (y := 21) (c := 221) hfr (by decide) rfl fl_X9_69 dX9_passes_54 ?_
          refine wp_iload_n dX9_passes_57 rfl ?_
          refine wp_ialdR (c := 221) (y := 21) rfl rfl (show vp_in (x1) (len 221) from c2) dX9_passes_58 ?_
          refine wp_iastR (c := 221) (y := 21) rfl rfl (show vp_in (x1) (len 221) from c2) dX9_passes_59 ?_
          obtain ⟨rho5, e6, h⟩ := wr_e h
          rw [e6]
          refine wp_iinc (v := x1 + 1) (L' := [some (vR 9 0), some (vI (x1 + 1)), l2, l3]) dX9_passes_60 rfl rfl rfl ?_
          refine wp_goto (tgt := 12) dX9_passes_63 (by decide) ?_
          exact ih h
        · replace h := itn c4 h
          refine wp_iconst (v := 2) dX9_passes_49 (by decide) ?_
          refine wp_goto (tgt := 59) dX9_passes_50 (by decide) ?_
          refine wp_iastR (c := 221) (y := 21) rfl rfl (show vp_in (x1) (len 221) from c2) dX9_passes_59 ?_
          obtain ⟨rho7, e8, h⟩ := wr_e h
          rw [e8]
          refine wp_iinc (v := x1 + 1) (L' := [some (vR 9 0), some (vI (x1 + 1)), l2, l3]) dX9_passes_60 rfl rfl rfl ?_
          refine wp_goto (tgt := 12) dX9_passes_63 (by decide) ?_
          exact ih h
def f9_passes (rho : RH) : Option (Int32 × RH) :=
  wr (up2 rho 0 0 (((rho 0 0) + 1))) fun rho1 =>
  l9_passes_12 FU (0) rho1
theorem w9_passes {r : Int32} {rho9 : RH} (hfr : RA fr) {rho : RH} (h : f9_passes  rho = some (r, rho9)) : Spec mX9_passes 9 0 [vR 9 0] (lv, fr, fi, ai, ar, li, out, rho) (Po lv fr fi ai ar li out (none) rho9) NX := by
  unfold f9_passes at h
  refine spec_of (by decide) rfl (by simp [catS, cat1]) (Nat.le_of_ble_eq_true rfl) ?_
  show WP mX9_passes 9 0 0 [some (vR 9 0), none, none, none] [] (lv, fr, fi, ai, ar, li, out, rho) (Po lv fr fi ai ar li out (none) rho9) NX
  refine wp_aload_n dX9_passes_0 rfl ?_
  refine wp_dup dX9_passes_1 trivial ?_
  refine wp_getRI (y := 0) (by decide) rfl fl_X9_220 dX9_passes_2 ?_
  refine wp_iconst (v := 1) dX9_passes_5 (by decide) ?_
  refine wp_iadd dX9_passes_6 ?_
  refine wp_putRI (y := 0) (by decide) rfl rfl fl_X9_220 dX9_passes_7 rfl ?_
  obtain ⟨rho1, e2, h⟩ := wr_e h
  rw [e2]
  refine wp_iconst (v := 0) dX9_passes_10 (by decide) ?_
  refine wp_istore_n (L' := [some (vR 9 0), some (vI (0)), none, none]) dX9_passes_11 rfl rfl ?_
  exact w9_passes_12 hfr FU h
end S9
