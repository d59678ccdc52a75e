section S9
variable {lv : Nat → Nat → Bool} {fr : Nat → Nat → Option Nat} {fi : Nat → Nat → Int32} {ai : Nat → Nat → Nat → Int32} {ar : Nat → Nat → Nat → Option Nat} {li : Nat → Nat → List Nat} {out : Int64}
def f9_policyOf (x1 x2 x3 : Int32) (rho : RH) : Option (Int32 × RH) :=
  ob (f9_policyPlace (x1) (x2) rho) fun r1 rho2 =>
  if vq (((3 * r1) + x3)) 147 then
  ob (f9_policyPlace ((-1)) (x2) rho2) fun r5 rho6 =>
  if vq (((3 * r5) + x3)) 147 then
  ob (f9_policyPlace ((-1)) ((-1)) rho6) fun r9 rho10 =>
  if vq (((3 * r9) + x3)) 147 then
  if (rho2 15 (((3 * r1) + x3)).toNatClampNeg) = (-1) then
    if (rho6 15 (((3 * r5) + x3)).toNatClampNeg) = (-1) then
      if (rho10 15 (((3 * r9) + x3)).toNatClampNeg) = (-1) then
        if x3 = 0 then
          some (20, rho10)
        else
          if x3 = 1 then
            some (1, rho10)
          else
            some (0, rho10)
      else
        some ((rho10 15 (((3 * r9) + x3)).toNatClampNeg), rho10)
    else
      some ((rho6 15 (((3 * r5) + x3)).toNatClampNeg), rho10)
  else
    some ((rho2 15 (((3 * r1) + x3)).toNatClampNeg), rho10)
  else none
  else none
  else none
theorem w9_policyOf {r : Int32} {rho9 : RH} (hfr : RA fr) {x1 x2 x3 : Int32} {rho : RH} (h : f9_policyOf x1 x2 x3 rho = some (r, rho9)) : Spec mX9_policyOf 1 0 [vR 9 0, vI x1, vI x2, vI x3] (lv, fr, fi, ai, ar, li, out, rho) (Po lv fr fi ai ar li out (some (vI r)) rho9) NX := by
  unfold f9_policyOf at h
  refine spec_of (by decide) rfl (by simp [catS, cat1]) (Nat.le_of_ble_eq_true rfl) ?_
  show WP mX9_policyOf 1 0 0 [some (vR 9 0), some (vI (x1)), some (vI (x2)), some (vI (x3)), none, none, none] [] (lv, fr, fi, ai, ar, li, out, rho) (Po lv fr fi ai ar li out (some (vI r)) rho9) NX
  refine wp_aload_n dX9_policyOf_0 rfl ?_
  refine wp_arrR (y := 15) (c := 215) hfr (by decide) rfl fl_X9_50 dX9_policyOf_1 ?_
  refine wp_iconst (v := 3) dX9_policyOf_4 (by decide) ?_
  refine wp_iload_n dX9_policyOf_5 rfl ?_
  refine wp_iload_n dX9_policyOf_6 rfl ?_
  obtain ⟨r1, rho2, hp3, h⟩ := ob_e h
  refine wp_callS (k1 := 0) (k2 := 0) (As := [vI (x1), vI (x2)]) (rest := [vI (3), vR 215 0]) (w9_policyPlace hfr hp3) okX9_policyPlace sm_X9_policyPlace rfl ml_X9_213 dX9_policyOf_7 rfl (by decide) (Nat.le_refl _) rfl (Nat.le_of_ble_eq_true rfl) (fun _ _ z => z.elim) (fun r' S' z => ?_)
  obtain ⟨rfl, rfl⟩ := z
  show WP _ _ _ _ [some (vR 9 0), some (vI (x1)), some (vI (x2)), some (vI (x3)), none, none, none] [vI (r1), vI (3), vR 215 0] _ _ _
  refine wp_imul dX9_policyOf_10 ?_
  refine wp_iload_n dX9_policyOf_11 rfl ?_
  refine wp_iadd dX9_policyOf_12 ?_
  obtain ⟨c4, h⟩ := ock h
  refine wp_ialdR (c := 215) (y := 15) rfl rfl (show vp_in (((3 * r1) + x3)) (len 215) from c4) dX9_policyOf_13 ?_
  refine wp_istore (L' := [some (vR 9 0), some (vI (x1)), some (vI (x2)), some (vI (x3)), some (vI ((rho2 15 (((3 * r1) + x3)).toNatClampNeg))), none, none]) dX9_policyOf_14 rfl rfl ?_
  refine wp_aload_n dX9_policyOf_16 rfl ?_
  refine wp_arrR (y := 15) (c := 215) hfr (by decide) rfl fl_X9_50 dX9_policyOf_17 ?_
  refine wp_iconst (v := 3) dX9_policyOf_20 (by decide) ?_
  refine wp_iconst (v := (-1)) dX9_policyOf_21 (by decide) ?_
  refine wp_iload_n dX9_policyOf_22 rfl ?_
  obtain ⟨r5, rho6, hp7, h⟩ := ob_e h
  refine wp_callS (k1 := 0) (k2 := 0) (As := [vI ((-1)), vI (x2)]) (rest := [vI (3), vR 215 0]) (w9_policyPlace hfr hp7) okX9_policyPlace sm_X9_policyPlace rfl ml_X9_213 dX9_policyOf_23 rfl (by decide) (Nat.le_refl _) rfl (Nat.le_of_ble_eq_true rfl) (fun _ _ z => z.elim) (fun r' S' z => ?_)
  obtain ⟨rfl, rfl⟩ := z
  show WP _ _ _ _ [some (vR 9 0), some (vI (x1)), some (vI (x2)), some (vI (x3)), some (vI ((rho2 15 (((3 * r1) + x3)).toNatClampNeg))), none, none] [vI (r5), vI (3), vR 215 0] _ _ _
  refine wp_imul dX9_policyOf_26 ?_
  refine wp_iload_n dX9_policyOf_27 rfl ?_
  refine wp_iadd dX9_policyOf_28 ?_
  obtain ⟨c8, h⟩ := ock h
  refine wp_ialdR (c := 215) (y := 15) rfl rfl (show vp_in (((3 * r5) + x3)) (len 215) from c8) dX9_policyOf_29 ?_
  refine wp_istore (L' := [some (vR 9 0), some (vI (x1)), some (vI (x2)), some (vI (x3)), some (vI ((rho2 15 (((3 * r1) + x3)).toNatClampNeg))), some (vI ((rho6 15 (((3 * r5) + x3)).toNatClampNeg))), none]) dX9_policyOf_30 rfl rfl ?_
  refine wp_aload_n dX9_policyOf_32 rfl ?_
  refine wp_arrR (y := 15) (c := 215) hfr (by decide) rfl fl_X9_50 dX9_policyOf_33 ?_
  refine wp_iconst (v := 3) dX9_policyOf_36 (by decide) ?_
  refine wp_iconst (v := (-1)) dX9_policyOf_37 (by decide) ?_
  refine wp_iconst (v := (-1)) dX9_policyOf_38 (by decide) ?_
  obtain ⟨r9, rho10, hp11, h⟩ := ob_e h
  refine wp_callS (k1 := 0) (k2 := 0) (As := [vI ((-1)), vI ((-1))]) (rest := [vI (3), vR 215 0]) (w9_policyPlace hfr hp11) okX9_policyPlace sm_X9_policyPlace rfl ml_X9_213 dX9_policyOf_39 rfl (by decide) (Nat.le_refl _) rfl (Nat.le_of_ble_eq_true rfl) (fun _ _ z => z.elim) (fun r' S' z => ?_)
  obtain ⟨rfl, rfl⟩ := z
  show WP _ _ _ _ [some (vR 9 0), some (vI (x1)), some (vI (x2)), some (vI (x3)), some (vI ((rho2 15 (((3 * r1) + x3)).toNatClampNeg))), some (vI ((rho6 15 (((3 * r5) + x3)).toNatClampNeg))), none] [vI (r9), vI (3), vR 215 0] _ _ _
  refine wp_imul dX9_policyOf_42 ?_
  refine wp_iload_n dX9_policyOf_43 rfl ?_
  refine wp_iadd dX9_policyOf_44 ?_
  obtain ⟨c12, h⟩ := ock h
  refine wp_ialdR (c := 215) (y := 15) rfl rfl (show vp_in (((3 * r9) + x3)) (len 215) from c12) dX9_policyOf_45 ?_
  refine wp_istore (L' := [some (vR 9 0), some (vI (x1)), some (vI (x2)), some (vI (x3)), some (vI ((rho2 15 (((3 * r1) + x3)).toNatClampNeg))), some (vI ((rho6 15 (((3 * r5) + x3)).toNatClampNeg))), some (vI ((rho10 15 (((3 * r9) + x3)).toNatClampNeg)))]) dX9_policyOf_46 rfl rfl ?_
  refine wp_iload dX9_policyOf_48 rfl ?_
  refine wp_iconst (v := (-1)) dX9_policyOf_50 (by decide) ?_
  refine wp_icmp_eq (tgt := 59) dX9_policyOf_51 (by decide) (fun c13 => ?_) (fun c13 => ?_)
  · replace h := itp c13 h
    refine wp_iload dX9_policyOf_59 rfl ?_
    refine wp_iconst (v := (-1)) dX9_policyOf_61 (by decide) ?_
    refine wp_icmp_eq (tgt := 70) dX9_policyOf_62 (by decide) (fun c14 => ?_) (fun c14 => ?_)
    · replace h := itp c14 h
      refine wp_iload dX9_policyOf_70 rfl ?_
      refine wp_iconst (v := (-1)) dX9_policyOf_72 (by decide) ?_
      refine wp_icmp_eq (tgt := 81) dX9_policyOf_73 (by decide) (fun c15 => ?_) (fun c15 => ?_)
      · replace h := itp c15 h
        refine wp_iload_n dX9_policyOf_81 rfl ?_
        refine wp_if_ne (tgt := 90) dX9_policyOf_82 (by decide) (fun c16 => ?_) (fun c16 => ?_)
        · replace h := itn c16 h
          refine wp_iload_n dX9_policyOf_90 rfl ?_
          refine wp_iconst (v := 1) dX9_policyOf_91 (by decide) ?_
          refine wp_icmp_ne (tgt := 99) dX9_policyOf_92 (by decide) (fun c17 => ?_) (fun c17 => ?_)
          · replace h := itn c17 h
            refine wp_iconst (v := 0) dX9_policyOf_99 (by decide) ?_
            obtain ⟨q1, q2⟩ := sm_e h
            subst q1
            subst q2
            exact wp_ireturn rfl dX9_policyOf_100 ⟨rfl, rfl⟩
          · replace h := itp c17 h
            refine wp_iconst (v := 1) dX9_policyOf_95 (by decide) ?_
            refine wp_goto (tgt := 100) dX9_policyOf_96 (by decide) ?_
            obtain ⟨q1, q2⟩ := sm_e h
            subst q1
            subst q2
            exact wp_ireturn rfl dX9_policyOf_100 ⟨rfl, rfl⟩
        · replace h := itp c16 h
          refine wp_bipush (v := 20) dX9_policyOf_85 (by decide) ?_
          refine wp_goto (tgt := 100) dX9_policyOf_87 (by decide) ?_
          obtain ⟨q1, q2⟩ := sm_e h
          subst q1
          subst q2
          exact wp_ireturn rfl dX9_policyOf_100 ⟨rfl, rfl⟩
      · replace h := itn c15 h
        refine wp_iload dX9_policyOf_76 rfl ?_
        refine wp_goto (tgt := 100) dX9_policyOf_78 (by decide) ?_
        obtain ⟨q1, q2⟩ := sm_e h
        subst q1
        subst q2
        exact wp_ireturn rfl dX9_policyOf_100 ⟨rfl, rfl⟩
    · replace h := itn c14 h
      refine wp_iload dX9_policyOf_65 rfl ?_
      refine wp_goto (tgt := 100) dX9_policyOf_67 (by decide) ?_
      obtain ⟨q1, q2⟩ := sm_e h
      subst q1
      subst q2
      exact wp_ireturn rfl dX9_policyOf_100 ⟨rfl, rfl⟩
  · replace h := itn c13 h
    refine wp_iload dX9_policyOf_54 rfl ?_
    refine wp_goto (tgt := 100) dX9_policyOf_56 (by decide) ?_
    obtain ⟨q1, q2⟩ := sm_e h
    subst q1
    subst q2
    exact wp_ireturn rfl dX9_policyOf_100 ⟨rfl, rfl⟩
def l9_countOf_6 : Nat → Int32 → Int32 → Int32 → Int32 → Int32 → RH → Option (Int32 × RH)
  | 0, _, _, _, _, _, _ => none
  | n + 1, x1, x2, x3, x4, x5, rho =>
  if (rho 31 0) ≤ x5 then
    some (x4, rho)
  else
    if vq (x5) 400 then
    if (rho 36 (x5).toNatClampNeg) = x1 then
      ob (f9_in ((rho 37 (x5).toNatClampNeg)) (x2) (x3) rho) fun r4 rho5 =>
      if r4 = 0 then
        l9_countOf_6 n (x1) (x2) (x3) ((x4 + 0)) (x5 + 1) rho5
      else
        l9_countOf_6 n (x1) (x2) (x3) ((x4 + 1)) (x5 + 1) rho5
    else
      l9_countOf_6 n (x1) (x2) (x3) ((x4 + 0)) (x5 + 1) rho
    else none
theorem w9_countOf_6 {r : Int32} {rho9 : RH} (hfr : RA fr) : ∀ (n : Nat) {x1 x2 x3 x4 x5 : Int32} {rho : RH}, l9_countOf_6 n x1 x2 x3 x4 x5 rho = some (r, rho9) → WP mX9_countOf 1 0 6 [some (vR 9 0), some (vI (x1)), some (vI (x2)), some (vI (x3)), some (vI (x4)), some (vI (x5))] [] (lv, fr, fi, ai, ar, li, out, rho) (Po lv fr fi ai ar li out (some (vI r)) rho9) NX := by
  intro n
  induction n with
  | zero =>
    intro x1 x2 x3 x4 x5 rho h
    rw [l9_countOf_6] at h
    cases h
  | succ n ih =>
    intro x1 x2 x3 x4 x5 rho h
    rw [l9_countOf_6] at h
    refine wp_iload dX9_countOf_6 rfl ?_
    refine wp_aload_n dX9_countOf_8 rfl ?_
    refine wp_getRI (y := 31) (by decide) rfl fl_X9_217 dX9_countOf_9 ?_
    refine wp_icmp_ge (tgt := 57) dX9_countOf_12 (by decide) (fun c1 => ?_) (fun c1 => ?_)
    · replace h := itp c1 h
      refine wp_iload dX9_countOf_57 rfl ?_
      obtain ⟨q1, q2⟩ := sm_e h
      subst q1
      subst q2
      exact wp_ireturn rfl dX9_countOf_59 ⟨rfl, rfl⟩
    · replace h := itn c1 h
      refine wp_iload dX9_countOf_15 rfl ?_
      refine wp_aload_n dX9_countOf_17 rfl ?_
      refine wp_arrR (y := 36) (c := 236) hfr (by decide) rfl fl_X9_111 dX9_countOf_18 ?_
      refine wp_iload dX9_countOf_21 rfl ?_
      obtain ⟨c2, h⟩ := ock h
      refine wp_ialdR (c := 236) (y := 36) rfl rfl (show vp_in (x5) (len 236) from c2) dX9_countOf_23 ?_
      refine wp_iload_n dX9_countOf_24 rfl ?_
      refine wp_icmp_ne (tgt := 47) dX9_countOf_25 (by decide) (fun c3 => ?_) (fun c3 => ?_)
      · replace h := itn c3 h
        refine wp_iconst (v := 0) dX9_countOf_47 (by decide) ?_
        refine wp_iadd dX9_countOf_48 ?_
        refine wp_istore (L' := [some (vR 9 0), some (vI (x1)), some (vI (x2)), some (vI (x3)), some (vI ((x4 + 0))), some (vI (x5))]) dX9_countOf_49 rfl rfl ?_
        refine wp_iinc (v := x5 + 1) (L' := [some (vR 9 0), some (vI (x1)), some (vI (x2)), some (vI (x3)), some (vI ((x4 + 0))), some (vI (x5 + 1))]) dX9_countOf_51 rfl rfl rfl ?_
        refine wp_goto (tgt := 6) dX9_countOf_54 (by decide) ?_
        exact ih h
      · replace h := itp c3 h
        refine wp_aload_n dX9_countOf_28 rfl ?_
        refine wp_arrR (y := 37) (c := 237) hfr (by decide) rfl fl_X9_114 dX9_countOf_29 ?_
        refine wp_iload dX9_countOf_32 rfl ?_
        refine wp_ialdR (c := 237) (y := 37) rfl rfl (show vp_in (x5) (len 237) from c2) dX9_countOf_34 ?_
        refine wp_iload_n dX9_countOf_35 rfl ?_
        refine wp_iload_n dX9_countOf_36 rfl ?_
        obtain ⟨r4, rho5, hp6, h⟩ := ob_e h
        refine wp_callS (k1 := 0) (k2 := 0) (As := [vI ((rho 37 (x5).toNatClampNeg)), vI (x2), vI (x3)]) (rest := [vI (x4)]) (w9_in hfr hp6) okX9_in sm_X9_in rfl ml_X9_189 dX9_countOf_37 rfl (by decide) (Nat.le_refl _) rfl (Nat.le_of_ble_eq_true rfl) (fun _ _ z => z.elim) (fun r' S' z => ?_)
        obtain ⟨rfl, rfl⟩ := z
        show WP _ _ _ _ [some (vR 9 0), some (vI (x1)), some (vI (x2)), some (vI (x3)), some (vI (x4)), some (vI (x5))] [vI (r4), vI (x4)] _ _ _
        refine wp_if_eq (tgt := 47) dX9_countOf_40 (by decide) (fun c7 => ?_) (fun c7 => ?_)
        · replace h := itp c7 h
          refine wp_iconst (v := 0) dX9_countOf_47 (by decide) ?_
          refine wp_iadd dX9_countOf_48 ?_
          refine wp_istore (L' := [some (vR 9 0), some (vI (x1)), some (vI (x2)), some (vI (x3)), some (vI ((x4 + 0))), some (vI (x5))]) dX9_countOf_49 rfl rfl ?_
          refine wp_iinc (v := x5 + 1) (L' := [some (vR 9 0), some (vI (x1)), some (vI (x2)), some (vI (x3)), some (vI ((x4 + 0))), some (vI (x5 + 1))]) dX9_countOf_51 rfl rfl rfl ?_
          refine wp_goto (tgt := 6) dX9_countOf_54 (by decide) ?_
          exact ih h
        · replace h := itn c7 h
          refine wp_iconst (v := 1) dX9_countOf_43 (by decide) ?_
          refine wp_goto (tgt := 48) dX9_countOf_44 (by decide) ?_
          refine wp_iadd dX9_countOf_48 ?_
          refine wp_istore (L' := [some (vR 9 0), some (vI (x1)), some (vI (x2)), some (vI (x3)), some (vI ((x4 + 1))), some (vI (x5))]) dX9_countOf_49 rfl rfl ?_
          refine wp_iinc (v := x5 + 1) (L' := [some (vR 9 0), some (vI (x1)), some (vI (x2)), some (vI (x3)), some (vI ((x4 + 1))), some (vI (x5 + 1))]) dX9_countOf_51 rfl rfl rfl ?_
          refine wp_goto (tgt := 6) dX9_countOf_54 (by decide) ?_
          exact ih h
def f9_countOf (x1 x2 x3 : Int32) (rho : RH) : Option (Int32 × RH) :=
  l9_countOf_6 FU (x1) (x2) (x3) (0) (0) rho
theorem w9_countOf {r : Int32} {rho9 : RH} (hfr : RA fr) {x1 x2 x3 : Int32} {rho : RH} (h : f9_countOf x1 x2 x3 rho = some (r, rho9)) : Spec mX9_countOf 1 0 [vR 9 0, vI x1, vI x2, vI x3] (lv, fr, fi, ai, ar, li, out, rho) (Po lv fr fi ai ar li out (some (vI r)) rho9) NX := by
  unfold f9_countOf at h
  refine spec_of (by decide) rfl (by simp [catS, cat1]) (Nat.le_of_ble_eq_true rfl) ?_
  show WP mX9_countOf 1 0 0 [some (vR 9 0), some (vI (x1)), some (vI (x2)), some (vI (x3)), none, none] [] (lv, fr, fi, ai, ar, li, out, rho) (Po lv fr fi ai ar li out (some (vI r)) rho9) NX
  refine wp_iconst (v := 0) dX9_countOf_0 (by decide) ?_
  refine wp_istore (L' := [some (vR 9 0), some (vI (x1)), some (vI (x2)), some (vI (x3)), some (vI (0)), none]) dX9_countOf_1 rfl rfl ?_
  refine wp_iconst (v := 0) dX9_countOf_3 (by decide) ?_
  refine wp_istore (L' := [some (vR 9 0), some (vI (x1)), some (vI (x2)), some (vI (x3)), some (vI (0)), some (vI (0))]) dX9_countOf_4 rfl rfl ?_
  exact w9_countOf_6 hfr FU h
def f9_runs (x1 : Int32) (rho : RH) : Option (Int32 × RH) :=
  if vq (x1) 400 then
  wr (up2 rho 37 (x1).toNatClampNeg (1)) fun rho2 =>
  wr (up2 rho2 41 (x1).toNatClampNeg (1)) fun rho4 =>
  if vq ((rho4 34 (x1).toNatClampNeg)) 6 then
  if vq (((4 * (rho4 36 (x1).toNatClampNeg)) + 0)) 48 then
  if 1 ≤ ((rho4 1 ((rho4 34 (x1).toNatClampNeg)).toNatClampNeg) + (rho4 13 (((4 * (rho4 36 (x1).toNatClampNeg)) + 0)).toNatClampNeg)) then
    wr (up2 rho4 39 (x1).toNatClampNeg (((rho4 0 0) + ((rho4 1 ((rho4 34 (x1).toNatClampNeg)).toNatClampNeg) + (rho4 13 (((4 * (rho4 36 (x1).toNatClampNeg)) + 0)).toNatClampNeg))))) fun rho9 =>
    some (0, rho9)
  else
    wr (up2 rho4 39 (x1).toNatClampNeg (((rho4 0 0) + 1))) fun rho11 =>
    some (0, rho11)
  else none
  else none
  else none
theorem w9_runs {r : Int32} {rho9 : RH} (hfr : RA fr) {x1 : Int32} {rho : RH} (h : f9_runs x1 rho = some (r, rho9)) : Spec mX9_runs 0 0 [vR 9 0, vI x1] (lv, fr, fi, ai, ar, li, out, rho) (Po lv fr fi ai ar li out (none) rho9) NX := by
  unfold f9_runs at h
  refine spec_of (by decide) rfl (by simp [catS, cat1]) (Nat.le_of_ble_eq_true rfl) ?_
  show WP mX9_runs 0 0 0 [some (vR 9 0), some (vI (x1)), none] [] (lv, fr, fi, ai, ar, li, out, rho) (Po lv fr fi ai ar li out (none) rho9) NX
  refine wp_aload_n dX9_runs_0 rfl ?_
  refine wp_arrR (y := 37) (c := 237) hfr (by decide) rfl fl_X9_114 dX9_runs_1 ?_
  refine wp_iload_n dX9_runs_4 rfl ?_
  refine wp_iconst (v := 1) dX9_runs_5 (by decide) ?_
  obtain ⟨c1, h⟩ := ock h
  refine wp_iastR (c := 237) (y := 37) rfl rfl (show vp_in (x1) (len 237) from c1) dX9_runs_6 ?_
  obtain ⟨rho2, e3, h⟩ := wr_e h
  rw [e3]
  refine wp_aload_n dX9_runs_7 rfl ?_
  refine wp_arrR (y := 41) (c := 241) hfr (by decide) rfl fl_X9_126 dX9_runs_8 ?_
  refine wp_iload_n dX9_runs_11 rfl ?_
  refine wp_iconst (v := 1) dX9_runs_12 (by decide) ?_
  refine wp_bastR (c := 241) (y := 41) rfl rfl (show vp_in (x1) (len 241) from c1) (by decide) dX9_runs_13 ?_
  obtain ⟨rho4, e5, h⟩ := wr_e h
  rw [e5]
  refine wp_aload_n dX9_runs_14 rfl ?_
  refine wp_arrR (y := 1) (c := 201) hfr (by decide) rfl fl_X9_7 dX9_runs_15 ?_
  refine wp_aload_n dX9_runs_18 rfl ?_
  refine wp_arrR (y := 34) (c := 234) hfr (by decide) rfl fl_X9_105 dX9_runs_19 ?_
  refine wp_iload_n dX9_runs_22 rfl ?_
  refine wp_ialdR (c := 234) (y := 34) rfl rfl (show vp_in (x1) (len 234) from c1) dX9_runs_23 ?_
  obtain ⟨c6, h⟩ := ock h
  refine wp_ialdR (c := 201) (y := 1) rfl rfl (show vp_in ((rho4 34 (x1).toNatClampNeg)) (len 201) from c6) dX9_runs_24 ?_
  refine wp_aload_n dX9_runs_25 rfl ?_
  refine wp_arrR (y := 13) (c := 213) hfr (by decide) rfl fl_X9_44 dX9_runs_26 ?_
  refine wp_iconst (v := 4) dX9_runs_29 (by decide) ?_
  refine wp_aload_n dX9_runs_30 rfl ?_
  refine wp_arrR (y := 36) (c := 236) hfr (by decide) rfl fl_X9_111 dX9_runs_31 ?_
  refine wp_iload_n dX9_runs_34 rfl ?_
  refine wp_ialdR (c := 236) (y := 36) rfl rfl (show vp_in (x1) (len 236) from c1) dX9_runs_35 ?_
  refine wp_imul dX9_runs_36 ?_
  refine wp_iconst (v := 0) dX9_runs_37 (by decide) ?_
  refine wp_iadd dX9_runs_38 ?_
  obtain ⟨c7, h⟩ := ock h
  refine wp_ialdR (c := 213) (y := 13) rfl rfl (show vp_in (((4 * (rho4 36 (x1).toNatClampNeg)) + 0)) (len 213) from c7) dX9_runs_39 ?_
  refine wp_iadd dX9_runs_40 ?_
  refine wp_istore_n (L' := [some (vR 9 0), some (vI (x1)), some (vI (((rho4 1 ((rho4 34 (x1).toNatClampNeg)).toNatClampNeg) + (rho4 13 (((4 * (rho4 36 (x1).toNatClampNeg)) + 0)).toNatClampNeg))))]) dX9_runs_41 rfl rfl ?_
  refine wp_aload_n dX9_runs_42 rfl ?_
  refine wp_arrR (y := 39) (c := 239) hfr (by decide) rfl fl_X9_120 dX9_runs_43 ?_
  refine wp_iload_n dX9_runs_46 rfl ?_
  refine wp_aload_n dX9_runs_47 rfl ?_
  refine wp_getRI (y := 0) (by decide) rfl fl_X9_220 dX9_runs_48 ?_
  refine wp_iload_n dX9_runs_51 rfl ?_
  refine wp_iconst (v := 1) dX9_runs_52 (by decide) ?_
  refine wp_icmp_ge (tgt := 60) dX9_runs_53 (by decide) (fun c8 => ?_) (fun c8 => ?_)
  · replace h := itp c8 h
    refine wp_iload_n dX9_runs_60 rfl ?_
    refine wp_iadd dX9_runs_61 ?_
    refine wp_iastR (c := 239) (y := 39) rfl rfl (show vp_in (x1) (len 239) from c1) dX9_runs_62 ?_
    obtain ⟨rho9, e10, h⟩ := wr_e h
    rw [e10]
    obtain ⟨q1, q2⟩ := sm_e h
    subst q2
    exact wp_return rfl dX9_runs_63 ⟨rfl, rfl⟩
  · replace h := itn c8 h
    refine wp_iconst (v := 1) dX9_runs_56 (by decide) ?_
    refine wp_goto (tgt := 61) dX9_runs_57 (by decide) ?_
    refine wp_iadd dX9_runs_61 ?_
    refine wp_iastR (c := 239) (y := 39) rfl rfl (show vp_in (x1) (len 239) from c1) dX9_runs_62 ?_
    obtain ⟨rho11, e12, h⟩ := wr_e h
    rw [e12]
    obtain ⟨q1, q2⟩ := sm_e h
    subst q2
    exact wp_return rfl dX9_runs_63 ⟨rfl, rfl⟩
def f9_setsEnd (x1 x2 : Int32) (rho : RH) : Option (Int32 × RH) :=
  if vq (x1) 400 then
  wr (up2 rho 37 (x1).toNatClampNeg (x2)) fun rho2 =>
  if vq (((4 * (rho2 36 (x1).toNatClampNeg)) + 2)) 48 then
  if (rho2 13 (((4 * (rho2 36 (x1).toNatClampNeg)) + 2)).toNatClampNeg) = 1 then
    if x2 = 3 then
      wr (up2 rho2 42 (x1).toNatClampNeg (1)) fun rho7 =>
      some (0, rho7)
    else
      if x2 = 4 then
        wr (up2 rho2 42 (x1).toNatClampNeg (1)) fun rho10 =>
        some (0, rho10)
      else
        if x2 = 6 then
          wr (up2 rho2 42 (x1).toNatClampNeg (1)) fun rho13 =>
          some (0, rho13)
        else
          wr (up2 rho2 42 (x1).toNatClampNeg (0)) fun rho15 =>
          some (0, rho15)
  else
    wr (up2 rho2 42 (x1).toNatClampNeg (0)) fun rho17 =>
    some (0, rho17)
  else none
  else none
theorem w9_setsEnd {r : Int32} {rho9 : RH} (hfr : RA fr) {x1 x2 : Int32} {rho : RH} (h : f9_setsEnd x1 x2 rho = some (r, rho9)) : Spec mX9_setsEnd 0 0 [vR 9 0, vI x1, vI x2] (lv, fr, fi, ai, ar, li, out, rho) (Po lv fr fi ai ar li out (none) rho9) NX := by
  unfold f9_setsEnd at h
  refine spec_of (by decide) rfl (by simp [catS, cat1]) (Nat.le_of_ble_eq_true rfl) ?_
  show WP mX9_setsEnd 0 0 0 [some (vR 9 0), some (vI (x1)), some (vI (x2))] [] (lv, fr, fi, ai, ar, li, out, rho) (Po lv fr fi ai ar li out (none) rho9) NX
  refine wp_aload_n dX9_setsEnd_0 rfl ?_
  refine wp_arrR (y := 37) (c := 237) hfr (by decide) rfl fl_X9_114 dX9_setsEnd_1 ?_
  refine wp_iload_n dX9_setsEnd_4 rfl ?_
  refine wp_iload_n dX9_setsEnd_5 rfl ?_
  obtain ⟨c1, h⟩ := ock h
  refine wp_iastR (c := 237) (y := 37) rfl rfl (show vp_in (x1) (len 237) from c1) dX9_setsEnd_6 ?_
  obtain ⟨rho2, e3, h⟩ := wr_e h
  rw [e3]
  refine wp_aload_n dX9_setsEnd_7 rfl ?_
  refine wp_arrR (y := 42) (c := 242) hfr (by decide) rfl fl_X9_129 dX9_setsEnd_8 ?_
  refine wp_iload_n dX9_setsEnd_11 rfl ?_
  refine wp_aload_n dX9_setsEnd_12 rfl ?_
  refine wp_arrR (y := 13) (c := 213) hfr (by decide) rfl fl_X9_44 dX9_setsEnd_13 ?_
  refine wp_iconst (v := 4) dX9_setsEnd_16 (by decide) ?_
  refine wp_aload_n dX9_setsEnd_17 rfl ?_
  refine wp_arrR (y := 36) (c := 236) hfr (by decide) rfl fl_X9_111 dX9_setsEnd_18 ?_
  refine wp_iload_n dX9_setsEnd_21 rfl ?_
  refine wp_ialdR (c := 236) (y := 36) rfl rfl (show vp_in (x1) (len 236) from c1) dX9_setsEnd_22 ?_
  refine wp_imul dX9_setsEnd_23 ?_
  refine wp_iconst (v := 2) dX9_setsEnd_24 (by decide) ?_
  refine wp_iadd dX9_setsEnd_25 ?_
  obtain ⟨c4, h⟩ := ock h
  refine wp_ialdR (c := 213) (y := 13) rfl rfl (show vp_in (((4 * (rho2 36 (x1).toNatClampNeg)) + 2)) (len 213) from c4) dX9_setsEnd_26 ?_
  refine wp_iconst (v := 1) dX9_setsEnd_27 (by decide) ?_
  refine wp_icmp_ne (tgt := 51) dX9_setsEnd_28 (by decide) (fun c5 => ?_) (fun c5 => ?_)
  · replace h := itn c5 h
    refine wp_iconst (v := 0) dX9_setsEnd_51 (by decide) ?_
    refine wp_bastR (c := 242) (y := 42) rfl rfl (show vp_in (x1) (len 242) from c1) (by decide) dX9_setsEnd_52 ?_
    obtain ⟨rho17, e18, h⟩ := wr_e h
    rw [e18]
    obtain ⟨q1, q2⟩ := sm_e h
    subst q2
    exact wp_return rfl dX9_setsEnd_53 ⟨rfl, rfl⟩
  · replace h := itp c5 h
    refine wp_iload_n dX9_setsEnd_31 rfl ?_
    refine wp_iconst (v := 3) dX9_setsEnd_32 (by decide) ?_
    refine wp_icmp_eq (tgt := 47) dX9_setsEnd_33 (by decide) (fun c6 => ?_) (fun c6 => ?_)
    · replace h := itp c6 h
      refine wp_iconst (v := 1) dX9_setsEnd_47 (by decide) ?_
      refine wp_goto (tgt := 52) dX9_setsEnd_48 (by decide) ?_
      refine wp_bastR (c := 242) (y := 42) rfl rfl (show vp_in (x1) (len 242) from c1) (by decide) dX9_setsEnd_52 ?_
      obtain ⟨rho7, e8, h⟩ := wr_e h
      rw [e8]
      obtain ⟨q1, q2⟩ := sm_e h
      subst q2
      exact wp_return rfl dX9_setsEnd_53 ⟨rfl, rfl⟩
    · replace h := itn c6 h
      refine wp_iload_n dX9_setsEnd_36 rfl ?_
      refine wp_iconst (v := 4) dX9_setsEnd_37 (by decide) ?_
      refine wp_icmp_eq (tgt := 47) dX9_setsEnd_38 (by decide) (fun c9 => ?_) (fun c9 => ?_)
      · replace h := itp c9 h
        refine wp_iconst (v := 1) dX9_setsEnd_47 (by decide) ?_
        refine wp_goto (tgt := 52) dX9_setsEnd_48 (by decide) ?_
        refine wp_bastR (c := 242) (y := 42) rfl rfl (show vp_in (x1) (len 242) from c1) (by decide) dX9_setsEnd_52 ?_
        obtain ⟨rho10, e11, h⟩ := wr_e h
        rw [e11]
        obtain ⟨q1, q2⟩ := sm_e h
        subst q2
        exact wp_return rfl dX9_setsEnd_53 ⟨rfl, rfl⟩
      · replace h := itn c9 h
        refine wp_iload_n dX9_setsEnd_41 rfl ?_
        refine wp_bipush (v := 6) dX9_setsEnd_42 (by decide) ?_
        refine wp_icmp_ne (tgt := 51) dX9_setsEnd_44 (by decide) (fun c12 => ?_) (fun c12 => ?_)
        · replace h := itn c12 h
          refine wp_iconst (v := 0) dX9_setsEnd_51 (by decide) ?_
          refine wp_bastR (c := 242) (y := 42) rfl rfl (show vp_in (x1) (len 242) from c1) (by decide) dX9_setsEnd_52 ?_
          obtain ⟨rho15, e16, h⟩ := wr_e h
          rw [e16]
          obtain ⟨q1, q2⟩ := sm_e h
          subst q2
          exact wp_return rfl dX9_setsEnd_53 ⟨rfl, rfl⟩
        · replace h := itp c12 h
          refine wp_iconst (v := 1) dX9_setsEnd_47 (by decide) ?_
          refine wp_goto (tgt := 52) dX9_setsEnd_48 (by decide) ?_
          refine wp_bastR (c := 242) (y := 42) rfl rfl (show vp_in (x1) (len 242) from c1) (by decide) dX9_setsEnd_52 ?_
          obtain ⟨rho13, e14, h⟩ := wr_e h
          rw [e14]
          obtain ⟨q1, q2⟩ := sm_e h
          subst q2
          exact wp_return rfl dX9_setsEnd_53 ⟨rfl, rfl⟩
def f9_judges (x1 x2 x3 : Int32) (rho : RH) : Option (Int32 × RH) :=
  if vq (x1) 6 then
  if (rho 25 (x1).toNatClampNeg) ≤ 0 then
    some (0, rho)
  else
    if vq (((2 * x1) + x2)) 12 then
    wr (up2 rho 27 (((2 * x1) + x2)).toNatClampNeg (((rho 27 (((2 * x1) + x2)).toNatClampNeg) + 1))) fun rho4 =>
    if x3 = 3 then
      wr (up2 rho4 28 (((2 * x1) + x2)).toNatClampNeg (((rho4 28 (((2 * x1) + x2)).toNatClampNeg) + 0))) fun rho7 =>
      if vq (((2 * x1) + 1)) 12 then
      if (rho7 27 (((2 * x1) + 1)).toNatClampNeg) < 5 then
        some (0, rho7)
      else
        if (rho7 28 (((2 * x1) + 1)).toNatClampNeg) < 2 then
          some (0, rho7)
        else
          if vq ((((2 * x1) + 1) - 1)) 12 then
          if ((rho7 28 (((2 * x1) + 1)).toNatClampNeg) * (rho7 27 ((((2 * x1) + 1) - 1)).toNatClampNeg)) ≤ ((2 * (rho7 28 ((((2 * x1) + 1) - 1)).toNatClampNeg)) * (rho7 27 (((2 * x1) + 1)).toNatClampNeg)) then
            some (0, rho7)
          else
            wr (up2 rho7 25 (x1).toNatClampNeg (0)) fun rho14 =>
            some (0, rho14)
          else none
      else none
    else
      wr (up2 rho4 28 (((2 * x1) + x2)).toNatClampNeg (((rho4 28 (((2 * x1) + x2)).toNatClampNeg) + 1))) fun rho16 =>
      if vq (((2 * x1) + 1)) 12 then
      if (rho16 27 (((2 * x1) + 1)).toNatClampNeg) < 5 then
        some (0, rho16)
      else
        if (rho16 28 (((2 * x1) + 1)).toNatClampNeg) < 2 then
          some (0, rho16)
        else
          if vq ((((2 * x1) + 1) - 1)) 12 then
          if ((rho16 28 (((2 * x1) + 1)).toNatClampNeg) * (rho16 27 ((((2 * x1) + 1) - 1)).toNatClampNeg)) ≤ ((2 * (rho16 28 ((((2 * x1) + 1) - 1)).toNatClampNeg)) * (rho16 27 (((2 * x1) + 1)).toNatClampNeg)) then
            some (0, rho16)
          else
            wr (up2 rho16 25 (x1).toNatClampNeg (0)) fun rho23 =>
            some (0, rho23)
          else none
      else none
    else none
  else none
theorem w9_judges {r : Int32} {rho9 : RH} (hfr : RA fr) {x1 x2 x3 : Int32} {rho : RH} (h : f9_judges x1 x2 x3 rho = some (r, rho9)) : Spec mX9_judges 0 0 [vR 9 0, vI x1, vI x2, vI x3] (lv, fr, fi, ai, ar, li, out, rho) (Po lv fr fi ai ar li out (none) rho9) NX := by
  unfold f9_judges at h
  refine spec_of (by decide) rfl (by simp [catS, cat1]) (Nat.le_of_ble_eq_true rfl) ?_
  show WP mX9_judges 0 0 0 [some (vR 9 0), some (vI (x1)), some (vI (x2)), some (vI (x3)), none] [] (lv, fr, fi, ai, ar, li, out, rho) (Po lv fr fi ai ar li out (none) rho9) NX
  refine wp_aload_n dX9_judges_0 rfl ?_
  refine wp_arrR (y := 25) (c := 225) hfr (by decide) rfl fl_X9_81 dX9_judges_1 ?_
  refine wp_iload_n dX9_judges_4 rfl ?_
  obtain ⟨c1, h⟩ := ock h
  refine wp_ialdR (c := 225) (y := 25) rfl rfl (show vp_in (x1) (len 225) from c1) dX9_judges_5 ?_
  refine wp_if_le (tgt := 121) dX9_judges_6 (by decide) (fun c2 => ?_) (fun c2 => ?_)
  · replace h := itp c2 h
    obtain ⟨q1, q2⟩ := sm_e h
    subst q2
    exact wp_return rfl dX9_judges_121 ⟨rfl, rfl⟩
  · replace h := itn c2 h
    refine wp_iconst (v := 2) dX9_judges_9 (by decide) ?_
    refine wp_iload_n dX9_judges_10 rfl ?_
    refine wp_imul dX9_judges_11 ?_
    refine wp_iconst (v := 1) dX9_judges_12 (by decide) ?_
    refine wp_iadd dX9_judges_13 ?_
    refine wp_istore (L' := [some (vR 9 0), some (vI (x1)), some (vI (x2)), some (vI (x3)), some (vI (((2 * x1) + 1)))]) dX9_judges_14 rfl rfl ?_
    refine wp_aload_n dX9_judges_16 rfl ?_
    refine wp_arrR (y := 27) (c := 227) hfr (by decide) rfl fl_X9_87 dX9_judges_17 ?_
    refine wp_iconst (v := 2) dX9_judges_20 (by decide) ?_
    refine wp_iload_n dX9_judges_21 rfl ?_
    refine wp_imul dX9_judges_22 ?_
    refine wp_iload_n dX9_judges_23 rfl ?_
    refine wp_iadd dX9_judges_24 ?_
    refine wp_dup2 dX9_judges_25 trivial trivial ?_
    obtain ⟨c3, h⟩ := ock h
    refine wp_ialdR (c := 227) (y := 27) rfl rfl (show vp_in (((2 * x1) + x2)) (len 227) from c3) dX9_judges_26 ?_
    refine wp_iconst (v := 1) dX9_judges_27 (by decide) ?_
    refine wp_iadd dX9_judges_28 ?_
    refine wp_iastR (c := 227) (y := 27) rfl rfl (show vp_in (((2 * x1) + x2)) (len 227) from c3) dX9_judges_29 ?_
    obtain ⟨rho4, e5, h⟩ := wr_e h
    rw [e5]
    refine wp_aload_n dX9_judges_30 rfl ?_
    refine wp_arrR (y := 28) (c := 228) hfr (by decide) rfl fl_X9_90 dX9_judges_31 ?_
    refine wp_iconst (v := 2) dX9_judges_34 (by decide) ?_
    refine wp_iload_n dX9_judges_35 rfl ?_
    refine wp_imul dX9_judges_36 ?_
    refine wp_iload_n dX9_judges_37 rfl ?_
    refine wp_iadd dX9_judges_38 ?_
    refine wp_dup2 dX9_judges_39 trivial trivial ?_
    refine wp_ialdR (c := 228) (y := 28) rfl rfl (show vp_in (((2 * x1) + x2)) (len 228) from c3) dX9_judges_40 ?_
    refine wp_iload_n dX9_judges_41 rfl ?_
    refine wp_iconst (v := 3) dX9_judges_42 (by decide) ?_
    refine wp_icmp_ne (tgt := 50) dX9_judges_43 (by decide) (fun c6 => ?_) (fun c6 => ?_)
    · replace h := itn c6 h
      refine wp_iconst (v := 1) dX9_judges_50 (by decide) ?_
      refine wp_iadd dX9_judges_51 ?_
      refine wp_iastR (c := 228) (y := 28) rfl rfl (show vp_in (((2 * x1) + x2)) (len 228) from c3) dX9_judges_52 ?_
      obtain ⟨rho16, e17, h⟩ := wr_e h
      rw [e17]
      refine wp_aload_n dX9_judges_53 rfl ?_
      refine wp_arrR (y := 27) (c := 227) hfr (by decide) rfl fl_X9_87 dX9_judges_54 ?_
      refine wp_iload dX9_judges_57 rfl ?_
      obtain ⟨c18, h⟩ := ock h
      refine wp_ialdR (c := 227) (y := 27) rfl rfl (show vp_in (((2 * x1) + 1)) (len 227) from c18) dX9_judges_59 ?_
      refine wp_iconst (v := 5) dX9_judges_60 (by decide) ?_
      refine wp_icmp_lt (tgt := 121) dX9_judges_61 (by decide) (fun c19 => ?_) (fun c19 => ?_)
      · replace h := itp c19 h
        obtain ⟨q1, q2⟩ := sm_e h
        subst q2
        exact wp_return rfl dX9_judges_121 ⟨rfl, rfl⟩
      · replace h := itn c19 h
        refine wp_aload_n dX9_judges_64 rfl ?_
        refine wp_arrR (y := 28) (c := 228) hfr (by decide) rfl fl_X9_90 dX9_judges_65 ?_
        refine wp_iload dX9_judges_68 rfl ?_
        refine wp_ialdR (c := 228) (y := 28) rfl rfl (show vp_in (((2 * x1) + 1)) (len 228) from c18) dX9_judges_70 ?_
        refine wp_iconst (v := 2) dX9_judges_71 (by decide) ?_
        refine wp_icmp_lt (tgt := 121) dX9_judges_72 (by decide) (fun c20 => ?_) (fun c20 => ?_)
        · replace h := itp c20 h
          obtain ⟨q1, q2⟩ := sm_e h
          subst q2
          exact wp_return rfl dX9_judges_121 ⟨rfl, rfl⟩
        · replace h := itn c20 h
          refine wp_aload_n dX9_judges_75 rfl ?_
          refine wp_arrR (y := 28) (c := 228) hfr (by decide) rfl fl_X9_90 dX9_judges_76 ?_
          refine wp_iload dX9_judges_79 rfl ?_
          refine wp_ialdR (c := 228) (y := 28) rfl rfl (show vp_in (((2 * x1) + 1)) (len 228) from c18) dX9_judges_81 ?_
          refine wp_aload_n dX9_judges_82 rfl ?_
          refine wp_arrR (y := 27) (c := 227) hfr (by decide) rfl fl_X9_87 dX9_judges_83 ?_
          refine wp_iload dX9_judges_86 rfl ?_
          refine wp_iconst (v := 1) dX9_judges_88 (by decide) ?_
          refine wp_isub dX9_judges_89 ?_
          obtain ⟨c21, h⟩ := ock h
          refine wp_ialdR (c := 227) (y := 27) rfl rfl (show vp_in ((((2 * x1) + 1) - 1)) (len 227) from c21) dX9_judges_90 ?_
          refine wp_imul dX9_judges_91 ?_
          refine wp_iconst (v := 2) dX9_judges_92 (by decide) ?_
          refine wp_aload_n dX9_judges_93 rfl ?_
          refine wp_arrR (y := 28) (c := 228) hfr (by decide) rfl fl_X9_90 dX9_judges_94 ?_
          refine wp_iload dX9_judges_97 rfl ?_
          refine wp_iconst (v := 1) dX9_judges_99 (by decide) ?_
          refine wp_isub dX9_judges_100 ?_
          refine wp_ialdR (c := 228) (y := 28) rfl rfl (show vp_in ((((2 * x1) + 1) - 1)) (len 228) from c21) dX9_judges_101 ?_
          refine wp_imul dX9_judges_102 ?_
          refine wp_aload_n dX9_judges_103 rfl ?_
          refine wp_arrR (y := 27) (c := 227) hfr (by decide) rfl fl_X9_87 dX9_judges_104 ?_
          refine wp_iload dX9_judges_107 rfl ?_
          refine wp_ialdR (c := 227) (y := 27) rfl rfl (show vp_in (((2 * x1) + 1)) (len 227) from c18) dX9_judges_109 ?_
          refine wp_imul dX9_judges_110 ?_
          refine wp_icmp_le (tgt := 121) dX9_judges_111 (by decide) (fun c22 => ?_) (fun c22 => ?_)
          · replace h := itp c22 h
            obtain ⟨q1, q2⟩ := sm_e h
            subst q2
            exact wp_return rfl dX9_judges_121 ⟨rfl, rfl⟩
          · replace h := itn c22 h
            refine wp_aload_n dX9_judges_114 rfl ?_
            refine wp_arrR (y := 25) (c := 225) hfr (by decide) rfl fl_X9_81 dX9_judges_115 ?_
            refine wp_iload_n dX9_judges_118 rfl ?_
            refine wp_iconst (v := 0) dX9_judges_119 (by decide) ?_
            refine wp_iastR (c := 225) (y := 25) rfl rfl (show vp_in (x1) (len 225) from c1) dX9_judges_120 ?_
            obtain ⟨rho23, e24, h⟩ := wr_e h
            rw [e24]
            obtain ⟨q1, q2⟩ := sm_e h
            subst q2
            exact wp_return rfl dX9_judges_121 ⟨rfl, rfl⟩
    · replace h := itp c6 h
      refine wp_iconst (v := 0) dX9_judges_46 (by decide) ?_
      refine wp_goto (tgt := 51) dX9_judges_47 (by decide) ?_
      refine wp_iadd dX9_judges_51 ?_
      refine wp_iastR (c := 228) (y := 28) rfl rfl (show vp_in (((2 * x1) + x2)) (len 228) from c3) dX9_judges_52 ?_
      obtain ⟨rho7, e8, h⟩ := wr_e h
      rw [e8]
      refine wp_aload_n dX9_judges_53 rfl ?_
      refine wp_arrR (y := 27) (c := 227) hfr (by decide) rfl fl_X9_87 dX9_judges_54 ?_
      refine wp_iload dX9_judges_57 rfl ?_
      obtain ⟨c9, h⟩ := ock h
      refine wp_ialdR (c := 227) (y := 27) rfl rfl (show vp_in (((2 * x1) + 1)) (len 227) from c9) dX9_judges_59 ?_
      refine wp_iconst (v := 5) dX9_judges_60 (by decide) ?_
      refine wp_icmp_lt (tgt := 121) dX9_judges_61 (by decide) (fun c10 => ?_) (fun c10 => ?_)
      · replace h := itp c10 h
        obtain ⟨q1, q2⟩ := sm_e h
        subst q2
        exact wp_return rfl dX9_judges_121 ⟨rfl, rfl⟩
      · replace h := itn c10 h
        refine wp_aload_n dX9_judges_64 rfl ?_
        refine wp_arrR (y := 28) (c := 228) hfr (by decide) rfl fl_X9_90 dX9_judges_65 ?_
        refine wp_iload dX9_judges_68 rfl ?_
        refine wp_ialdR (c := 228) (y := 28) rfl rfl (show vp_in (((2 * x1) + 1)) (len 228) from c9) dX9_judges_70 ?_
        refine wp_iconst (v := 2) dX9_judges_71 (by decide) ?_
        refine wp_icmp_lt (tgt := 121) dX9_judges_72 (by decide) (fun c11 => ?_) (fun c11 => ?_)
        · replace h := itp c11 h
          obtain ⟨q1, q2⟩ := sm_e h
          subst q2
          exact wp_return rfl dX9_judges_121 ⟨rfl, rfl⟩
        · replace h := itn c11 h
          refine wp_aload_n dX9_judges_75 rfl ?_
          refine wp_arrR (y := 28) (c := 228) hfr (by decide) rfl fl_X9_90 dX9_judges_76 ?_
          refine wp_iload dX9_judges_79 rfl ?_
          refine wp_ialdR (c := 228) (y := 28) rfl rfl (show vp_in (((2 * x1) + 1)) (len 228) from c9) dX9_judges_81 ?_
          refine wp_aload_n dX9_judges_82 rfl ?_
          refine wp_arrR (y := 27) (c := 227) hfr (by decide) rfl fl_X9_87 dX9_judges_83 ?_
          refine wp_iload dX9_judges_86 rfl ?_
          refine wp_iconst (v := 1) dX9_judges_88 (by decide) ?_
          refine wp_isub dX9_judges_89 ?_
          obtain ⟨c12, h⟩ := ock h
          refine wp_ialdR (c := 227) (y := 27) rfl rfl (show vp_in ((((2 * x1) + 1) - 1)) (len 227) from c12) dX9_judges_90 ?_
          refine wp_imul dX9_judges_91 ?_
          refine wp_iconst (v := 2) dX9_judges_92 (by decide) ?_
          refine wp_aload_n dX9_judges_93 rfl ?_
          refine wp_arrR (y := 28) (c := 228) hfr (by decide) rfl fl_X9_90 dX9_judges_94 ?_
          refine wp_iload dX9_judges_97 rfl ?_
          refine wp_iconst (v := 1) dX9_judges_99 (by decide) ?_
          refine wp_isub dX9_judges_100 ?_
          refine wp_ialdR (c := 228) (y := 28) rfl rfl (show vp_in ((((2 * x1) + 1) - 1)) (len 228) from c12) dX9_judges_101 ?_
          refine wp_imul dX9_judges_102 ?_
          refine wp_aload_n dX9_judges_103 rfl ?_
          refine wp_arrR (y := 27) (c := 227) hfr (by decide) rfl fl_X9_87 dX9_judges_104 ?_
          refine wp_iload dX9_judges_107 rfl ?_
          refine wp_ialdR (c := 227) (y := 27) rfl rfl (show vp_in (((2 * x1) + 1)) (len 227) from c9) dX9_judges_109 ?_
          refine wp_imul dX9_judges_110 ?_
          refine wp_icmp_le (tgt := 121) dX9_judges_111 (by decide) (fun c13 => ?_) (fun c13 => ?_)
          · replace h := itp c13 h
            obtain ⟨q1, q2⟩ := sm_e h
            subst q2
            exact wp_return rfl dX9_judges_121 ⟨rfl, rfl⟩
          · replace h := itn c13 h
            refine wp_aload_n dX9_judges_114 rfl ?_
            refine wp_arrR (y := 25) (c := 225) hfr (by decide) rfl fl_X9_81 dX9_judges_115 ?_
            refine wp_iload_n dX9_judges_118 rfl ?_
            refine wp_iconst (v := 0) dX9_judges_119 (by decide) ?_
            refine wp_iastR (c := 225) (y := 25) rfl rfl (show vp_in (x1) (len 225) from c1) dX9_judges_120 ?_
            obtain ⟨rho14, e15, h⟩ := wr_e h
            rw [e15]
            obtain ⟨q1, q2⟩ := sm_e h
            subst q2
            exact wp_return rfl dX9_judges_121 ⟨rfl, rfl⟩
def b9_looksAt_175 (x1 x2 : Int32) (rho : RH) : Option (Int32 × RH) :=
  if vq (x1) 400 then
  if vq ((rho 36 (x1).toNatClampNeg)) 12 then
  ob (f9_judges ((rho 34 (x1).toNatClampNeg)) ((rho 12 ((rho 36 (x1).toNatClampNeg)).toNatClampNeg)) (x2) rho) fun _ rho4 =>
  if x2 = 3 then
    some (1, rho4)
  else
    some (0, rho4)
  else none
  else none
theorem w9_looksAt_175 {r : Int32} {rho9 : RH} (hfr : RA fr) {x1 x2 : Int32} {l3 l4 : Option sV} {rho : RH} (h : b9_looksAt_175 x1 x2 rho = some (r, rho9)) : WP mX9_looksAt 1 0 175 [some (vR 9 0), some (vI (x1)), some (vI (x2)), l3, l4] [] (lv, fr, fi, ai, ar, li, out, rho) (Po lv fr fi ai ar li out (some (vI r)) rho9) NX := by
  unfold b9_looksAt_175 at h
  refine wp_aload_n dX9_looksAt_175 rfl ?_
  refine wp_aload_n dX9_looksAt_176 rfl ?_
  refine wp_arrR (y := 34) (c := 234) hfr (by decide) rfl fl_X9_105 dX9_looksAt_177 ?_
  refine wp_iload_n dX9_looksAt_180 rfl ?_
  obtain ⟨c1, h⟩ := ock h
  refine wp_ialdR (c := 234) (y := 34) rfl rfl (show vp_in (x1) (len 234) from c1) dX9_looksAt_181 ?_
  refine wp_aload_n dX9_looksAt_182 rfl ?_
  refine wp_arrR (y := 12) (c := 212) hfr (by decide) rfl fl_X9_41 dX9_looksAt_183 ?_
  refine wp_aload_n dX9_looksAt_186 rfl ?_
  refine wp_arrR (y := 36) (c := 236) hfr (by decide) rfl fl_X9_111 dX9_looksAt_187 ?_
  refine wp_iload_n dX9_looksAt_190 rfl ?_
  refine wp_ialdR (c := 236) (y := 36) rfl rfl (show vp_in (x1) (len 236) from c1) dX9_looksAt_191 ?_
  obtain ⟨c2, h⟩ := ock h
  refine wp_ialdR (c := 212) (y := 12) rfl rfl (show vp_in ((rho 36 (x1).toNatClampNeg)) (len 212) from c2) dX9_looksAt_192 ?_
  refine wp_iload_n dX9_looksAt_193 rfl ?_
  obtain ⟨r3, rho4, hp5, h⟩ := ob_e h
  refine wp_callV (k1 := 0) (k2 := 0) (As := [vI ((rho 34 (x1).toNatClampNeg)), vI ((rho 12 ((rho 36 (x1).toNatClampNeg)).toNatClampNeg)), vI (x2)]) (rest := []) (w9_judges hfr hp5) okX9_judges ivX9_judges rfl (by decide) ml_X9_253 dX9_looksAt_194 rfl (by decide) (Nat.le_refl _) rfl (Nat.le_of_ble_eq_true rfl) (fun _ _ z => z.elim) (fun r' S' z => ?_)
  obtain ⟨rfl, rfl⟩ := z
  show WP _ _ _ _ [some (vR 9 0), some (vI (x1)), some (vI (x2)), l3, l4] [] _ _ _
  refine wp_iload_n dX9_looksAt_197 rfl ?_
  refine wp_iconst (v := 3) dX9_looksAt_198 (by decide) ?_
  refine wp_icmp_ne (tgt := 206) dX9_looksAt_199 (by decide) (fun c6 => ?_) (fun c6 => ?_)
  · replace h := itn c6 h
    refine wp_iconst (v := 0) dX9_looksAt_206 (by decide) ?_
    obtain ⟨q1, q2⟩ := sm_e h
    subst q1
    subst q2
    exact wp_zreturn rfl (by decide) dX9_looksAt_207 ⟨rfl, rfl⟩
  · replace h := itp c6 h
    refine wp_iconst (v := 1) dX9_looksAt_202 (by decide) ?_
    refine wp_goto (tgt := 207) dX9_looksAt_203 (by decide) ?_
    obtain ⟨q1, q2⟩ := sm_e h
    subst q1
    subst q2
    exact wp_zreturn rfl (by decide) dX9_looksAt_207 ⟨rfl, rfl⟩
def b9_looksAt_150 (x1 x2 x3 x4 s1 s2 : Int32) (rho : RH) : Option (Int32 × RH) :=
  if vq (s1) 84 then
  wr (up2 rho 21 (s1).toNatClampNeg (s2)) fun rho2 =>
  if x4 = 0 then
    if vq (x3) 84 then
    wr (up2 rho2 23 (x3).toNatClampNeg ((rho2 23 (x3).toNatClampNeg))) fun rho6 =>
    b9_looksAt_175 (x1) (x2) rho6
    else none
  else
    if vq (x3) 84 then
    wr (up2 rho2 23 (x3).toNatClampNeg ((rho2 0 0))) fun rho9 =>
    b9_looksAt_175 (x1) (x2) rho9
    else none
  else none
theorem w9_looksAt_150 {r : Int32} {rho9 : RH} (hfr : RA fr) {x1 x2 x3 x4 s1 s2 : Int32} {rho : RH} (h : b9_looksAt_150 x1 x2 x3 x4 s1 s2 rho = some (r, rho9)) : WP mX9_looksAt 1 0 150 [some (vR 9 0), some (vI (x1)), some (vI (x2)), some (vI (x3)), some (vI (x4))] [vI (s2), vI (s1), vR 221 0] (lv, fr, fi, ai, ar, li, out, rho) (Po lv fr fi ai ar li out (some (vI r)) rho9) NX := by
  unfold b9_looksAt_150 at h
  obtain ⟨c1, h⟩ := ock h
  refine wp_iastR (c := 221) (y := 21) rfl rfl (show vp_in (s1) (len 221) from c1) dX9_looksAt_150 ?_
  obtain ⟨rho2, e3, h⟩ := wr_e h
  rw [e3]
  refine wp_aload_n dX9_looksAt_151 rfl ?_
  refine wp_arrR (y := 23) (c := 223) hfr (by decide) rfl fl_X9_75 dX9_looksAt_152 ?_
  refine wp_iload_n dX9_looksAt_155 rfl ?_
  refine wp_iload dX9_looksAt_156 rfl ?_
  refine wp_if_eq (tgt := 168) dX9_looksAt_158 (by decide) (fun c4 => ?_) (fun c4 => ?_)
  · replace h := itp c4 h
    refine wp_aload_n dX9_looksAt_168 rfl ?_
    refine wp_arrR (y := 23) (c := 223) hfr (by decide) rfl fl_X9_75 dX9_looksAt_169 ?_
    refine wp_iload_n dX9_looksAt_172 rfl ?_
    obtain ⟨c5, h⟩ := ock h
    refine wp_ialdR (c := 223) (y := 23) rfl rfl (show vp_in (x3) (len 223) from c5) dX9_looksAt_173 ?_
    refine wp_iastR (c := 223) (y := 23) rfl rfl (show vp_in (x3) (len 223) from c5) dX9_looksAt_174 ?_
    obtain ⟨rho6, e7, h⟩ := wr_e h
    rw [e7]
    exact w9_looksAt_175 hfr h
  · replace h := itn c4 h
    refine wp_aload_n dX9_looksAt_161 rfl ?_
    refine wp_getRI (y := 0) (by decide) rfl fl_X9_220 dX9_looksAt_162 ?_
    refine wp_goto (tgt := 174) dX9_looksAt_165 (by decide) ?_
    obtain ⟨c8, h⟩ := ock h
    refine wp_iastR (c := 223) (y := 23) rfl rfl (show vp_in (x3) (len 223) from c8) dX9_looksAt_174 ?_
    obtain ⟨rho9, e10, h⟩ := wr_e h
    rw [e10]
    exact w9_looksAt_175 hfr h
def b9_looksAt_119 (x1 x2 x3 s0 : Int32) (rho : RH) : Option (Int32 × RH) :=
  if s0 = 0 then
    if x2 = 3 then
      b9_looksAt_150 (x1) (x2) (x3) (s0) (x3) (0) rho
    else
      if vq (x3) 84 then
      b9_looksAt_150 (x1) (x2) (x3) (s0) (x3) ((rho 21 (x3).toNatClampNeg)) rho
      else none
  else
    b9_looksAt_150 (x1) (x2) (x3) (s0) (x3) (1) rho
theorem w9_looksAt_119 {r : Int32} {rho9 : RH} (hfr : RA fr) {x1 x2 x3 s0 : Int32} {l4 : Option sV} {rho : RH} (h : b9_looksAt_119 x1 x2 x3 s0 rho = some (r, rho9)) : WP mX9_looksAt 1 0 119 [some (vR 9 0), some (vI (x1)), some (vI (x2)), some (vI (x3)), l4] [vI (s0)] (lv, fr, fi, ai, ar, li, out, rho) (Po lv fr fi ai ar li out (some (vI r)) rho9) NX := by
  unfold b9_looksAt_119 at h
  refine wp_istore (L' := [some (vR 9 0), some (vI (x1)), some (vI (x2)), some (vI (x3)), some (vI (s0))]) dX9_looksAt_119 rfl rfl ?_
  refine wp_aload_n dX9_looksAt_121 rfl ?_
  refine wp_arrR (y := 21) (c := 221) hfr (by decide) rfl fl_X9_69 dX9_looksAt_122 ?_
  refine wp_iload_n dX9_looksAt_125 rfl ?_
  refine wp_iload dX9_looksAt_126 rfl ?_
  refine wp_if_eq (tgt := 135) dX9_looksAt_128 (by decide) (fun c1 => ?_) (fun c1 => ?_)
  · replace h := itp c1 h
    refine wp_iload_n dX9_looksAt_135 rfl ?_
    refine wp_iconst (v := 3) dX9_looksAt_136 (by decide) ?_
    refine wp_icmp_ne (tgt := 144) dX9_looksAt_137 (by decide) (fun c2 => ?_) (fun c2 => ?_)
    · replace h := itn c2 h
      refine wp_aload_n dX9_looksAt_144 rfl ?_
      refine wp_arrR (y := 21) (c := 221) hfr (by decide) rfl fl_X9_69 dX9_looksAt_145 ?_
      refine wp_iload_n dX9_looksAt_148 rfl ?_
      obtain ⟨c3, h⟩ := ock h
      refine wp_ialdR (c := 221) (y := 21) rfl rfl (show vp_in (x3) (len 221) from c3) dX9_looksAt_149 ?_
      exact w9_looksAt_150 hfr h
    · replace h := itp c2 h
      refine wp_iconst (v := 0) dX9_looksAt_140 (by decide) ?_
      refine wp_goto (tgt := 150) dX9_looksAt_141 (by decide) ?_
      exact w9_looksAt_150 hfr h
  · replace h := itn c1 h
    refine wp_iconst (v := 1) dX9_looksAt_131 (by decide) ?_
    refine wp_goto (tgt := 150) dX9_looksAt_132 (by decide) ?_
    exact w9_looksAt_150 hfr h
def b9_looksAt_88 (x1 x2 x3 s1 s2 : Int32) (rho : RH) : Option (Int32 × RH) :=
  if vq (s1) 84 then
  wr (up2 rho 22 (s1).toNatClampNeg (s2)) fun rho2 =>
  if x2 = 3 then
    b9_looksAt_119 (x1) (x2) (x3) (0) rho2
  else
    if vq (x3) 84 then
    if (rho2 21 (x3).toNatClampNeg) = 2 then
      b9_looksAt_119 (x1) (x2) (x3) (1) rho2
    else
      if (rho2 22 (x3).toNatClampNeg) < 3 then
        b9_looksAt_119 (x1) (x2) (x3) (0) rho2
      else
        b9_looksAt_119 (x1) (x2) (x3) (1) rho2
    else none
  else none
theorem w9_looksAt_88 {r : Int32} {rho9 : RH} (hfr : RA fr) {x1 x2 x3 s1 s2 : Int32} {l4 : Option sV} {rho : RH} (h : b9_looksAt_88 x1 x2 x3 s1 s2 rho = some (r, rho9)) : WP mX9_looksAt 1 0 88 [some (vR 9 0), some (vI (x1)), some (vI (x2)), some (vI (x3)), l4] [vI (s2), vI (s1), vR 222 0] (lv, fr, fi, ai, ar, li, out, rho) (Po lv fr fi ai ar li out (some (vI r)) rho9) NX := by
  unfold b9_looksAt_88 at h
  obtain ⟨c1, h⟩ := ock h
  refine wp_iastR (c := 222) (y := 22) rfl rfl (show vp_in (s1) (len 222) from c1) dX9_looksAt_88 ?_
  obtain ⟨rho2, e3, h⟩ := wr_e h
  rw [e3]
  refine wp_iload_n dX9_looksAt_89 rfl ?_
  refine wp_iconst (v := 3) dX9_looksAt_90 (by decide) ?_
  refine wp_icmp_eq (tgt := 118) dX9_looksAt_91 (by decide) (fun c4 => ?_) (fun c4 => ?_)
  · replace h := itp c4 h
    refine wp_iconst (v := 0) dX9_looksAt_118 (by decide) ?_
    exact w9_looksAt_119 hfr h
  · replace h := itn c4 h
    refine wp_aload_n dX9_looksAt_94 rfl ?_
    refine wp_arrR (y := 21) (c := 221) hfr (by decide) rfl fl_X9_69 dX9_looksAt_95 ?_
    refine wp_iload_n dX9_looksAt_98 rfl ?_
    obtain ⟨c5, h⟩ := ock h
    refine wp_ialdR (c := 221) (y := 21) rfl rfl (show vp_in (x3) (len 221) from c5) dX9_looksAt_99 ?_
    refine wp_iconst (v := 2) dX9_looksAt_100 (by decide) ?_
    refine wp_icmp_eq (tgt := 114) dX9_looksAt_101 (by decide) (fun c6 => ?_) (fun c6 => ?_)
    · replace h := itp c6 h
      refine wp_iconst (v := 1) dX9_looksAt_114 (by decide) ?_
      refine wp_goto (tgt := 119) dX9_looksAt_115 (by decide) ?_
      exact w9_looksAt_119 hfr h
    · replace h := itn c6 h
      refine wp_aload_n dX9_looksAt_104 rfl ?_
      refine wp_arrR (y := 22) (c := 222) hfr (by decide) rfl fl_X9_72 dX9_looksAt_105 ?_
      refine wp_iload_n dX9_looksAt_108 rfl ?_
      refine wp_ialdR (c := 222) (y := 22) rfl rfl (show vp_in (x3) (len 222) from c5) dX9_looksAt_109 ?_
      refine wp_iconst (v := 3) dX9_looksAt_110 (by decide) ?_
      refine wp_icmp_lt (tgt := 118) dX9_looksAt_111 (by decide) (fun c7 => ?_) (fun c7 => ?_)
      · replace h := itp c7 h
        refine wp_iconst (v := 0) dX9_looksAt_118 (by decide) ?_
        exact w9_looksAt_119 hfr h
      · replace h := itn c7 h
        refine wp_iconst (v := 1) dX9_looksAt_114 (by decide) ?_
        refine wp_goto (tgt := 119) dX9_looksAt_115 (by decide) ?_
        exact w9_looksAt_119 hfr h
def b9_looksAt_26 (x1 s0 : Int32) (rho : RH) : Option (Int32 × RH) :=
  if vq (x1) 400 then
  if vq ((rho 32 (x1).toNatClampNeg)) 540 then
  wr (up2 rho 50 ((rho 32 (x1).toNatClampNeg)).toNatClampNeg (s0)) fun rho3 =>
  if vq (((12 * (rho3 35 (x1).toNatClampNeg)) + (rho3 36 (x1).toNatClampNeg))) 84 then
  if (rho3 21 (((12 * (rho3 35 (x1).toNatClampNeg)) + (rho3 36 (x1).toNatClampNeg))).toNatClampNeg) = 1 then
    b9_looksAt_175 (x1) (s0) rho3
  else
    if s0 = 3 then
      b9_looksAt_88 (x1) (s0) (((12 * (rho3 35 (x1).toNatClampNeg)) + (rho3 36 (x1).toNatClampNeg))) (((12 * (rho3 35 (x1).toNatClampNeg)) + (rho3 36 (x1).toNatClampNeg))) (0) rho3
    else
      b9_looksAt_88 (x1) (s0) (((12 * (rho3 35 (x1).toNatClampNeg)) + (rho3 36 (x1).toNatClampNeg))) (((12 * (rho3 35 (x1).toNatClampNeg)) + (rho3 36 (x1).toNatClampNeg))) (((rho3 22 (((12 * (rho3 35 (x1).toNatClampNeg)) + (rho3 36 (x1).toNatClampNeg))).toNatClampNeg) + 1)) rho3
  else none
  else none
  else none
theorem w9_looksAt_26 {r : Int32} {rho9 : RH} (hfr : RA fr) {x1 s0 : Int32} {l2 l3 l4 : Option sV} {rho : RH} (h : b9_looksAt_26 x1 s0 rho = some (r, rho9)) : WP mX9_looksAt 1 0 26 [some (vR 9 0), some (vI (x1)), l2, l3, l4] [vI (s0)] (lv, fr, fi, ai, ar, li, out, rho) (Po lv fr fi ai ar li out (some (vI r)) rho9) NX := by
  unfold b9_looksAt_26 at h
  refine wp_istore_n (L' := [some (vR 9 0), some (vI (x1)), some (vI (s0)), l3, l4]) dX9_looksAt_26 rfl rfl ?_
  refine wp_aload_n dX9_looksAt_27 rfl ?_
  refine wp_arrR (y := 50) (c := 250) hfr (by decide) rfl fl_X9_153 dX9_looksAt_28 ?_
  refine wp_aload_n dX9_looksAt_31 rfl ?_
  refine wp_arrR (y := 32) (c := 232) hfr (by decide) rfl fl_X9_99 dX9_looksAt_32 ?_
  refine wp_iload_n dX9_looksAt_35 rfl ?_
  obtain ⟨c1, h⟩ := ock h
  refine wp_ialdR (c := 232) (y := 32) rfl rfl (show vp_in (x1) (len 232) from c1) dX9_looksAt_36 ?_
  refine wp_iload_n dX9_looksAt_37 rfl ?_
  obtain ⟨c2, h⟩ := ock h
  refine wp_iastR (c := 250) (y := 50) rfl rfl (show vp_in ((rho 32 (x1).toNatClampNeg)) (len 250) from c2) dX9_looksAt_38 ?_
  obtain ⟨rho3, e4, h⟩ := wr_e h
  rw [e4]
  refine wp_bipush (v := 12) dX9_looksAt_39 (by decide) ?_
  refine wp_aload_n dX9_looksAt_41 rfl ?_
  refine wp_arrR (y := 35) (c := 235) hfr (by decide) rfl fl_X9_108 dX9_looksAt_42 ?_
  refine wp_iload_n dX9_looksAt_45 rfl ?_
  refine wp_ialdR (c := 235) (y := 35) rfl rfl (show vp_in (x1) (len 235) from c1) dX9_looksAt_46 ?_
  refine wp_imul dX9_looksAt_47 ?_
  refine wp_aload_n dX9_looksAt_48 rfl ?_
  refine wp_arrR (y := 36) (c := 236) hfr (by decide) rfl fl_X9_111 dX9_looksAt_49 ?_
  refine wp_iload_n dX9_looksAt_52 rfl ?_
  refine wp_ialdR (c := 236) (y := 36) rfl rfl (show vp_in (x1) (len 236) from c1) dX9_looksAt_53 ?_
  refine wp_iadd dX9_looksAt_54 ?_
  refine wp_istore_n (L' := [some (vR 9 0), some (vI (x1)), some (vI (s0)), some (vI (((12 * (rho3 35 (x1).toNatClampNeg)) + (rho3 36 (x1).toNatClampNeg)))), l4]) dX9_looksAt_55 rfl rfl ?_
  refine wp_aload_n dX9_looksAt_56 rfl ?_
  refine wp_arrR (y := 21) (c := 221) hfr (by decide) rfl fl_X9_69 dX9_looksAt_57 ?_
  refine wp_iload_n dX9_looksAt_60 rfl ?_
  obtain ⟨c5, h⟩ := ock h
  refine wp_ialdR (c := 221) (y := 21) rfl rfl (show vp_in (((12 * (rho3 35 (x1).toNatClampNeg)) + (rho3 36 (x1).toNatClampNeg))) (len 221) from c5) dX9_looksAt_61 ?_
  refine wp_iconst (v := 1) dX9_looksAt_62 (by decide) ?_
  refine wp_icmp_eq (tgt := 175) dX9_looksAt_63 (by decide) (fun c6 => ?_) (fun c6 => ?_)
  · replace h := itp c6 h
    exact w9_looksAt_175 hfr h
  · replace h := itn c6 h
    refine wp_aload_n dX9_looksAt_66 rfl ?_
    refine wp_arrR (y := 22) (c := 222) hfr (by decide) rfl fl_X9_72 dX9_looksAt_67 ?_
    refine wp_iload_n dX9_looksAt_70 rfl ?_
    refine wp_iload_n dX9_looksAt_71 rfl ?_
    refine wp_iconst (v := 3) dX9_looksAt_72 (by decide) ?_
    refine wp_icmp_ne (tgt := 80) dX9_looksAt_73 (by decide) (fun c7 => ?_) (fun c7 => ?_)
    · replace h := itn c7 h
      refine wp_aload_n dX9_looksAt_80 rfl ?_
      refine wp_arrR (y := 22) (c := 222) hfr (by decide) rfl fl_X9_72 dX9_looksAt_81 ?_
      refine wp_iload_n dX9_looksAt_84 rfl ?_
      refine wp_ialdR (c := 222) (y := 22) rfl rfl (show vp_in (((12 * (rho3 35 (x1).toNatClampNeg)) + (rho3 36 (x1).toNatClampNeg))) (len 222) from c5) dX9_looksAt_85 ?_
      refine wp_iconst (v := 1) dX9_looksAt_86 (by decide) ?_
      refine wp_iadd dX9_looksAt_87 ?_
      exact w9_looksAt_88 hfr h
    · replace h := itp c7 h
      refine wp_iconst (v := 0) dX9_looksAt_76 (by decide) ?_
      refine wp_goto (tgt := 88) dX9_looksAt_77 (by decide) ?_
      exact w9_looksAt_88 hfr h
def f9_looksAt (x1 : Int32) (rho : RH) : Option (Int32 × RH) :=
  if vq (x1) 400 then
  wr (up2 rho 43 (x1).toNatClampNeg (1)) fun rho2 =>
  if (rho2 42 (x1).toNatClampNeg) = 0 then
    b9_looksAt_26 (x1) ((rho2 37 (x1).toNatClampNeg)) rho2
  else
    b9_looksAt_26 (x1) (5) rho2
  else none
theorem w9_looksAt {r : Int32} {rho9 : RH} (hfr : RA fr) {x1 : Int32} {rho : RH} (h : f9_looksAt x1 rho = some (r, rho9)) : Spec mX9_looksAt 1 0 [vR 9 0, vI x1] (lv, fr, fi, ai, ar, li, out, rho) (Po lv fr fi ai ar li out (some (vI r)) rho9) NX := by
  unfold f9_looksAt at h
  refine spec_of (by decide) rfl (by simp [catS, cat1]) (Nat.le_of_ble_eq_true rfl) ?_
  show WP mX9_looksAt 1 0 0 [some (vR 9 0), some (vI (x1)), none, none, none] [] (lv, fr, fi, ai, ar, li, out, rho) (Po lv fr fi ai ar li out (some (vI r)) rho9) NX
  refine wp_aload_n dX9_looksAt_0 rfl ?_
  refine wp_arrR (y := 43) (c := 243) hfr (by decide) rfl fl_X9_132 dX9_looksAt_1 ?_
  refine wp_iload_n dX9_looksAt_4 rfl ?_
  refine wp_iconst (v := 1) dX9_looksAt_5 (by decide) ?_
  obtain ⟨c1, h⟩ := ock h
  refine wp_bastR (c := 243) (y := 43) rfl rfl (show vp_in (x1) (len 243) from c1) (by decide) dX9_looksAt_6 ?_
  obtain ⟨rho2, e3, h⟩ := wr_e h
  rw [e3]
  refine wp_aload_n dX9_looksAt_7 rfl ?_
  refine wp_arrR (y := 42) (c := 242) hfr (by decide) rfl fl_X9_129 dX9_looksAt_8 ?_
  refine wp_iload_n dX9_looksAt_11 rfl ?_
  refine wp_baldR (c := 242) (y := 42) rfl rfl (show vp_in (x1) (len 242) from c1) dX9_looksAt_12 ?_
  refine wp_if_eq (tgt := 20) dX9_looksAt_13 (by decide) (fun c4 => ?_) (fun c4 => ?_)
  · replace h := itp c4 h
    refine wp_aload_n dX9_looksAt_20 rfl ?_
    refine wp_arrR (y := 37) (c := 237) hfr (by decide) rfl fl_X9_114 dX9_looksAt_21 ?_
    refine wp_iload_n dX9_looksAt_24 rfl ?_
    refine wp_ialdR (c := 237) (y := 37) rfl rfl (show vp_in (x1) (len 237) from c1) dX9_looksAt_25 ?_
    exact w9_looksAt_26 hfr h
  · replace h := itn c4 h
    refine wp_iconst (v := 5) dX9_looksAt_16 (by decide) ?_
    refine wp_goto (tgt := 26) dX9_looksAt_17 (by decide) ?_
    exact w9_looksAt_26 hfr h
def b9_tries_514 (x7 : Int32) (rho : RH) : Option (Int32 × RH) :=
  ob (f9_setsEnd (x7) (6) rho) fun _ rho2 =>
  ob (f9_isKnown (x7) rho2) fun r4 rho5 =>
  if r4 = 0 then
    some (0, rho5)
  else
    ob (f9_looksAt (x7) rho5) fun r8 rho9 =>
    some (0, rho9)
theorem w9_tries_514 {r : Int32} {rho9 : RH} (hfr : RA fr) {x7 : Int32} {l1 l2 l3 l4 l5 l6 l8 l9 l10 l11 l12 : Option sV} {rho : RH} (h : b9_tries_514 x7 rho = some (r, rho9)) : WP mX9_tries 6 0 514 [some (vR 9 0), l1, l2, l3, l4, l5, l6, some (vI (x7)), l8, l9, l10, l11, l12] [] (lv, fr, fi, ai, ar, li, out, rho) (Po lv fr fi ai ar li out (none) rho9) NX := by
  unfold b9_tries_514 at h
  refine wp_aload_n dX9_tries_514 rfl ?_
  refine wp_iload dX9_tries_515 rfl ?_
  refine wp_bipush (v := 6) dX9_tries_517 (by decide) ?_
  obtain ⟨r1, rho2, hp3, h⟩ := ob_e h
  refine wp_callV (k1 := 0) (k2 := 0) (As := [vI (x7), vI (6)]) (rest := []) (w9_setsEnd hfr hp3) okX9_setsEnd ivX9_setsEnd rfl (by decide) ml_X9_233 dX9_tries_519 rfl (by decide) (Nat.le_refl _) rfl (Nat.le_of_ble_eq_true rfl) (fun _ _ z => z.elim) (fun r' S' z => ?_)
  obtain ⟨rfl, rfl⟩ := z
  show WP _ _ _ _ [some (vR 9 0), l1, l2, l3, l4, l5, l6, some (vI (x7)), l8, l9, l10, l11, l12] [] _ _ _
  refine wp_aload_n dX9_tries_522 rfl ?_
  refine wp_iload dX9_tries_523 rfl ?_
  obtain ⟨r4, rho5, hp6, h⟩ := ob_e h
  refine wp_callV (k1 := 0) (k2 := 0) (As := [vI (x7)]) (rest := []) (w9_isKnown hfr hp6) okX9_isKnown ivX9_isKnown rfl (by decide) ml_X9_247 dX9_tries_525 rfl (by decide) (Nat.le_refl _) rfl (Nat.le_of_ble_eq_true rfl) (fun _ _ z => z.elim) (fun r' S' z => ?_)
  obtain ⟨rfl, rfl⟩ := z
  show WP _ _ _ _ [some (vR 9 0), l1, l2, l3, l4, l5, l6, some (vI (x7)), l8, l9, l10, l11, l12] [vI (r4)] _ _ _
  refine wp_if_eq (tgt := 539) dX9_tries_528 (by decide) (fun c7 => ?_) (fun c7 => ?_)
  · replace h := itp c7 h
    obtain ⟨q1, q2⟩ := sm_e h
    subst q2
    exact wp_return rfl dX9_tries_539 ⟨rfl, rfl⟩
  · replace h := itn c7 h
    refine wp_aload_n dX9_tries_531 rfl ?_
    refine wp_iload dX9_tries_532 rfl ?_
    obtain ⟨r8, rho9, hp10, h⟩ := ob_e h
    refine wp_callV (k1 := 0) (k2 := 0) (As := [vI (x7)]) (rest := []) (w9_looksAt hfr hp10) okX9_looksAt ivX9_looksAt rfl (by decide) ml_X9_299 dX9_tries_534 rfl (by decide) (Nat.le_refl _) rfl (Nat.le_of_ble_eq_true rfl) (fun _ _ z => z.elim) (fun r' S' z => ?_)
    obtain ⟨rfl, rfl⟩ := z
    show WP _ _ _ _ [some (vR 9 0), l1, l2, l3, l4, l5, l6, some (vI (x7)), l8, l9, l10, l11, l12] [vI (r8)] _ _ _
    refine wp_istore (L' := [some (vR 9 0), l1, l2, l3, l4, l5, l6, some (vI (x7)), l8, l9, l10, l11, some (vI (r8))]) dX9_tries_537 rfl rfl ?_
    obtain ⟨q1, q2⟩ := sm_e h
    subst q2
    exact wp_return rfl dX9_tries_539 ⟨rfl, rfl⟩
def b9_tries_477 (x6 x7 x11 : Int32) (rho : RH) : Option (Int32 × RH) :=
  if vq (((4 * x6) + 3)) 48 then
  if (rho 13 (((4 * x6) + 3)).toNatClampNeg) = 0 then
    if vq (x6) 12 then
    if (rho 11 (x6).toNatClampNeg) ≤ x11 then
      b9_tries_514 (x7) rho
    else
      if vq (x7) 400 then
      wr (up2 rho 37 (x7).toNatClampNeg (0)) fun rho6 =>
      some (0, rho6)
      else none
    else none
  else
    b9_tries_514 (x7) rho
  else none
theorem w9_tries_477 {r : Int32} {rho9 : RH} (hfr : RA fr) {x6 x7 x11 : Int32} {l1 l2 l3 l4 l5 l8 l9 l10 l12 : Option sV} {rho : RH} (h : b9_tries_477 x6 x7 x11 rho = some (r, rho9)) : WP mX9_tries 6 0 477 [some (vR 9 0), l1, l2, l3, l4, l5, some (vI (x6)), some (vI (x7)), l8, l9, l10, some (vI (x11)), l12] [] (lv, fr, fi, ai, ar, li, out, rho) (Po lv fr fi ai ar li out (none) rho9) NX := by
  unfold b9_tries_477 at h
  refine wp_aload_n dX9_tries_477 rfl ?_
  refine wp_arrR (y := 13) (c := 213) hfr (by decide) rfl fl_X9_44 dX9_tries_478 ?_
  refine wp_iconst (v := 4) dX9_tries_481 (by decide) ?_
  refine wp_iload dX9_tries_482 rfl ?_
  refine wp_imul dX9_tries_484 ?_
  refine wp_iconst (v := 3) dX9_tries_485 (by decide) ?_
  refine wp_iadd dX9_tries_486 ?_
  obtain ⟨c1, h⟩ := ock h
  refine wp_ialdR (c := 213) (y := 13) rfl rfl (show vp_in (((4 * x6) + 3)) (len 213) from c1) dX9_tries_487 ?_
  refine wp_if_ne (tgt := 514) dX9_tries_488 (by decide) (fun c2 => ?_) (fun c2 => ?_)
  · replace h := itn c2 h
    exact w9_tries_514 hfr h
  · replace h := itp c2 h
    refine wp_iload dX9_tries_491 rfl ?_
    refine wp_aload_n dX9_tries_493 rfl ?_
    refine wp_arrR (y := 11) (c := 211) hfr (by decide) rfl fl_X9_38 dX9_tries_494 ?_
    refine wp_iload dX9_tries_497 rfl ?_
    obtain ⟨c3, h⟩ := ock h
    refine wp_ialdR (c := 211) (y := 11) rfl rfl (show vp_in (x6) (len 211) from c3) dX9_tries_499 ?_
    refine wp_icmp_ge (tgt := 514) dX9_tries_500 (by decide) (fun c4 => ?_) (fun c4 => ?_)
    · replace h := itp c4 h
      exact w9_tries_514 hfr h
    · replace h := itn c4 h
      refine wp_aload_n dX9_tries_503 rfl ?_
      refine wp_arrR (y := 37) (c := 237) hfr (by decide) rfl fl_X9_114 dX9_tries_504 ?_
      refine wp_iload dX9_tries_507 rfl ?_
      refine wp_iconst (v := 0) dX9_tries_509 (by decide) ?_
      obtain ⟨c5, h⟩ := ock h
      refine wp_iastR (c := 237) (y := 37) rfl rfl (show vp_in (x7) (len 237) from c5) dX9_tries_510 ?_
      obtain ⟨rho6, e7, h⟩ := wr_e h
      rw [e7]
      refine wp_goto (tgt := 539) dX9_tries_511 (by decide) ?_
      obtain ⟨q1, q2⟩ := sm_e h
      subst q2
      exact wp_return rfl dX9_tries_539 ⟨rfl, rfl⟩
def b9_tries_391 (x3 x6 x7 s1 s2 : Int32) (rho : RH) : Option (Int32 × RH) :=
  if vq (s1) 400 then
  wr (up2 rho 38 (s1).toNatClampNeg (s2)) fun rho2 =>
  if vq (((12 * x3) + x6)) 84 then
  wr (up2 rho2 24 (((12 * x3) + x6)).toNatClampNeg (((rho2 24 (((12 * x3) + x6)).toNatClampNeg) + 1))) fun rho5 =>
  if vq (x7) 400 then
  wr (up2 rho5 37 (x7).toNatClampNeg (7)) fun rho8 =>
  ob (f9_countOf (x6) (1) (2) rho8) fun r10 rho11 =>
  ob (f9_countOf (x6) (0) (0) rho11) fun r13 rho14 =>
  if vq (((4 * x6) + 3)) 48 then
  if (rho14 13 (((4 * x6) + 3)).toNatClampNeg) = 0 then
    if vq (x6) 12 then
    if (rho14 10 (x6).toNatClampNeg) ≤ r10 then
      b9_tries_477 (x6) (x7) (r13) rho14
    else
      if r13 = 0 then
        ob (f9_runs (x7) rho14) fun _ rho22 =>
        some (0, rho22)
      else
        b9_tries_477 (x6) (x7) (r13) rho14
    else none
  else
    b9_tries_477 (x6) (x7) (r13) rho14
  else none
  else none
  else none
  else none
theorem w9_tries_391 {r : Int32} {rho9 : RH} (hfr : RA fr) {x3 x6 x7 s1 s2 : Int32} {l1 l2 l4 l5 l8 l9 l10 l11 l12 : Option sV} {rho : RH} (h : b9_tries_391 x3 x6 x7 s1 s2 rho = some (r, rho9)) : WP mX9_tries 6 0 391 [some (vR 9 0), l1, l2, some (vI (x3)), l4, l5, some (vI (x6)), some (vI (x7)), l8, l9, l10, l11, l12] [vI (s2), vI (s1), vR 238 0] (lv, fr, fi, ai, ar, li, out, rho) (Po lv fr fi ai ar li out (none) rho9) NX := by
  unfold b9_tries_391 at h
  obtain ⟨c1, h⟩ := ock h
  refine wp_iastR (c := 238) (y := 38) rfl rfl (show vp_in (s1) (len 238) from c1) dX9_tries_391 ?_
  obtain ⟨rho2, e3, h⟩ := wr_e h
  rw [e3]
  refine wp_aload_n dX9_tries_392 rfl ?_
  refine wp_arrR (y := 24) (c := 224) hfr (by decide) rfl fl_X9_78 dX9_tries_393 ?_
  refine wp_bipush (v := 12) dX9_tries_396 (by decide) ?_
  refine wp_iload_n dX9_tries_398 rfl ?_
  refine wp_imul dX9_tries_399 ?_
  refine wp_iload dX9_tries_400 rfl ?_
  refine wp_iadd dX9_tries_402 ?_
  refine wp_dup2 dX9_tries_403 trivial trivial ?_
  obtain ⟨c4, h⟩ := ock h
  refine wp_ialdR (c := 224) (y := 24) rfl rfl (show vp_in (((12 * x3) + x6)) (len 224) from c4) dX9_tries_404 ?_
  refine wp_iconst (v := 1) dX9_tries_405 (by decide) ?_
  refine wp_iadd dX9_tries_406 ?_
  refine wp_iastR (c := 224) (y := 24) rfl rfl (show vp_in (((12 * x3) + x6)) (len 224) from c4) dX9_tries_407 ?_
  obtain ⟨rho5, e6, h⟩ := wr_e h
  rw [e6]
  refine wp_aload_n dX9_tries_408 rfl ?_
  refine wp_arrR (y := 37) (c := 237) hfr (by decide) rfl fl_X9_114 dX9_tries_409 ?_
  refine wp_iload dX9_tries_412 rfl ?_
  refine wp_bipush (v := 7) dX9_tries_414 (by decide) ?_
  obtain ⟨c7, h⟩ := ock h
  refine wp_iastR (c := 237) (y := 37) rfl rfl (show vp_in (x7) (len 237) from c7) dX9_tries_416 ?_
  obtain ⟨rho8, e9, h⟩ := wr_e h
  rw [e9]
  refine wp_aload_n dX9_tries_417 rfl ?_
  refine wp_iload dX9_tries_418 rfl ?_
  refine wp_iconst (v := 1) dX9_tries_420 (by decide) ?_
  refine wp_iconst (v := 2) dX9_tries_421 (by decide) ?_
  obtain ⟨r10, rho11, hp12, h⟩ := ob_e h
  refine wp_callV (k1 := 0) (k2 := 0) (As := [vI (x6), vI (1), vI (2)]) (rest := []) (w9_countOf hfr hp12) okX9_countOf ivX9_countOf rfl (by decide) ml_X9_293 dX9_tries_422 rfl (by decide) (Nat.le_refl _) rfl (Nat.le_of_ble_eq_true rfl) (fun _ _ z => z.elim) (fun r' S' z => ?_)
  obtain ⟨rfl, rfl⟩ := z
  show WP _ _ _ _ [some (vR 9 0), l1, l2, some (vI (x3)), l4, l5, some (vI (x6)), some (vI (x7)), l8, l9, l10, l11, l12] [vI (r10)] _ _ _
  refine wp_istore (L' := [some (vR 9 0), l1, l2, some (vI (x3)), l4, l5, some (vI (x6)), some (vI (x7)), l8, l9, some (vI (r10)), l11, l12]) dX9_tries_425 rfl rfl ?_
  refine wp_aload_n dX9_tries_427 rfl ?_
  refine wp_iload dX9_tries_428 rfl ?_
  refine wp_iconst (v := 0) dX9_tries_430 (by decide) ?_
  refine wp_iconst (v := 0) dX9_tries_431 (by decide) ?_
  obtain ⟨r13, rho14, hp15, h⟩ := ob_e h
  refine wp_callV (k1 := 0) (k2 := 0) (As := [vI (x6), vI (0), vI (0)]) (rest := []) (w9_countOf hfr hp15) okX9_countOf ivX9_countOf rfl (by decide) ml_X9_293 dX9_tries_432 rfl (by decide) (Nat.le_refl _) rfl (Nat.le_of_ble_eq_true rfl) (fun _ _ z => z.elim) (fun r' S' z => ?_)
  obtain ⟨rfl, rfl⟩ := z
  show WP _ _ _ _ [some (vR 9 0), l1, l2, some (vI (x3)), l4, l5, some (vI (x6)), some (vI (x7)), l8, l9, some (vI (r10)), l11, l12] [vI (r13)] _ _ _
  refine wp_istore (L' := [some (vR 9 0), l1, l2, some (vI (x3)), l4, l5, some (vI (x6)), some (vI (x7)), l8, l9, some (vI (r10)), some (vI (r13)), l12]) dX9_tries_435 rfl rfl ?_
  refine wp_aload_n dX9_tries_437 rfl ?_
  refine wp_arrR (y := 13) (c := 213) hfr (by decide) rfl fl_X9_44 dX9_tries_438 ?_
  refine wp_iconst (v := 4) dX9_tries_441 (by decide) ?_
  refine wp_iload dX9_tries_442 rfl ?_
  refine wp_imul dX9_tries_444 ?_
  refine wp_iconst (v := 3) dX9_tries_445 (by decide) ?_
  refine wp_iadd dX9_tries_446 ?_
  obtain ⟨c16, h⟩ := ock h
  refine wp_ialdR (c := 213) (y := 13) rfl rfl (show vp_in (((4 * x6) + 3)) (len 213) from c16) dX9_tries_447 ?_
  refine wp_if_ne (tgt := 477) dX9_tries_448 (by decide) (fun c17 => ?_) (fun c17 => ?_)
  · replace h := itn c17 h
    exact w9_tries_477 hfr h
  · replace h := itp c17 h
    refine wp_iload dX9_tries_451 rfl ?_
    refine wp_aload_n dX9_tries_453 rfl ?_
    refine wp_arrR (y := 10) (c := 210) hfr (by decide) rfl fl_X9_35 dX9_tries_454 ?_
    refine wp_iload dX9_tries_457 rfl ?_
    obtain ⟨c18, h⟩ := ock h
    refine wp_ialdR (c := 210) (y := 10) rfl rfl (show vp_in (x6) (len 210) from c18) dX9_tries_459 ?_
    refine wp_icmp_ge (tgt := 477) dX9_tries_460 (by decide) (fun c19 => ?_) (fun c19 => ?_)
    · replace h := itp c19 h
      exact w9_tries_477 hfr h
    · replace h := itn c19 h
      refine wp_iload dX9_tries_463 rfl ?_
      refine wp_if_ne (tgt := 477) dX9_tries_465 (by decide) (fun c20 => ?_) (fun c20 => ?_)
      · replace h := itn c20 h
        exact w9_tries_477 hfr h
      · replace h := itp c20 h
        refine wp_aload_n dX9_tries_468 rfl ?_
        refine wp_iload dX9_tries_469 rfl ?_
        obtain ⟨r21, rho22, hp23, h⟩ := ob_e h
        refine wp_callV (k1 := 0) (k2 := 0) (As := [vI (x7)]) (rest := []) (w9_runs hfr hp23) okX9_runs ivX9_runs rfl (by decide) ml_X9_296 dX9_tries_471 rfl (by decide) (Nat.le_refl _) rfl (Nat.le_of_ble_eq_true rfl) (fun _ _ z => z.elim) (fun r' S' z => ?_)
        obtain ⟨rfl, rfl⟩ := z
        show WP _ _ _ _ [some (vR 9 0), l1, l2, some (vI (x3)), l4, l5, some (vI (x6)), some (vI (x7)), l8, l9, some (vI (r10)), some (vI (r13)), l12] [] _ _ _
        refine wp_goto (tgt := 539) dX9_tries_474 (by decide) ?_
        obtain ⟨q1, q2⟩ := sm_e h
        subst q2
        exact wp_return rfl dX9_tries_539 ⟨rfl, rfl⟩
def b9_tries_369 (x3 x6 x7 x8 s0 : Int32) (rho : RH) : Option (Int32 × RH) :=
  if s0 ≤ x8 then
    b9_tries_391 (x3) (x6) (x7) (x7) (s0) rho
  else
    b9_tries_391 (x3) (x6) (x7) (x7) (x8) rho
theorem w9_tries_369 {r : Int32} {rho9 : RH} (hfr : RA fr) {x3 x6 x7 x8 s0 : Int32} {l1 l2 l4 l5 l9 l10 l11 l12 : Option sV} {rho : RH} (h : b9_tries_369 x3 x6 x7 x8 s0 rho = some (r, rho9)) : WP mX9_tries 6 0 369 [some (vR 9 0), l1, l2, some (vI (x3)), l4, l5, some (vI (x6)), some (vI (x7)), some (vI (x8)), l9, l10, l11, l12] [vI (s0)] (lv, fr, fi, ai, ar, li, out, rho) (Po lv fr fi ai ar li out (none) rho9) NX := by
  unfold b9_tries_369 at h
  refine wp_istore (L' := [some (vR 9 0), l1, l2, some (vI (x3)), l4, l5, some (vI (x6)), some (vI (x7)), some (vI (x8)), some (vI (s0)), l10, l11, l12]) dX9_tries_369 rfl rfl ?_
  refine wp_aload_n dX9_tries_371 rfl ?_
  refine wp_arrR (y := 38) (c := 238) hfr (by decide) rfl fl_X9_117 dX9_tries_372 ?_
  refine wp_iload dX9_tries_375 rfl ?_
  refine wp_iload dX9_tries_377 rfl ?_
  refine wp_iload dX9_tries_379 rfl ?_
  refine wp_icmp_ge (tgt := 389) dX9_tries_381 (by decide) (fun c1 => ?_) (fun c1 => ?_)
  · replace h := itp c1 h
    refine wp_iload dX9_tries_389 rfl ?_
    exact w9_tries_391 hfr h
  · replace h := itn c1 h
    refine wp_iload dX9_tries_384 rfl ?_
    refine wp_goto (tgt := 391) dX9_tries_386 (by decide) ?_
    exact w9_tries_391 hfr h
def b9_tries_315 (x1 x3 x4 x6 x7 s1 s2 : Int32) (rho : RH) : Option (Int32 × RH) :=
  if vq (s1) 400 then
  wr (up2 rho 40 (s1).toNatClampNeg (s2)) fun rho2 =>
  ob (f9_policyOf (x3) (x4) (0) rho2) fun r4 rho5 =>
  if 400 ≤ x1 then
    if 440 ≤ x1 then
      b9_tries_369 (x3) (x6) (x7) (((rho2 0 0) + r4)) (((rho2 0 0) + r4)) rho5
    else
      if vq ((x1 - 400)) 40 then
      b9_tries_369 (x3) (x6) (x7) (((rho2 0 0) + r4)) ((rho5 54 ((x1 - 400)).toNatClampNeg)) rho5
      else none
  else
    if vq (x1) 400 then
    b9_tries_369 (x3) (x6) (x7) (((rho2 0 0) + r4)) ((rho5 38 (x1).toNatClampNeg)) rho5
    else none
  else none
theorem w9_tries_315 {r : Int32} {rho9 : RH} (hfr : RA fr) {x1 x3 x4 x6 x7 s1 s2 : Int32} {l2 l5 l8 l9 l10 l11 l12 : Option sV} {rho : RH} (h : b9_tries_315 x1 x3 x4 x6 x7 s1 s2 rho = some (r, rho9)) : WP mX9_tries 6 0 315 [some (vR 9 0), some (vI (x1)), l2, some (vI (x3)), some (vI (x4)), l5, some (vI (x6)), some (vI (x7)), l8, l9, l10, l11, l12] [vI (s2), vI (s1), vR 240 0] (lv, fr, fi, ai, ar, li, out, rho) (Po lv fr fi ai ar li out (none) rho9) NX := by
  unfold b9_tries_315 at h
  obtain ⟨c1, h⟩ := ock h
  refine wp_iastR (c := 240) (y := 40) rfl rfl (show vp_in (s1) (len 240) from c1) dX9_tries_315 ?_
  obtain ⟨rho2, e3, h⟩ := wr_e h
  rw [e3]
  refine wp_aload_n dX9_tries_316 rfl ?_
  refine wp_getRI (y := 0) (by decide) rfl fl_X9_220 dX9_tries_317 ?_
  refine wp_aload_n dX9_tries_320 rfl ?_
  refine wp_iload_n dX9_tries_321 rfl ?_
  refine wp_iload dX9_tries_322 rfl ?_
  refine wp_iconst (v := 0) dX9_tries_324 (by decide) ?_
  obtain ⟨r4, rho5, hp6, h⟩ := ob_e h
  refine wp_callV (k1 := 0) (k2 := 0) (As := [vI (x3), vI (x4), vI (0)]) (rest := [vI ((rho2 0 0))]) (w9_policyOf hfr hp6) okX9_policyOf ivX9_policyOf rfl (by decide) ml_X9_290 dX9_tries_325 rfl (by decide) (Nat.le_refl _) rfl (Nat.le_of_ble_eq_true rfl) (fun _ _ z => z.elim) (fun r' S' z => ?_)
  obtain ⟨rfl, rfl⟩ := z
  show WP _ _ _ _ [some (vR 9 0), some (vI (x1)), l2, some (vI (x3)), some (vI (x4)), l5, some (vI (x6)), some (vI (x7)), l8, l9, l10, l11, l12] [vI (r4), vI ((rho2 0 0))] _ _ _
  refine wp_iadd dX9_tries_328 ?_
  refine wp_istore (L' := [some (vR 9 0), some (vI (x1)), l2, some (vI (x3)), some (vI (x4)), l5, some (vI (x6)), some (vI (x7)), some (vI (((rho2 0 0) + r4))), l9, l10, l11, l12]) dX9_tries_329 rfl rfl ?_
  refine wp_iload_n dX9_tries_331 rfl ?_
  refine wp_sipush (v := 400) dX9_tries_332 (by decide) ?_
  refine wp_icmp_ge (tgt := 347) dX9_tries_335 (by decide) (fun c7 => ?_) (fun c7 => ?_)
  · replace h := itp c7 h
    refine wp_iload_n dX9_tries_347 rfl ?_
    refine wp_sipush (v := 440) dX9_tries_348 (by decide) ?_
    refine wp_icmp_ge (tgt := 367) dX9_tries_351 (by decide) (fun c8 => ?_) (fun c8 => ?_)
    · replace h := itp c8 h
      refine wp_iload dX9_tries_367 rfl ?_
      exact w9_tries_369 hfr h
    · replace h := itn c8 h
      refine wp_aload_n dX9_tries_354 rfl ?_
      refine wp_arrR (y := 54) (c := 254) hfr (by decide) rfl fl_X9_162 dX9_tries_355 ?_
      refine wp_iload_n dX9_tries_358 rfl ?_
      refine wp_sipush (v := 400) dX9_tries_359 (by decide) ?_
      refine wp_isub dX9_tries_362 ?_
      obtain ⟨c9, h⟩ := ock h
      refine wp_ialdR (c := 254) (y := 54) rfl rfl (show vp_in ((x1 - 400)) (len 254) from c9) dX9_tries_363 ?_
      refine wp_goto (tgt := 369) dX9_tries_364 (by decide) ?_
      exact w9_tries_369 hfr h
  · replace h := itn c7 h
    refine wp_aload_n dX9_tries_338 rfl ?_
    refine wp_arrR (y := 38) (c := 238) hfr (by decide) rfl fl_X9_117 dX9_tries_339 ?_
    refine wp_iload_n dX9_tries_342 rfl ?_
    obtain ⟨c10, h⟩ := ock h
    refine wp_ialdR (c := 238) (y := 38) rfl rfl (show vp_in (x1) (len 238) from c10) dX9_tries_343 ?_
    refine wp_goto (tgt := 369) dX9_tries_344 (by decide) ?_
    exact w9_tries_369 hfr h
def b9_tries_189 (x1 x3 x4 s0 : Int32) (rho : RH) : Option (Int32 × RH) :=
  if s0 = (-1) then
    if vq (x1) 540 then
    wr (up2 rho 50 (x1).toNatClampNeg (6)) fun rho3 =>
    some (0, rho3)
    else none
  else
    wr (up2 rho 31 0 (((rho 31 0) + 1))) fun rho5 =>
    if vq ((rho 31 0)) 400 then
    wr (up2 rho5 32 ((rho 31 0)).toNatClampNeg (x1)) fun rho8 =>
    if vq (x1) 540 then
    wr (up2 rho8 33 ((rho 31 0)).toNatClampNeg ((rho8 46 (x1).toNatClampNeg))) fun rho11 =>
    wr (up2 rho11 34 ((rho 31 0)).toNatClampNeg (x4)) fun rho13 =>
    wr (up2 rho13 35 ((rho 31 0)).toNatClampNeg (x3)) fun rho15 =>
    wr (up2 rho15 36 ((rho 31 0)).toNatClampNeg (s0)) fun rho17 =>
    if vq ((rho 31 0)) 540 then
    wr (up2 rho17 46 ((rho 31 0)).toNatClampNeg ((-1))) fun rho20 =>
    if 400 ≤ x1 then
      if 440 ≤ x1 then
        b9_tries_315 (x1) (x3) (x4) (s0) ((rho 31 0)) ((rho 31 0)) ((-1)) rho20
      else
        b9_tries_315 (x1) (x3) (x4) (s0) ((rho 31 0)) ((rho 31 0)) ((x1 - 400)) rho20
    else
      if vq (x1) 400 then
      b9_tries_315 (x1) (x3) (x4) (s0) ((rho 31 0)) ((rho 31 0)) ((rho20 40 (x1).toNatClampNeg)) rho20
      else none
    else none
    else none
    else none
theorem w9_tries_189 {r : Int32} {rho9 : RH} (hfr : RA fr) {x1 x3 x4 s0 : Int32} {l2 l5 l6 l7 l8 l9 l10 l11 l12 : Option sV} {rho : RH} (h : b9_tries_189 x1 x3 x4 s0 rho = some (r, rho9)) : WP mX9_tries 6 0 189 [some (vR 9 0), some (vI (x1)), l2, some (vI (x3)), some (vI (x4)), l5, l6, l7, l8, l9, l10, l11, l12] [vI (s0)] (lv, fr, fi, ai, ar, li, out, rho) (Po lv fr fi ai ar li out (none) rho9) NX := by
  unfold b9_tries_189 at h
  refine wp_istore (L' := [some (vR 9 0), some (vI (x1)), l2, some (vI (x3)), some (vI (x4)), l5, some (vI (s0)), l7, l8, l9, l10, l11, l12]) dX9_tries_189 rfl rfl ?_
  refine wp_iload dX9_tries_191 rfl ?_
  refine wp_iconst (v := (-1)) dX9_tries_193 (by decide) ?_
  refine wp_icmp_ne (tgt := 206) dX9_tries_194 (by decide) (fun c1 => ?_) (fun c1 => ?_)
  · replace h := itn c1 h
    refine wp_aload_n dX9_tries_206 rfl ?_
    refine wp_getRI (y := 31) (by decide) rfl fl_X9_217 dX9_tries_207 ?_
    refine wp_istore (L' := [some (vR 9 0), some (vI (x1)), l2, some (vI (x3)), some (vI (x4)), l5, some (vI (s0)), some (vI ((rho 31 0))), l8, l9, l10, l11, l12]) dX9_tries_210 rfl rfl ?_
    refine wp_aload_n dX9_tries_212 rfl ?_
    refine wp_dup dX9_tries_213 trivial ?_
    refine wp_getRI (y := 31) (by decide) rfl fl_X9_217 dX9_tries_214 ?_
    refine wp_iconst (v := 1) dX9_tries_217 (by decide) ?_
    refine wp_iadd dX9_tries_218 ?_
    refine wp_putRI (y := 31) (by decide) rfl rfl fl_X9_217 dX9_tries_219 rfl ?_
    obtain ⟨rho5, e6, h⟩ := wr_e h
    rw [e6]
    refine wp_aload_n dX9_tries_222 rfl ?_
    refine wp_arrR (y := 32) (c := 232) hfr (by decide) rfl fl_X9_99 dX9_tries_223 ?_
    refine wp_iload dX9_tries_226 rfl ?_
    refine wp_iload_n dX9_tries_228 rfl ?_
    obtain ⟨c7, h⟩ := ock h
    refine wp_iastR (c := 232) (y := 32) rfl rfl (show vp_in ((rho 31 0)) (len 232) from c7) dX9_tries_229 ?_
    obtain ⟨rho8, e9, h⟩ := wr_e h
    rw [e9]
    refine wp_aload_n dX9_tries_230 rfl ?_
    refine wp_arrR (y := 33) (c := 233) hfr (by decide) rfl fl_X9_102 dX9_tries_231 ?_
    refine wp_iload dX9_tries_234 rfl ?_
    refine wp_aload_n dX9_tries_236 rfl ?_
    refine wp_arrR (y := 46) (c := 246) hfr (by decide) rfl fl_X9_141 dX9_tries_237 ?_
    refine wp_iload_n dX9_tries_240 rfl ?_
    obtain ⟨c10, h⟩ := ock h
    refine wp_ialdR (c := 246) (y := 46) rfl rfl (show vp_in (x1) (len 246) from c10) dX9_tries_241 ?_
    refine wp_iastR (c := 233) (y := 33) rfl rfl (show vp_in ((rho 31 0)) (len 233) from c7) dX9_tries_242 ?_
    obtain ⟨rho11, e12, h⟩ := wr_e h
    rw [e12]
    refine wp_aload_n dX9_tries_243 rfl ?_
    refine wp_arrR (y := 34) (c := 234) hfr (by decide) rfl fl_X9_105 dX9_tries_244 ?_
    refine wp_iload dX9_tries_247 rfl ?_
    refine wp_iload dX9_tries_249 rfl ?_
    refine wp_iastR (c := 234) (y := 34) rfl rfl (show vp_in ((rho 31 0)) (len 234) from c7) dX9_tries_251 ?_
    obtain ⟨rho13, e14, h⟩ := wr_e h
    rw [e14]
    refine wp_aload_n dX9_tries_252 rfl ?_
    refine wp_arrR (y := 35) (c := 235) hfr (by decide) rfl fl_X9_108 dX9_tries_253 ?_
    refine wp_iload dX9_tries_256 rfl ?_
    refine wp_iload_n dX9_tries_258 rfl ?_
    refine wp_iastR (c := 235) (y := 35) rfl rfl (show vp_in ((rho 31 0)) (len 235) from c7) dX9_tries_259 ?_
    obtain ⟨rho15, e16, h⟩ := wr_e h
    rw [e16]
    refine wp_aload_n dX9_tries_260 rfl ?_
    refine wp_arrR (y := 36) (c := 236) hfr (by decide) rfl fl_X9_111 dX9_tries_261 ?_
    refine wp_iload dX9_tries_264 rfl ?_
    refine wp_iload dX9_tries_266 rfl ?_
    refine wp_iastR (c := 236) (y := 36) rfl rfl (show vp_in ((rho 31 0)) (len 236) from c7) dX9_tries_268 ?_
    obtain ⟨rho17, e18, h⟩ := wr_e h
    rw [e18]
    refine wp_aload_n dX9_tries_269 rfl ?_
    refine wp_arrR (y := 46) (c := 246) hfr (by decide) rfl fl_X9_141 dX9_tries_270 ?_
    refine wp_iload dX9_tries_273 rfl ?_
    refine wp_iconst (v := (-1)) dX9_tries_275 (by decide) ?_
    obtain ⟨c19, h⟩ := ock h
    refine wp_iastR (c := 246) (y := 46) rfl rfl (show vp_in ((rho 31 0)) (len 246) from c19) dX9_tries_276 ?_
    obtain ⟨rho20, e21, h⟩ := wr_e h
    rw [e21]
    refine wp_aload_n dX9_tries_277 rfl ?_
    refine wp_arrR (y := 40) (c := 240) hfr (by decide) rfl fl_X9_123 dX9_tries_278 ?_
    refine wp_iload dX9_tries_281 rfl ?_
    refine wp_iload_n dX9_tries_283 rfl ?_
    refine wp_sipush (v := 400) dX9_tries_284 (by decide) ?_
    refine wp_icmp_ge (tgt := 299) dX9_tries_287 (by decide) (fun c22 => ?_) (fun c22 => ?_)
    · replace h := itp c22 h
      refine wp_iload_n dX9_tries_299 rfl ?_
      refine wp_sipush (v := 440) dX9_tries_300 (by decide) ?_
      refine wp_icmp_ge (tgt := 314) dX9_tries_303 (by decide) (fun c23 => ?_) (fun c23 => ?_)
      · replace h := itp c23 h
        refine wp_iconst (v := (-1)) dX9_tries_314 (by decide) ?_
        exact w9_tries_315 hfr h
      · replace h := itn c23 h
        refine wp_iload_n dX9_tries_306 rfl ?_
        refine wp_sipush (v := 400) dX9_tries_307 (by decide) ?_
        refine wp_isub dX9_tries_310 ?_
        refine wp_goto (tgt := 315) dX9_tries_311 (by decide) ?_
        exact w9_tries_315 hfr h
    · replace h := itn c22 h
      refine wp_aload_n dX9_tries_290 rfl ?_
      refine wp_arrR (y := 40) (c := 240) hfr (by decide) rfl fl_X9_123 dX9_tries_291 ?_
      refine wp_iload_n dX9_tries_294 rfl ?_
      obtain ⟨c24, h⟩ := ock h
      refine wp_ialdR (c := 240) (y := 40) rfl rfl (show vp_in (x1) (len 240) from c24) dX9_tries_295 ?_
      refine wp_goto (tgt := 315) dX9_tries_296 (by decide) ?_
      exact w9_tries_315 hfr h
  · replace h := itp c1 h
    refine wp_aload_n dX9_tries_197 rfl ?_
    refine wp_arrR (y := 50) (c := 250) hfr (by decide) rfl fl_X9_153 dX9_tries_198 ?_
    refine wp_iload_n dX9_tries_201 rfl ?_
    refine wp_bipush (v := 6) dX9_tries_202 (by decide) ?_
    obtain ⟨c2, h⟩ := ock h
    refine wp_iastR (c := 250) (y := 50) rfl rfl (show vp_in (x1) (len 250) from c2) dX9_tries_204 ?_
    obtain ⟨rho3, e4, h⟩ := wr_e h
    rw [e4]
    obtain ⟨q1, q2⟩ := sm_e h
    subst q2
    exact wp_return rfl dX9_tries_205 ⟨rfl, rfl⟩
def b9_tries_155 (x1 x3 x4 s1 s2 s3 : Int32) (rho : RH) : Option (Int32 × RH) :=
  if vq (s1) 540 then
  wr (up2 rho 49 (s1).toNatClampNeg ((s2 + s3))) fun rho2 =>
  ob (f9_wantedVersion (x4) rho2) fun r4 rho5 =>
  if (rho5 31 0) = 400 then
    b9_tries_189 (x1) (x3) (x4) ((-1)) rho5
  else
    ob (f9_chosen (x1) (x3) (x4) (r4) rho5) fun r8 rho9 =>
    b9_tries_189 (x1) (x3) (x4) (r8) rho9
  else none
theorem w9_tries_155 {r : Int32} {rho9 : RH} (hfr : RA fr) {x1 x3 x4 s1 s2 s3 : Int32} {l2 l5 l6 l7 l8 l9 l10 l11 l12 : Option sV} {rho : RH} (h : b9_tries_155 x1 x3 x4 s1 s2 s3 rho = some (r, rho9)) : WP mX9_tries 6 0 155 [some (vR 9 0), some (vI (x1)), l2, some (vI (x3)), some (vI (x4)), l5, l6, l7, l8, l9, l10, l11, l12] [vI (s3), vI (s2), vI (s1), vR 249 0] (lv, fr, fi, ai, ar, li, out, rho) (Po lv fr fi ai ar li out (none) rho9) NX := by
  unfold b9_tries_155 at h
  refine wp_iadd dX9_tries_155 ?_
  obtain ⟨c1, h⟩ := ock h
  refine wp_iastR (c := 249) (y := 49) rfl rfl (show vp_in (s1) (len 249) from c1) dX9_tries_156 ?_
  obtain ⟨rho2, e3, h⟩ := wr_e h
  rw [e3]
  refine wp_aload_n dX9_tries_157 rfl ?_
  refine wp_iload dX9_tries_158 rfl ?_
  obtain ⟨r4, rho5, hp6, h⟩ := ob_e h
  refine wp_callV (k1 := 0) (k2 := 0) (As := [vI (x4)]) (rest := []) (w9_wantedVersion hfr hp6) okX9_wantedVersion ivX9_wantedVersion rfl (by decide) ml_X9_283 dX9_tries_160 rfl (by decide) (Nat.le_refl _) rfl (Nat.le_of_ble_eq_true rfl) (fun _ _ z => z.elim) (fun r' S' z => ?_)
  obtain ⟨rfl, rfl⟩ := z
  show WP _ _ _ _ [some (vR 9 0), some (vI (x1)), l2, some (vI (x3)), some (vI (x4)), l5, l6, l7, l8, l9, l10, l11, l12] [vI (r4)] _ _ _
  refine wp_istore (L' := [some (vR 9 0), some (vI (x1)), l2, some (vI (x3)), some (vI (x4)), some (vI (r4)), l6, l7, l8, l9, l10, l11, l12]) dX9_tries_163 rfl rfl ?_
  refine wp_aload_n dX9_tries_165 rfl ?_
  refine wp_getRI (y := 31) (by decide) rfl fl_X9_217 dX9_tries_166 ?_
  refine wp_sipush (v := 400) dX9_tries_169 (by decide) ?_
  refine wp_icmp_ne (tgt := 179) dX9_tries_172 (by decide) (fun c7 => ?_) (fun c7 => ?_)
  · replace h := itn c7 h
    refine wp_aload_n dX9_tries_179 rfl ?_
    refine wp_iload_n dX9_tries_180 rfl ?_
    refine wp_iload_n dX9_tries_181 rfl ?_
    refine wp_iload dX9_tries_182 rfl ?_
    refine wp_iload dX9_tries_184 rfl ?_
    obtain ⟨r8, rho9, hp10, h⟩ := ob_e h
    refine wp_callV (k1 := 0) (k2 := 0) (As := [vI (x1), vI (x3), vI (x4), vI (r4)]) (rest := []) (w9_chosen hfr hp10) okX9_chosen ivX9_chosen rfl (by decide) ml_X9_286 dX9_tries_186 rfl (by decide) (Nat.le_refl _) rfl (Nat.le_of_ble_eq_true rfl) (fun _ _ z => z.elim) (fun r' S' z => ?_)
    obtain ⟨rfl, rfl⟩ := z
    show WP _ _ _ _ [some (vR 9 0), some (vI (x1)), l2, some (vI (x3)), some (vI (x4)), some (vI (r4)), l6, l7, l8, l9, l10, l11, l12] [vI (r8)] _ _ _
    exact w9_tries_189 hfr h
  · replace h := itp c7 h
    refine wp_iconst (v := (-1)) dX9_tries_175 (by decide) ?_
    refine wp_goto (tgt := 189) dX9_tries_176 (by decide) ?_
    exact w9_tries_189 hfr h
def b9_tries_127 (x1 x2 x3 x4 s1 s2 : Int32) (rho : RH) : Option (Int32 × RH) :=
  if vq (s1) 540 then
  wr (up2 rho 47 (s1).toNatClampNeg (s2)) fun rho2 =>
  if vq (x1) 540 then
  wr (up2 rho2 48 (x1).toNatClampNeg (((rho2 48 (x1).toNatClampNeg) + 1))) fun rho5 =>
  if x2 = 1 then
    b9_tries_155 (x1) (x3) (x4) (x1) ((rho5 49 (x1).toNatClampNeg)) (1) rho5
  else
    b9_tries_155 (x1) (x3) (x4) (x1) ((rho5 49 (x1).toNatClampNeg)) (0) rho5
  else none
  else none
theorem w9_tries_127 {r : Int32} {rho9 : RH} (hfr : RA fr) {x1 x2 x3 x4 s1 s2 : Int32} {l5 l6 l7 l8 l9 l10 l11 l12 : Option sV} {rho : RH} (h : b9_tries_127 x1 x2 x3 x4 s1 s2 rho = some (r, rho9)) : WP mX9_tries 6 0 127 [some (vR 9 0), some (vI (x1)), some (vI (x2)), some (vI (x3)), some (vI (x4)), l5, l6, l7, l8, l9, l10, l11, l12] [vI (s2), vI (s1), vR 247 0] (lv, fr, fi, ai, ar, li, out, rho) (Po lv fr fi ai ar li out (none) rho9) NX := by
  unfold b9_tries_127 at h
  obtain ⟨c1, h⟩ := ock h
  refine wp_iastR (c := 247) (y := 47) rfl rfl (show vp_in (s1) (len 247) from c1) dX9_tries_127 ?_
  obtain ⟨rho2, e3, h⟩ := wr_e h
  rw [e3]
  refine wp_aload_n dX9_tries_128 rfl ?_
  refine wp_arrR (y := 48) (c := 248) hfr (by decide) rfl fl_X9_147 dX9_tries_129 ?_
  refine wp_iload_n dX9_tries_132 rfl ?_
  refine wp_dup2 dX9_tries_133 trivial trivial ?_
  obtain ⟨c4, h⟩ := ock h
  refine wp_ialdR (c := 248) (y := 48) rfl rfl (show vp_in (x1) (len 248) from c4) dX9_tries_134 ?_
  refine wp_iconst (v := 1) dX9_tries_135 (by decide) ?_
  refine wp_iadd dX9_tries_136 ?_
  refine wp_iastR (c := 248) (y := 48) rfl rfl (show vp_in (x1) (len 248) from c4) dX9_tries_137 ?_
  obtain ⟨rho5, e6, h⟩ := wr_e h
  rw [e6]
  refine wp_aload_n dX9_tries_138 rfl ?_
  refine wp_arrR (y := 49) (c := 249) hfr (by decide) rfl fl_X9_150 dX9_tries_139 ?_
  refine wp_iload_n dX9_tries_142 rfl ?_
  refine wp_dup2 dX9_tries_143 trivial trivial ?_
  refine wp_ialdR (c := 249) (y := 49) rfl rfl (show vp_in (x1) (len 249) from c4) dX9_tries_144 ?_
  refine wp_iload_n dX9_tries_145 rfl ?_
  refine wp_iconst (v := 1) dX9_tries_146 (by decide) ?_
  refine wp_icmp_ne (tgt := 154) dX9_tries_147 (by decide) (fun c7 => ?_) (fun c7 => ?_)
  · replace h := itn c7 h
    refine wp_iconst (v := 0) dX9_tries_154 (by decide) ?_
    exact w9_tries_155 hfr h
  · replace h := itp c7 h
    refine wp_iconst (v := 1) dX9_tries_150 (by decide) ?_
    refine wp_goto (tgt := 155) dX9_tries_151 (by decide) ?_
    exact w9_tries_155 hfr h
def b9_tries_100 (x1 x2 x3 x4 : Int32) (rho : RH) : Option (Int32 × RH) :=
  if vq (x1) 540 then
  if (rho 48 (x1).toNatClampNeg) = 0 then
    b9_tries_127 (x1) (x2) (x3) (x4) (x1) ((rho 0 0)) rho
  else
    b9_tries_127 (x1) (x2) (x3) (x4) (x1) ((rho 47 (x1).toNatClampNeg)) rho
  else none
theorem w9_tries_100 {r : Int32} {rho9 : RH} (hfr : RA fr) {x1 x2 x3 x4 : Int32} {l5 l6 l7 l8 l9 l10 l11 l12 : Option sV} {rho : RH} (h : b9_tries_100 x1 x2 x3 x4 rho = some (r, rho9)) : WP mX9_tries 6 0 100 [some (vR 9 0), some (vI (x1)), some (vI (x2)), some (vI (x3)), some (vI (x4)), l5, l6, l7, l8, l9, l10, l11, l12] [] (lv, fr, fi, ai, ar, li, out, rho) (Po lv fr fi ai ar li out (none) rho9) NX := by
  unfold b9_tries_100 at h
  refine wp_aload_n dX9_tries_100 rfl ?_
  refine wp_arrR (y := 47) (c := 247) hfr (by decide) rfl fl_X9_144 dX9_tries_101 ?_
  refine wp_iload_n dX9_tries_104 rfl ?_
  refine wp_aload_n dX9_tries_105 rfl ?_
  refine wp_arrR (y := 48) (c := 248) hfr (by decide) rfl fl_X9_147 dX9_tries_106 ?_
  refine wp_iload_n dX9_tries_109 rfl ?_
  obtain ⟨c1, h⟩ := ock h
  refine wp_ialdR (c := 248) (y := 48) rfl rfl (show vp_in (x1) (len 248) from c1) dX9_tries_110 ?_
  refine wp_if_ne (tgt := 121) dX9_tries_111 (by decide) (fun c2 => ?_) (fun c2 => ?_)
  · replace h := itn c2 h
    refine wp_aload_n dX9_tries_121 rfl ?_
    refine wp_arrR (y := 47) (c := 247) hfr (by decide) rfl fl_X9_144 dX9_tries_122 ?_
    refine wp_iload_n dX9_tries_125 rfl ?_
    refine wp_ialdR (c := 247) (y := 47) rfl rfl (show vp_in (x1) (len 247) from c1) dX9_tries_126 ?_
    exact w9_tries_127 hfr h
  · replace h := itp c2 h
    refine wp_aload_n dX9_tries_114 rfl ?_
    refine wp_getRI (y := 0) (by decide) rfl fl_X9_220 dX9_tries_115 ?_
    refine wp_goto (tgt := 127) dX9_tries_118 (by decide) ?_
    exact w9_tries_127 hfr h
def b9_tries_60 (x1 x2 x3 x4 s1 s2 : Int32) (rho : RH) : Option (Int32 × RH) :=
  if vq (s1) 7 then
  wr (up2 rho 17 (s1).toNatClampNeg (s2)) fun rho2 =>
  if vq (x3) 7 then
  wr (up2 rho2 18 (x3).toNatClampNeg (((rho2 18 (x3).toNatClampNeg) + 1))) fun rho5 =>
  b9_tries_100 (x1) (x2) (x3) (x4) rho5
  else none
  else none
theorem w9_tries_60 {r : Int32} {rho9 : RH} (hfr : RA fr) {x1 x2 x3 x4 s1 s2 : Int32} {l5 l6 l7 l8 l9 l10 l11 l12 : Option sV} {rho : RH} (h : b9_tries_60 x1 x2 x3 x4 s1 s2 rho = some (r, rho9)) : WP mX9_tries 6 0 60 [some (vR 9 0), some (vI (x1)), some (vI (x2)), some (vI (x3)), some (vI (x4)), l5, l6, l7, l8, l9, l10, l11, l12] [vI (s2), vI (s1), vR 217 0] (lv, fr, fi, ai, ar, li, out, rho) (Po lv fr fi ai ar li out (none) rho9) NX := by
  unfold b9_tries_60 at h
  obtain ⟨c1, h⟩ := ock h
  refine wp_iastR (c := 217) (y := 17) rfl rfl (show vp_in (s1) (len 217) from c1) dX9_tries_60 ?_
  obtain ⟨rho2, e3, h⟩ := wr_e h
  rw [e3]
  refine wp_aload_n dX9_tries_61 rfl ?_
  refine wp_arrR (y := 18) (c := 218) hfr (by decide) rfl fl_X9_59 dX9_tries_62 ?_
  refine wp_iload_n dX9_tries_65 rfl ?_
  refine wp_dup2 dX9_tries_66 trivial trivial ?_
  obtain ⟨c4, h⟩ := ock h
  refine wp_ialdR (c := 218) (y := 18) rfl rfl (show vp_in (x3) (len 218) from c4) dX9_tries_67 ?_
  refine wp_iconst (v := 1) dX9_tries_68 (by decide) ?_
  refine wp_iadd dX9_tries_69 ?_
  refine wp_iastR (c := 218) (y := 18) rfl rfl (show vp_in (x3) (len 218) from c4) dX9_tries_70 ?_
  obtain ⟨rho5, e6, h⟩ := wr_e h
  rw [e6]
  refine wp_goto (tgt := 100) dX9_tries_71 (by decide) ?_
  exact w9_tries_100 hfr h
def f9_tries (x1 x2 : Int32) (rho : RH) : Option (Int32 × RH) :=
  ob (f9_callerOf (x1) rho) fun r1 rho2 =>
  ob (f9_calledBy (x1) rho2) fun r4 rho5 =>
  if x2 = 0 then
    if vq (r1) 7 then
    if ((rho5 17 (r1).toNatClampNeg) + (rho5 16 (r1).toNatClampNeg)) ≤ 1000 then
      b9_tries_60 (x1) (x2) (r1) (r4) (r1) (((rho5 17 (r1).toNatClampNeg) + (rho5 16 (r1).toNatClampNeg))) rho5
    else
      b9_tries_60 (x1) (x2) (r1) (r4) (r1) (1000) rho5
    else none
  else
    if x2 = 3 then
      b9_tries_100 (x1) (x2) (r1) (r4) rho5
    else
      if vq (r1) 7 then
      wr (up2 rho5 17 (r1).toNatClampNeg (((rho5 17 (r1).toNatClampNeg) - 100))) fun rho12 =>
      wr (up2 rho12 19 (r1).toNatClampNeg (((rho12 19 (r1).toNatClampNeg) + 1))) fun rho14 =>
      b9_tries_100 (x1) (x2) (r1) (r4) rho14
      else none
theorem w9_tries {r : Int32} {rho9 : RH} (hfr : RA fr) {x1 x2 : Int32} {rho : RH} (h : f9_tries x1 x2 rho = some (r, rho9)) : Spec mX9_tries 6 0 [vR 9 0, vI x1, vI x2] (lv, fr, fi, ai, ar, li, out, rho) (Po lv fr fi ai ar li out (none) rho9) NX := by
  unfold f9_tries at h
  refine spec_of (by decide) rfl (by simp [catS, cat1]) (Nat.le_of_ble_eq_true rfl) ?_
  show WP mX9_tries 6 0 0 [some (vR 9 0), some (vI (x1)), some (vI (x2)), none, none, none, none, none, none, none, none, none, none] [] (lv, fr, fi, ai, ar, li, out, rho) (Po lv fr fi ai ar li out (none) rho9) NX
  refine wp_aload_n dX9_tries_0 rfl ?_
  refine wp_iload_n dX9_tries_1 rfl ?_
  obtain ⟨r1, rho2, hp3, h⟩ := ob_e h
  refine wp_callV (k1 := 0) (k2 := 0) (As := [vI (x1)]) (rest := []) (w9_callerOf hfr hp3) okX9_callerOf ivX9_callerOf rfl (by decide) ml_X9_276 dX9_tries_2 rfl (by decide) (Nat.le_refl _) rfl (Nat.le_of_ble_eq_true rfl) (fun _ _ z => z.elim) (fun r' S' z => ?_)
  obtain ⟨rfl, rfl⟩ := z
  show WP _ _ _ _ [some (vR 9 0), some (vI (x1)), some (vI (x2)), none, none, none, none, none, none, none, none, none, none] [vI (r1)] _ _ _
  refine wp_istore_n (L' := [some (vR 9 0), some (vI (x1)), some (vI (x2)), some (vI (r1)), none, none, none, none, none, none, none, none, none]) dX9_tries_5 rfl rfl ?_
  refine wp_aload_n dX9_tries_6 rfl ?_
  refine wp_iload_n dX9_tries_7 rfl ?_
  obtain ⟨r4, rho5, hp6, h⟩ := ob_e h
  refine wp_callV (k1 := 0) (k2 := 0) (As := [vI (x1)]) (rest := []) (w9_calledBy hfr hp6) okX9_calledBy ivX9_calledBy rfl (by decide) ml_X9_280 dX9_tries_8 rfl (by decide) (Nat.le_refl _) rfl (Nat.le_of_ble_eq_true rfl) (fun _ _ z => z.elim) (fun r' S' z => ?_)
  obtain ⟨rfl, rfl⟩ := z
  show WP _ _ _ _ [some (vR 9 0), some (vI (x1)), some (vI (x2)), some (vI (r1)), none, none, none, none, none, none, none, none, none] [vI (r4)] _ _ _
  refine wp_istore (L' := [some (vR 9 0), some (vI (x1)), some (vI (x2)), some (vI (r1)), some (vI (r4)), none, none, none, none, none, none, none, none]) dX9_tries_11 rfl rfl ?_
  refine wp_iload_n dX9_tries_13 rfl ?_
  refine wp_if_ne (tgt := 74) dX9_tries_14 (by decide) (fun c7 => ?_) (fun c7 => ?_)
  · replace h := itn c7 h
    refine wp_iload_n dX9_tries_74 rfl ?_
    refine wp_iconst (v := 3) dX9_tries_75 (by decide) ?_
    refine wp_icmp_eq (tgt := 100) dX9_tries_76 (by decide) (fun c10 => ?_) (fun c10 => ?_)
    · replace h := itp c10 h
      exact w9_tries_100 hfr h
    · replace h := itn c10 h
      refine wp_aload_n dX9_tries_79 rfl ?_
      refine wp_arrR (y := 17) (c := 217) hfr (by decide) rfl fl_X9_56 dX9_tries_80 ?_
      refine wp_iload_n dX9_tries_83 rfl ?_
      refine wp_dup2 dX9_tries_84 trivial trivial ?_
      obtain ⟨c11, h⟩ := ock h
      refine wp_ialdR (c := 217) (y := 17) rfl rfl (show vp_in (r1) (len 217) from c11) dX9_tries_85 ?_
      refine wp_bipush (v := 100) dX9_tries_86 (by decide) ?_
      refine wp_isub dX9_tries_88 ?_
      refine wp_iastR (c := 217) (y := 17) rfl rfl (show vp_in (r1) (len 217) from c11) dX9_tries_89 ?_
      obtain ⟨rho12, e13, h⟩ := wr_e h
      rw [e13]
      refine wp_aload_n dX9_tries_90 rfl ?_
      refine wp_arrR (y := 19) (c := 219) hfr (by decide) rfl fl_X9_62 dX9_tries_91 ?_
      refine wp_iload_n dX9_tries_94 rfl ?_
      refine wp_dup2 dX9_tries_95 trivial trivial ?_
      refine wp_ialdR (c := 219) (y := 19) rfl rfl (show vp_in (r1) (len 219) from c11) dX9_tries_96 ?_
      refine wp_iconst (v := 1) dX9_tries_97 (by decide) ?_
      refine wp_iadd dX9_tries_98 ?_
      refine wp_iastR (c := 219) (y := 19) rfl rfl (show vp_in (r1) (len 219) from c11) dX9_tries_99 ?_
      obtain ⟨rho14, e15, h⟩ := wr_e h
      rw [e15]
      exact w9_tries_100 hfr h
  · replace h := itp c7 h
    refine wp_aload_n dX9_tries_17 rfl ?_
    refine wp_arrR (y := 17) (c := 217) hfr (by decide) rfl fl_X9_56 dX9_tries_18 ?_
    refine wp_iload_n dX9_tries_21 rfl ?_
    refine wp_aload_n dX9_tries_22 rfl ?_
    refine wp_arrR (y := 17) (c := 217) hfr (by decide) rfl fl_X9_56 dX9_tries_23 ?_
    refine wp_iload_n dX9_tries_26 rfl ?_
    obtain ⟨c8, h⟩ := ock h
    refine wp_ialdR (c := 217) (y := 17) rfl rfl (show vp_in (r1) (len 217) from c8) dX9_tries_27 ?_
    refine wp_aload_n dX9_tries_28 rfl ?_
    refine wp_arrR (y := 16) (c := 216) hfr (by decide) rfl fl_X9_53 dX9_tries_29 ?_
    refine wp_iload_n dX9_tries_32 rfl ?_
    refine wp_ialdR (c := 216) (y := 16) rfl rfl (show vp_in (r1) (len 216) from c8) dX9_tries_33 ?_
    refine wp_iadd dX9_tries_34 ?_
    refine wp_sipush (v := 1000) dX9_tries_35 (by decide) ?_
    refine wp_icmp_le (tgt := 47) dX9_tries_38 (by decide) (fun c9 => ?_) (fun c9 => ?_)
    · replace h := itp c9 h
      refine wp_aload_n dX9_tries_47 rfl ?_
      refine wp_arrR (y := 17) (c := 217) hfr (by decide) rfl fl_X9_56 dX9_tries_48 ?_
      refine wp_iload_n dX9_tries_51 rfl ?_
      refine wp_ialdR (c := 217) (y := 17) rfl rfl (show vp_in (r1) (len 217) from c8) dX9_tries_52 ?_
      refine wp_aload_n dX9_tries_53 rfl ?_
      refine wp_arrR (y := 16) (c := 216) hfr (by decide) rfl fl_X9_53 dX9_tries_54 ?_
      refine wp_iload_n dX9_tries_57 rfl ?_
      refine wp_ialdR (c := 216) (y := 16) rfl rfl (show vp_in (r1) (len 216) from c8) dX9_tries_58 ?_
      refine wp_iadd dX9_tries_59 ?_
      exact w9_tries_60 hfr h
    · replace h := itn c9 h
      refine wp_sipush (v := 1000) dX9_tries_41 (by decide) ?_
      refine wp_goto (tgt := 60) dX9_tries_44 (by decide) ?_
      exact w9_tries_60 hfr h
end S9
