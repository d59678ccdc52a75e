section S9
variable {lv : Nat → Nat → Bool} {fr : Nat → Nat → Option Nat} {fi : Nat → Nat → Int32} {ai : Nat → Nat → Nat → Int32} {ar : Nat → Nat → Nat → Option Nat} {li : Nat → Nat → List Nat} {out : Int64}
def f9_burden (x1 x2 x3 : Int32) (rho : RH) : Option (Int32 × RH) :=
  if 400 ≤ x1 then
    if vq (x3) 12 then
    if vq (((12 * x2) + x3)) 84 then
    if ¬ (rho 9 (x3).toNatClampNeg) = 0 then
    if 0 = (rho 8 (x3).toNatClampNeg) then
      some ((((100 * ((rho 14 (x3).toNatClampNeg) + (rho 24 (((12 * x2) + x3)).toNatClampNeg))) / (rho 9 (x3).toNatClampNeg)) + 0), rho)
    else
      some ((((100 * ((rho 14 (x3).toNatClampNeg) + (rho 24 (((12 * x2) + x3)).toNatClampNeg))) / (rho 9 (x3).toNatClampNeg)) + 150), rho)
    else none
    else none
    else none
  else
    if vq (x1) 400 then
    if vq ((rho 36 (x1).toNatClampNeg)) 12 then
    if vq (x3) 12 then
    if vq (((12 * x2) + x3)) 84 then
    if ¬ (rho 9 (x3).toNatClampNeg) = 0 then
    if (rho 8 ((rho 36 (x1).toNatClampNeg)).toNatClampNeg) = (rho 8 (x3).toNatClampNeg) then
      some ((((100 * ((rho 14 (x3).toNatClampNeg) + (rho 24 (((12 * x2) + x3)).toNatClampNeg))) / (rho 9 (x3).toNatClampNeg)) + 0), rho)
    else
      some ((((100 * ((rho 14 (x3).toNatClampNeg) + (rho 24 (((12 * x2) + x3)).toNatClampNeg))) / (rho 9 (x3).toNatClampNeg)) + 150), rho)
    else none
    else none
    else none
    else none
    else none
theorem w9_burden {r : Int32} {rho9 : RH} (hfr : RA fr) {x1 x2 x3 : Int32} {rho : RH} (h : f9_burden x1 x2 x3 rho = some (r, rho9)) : Spec mX9_burden 0 0 [vR 9 0, vI x1, vI x2, vI x3] (lv, fr, fi, ai, ar, li, out, rho) (Po lv fr fi ai ar li out (some (vI r)) rho9) NX := by
  unfold f9_burden at h
  refine spec_of (by decide) rfl (by simp [catS, cat1]) (Nat.le_of_ble_eq_true rfl) ?_
  show WP mX9_burden 0 0 0 [some (vR 9 0), some (vI (x1)), some (vI (x2)), some (vI (x3)), none] [] (lv, fr, fi, ai, ar, li, out, rho) (Po lv fr fi ai ar li out (some (vI r)) rho9) NX
  refine wp_iload_n dX9_burden_0 rfl ?_
  refine wp_sipush (v := 400) dX9_burden_1 (by decide) ?_
  refine wp_icmp_ge (tgt := 21) dX9_burden_4 (by decide) (fun c1 => ?_) (fun c1 => ?_)
  · replace h := itp c1 h
    refine wp_iconst (v := 0) dX9_burden_21 (by decide) ?_
    refine wp_istore (L' := [some (vR 9 0), some (vI (x1)), some (vI (x2)), some (vI (x3)), some (vI (0))]) dX9_burden_22 rfl rfl ?_
    refine wp_bipush (v := 100) dX9_burden_24 (by decide) ?_
    refine wp_aload_n dX9_burden_26 rfl ?_
    refine wp_arrR (y := 14) (c := 214) hfr (by decide) rfl fl_X9_47 dX9_burden_27 ?_
    refine wp_iload_n dX9_burden_30 rfl ?_
    obtain ⟨c2, h⟩ := ock h
    refine wp_ialdR (c := 214) (y := 14) rfl rfl (show vp_in (x3) (len 214) from c2) dX9_burden_31 ?_
    refine wp_aload_n dX9_burden_32 rfl ?_
    refine wp_arrR (y := 24) (c := 224) hfr (by decide) rfl fl_X9_78 dX9_burden_33 ?_
    refine wp_bipush (v := 12) dX9_burden_36 (by decide) ?_
    refine wp_iload_n dX9_burden_38 rfl ?_
    refine wp_imul dX9_burden_39 ?_
    refine wp_iload_n dX9_burden_40 rfl ?_
    refine wp_iadd dX9_burden_41 ?_
    obtain ⟨c3, h⟩ := ock h
    refine wp_ialdR (c := 224) (y := 24) rfl rfl (show vp_in (((12 * x2) + x3)) (len 224) from c3) dX9_burden_42 ?_
    refine wp_iadd dX9_burden_43 ?_
    refine wp_imul dX9_burden_44 ?_
    refine wp_aload_n dX9_burden_45 rfl ?_
    refine wp_arrR (y := 9) (c := 209) hfr (by decide) rfl fl_X9_32 dX9_burden_46 ?_
    refine wp_iload_n dX9_burden_49 rfl ?_
    refine wp_ialdR (c := 209) (y := 9) rfl rfl (show vp_in (x3) (len 209) from c2) dX9_burden_50 ?_
    obtain ⟨c4, h⟩ := ock h
    refine wp_idiv dX9_burden_51 c4 ?_
    refine wp_iload dX9_burden_52 rfl ?_
    refine wp_aload_n dX9_burden_54 rfl ?_
    refine wp_arrR (y := 8) (c := 208) hfr (by decide) rfl fl_X9_29 dX9_burden_55 ?_
    refine wp_iload_n dX9_burden_58 rfl ?_
    refine wp_ialdR (c := 208) (y := 8) rfl rfl (show vp_in (x3) (len 208) from c2) dX9_burden_59 ?_
    refine wp_icmp_ne (tgt := 67) dX9_burden_60 (by decide) (fun c5 => ?_) (fun c5 => ?_)
    · replace h := itn c5 h
      refine wp_sipush (v := 150) dX9_burden_67 (by decide) ?_
      refine wp_iadd dX9_burden_70 ?_
      obtain ⟨q1, q2⟩ := sm_e h
      subst q1
      subst q2
      exact wp_ireturn rfl dX9_burden_71 ⟨rfl, rfl⟩
    · replace h := itp c5 h
      refine wp_iconst (v := 0) dX9_burden_63 (by decide) ?_
      refine wp_goto (tgt := 70) dX9_burden_64 (by decide) ?_
      refine wp_iadd dX9_burden_70 ?_
      obtain ⟨q1, q2⟩ := sm_e h
      subst q1
      subst q2
      exact wp_ireturn rfl dX9_burden_71 ⟨rfl, rfl⟩
  · replace h := itn c1 h
    refine wp_aload_n dX9_burden_7 rfl ?_
    refine wp_arrR (y := 8) (c := 208) hfr (by decide) rfl fl_X9_29 dX9_burden_8 ?_
    refine wp_aload_n dX9_burden_11 rfl ?_
    refine wp_arrR (y := 36) (c := 236) hfr (by decide) rfl fl_X9_111 dX9_burden_12 ?_
    refine wp_iload_n dX9_burden_15 rfl ?_
    obtain ⟨c6, h⟩ := ock h
    refine wp_ialdR (c := 236) (y := 36) rfl rfl (show vp_in (x1) (len 236) from c6) dX9_burden_16 ?_
    obtain ⟨c7, h⟩ := ock h
    refine wp_ialdR (c := 208) (y := 8) rfl rfl (show vp_in ((rho 36 (x1).toNatClampNeg)) (len 208) from c7) dX9_burden_17 ?_
    refine wp_goto (tgt := 22) dX9_burden_18 (by decide) ?_
    refine wp_istore (L' := [some (vR 9 0), some (vI (x1)), some (vI (x2)), some (vI (x3)), some (vI ((rho 8 ((rho 36 (x1).toNatClampNeg)).toNatClampNeg)))]) dX9_burden_22 rfl rfl ?_
    refine wp_bipush (v := 100) dX9_burden_24 (by decide) ?_
    refine wp_aload_n dX9_burden_26 rfl ?_
    refine wp_arrR (y := 14) (c := 214) hfr (by decide) rfl fl_X9_47 dX9_burden_27 ?_
    refine wp_iload_n dX9_burden_30 rfl ?_
    obtain ⟨c8, h⟩ := ock h
    refine wp_ialdR (c := 214) (y := 14) rfl rfl (show vp_in (x3) (len 214) from c8) dX9_burden_31 ?_
    refine wp_aload_n dX9_burden_32 rfl ?_
    refine wp_arrR (y := 24) (c := 224) hfr (by decide) rfl fl_X9_78 dX9_burden_33 ?_
    refine wp_bipush (v := 12) dX9_burden_36 (by decide) ?_
    refine wp_iload_n dX9_burden_38 rfl ?_
    refine wp_imul dX9_burden_39 ?_
    refine wp_iload_n dX9_burden_40 rfl ?_
    refine wp_iadd dX9_burden_41 ?_
    obtain ⟨c9, h⟩ := ock h
    refine wp_ialdR (c := 224) (y := 24) rfl rfl (show vp_in (((12 * x2) + x3)) (len 224) from c9) dX9_burden_42 ?_
    refine wp_iadd dX9_burden_43 ?_
    refine wp_imul dX9_burden_44 ?_
    refine wp_aload_n dX9_burden_45 rfl ?_
    refine wp_arrR (y := 9) (c := 209) hfr (by decide) rfl fl_X9_32 dX9_burden_46 ?_
    refine wp_iload_n dX9_burden_49 rfl ?_
    refine wp_ialdR (c := 209) (y := 9) rfl rfl (show vp_in (x3) (len 209) from c8) dX9_burden_50 ?_
    obtain ⟨c10, h⟩ := ock h
    refine wp_idiv dX9_burden_51 c10 ?_
    refine wp_iload dX9_burden_52 rfl ?_
    refine wp_aload_n dX9_burden_54 rfl ?_
    refine wp_arrR (y := 8) (c := 208) hfr (by decide) rfl fl_X9_29 dX9_burden_55 ?_
    refine wp_iload_n dX9_burden_58 rfl ?_
    refine wp_ialdR (c := 208) (y := 8) rfl rfl (show vp_in (x3) (len 208) from c8) dX9_burden_59 ?_
    refine wp_icmp_ne (tgt := 67) dX9_burden_60 (by decide) (fun c11 => ?_) (fun c11 => ?_)
    · replace h := itn c11 h
      refine wp_sipush (v := 150) dX9_burden_67 (by decide) ?_
      refine wp_iadd dX9_burden_70 ?_
      obtain ⟨q1, q2⟩ := sm_e h
      subst q1
      subst q2
      exact wp_ireturn rfl dX9_burden_71 ⟨rfl, rfl⟩
    · replace h := itp c11 h
      refine wp_iconst (v := 0) dX9_burden_63 (by decide) ?_
      refine wp_goto (tgt := 70) dX9_burden_64 (by decide) ?_
      refine wp_iadd dX9_burden_70 ?_
      obtain ⟨q1, q2⟩ := sm_e h
      subst q1
      subst q2
      exact wp_ireturn rfl dX9_burden_71 ⟨rfl, rfl⟩
def l9_chosen_9 : Nat → Int32 → Int32 → Int32 → Int32 → Int32 → Int32 → Int32 → RH → Option (Int32 × RH)
  | 0, _, _, _, _, _, _, _, _ => none
  | n + 1, x1, x2, x3, x4, x5, x6, x7, rho =>
  if (rho 6 0) ≤ x7 then
    some (x5, rho)
  else
    ob (f9_canChoose (x2) (x3) (x7) rho) fun r2 rho3 =>
    if r2 = 0 then
      l9_chosen_9 n (x1) (x2) (x3) (x4) (x5) (x6) (x7 + 1) rho3
    else
      ob (f9_hasTried (x1) (x7) rho3) fun r6 rho7 =>
      if r6 = 0 then
        if x4 = (-1) then
          if x5 = (-1) then
            l9_chosen_9 n (x1) (x2) (x3) (x4) (x7) ((0 + 0)) (x7 + 1) rho7
          else
            if (0 + 0) < x6 then
              l9_chosen_9 n (x1) (x2) (x3) (x4) (x7) ((0 + 0)) (x7 + 1) rho7
            else
              if (0 + 0) = x6 then
                ob (f9_burden (x1) (x2) (x7) rho7) fun r14 rho15 =>
                ob (f9_burden (x1) (x2) (x5) rho15) fun r17 rho18 =>
                if r17 ≤ r14 then
                  l9_chosen_9 n (x1) (x2) (x3) (x4) (x5) (x6) (x7 + 1) rho18
                else
                  l9_chosen_9 n (x1) (x2) (x3) (x4) (x7) ((0 + 0)) (x7 + 1) rho18
              else
                l9_chosen_9 n (x1) (x2) (x3) (x4) (x5) (x6) (x7 + 1) rho7
        else
          if vq (x7) 12 then
          if (rho7 12 (x7).toNatClampNeg) = x4 then
            if x5 = (-1) then
              l9_chosen_9 n (x1) (x2) (x3) (x4) (x7) ((0 + 0)) (x7 + 1) rho7
            else
              if (0 + 0) < x6 then
                l9_chosen_9 n (x1) (x2) (x3) (x4) (x7) ((0 + 0)) (x7 + 1) rho7
              else
                if (0 + 0) = x6 then
                  ob (f9_burden (x1) (x2) (x7) rho7) fun r26 rho27 =>
                  ob (f9_burden (x1) (x2) (x5) rho27) fun r29 rho30 =>
                  if r29 ≤ r26 then
                    l9_chosen_9 n (x1) (x2) (x3) (x4) (x5) (x6) (x7 + 1) rho30
                  else
                    l9_chosen_9 n (x1) (x2) (x3) (x4) (x7) ((0 + 0)) (x7 + 1) rho30
                else
                  l9_chosen_9 n (x1) (x2) (x3) (x4) (x5) (x6) (x7 + 1) rho7
          else
            if x5 = (-1) then
              l9_chosen_9 n (x1) (x2) (x3) (x4) (x7) ((0 + 1)) (x7 + 1) rho7
            else
              if (0 + 1) < x6 then
                l9_chosen_9 n (x1) (x2) (x3) (x4) (x7) ((0 + 1)) (x7 + 1) rho7
              else
                if (0 + 1) = x6 then
                  ob (f9_burden (x1) (x2) (x7) rho7) fun r36 rho37 =>
                  ob (f9_burden (x1) (x2) (x5) rho37) fun r39 rho40 =>
                  if r39 ≤ r36 then
                    l9_chosen_9 n (x1) (x2) (x3) (x4) (x5) (x6) (x7 + 1) rho40
                  else
                    l9_chosen_9 n (x1) (x2) (x3) (x4) (x7) ((0 + 1)) (x7 + 1) rho40
                else
                  l9_chosen_9 n (x1) (x2) (x3) (x4) (x5) (x6) (x7 + 1) rho7
          else none
      else
        if x4 = (-1) then
          if x5 = (-1) then
            l9_chosen_9 n (x1) (x2) (x3) (x4) (x7) ((2 + 0)) (x7 + 1) rho7
          else
            if (2 + 0) < x6 then
              l9_chosen_9 n (x1) (x2) (x3) (x4) (x7) ((2 + 0)) (x7 + 1) rho7
            else
              if (2 + 0) = x6 then
                ob (f9_burden (x1) (x2) (x7) rho7) fun r47 rho48 =>
                ob (f9_burden (x1) (x2) (x5) rho48) fun r50 rho51 =>
                if r50 ≤ r47 then
                  l9_chosen_9 n (x1) (x2) (x3) (x4) (x5) (x6) (x7 + 1) rho51
                else
                  l9_chosen_9 n (x1) (x2) (x3) (x4) (x7) ((2 + 0)) (x7 + 1) rho51
              else
                l9_chosen_9 n (x1) (x2) (x3) (x4) (x5) (x6) (x7 + 1) rho7
        else
          if vq (x7) 12 then
          if (rho7 12 (x7).toNatClampNeg) = x4 then
            if x5 = (-1) then
              l9_chosen_9 n (x1) (x2) (x3) (x4) (x7) ((2 + 0)) (x7 + 1) rho7
            else
              if (2 + 0) < x6 then
                l9_chosen_9 n (x1) (x2) (x3) (x4) (x7) ((2 + 0)) (x7 + 1) rho7
              else
                if (2 + 0) = x6 then
                  ob (f9_burden (x1) (x2) (x7) rho7) fun r59 rho60 =>
                  ob (f9_burden (x1) (x2) (x5) rho60) fun r62 rho63 =>
                  if r62 ≤ r59 then
                    l9_chosen_9 n (x1) (x2) (x3) (x4) (x5) (x6) (x7 + 1) rho63
                  else
                    l9_chosen_9 n (x1) (x2) (x3) (x4) (x7) ((2 + 0)) (x7 + 1) rho63
                else
                  l9_chosen_9 n (x1) (x2) (x3) (x4) (x5) (x6) (x7 + 1) rho7
          else
            if x5 = (-1) then
              l9_chosen_9 n (x1) (x2) (x3) (x4) (x7) ((2 + 1)) (x7 + 1) rho7
            else
              if (2 + 1) < x6 then
                l9_chosen_9 n (x1) (x2) (x3) (x4) (x7) ((2 + 1)) (x7 + 1) rho7
              else
                if (2 + 1) = x6 then
                  ob (f9_burden (x1) (x2) (x7) rho7) fun r69 rho70 =>
                  ob (f9_burden (x1) (x2) (x5) rho70) fun r72 rho73 =>
                  if r72 ≤ r69 then
                    l9_chosen_9 n (x1) (x2) (x3) (x4) (x5) (x6) (x7 + 1) rho73
                  else
                    l9_chosen_9 n (x1) (x2) (x3) (x4) (x7) ((2 + 1)) (x7 + 1) rho73
                else
                  l9_chosen_9 n (x1) (x2) (x3) (x4) (x5) (x6) (x7 + 1) rho7
          else none
theorem w9_chosen_9 {r : Int32} {rho9 : RH} (hfr : RA fr) : ∀ (n : Nat) {x1 x2 x3 x4 x5 x6 x7 : Int32} {l8 l9 : Option sV} {rho : RH}, l9_chosen_9 n x1 x2 x3 x4 x5 x6 x7 rho = some (r, rho9) → WP mX9_chosen 5 0 9 [some (vR 9 0), some (vI (x1)), some (vI (x2)), some (vI (x3)), some (vI (x4)), some (vI (x5)), some (vI (x6)), some (vI (x7)), l8, l9] [] (lv, fr, fi, ai, ar, li, out, rho) (Po lv fr fi ai ar li out (some (vI r)) rho9) NX := by
  intro n
  induction n with
  | zero =>
    intro x1 x2 x3 x4 x5 x6 x7 l8 l9 rho h
    rw [l9_chosen_9] at h
    cases h
  | succ n ih =>
    intro x1 x2 x3 x4 x5 x6 x7 l8 l9 rho h
    rw [l9_chosen_9] at h
    refine wp_iload dX9_chosen_9 rfl ?_
    refine wp_aload_n dX9_chosen_11 rfl ?_
    refine wp_getRI (y := 6) (by decide) rfl fl_X9_193 dX9_chosen_12 ?_
    refine wp_icmp_ge (tgt := 150) dX9_chosen_15 (by decide) (fun c1 => ?_) (fun c1 => ?_)
    · replace h := itp c1 h
      refine wp_iload dX9_chosen_150 rfl ?_
      obtain ⟨q1, q2⟩ := sm_e h
      subst q1
      subst q2
      exact wp_ireturn rfl dX9_chosen_152 ⟨rfl, rfl⟩
    · replace h := itn c1 h
      refine wp_aload_n dX9_chosen_18 rfl ?_
      refine wp_iload_n dX9_chosen_19 rfl ?_
      refine wp_iload_n dX9_chosen_20 rfl ?_
      refine wp_iload dX9_chosen_21 rfl ?_
      obtain ⟨r2, rho3, hp4, h⟩ := ob_e h
      refine wp_callV (k1 := 0) (k2 := 0) (As := [vI (x2), vI (x3), vI (x7)]) (rest := []) (w9_canChoose hfr hp4) okX9_canChoose ivX9_canChoose rfl (by decide) ml_X9_266 dX9_chosen_23 rfl (by decide) (Nat.le_refl _) rfl (Nat.le_of_ble_eq_true rfl) (fun _ _ z => z.elim) (fun r' S' z => ?_)
      obtain ⟨rfl, rfl⟩ := z
      show WP _ _ _ _ [some (vR 9 0), some (vI (x1)), some (vI (x2)), some (vI (x3)), some (vI (x4)), some (vI (x5)), some (vI (x6)), some (vI (x7)), l8, l9] [vI (r2)] _ _ _
      refine wp_if_eq (tgt := 144) dX9_chosen_26 (by decide) (fun c5 => ?_) (fun c5 => ?_)
      · replace h := itp c5 h
        refine wp_iinc (v := x7 + 1) (L' := [some (vR 9 0), some (vI (x1)), some (vI (x2)), some (vI (x3)), some (vI (x4)), some (vI (x5)), some (vI (x6)), some (vI (x7 + 1)), l8, l9]) dX9_chosen_144 rfl rfl rfl ?_
        refine wp_goto (tgt := 9) dX9_chosen_147 (by decide) ?_
        exact ih h
      · replace h := itn c5 h
        refine wp_aload_n dX9_chosen_29 rfl ?_
        refine wp_iload_n dX9_chosen_30 rfl ?_
        refine wp_iload dX9_chosen_31 rfl ?_
        obtain ⟨r6, rho7, hp8, h⟩ := ob_e h
        refine wp_callV (k1 := 0) (k2 := 0) (As := [vI (x1), vI (x7)]) (rest := []) (w9_hasTried hfr hp8) okX9_hasTried ivX9_hasTried rfl (by decide) ml_X9_269 dX9_chosen_33 rfl (by decide) (Nat.le_refl _) rfl (Nat.le_of_ble_eq_true rfl) (fun _ _ z => z.elim) (fun r' S' z => ?_)
        obtain ⟨rfl, rfl⟩ := z
        show WP _ _ _ _ [some (vR 9 0), some (vI (x1)), some (vI (x2)), some (vI (x3)), some (vI (x4)), some (vI (x5)), some (vI (x6)), some (vI (x7)), l8, l9] [vI (r6)] _ _ _
        refine wp_if_eq (tgt := 43) dX9_chosen_36 (by decide) (fun c9 => ?_) (fun c9 => ?_)
        · replace h := itp c9 h
          refine wp_iconst (v := 0) dX9_chosen_43 (by decide) ?_
          refine wp_iload dX9_chosen_44 rfl ?_
          refine wp_iconst (v := (-1)) dX9_chosen_46 (by decide) ?_
          refine wp_icmp_eq (tgt := 62) dX9_chosen_47 (by decide) (fun c10 => ?_) (fun c10 => ?_)
          · replace h := itp c10 h
            refine wp_iconst (v := 0) dX9_chosen_62 (by decide) ?_
            refine wp_goto (tgt := 67) dX9_chosen_63 (by decide) ?_
            refine wp_iadd dX9_chosen_67 ?_
            refine wp_istore (L' := [some (vR 9 0), some (vI (x1)), some (vI (x2)), some (vI (x3)), some (vI (x4)), some (vI (x5)), some (vI (x6)), some (vI (x7)), some (vI ((0 + 0))), l9]) dX9_chosen_68 rfl rfl ?_
            refine wp_iload dX9_chosen_70 rfl ?_
            refine wp_iconst (v := (-1)) dX9_chosen_72 (by decide) ?_
            refine wp_icmp_eq (tgt := 109) dX9_chosen_73 (by decide) (fun c11 => ?_) (fun c11 => ?_)
            · replace h := itp c11 h
              refine wp_iconst (v := 1) dX9_chosen_109 (by decide) ?_
              refine wp_goto (tgt := 114) dX9_chosen_110 (by decide) ?_
              refine wp_istore (L' := [some (vR 9 0), some (vI (x1)), some (vI (x2)), some (vI (x3)), some (vI (x4)), some (vI (x5)), some (vI (x6)), some (vI (x7)), some (vI ((0 + 0))), some (vI (1))]) dX9_chosen_114 rfl rfl ?_
              refine wp_iload dX9_chosen_116 rfl ?_
              refine wp_if_eq (tgt := 126) dX9_chosen_118 (by decide) (fun z => absurd z (by decide)) (fun _ => ?_)
              refine wp_iload dX9_chosen_121 rfl ?_
              refine wp_goto (tgt := 128) dX9_chosen_123 (by decide) ?_
              refine wp_istore (L' := [some (vR 9 0), some (vI (x1)), some (vI (x2)), some (vI (x3)), some (vI (x4)), some (vI (x7)), some (vI (x6)), some (vI (x7)), some (vI ((0 + 0))), some (vI (1))]) dX9_chosen_128 rfl rfl ?_
              refine wp_iload dX9_chosen_130 rfl ?_
              refine wp_if_eq (tgt := 140) dX9_chosen_132 (by decide) (fun z => absurd z (by decide)) (fun _ => ?_)
              refine wp_iload dX9_chosen_135 rfl ?_
              refine wp_goto (tgt := 142) dX9_chosen_137 (by decide) ?_
              refine wp_istore (L' := [some (vR 9 0), some (vI (x1)), some (vI (x2)), some (vI (x3)), some (vI (x4)), some (vI (x7)), some (vI ((0 + 0))), some (vI (x7)), some (vI ((0 + 0))), some (vI (1))]) dX9_chosen_142 rfl rfl ?_
              refine wp_iinc (v := x7 + 1) (L' := [some (vR 9 0), some (vI (x1)), some (vI (x2)), some (vI (x3)), some (vI (x4)), some (vI (x7)), some (vI ((0 + 0))), some (vI (x7 + 1)), some (vI ((0 + 0))), some (vI (1))]) dX9_chosen_144 rfl rfl rfl ?_
              refine wp_goto (tgt := 9) dX9_chosen_147 (by decide) ?_
              exact ih h
            · replace h := itn c11 h
              refine wp_iload dX9_chosen_76 rfl ?_
              refine wp_iload dX9_chosen_78 rfl ?_
              refine wp_icmp_lt (tgt := 109) dX9_chosen_80 (by decide) (fun c12 => ?_) (fun c12 => ?_)
              · replace h := itp c12 h
                refine wp_iconst (v := 1) dX9_chosen_109 (by decide) ?_
                refine wp_goto (tgt := 114) dX9_chosen_110 (by decide) ?_
                refine wp_istore (L' := [some (vR 9 0), some (vI (x1)), some (vI (x2)), some (vI (x3)), some (vI (x4)), some (vI (x5)), some (vI (x6)), some (vI (x7)), some (vI ((0 + 0))), some (vI (1))]) dX9_chosen_114 rfl rfl ?_
                refine wp_iload dX9_chosen_116 rfl ?_
                refine wp_if_eq (tgt := 126) dX9_chosen_118 (by decide) (fun z => absurd z (by decide)) (fun _ => ?_)
                refine wp_iload dX9_chosen_121 rfl ?_
                refine wp_goto (tgt := 128) dX9_chosen_123 (by decide) ?_
                refine wp_istore (L' := [some (vR 9 0), some (vI (x1)), some (vI (x2)), some (vI (x3)), some (vI (x4)), some (vI (x7)), some (vI (x6)), some (vI (x7)), some (vI ((0 + 0))), some (vI (1))]) dX9_chosen_128 rfl rfl ?_
                refine wp_iload dX9_chosen_130 rfl ?_
                refine wp_if_eq (tgt := 140) dX9_chosen_132 (by decide) (fun z => absurd z (by decide)) (fun _ => ?_)
                refine wp_iload dX9_chosen_135 rfl ?_
                refine wp_goto (tgt := 142) dX9_chosen_137 (by decide) ?_
                refine wp_istore (L' := [some (vR 9 0), some (vI (x1)), some (vI (x2)), some (vI (x3)), some (vI (x4)), some (vI (x7)), some (vI ((0 + 0))), some (vI (x7)), some (vI ((0 + 0))), some (vI (1))]) dX9_chosen_142 rfl rfl ?_
                refine wp_iinc (v := x7 + 1) (L' := [some (vR 9 0), some (vI (x1)), some (vI (x2)), some (vI (x3)), some (vI (x4)), some (vI (x7)), some (vI ((0 + 0))), some (vI (x7 + 1)), some (vI ((0 + 0))), some (vI (1))]) dX9_chosen_144 rfl rfl rfl ?_
                refine wp_goto (tgt := 9) dX9_chosen_147 (by decide) ?_
                exact ih h
              · replace h := itn c12 h
                refine wp_iload dX9_chosen_83 rfl ?_
                refine wp_iload dX9_chosen_85 rfl ?_
                refine wp_icmp_ne (tgt := 113) dX9_chosen_87 (by decide) (fun c13 => ?_) (fun c13 => ?_)
                · replace h := itn c13 h
                  refine wp_iconst (v := 0) dX9_chosen_113 (by decide) ?_
                  refine wp_istore (L' := [some (vR 9 0), some (vI (x1)), some (vI (x2)), some (vI (x3)), some (vI (x4)), some (vI (x5)), some (vI (x6)), some (vI (x7)), some (vI ((0 + 0))), some (vI (0))]) dX9_chosen_114 rfl rfl ?_
                  refine wp_iload dX9_chosen_116 rfl ?_
                  refine wp_if_eq (tgt := 126) dX9_chosen_118 (by decide) (fun _ => ?_) (fun z => absurd (by decide) z)
                  refine wp_iload dX9_chosen_126 rfl ?_
                  refine wp_istore (L' := [some (vR 9 0), some (vI (x1)), some (vI (x2)), some (vI (x3)), some (vI (x4)), some (vI (x5)), some (vI (x6)), some (vI (x7)), some (vI ((0 + 0))), some (vI (0))]) dX9_chosen_128 rfl rfl ?_
                  refine wp_iload dX9_chosen_130 rfl ?_
                  refine wp_if_eq (tgt := 140) dX9_chosen_132 (by decide) (fun _ => ?_) (fun z => absurd (by decide) z)
                  refine wp_iload dX9_chosen_140 rfl ?_
                  refine wp_istore (L' := [some (vR 9 0), some (vI (x1)), some (vI (x2)), some (vI (x3)), some (vI (x4)), some (vI (x5)), some (vI (x6)), some (vI (x7)), some (vI ((0 + 0))), some (vI (0))]) dX9_chosen_142 rfl rfl ?_
                  refine wp_iinc (v := x7 + 1) (L' := [some (vR 9 0), some (vI (x1)), some (vI (x2)), some (vI (x3)), some (vI (x4)), some (vI (x5)), some (vI (x6)), some (vI (x7 + 1)), some (vI ((0 + 0))), some (vI (0))]) dX9_chosen_144 rfl rfl rfl ?_
                  refine wp_goto (tgt := 9) dX9_chosen_147 (by decide) ?_
                  exact ih h
                · replace h := itp c13 h
                  refine wp_aload_n dX9_chosen_90 rfl ?_
                  refine wp_iload_n dX9_chosen_91 rfl ?_
                  refine wp_iload_n dX9_chosen_92 rfl ?_
                  refine wp_iload dX9_chosen_93 rfl ?_
                  obtain ⟨r14, rho15, hp16, h⟩ := ob_e h
                  refine wp_callV (k1 := 0) (k2 := 0) (As := [vI (x1), vI (x2), vI (x7)]) (rest := []) (w9_burden hfr hp16) okX9_burden ivX9_burden rfl (by decide) ml_X9_272 dX9_chosen_95 rfl (by decide) (Nat.le_refl _) rfl (Nat.le_of_ble_eq_true rfl) (fun _ _ z => z.elim) (fun r' S' z => ?_)
                  obtain ⟨rfl, rfl⟩ := z
                  show WP _ _ _ _ [some (vR 9 0), some (vI (x1)), some (vI (x2)), some (vI (x3)), some (vI (x4)), some (vI (x5)), some (vI (x6)), some (vI (x7)), some (vI ((0 + 0))), l9] [vI (r14)] _ _ _
                  refine wp_aload_n dX9_chosen_98 rfl ?_
                  refine wp_iload_n dX9_chosen_99 rfl ?_
                  refine wp_iload_n dX9_chosen_100 rfl ?_
                  refine wp_iload dX9_chosen_101 rfl ?_
                  obtain ⟨r17, rho18, hp19, h⟩ := ob_e h
                  refine wp_callV (k1 := 0) (k2 := 0) (As := [vI (x1), vI (x2), vI (x5)]) (rest := [vI (r14)]) (w9_burden hfr hp19) okX9_burden ivX9_burden rfl (by decide) ml_X9_272 dX9_chosen_103 rfl (by decide) (Nat.le_refl _) rfl (Nat.le_of_ble_eq_true rfl) (fun _ _ z => z.elim) (fun r' S' z => ?_)
                  obtain ⟨rfl, rfl⟩ := z
                  show WP _ _ _ _ [some (vR 9 0), some (vI (x1)), some (vI (x2)), some (vI (x3)), some (vI (x4)), some (vI (x5)), some (vI (x6)), some (vI (x7)), some (vI ((0 + 0))), l9] [vI (r17), vI (r14)] _ _ _
                  refine wp_icmp_ge (tgt := 113) dX9_chosen_106 (by decide) (fun c20 => ?_) (fun c20 => ?_)
                  · replace h := itp c20 h
                    refine wp_iconst (v := 0) dX9_chosen_113 (by decide) ?_
                    refine wp_istore (L' := [some (vR 9 0), some (vI (x1)), some (vI (x2)), some (vI (x3)), some (vI (x4)), some (vI (x5)), some (vI (x6)), some (vI (x7)), some (vI ((0 + 0))), some (vI (0))]) dX9_chosen_114 rfl rfl ?_
                    refine wp_iload dX9_chosen_116 rfl ?_
                    refine wp_if_eq (tgt := 126) dX9_chosen_118 (by decide) (fun _ => ?_) (fun z => absurd (by decide) z)
                    refine wp_iload dX9_chosen_126 rfl ?_
                    refine wp_istore (L' := [some (vR 9 0), some (vI (x1)), some (vI (x2)), some (vI (x3)), some (vI (x4)), some (vI (x5)), some (vI (x6)), some (vI (x7)), some (vI ((0 + 0))), some (vI (0))]) dX9_chosen_128 rfl rfl ?_
                    refine wp_iload dX9_chosen_130 rfl ?_
                    refine wp_if_eq (tgt := 140) dX9_chosen_132 (by decide) (fun _ => ?_) (fun z => absurd (by decide) z)
                    refine wp_iload dX9_chosen_140 rfl ?_
                    refine wp_istore (L' := [some (vR 9 0), some (vI (x1)), some (vI (x2)), some (vI (x3)), some (vI (x4)), some (vI (x5)), some (vI (x6)), some (vI (x7)), some (vI ((0 + 0))), some (vI (0))]) dX9_chosen_142 rfl rfl ?_
                    refine wp_iinc (v := x7 + 1) (L' := [some (vR 9 0), some (vI (x1)), some (vI (x2)), some (vI (x3)), some (vI (x4)), some (vI (x5)), some (vI (x6)), some (vI (x7 + 1)), some (vI ((0 + 0))), some (vI (0))]) dX9_chosen_144 rfl rfl rfl ?_
                    refine wp_goto (tgt := 9) dX9_chosen_147 (by decide) ?_
                    exact ih h
                  · replace h := itn c20 h
                    refine wp_iconst (v := 1) dX9_chosen_109 (by decide) ?_
                    refine wp_goto (tgt := 114) dX9_chosen_110 (by decide) ?_
                    refine wp_istore (L' := [some (vR 9 0), some (vI (x1)), some (vI (x2)), some (vI (x3)), some (vI (x4)), some (vI (x5)), some (vI (x6)), some (vI (x7)), some (vI ((0 + 0))), some (vI (1))]) dX9_chosen_114 rfl rfl ?_
                    refine wp_iload dX9_chosen_116 rfl ?_
                    refine wp_if_eq (tgt := 126) dX9_chosen_118 (by decide) (fun z => absurd z (by decide)) (fun _ => ?_)
                    refine wp_iload dX9_chosen_121 rfl ?_
                    refine wp_goto (tgt := 128) dX9_chosen_123 (by decide) ?_
                    refine wp_istore (L' := [some (vR 9 0), some (vI (x1)), some (vI (x2)), some (vI (x3)), some (vI (x4)), some (vI (x7)), some (vI (x6)), some (vI (x7)), some (vI ((0 + 0))), some (vI (1))]) dX9_chosen_128 rfl rfl ?_
                    refine wp_iload dX9_chosen_130 rfl ?_
                    refine wp_if_eq (tgt := 140) dX9_chosen_132 (by decide) (fun z => absurd z (by decide)) (fun _ => ?_)
                    refine wp_iload dX9_chosen_135 rfl ?_
                    refine wp_goto (tgt := 142) dX9_chosen_137 (by decide) ?_
                    refine wp_istore (L' := [some (vR 9 0), some (vI (x1)), some (vI (x2)), some (vI (x3)), some (vI (x4)), some (vI (x7)), some (vI ((0 + 0))), some (vI (x7)), some (vI ((0 + 0))), some (vI (1))]) dX9_chosen_142 rfl rfl ?_
                    refine wp_iinc (v := x7 + 1) (L' := [some (vR 9 0), some (vI (x1)), some (vI (x2)), some (vI (x3)), some (vI (x4)), some (vI (x7)), some (vI ((0 + 0))), some (vI (x7 + 1)), some (vI ((0 + 0))), some (vI (1))]) dX9_chosen_144 rfl rfl rfl ?_
                    refine wp_goto (tgt := 9) dX9_chosen_147 (by decide) ?_
                    exact ih h
          · replace h := itn c10 h
            refine wp_aload_n dX9_chosen_50 rfl ?_
            refine wp_arrR (y := 12) (c := 212) hfr (by decide) rfl fl_X9_41 dX9_chosen_51 ?_
            refine wp_iload dX9_chosen_54 rfl ?_
            obtain ⟨c21, h⟩ := ock h
            refine wp_ialdR (c := 212) (y := 12) rfl rfl (show vp_in (x7) (len 212) from c21) dX9_chosen_56 ?_
            refine wp_iload dX9_chosen_57 rfl ?_
            refine wp_icmp_ne (tgt := 66) dX9_chosen_59 (by decide) (fun c22 => ?_) (fun c22 => ?_)
            · replace h := itn c22 h
              refine wp_iconst (v := 1) dX9_chosen_66 (by decide) ?_
              refine wp_iadd dX9_chosen_67 ?_
              refine wp_istore (L' := [some (vR 9 0), some (vI (x1)), some (vI (x2)), some (vI (x3)), some (vI (x4)), some (vI (x5)), some (vI (x6)), some (vI (x7)), some (vI ((0 + 1))), l9]) dX9_chosen_68 rfl rfl ?_
              refine wp_iload dX9_chosen_70 rfl ?_
              refine wp_iconst (v := (-1)) dX9_chosen_72 (by decide) ?_
              refine wp_icmp_eq (tgt := 109) dX9_chosen_73 (by decide) (fun c33 => ?_) (fun c33 => ?_)
              · replace h := itp c33 h
                refine wp_iconst (v := 1) dX9_chosen_109 (by decide) ?_
                refine wp_goto (tgt := 114) dX9_chosen_110 (by decide) ?_
                refine wp_istore (L' := [some (vR 9 0), some (vI (x1)), some (vI (x2)), some (vI (x3)), some (vI (x4)), some (vI (x5)), some (vI (x6)), some (vI (x7)), some (vI ((0 + 1))), some (vI (1))]) dX9_chosen_114 rfl rfl ?_
                refine wp_iload dX9_chosen_116 rfl ?_
                refine wp_if_eq (tgt := 126) dX9_chosen_118 (by decide) (fun z => absurd z (by decide)) (fun _ => ?_)
                refine wp_iload dX9_chosen_121 rfl ?_
                refine wp_goto (tgt := 128) dX9_chosen_123 (by decide) ?_
                refine wp_istore (L' := [some (vR 9 0), some (vI (x1)), some (vI (x2)), some (vI (x3)), some (vI (x4)), some (vI (x7)), some (vI (x6)), some (vI (x7)), some (vI ((0 + 1))), some (vI (1))]) dX9_chosen_128 rfl rfl ?_
                refine wp_iload dX9_chosen_130 rfl ?_
                refine wp_if_eq (tgt := 140) dX9_chosen_132 (by decide) (fun z => absurd z (by decide)) (fun _ => ?_)
                refine wp_iload dX9_chosen_135 rfl ?_
                refine wp_goto (tgt := 142) dX9_chosen_137 (by decide) ?_
                refine wp_istore (L' := [some (vR 9 0), some (vI (x1)), some (vI (x2)), some (vI (x3)), some (vI (x4)), some (vI (x7)), some (vI ((0 + 1))), some (vI (x7)), some (vI ((0 + 1))), some (vI (1))]) dX9_chosen_142 rfl rfl ?_
                refine wp_iinc (v := x7 + 1) (L' := [some (vR 9 0), some (vI (x1)), some (vI (x2)), some (vI (x3)), some (vI (x4)), some (vI (x7)), some (vI ((0 + 1))), some (vI (x7 + 1)), some (vI ((0 + 1))), some (vI (1))]) dX9_chosen_144 rfl rfl rfl ?_
                refine wp_goto (tgt := 9) dX9_chosen_147 (by decide) ?_
                exact ih h
              · replace h := itn c33 h
                refine wp_iload dX9_chosen_76 rfl ?_
                refine wp_iload dX9_chosen_78 rfl ?_
                refine wp_icmp_lt (tgt := 109) dX9_chosen_80 (by decide) (fun c34 => ?_) (fun c34 => ?_)
                · replace h := itp c34 h
                  refine wp_iconst (v := 1) dX9_chosen_109 (by decide) ?_
                  refine wp_goto (tgt := 114) dX9_chosen_110 (by decide) ?_
                  refine wp_istore (L' := [some (vR 9 0), some (vI (x1)), some (vI (x2)), some (vI (x3)), some (vI (x4)), some (vI (x5)), some (vI (x6)), some (vI (x7)), some (vI ((0 + 1))), some (vI (1))]) dX9_chosen_114 rfl rfl ?_
                  refine wp_iload dX9_chosen_116 rfl ?_
                  refine wp_if_eq (tgt := 126) dX9_chosen_118 (by decide) (fun z => absurd z (by decide)) (fun _ => ?_)
                  refine wp_iload dX9_chosen_121 rfl ?_
                  refine wp_goto (tgt := 128) dX9_chosen_123 (by decide) ?_
                  refine wp_istore (L' := [some (vR 9 0), some (vI (x1)), some (vI (x2)), some (vI (x3)), some (vI (x4)), some (vI (x7)), some (vI (x6)), some (vI (x7)), some (vI ((0 + 1))), some (vI (1))]) dX9_chosen_128 rfl rfl ?_
                  refine wp_iload dX9_chosen_130 rfl ?_
                  refine wp_if_eq (tgt := 140) dX9_chosen_132 (by decide) (fun z => absurd z (by decide)) (fun _ => ?_)
                  refine wp_iload dX9_chosen_135 rfl ?_
                  refine wp_goto (tgt := 142) dX9_chosen_137 (by decide) ?_
                  refine wp_istore (L' := [some (vR 9 0), some (vI (x1)), some (vI (x2)), some (vI (x3)), some (vI (x4)), some (vI (x7)), some (vI ((0 + 1))), some (vI (x7)), some (vI ((0 + 1))), some (vI (1))]) dX9_chosen_142 rfl rfl ?_
                  refine wp_iinc (v := x7 + 1) (L' := [some (vR 9 0), some (vI (x1)), some (vI (x2)), some (vI (x3)), some (vI (x4)), some (vI (x7)), some (vI ((0 + 1))), some (vI (x7 + 1)), some (vI ((0 + 1))), some (vI (1))]) dX9_chosen_144 rfl rfl rfl ?_
                  refine wp_goto (tgt := 9) dX9_chosen_147 (by decide) ?_
                  exact ih h
                · replace h := itn c34 h
                  refine wp_iload dX9_chosen_83 rfl ?_
                  refine wp_iload dX9_chosen_85 rfl ?_
                  refine wp_icmp_ne (tgt := 113) dX9_chosen_87 (by decide) (fun c35 => ?_) (fun c35 => ?_)
                  · replace h := itn c35 h
                    refine wp_iconst (v := 0) dX9_chosen_113 (by decide) ?_
                    refine wp_istore (L' := [some (vR 9 0), some (vI (x1)), some (vI (x2)), some (vI (x3)), some (vI (x4)), some (vI (x5)), some (vI (x6)), some (vI (x7)), some (vI ((0 + 1))), some (vI (0))]) dX9_chosen_114 rfl rfl ?_
                    refine wp_iload dX9_chosen_116 rfl ?_
                    refine wp_if_eq (tgt := 126) dX9_chosen_118 (by decide) (fun _ => ?_) (fun z => absurd (by decide) z)
                    refine wp_iload dX9_chosen_126 rfl ?_
                    refine wp_istore (L' := [some (vR 9 0), some (vI (x1)), some (vI (x2)), some (vI (x3)), some (vI (x4)), some (vI (x5)), some (vI (x6)), some (vI (x7)), some (vI ((0 + 1))), some (vI (0))]) dX9_chosen_128 rfl rfl ?_
                    refine wp_iload dX9_chosen_130 rfl ?_
                    refine wp_if_eq (tgt := 140) dX9_chosen_132 (by decide) (fun _ => ?_) (fun z => absurd (by decide) z)
                    refine wp_iload dX9_chosen_140 rfl ?_
                    refine wp_istore (L' := [some (vR 9 0), some (vI (x1)), some (vI (x2)), some (vI (x3)), some (vI (x4)), some (vI (x5)), some (vI (x6)), some (vI (x7)), some (vI ((0 + 1))), some (vI (0))]) dX9_chosen_142 rfl rfl ?_
                    refine wp_iinc (v := x7 + 1) (L' := [some (vR 9 0), some (vI (x1)), some (vI (x2)), some (vI (x3)), some (vI (x4)), some (vI (x5)), some (vI (x6)), some (vI (x7 + 1)), some (vI ((0 + 1))), some (vI (0))]) dX9_chosen_144 rfl rfl rfl ?_
                    refine wp_goto (tgt := 9) dX9_chosen_147 (by decide) ?_
                    exact ih h
                  · replace h := itp c35 h
                    refine wp_aload_n dX9_chosen_90 rfl ?_
                    refine wp_iload_n dX9_chosen_91 rfl ?_
                    refine wp_iload_n dX9_chosen_92 rfl ?_
                    refine wp_iload dX9_chosen_93 rfl ?_
                    obtain ⟨r36, rho37, hp38, h⟩ := ob_e h
                    refine wp_callV (k1 := 0) (k2 := 0) (As := [vI (x1), vI (x2), vI (x7)]) (rest := []) (w9_burden hfr hp38) okX9_burden ivX9_burden rfl (by decide) ml_X9_272 dX9_chosen_95 rfl (by decide) (Nat.le_refl _) rfl (Nat.le_of_ble_eq_true rfl) (fun _ _ z => z.elim) (fun r' S' z => ?_)
                    obtain ⟨rfl, rfl⟩ := z
                    show WP _ _ _ _ [some (vR 9 0), some (vI (x1)), some (vI (x2)), some (vI (x3)), some (vI (x4)), some (vI (x5)), some (vI (x6)), some (vI (x7)), some (vI ((0 + 1))), l9] [vI (r36)] _ _ _
                    refine wp_aload_n dX9_chosen_98 rfl ?_
                    refine wp_iload_n dX9_chosen_99 rfl ?_
                    refine wp_iload_n dX9_chosen_100 rfl ?_
                    refine wp_iload dX9_chosen_101 rfl ?_
                    obtain ⟨r39, rho40, hp41, h⟩ := ob_e h
                    refine wp_callV (k1 := 0) (k2 := 0) (As := [vI (x1), vI (x2), vI (x5)]) (rest := [vI (r36)]) (w9_burden hfr hp41) okX9_burden ivX9_burden rfl (by decide) ml_X9_272 dX9_chosen_103 rfl (by decide) (Nat.le_refl _) rfl (Nat.le_of_ble_eq_true rfl) (fun _ _ z => z.elim) (fun r' S' z => ?_)
                    obtain ⟨rfl, rfl⟩ := z
                    show WP _ _ _ _ [some (vR 9 0), some (vI (x1)), some (vI (x2)), some (vI (x3)), some (vI (x4)), some (vI (x5)), some (vI (x6)), some (vI (x7)), some (vI ((0 + 1))), l9] [vI (r39), vI (r36)] _ _ _
                    refine wp_icmp_ge (tgt := 113) dX9_chosen_106 (by decide) (fun c42 => ?_) (fun c42 => ?_)
                    · replace h := itp c42 h
                      refine wp_iconst (v := 0) dX9_chosen_113 (by decide) ?_
                      refine wp_istore (L' := [some (vR 9 0), some (vI (x1)), some (vI (x2)), some (vI (x3)), some (vI (x4)), some (vI (x5)), some (vI (x6)), some (vI (x7)), some (vI ((0 + 1))), some (vI (0))]) dX9_chosen_114 rfl rfl ?_
                      refine wp_iload dX9_chosen_116 rfl ?_
                      refine wp_if_eq (tgt := 126) dX9_chosen_118 (by decide) (fun _ => ?_) (fun z => absurd (by decide) z)
                      refine wp_iload dX9_chosen_126 rfl ?_
                      refine wp_istore (L' := [some (vR 9 0), some (vI (x1)), some (vI (x2)), some (vI (x3)), some (vI (x4)), some (vI (x5)), some (vI (x6)), some (vI (x7)), some (vI ((0 + 1))), some (vI (0))]) dX9_chosen_128 rfl rfl ?_
                      refine wp_iload dX9_chosen_130 rfl ?_
                      refine wp_if_eq (tgt := 140) dX9_chosen_132 (by decide) (fun _ => ?_) (fun z => absurd (by decide) z)
                      refine wp_iload dX9_chosen_140 rfl ?_
                      refine wp_istore (L' := [some (vR 9 0), some (vI (x1)), some (vI (x2)), some (vI (x3)), some (vI (x4)), some (vI (x5)), some (vI (x6)), some (vI (x7)), some (vI ((0 + 1))), some (vI (0))]) dX9_chosen_142 rfl rfl ?_
                      refine wp_iinc (v := x7 + 1) (L' := [some (vR 9 0), some (vI (x1)), some (vI (x2)), some (vI (x3)), some (vI (x4)), some (vI (x5)), some (vI (x6)), some (vI (x7 + 1)), some (vI ((0 + 1))), some (vI (0))]) dX9_chosen_144 rfl rfl rfl ?_
                      refine wp_goto (tgt := 9) dX9_chosen_147 (by decide) ?_
                      exact ih h
                    · replace h := itn c42 h
                      refine wp_iconst (v := 1) dX9_chosen_109 (by decide) ?_
                      refine wp_goto (tgt := 114) dX9_chosen_110 (by decide) ?_
                      refine wp_istore (L' := [some (vR 9 0), some (vI (x1)), some (vI (x2)), some (vI (x3)), some (vI (x4)), some (vI (x5)), some (vI (x6)), some (vI (x7)), some (vI ((0 + 1))), some (vI (1))]) dX9_chosen_114 rfl rfl ?_
                      refine wp_iload dX9_chosen_116 rfl ?_
                      refine wp_if_eq (tgt := 126) dX9_chosen_118 (by decide) (fun z => absurd z (by decide)) (fun _ => ?_)
                      refine wp_iload dX9_chosen_121 rfl ?_
                      refine wp_goto (tgt := 128) dX9_chosen_123 (by decide) ?_
                      refine wp_istore (L' := [some (vR 9 0), some (vI (x1)), some (vI (x2)), some (vI (x3)), some (vI (x4)), some (vI (x7)), some (vI (x6)), some (vI (x7)), some (vI ((0 + 1))), some (vI (1))]) dX9_chosen_128 rfl rfl ?_
                      refine wp_iload dX9_chosen_130 rfl ?_
                      refine wp_if_eq (tgt := 140) dX9_chosen_132 (by decide) (fun z => absurd z (by decide)) (fun _ => ?_)
                      refine wp_iload dX9_chosen_135 rfl ?_
                      refine wp_goto (tgt := 142) dX9_chosen_137 (by decide) ?_
                      refine wp_istore (L' := [some (vR 9 0), some (vI (x1)), some (vI (x2)), some (vI (x3)), some (vI (x4)), some (vI (x7)), some (vI ((0 + 1))), some (vI (x7)), some (vI ((0 + 1))), some (vI (1))]) dX9_chosen_142 rfl rfl ?_
                      refine wp_iinc (v := x7 + 1) (L' := [some (vR 9 0), some (vI (x1)), some (vI (x2)), some (vI (x3)), some (vI (x4)), some (vI (x7)), some (vI ((0 + 1))), some (vI (x7 + 1)), some (vI ((0 + 1))), some (vI (1))]) dX9_chosen_144 rfl rfl rfl ?_
                      refine wp_goto (tgt := 9) dX9_chosen_147 (by decide) ?_
                      exact ih h
            · replace h := itp c22 h
              refine wp_iconst (v := 0) dX9_chosen_62 (by decide) ?_
              refine wp_goto (tgt := 67) dX9_chosen_63 (by decide) ?_
              refine wp_iadd dX9_chosen_67 ?_
              refine wp_istore (L' := [some (vR 9 0), some (vI (x1)), some (vI (x2)), some (vI (x3)), some (vI (x4)), some (vI (x5)), some (vI (x6)), some (vI (x7)), some (vI ((0 + 0))), l9]) dX9_chosen_68 rfl rfl ?_
              refine wp_iload dX9_chosen_70 rfl ?_
              refine wp_iconst (v := (-1)) dX9_chosen_72 (by decide) ?_
              refine wp_icmp_eq (tgt := 109) dX9_chosen_73 (by decide) (fun c23 => ?_) (fun c23 => ?_)
              · replace h := itp c23 h
                refine wp_iconst (v := 1) dX9_chosen_109 (by decide) ?_
                refine wp_goto (tgt := 114) dX9_chosen_110 (by decide) ?_
                refine wp_istore (L' := [some (vR 9 0), some (vI (x1)), some (vI (x2)), some (vI (x3)), some (vI (x4)), some (vI (x5)), some (vI (x6)), some (vI (x7)), some (vI ((0 + 0))), some (vI (1))]) dX9_chosen_114 rfl rfl ?_
                refine wp_iload dX9_chosen_116 rfl ?_
                refine wp_if_eq (tgt := 126) dX9_chosen_118 (by decide) (fun z => absurd z (by decide)) (fun _ => ?_)
                refine wp_iload dX9_chosen_121 rfl ?_
                refine wp_goto (tgt := 128) dX9_chosen_123 (by decide) ?_
                refine wp_istore (L' := [some (vR 9 0), some (vI (x1)), some (vI (x2)), some (vI (x3)), some (vI (x4)), some (vI (x7)), some (vI (x6)), some (vI (x7)), some (vI ((0 + 0))), some (vI (1))]) dX9_chosen_128 rfl rfl ?_
                refine wp_iload dX9_chosen_130 rfl ?_
                refine wp_if_eq (tgt := 140) dX9_chosen_132 (by decide) (fun z => absurd z (by decide)) (fun _ => ?_)
                refine wp_iload dX9_chosen_135 rfl ?_
                refine wp_goto (tgt := 142) dX9_chosen_137 (by decide) ?_
                refine wp_istore (L' := [some (vR 9 0), some (vI (x1)), some (vI (x2)), some (vI (x3)), some (vI (x4)), some (vI (x7)), some (vI ((0 + 0))), some (vI (x7)), some (vI ((0 + 0))), some (vI (1))]) dX9_chosen_142 rfl rfl ?_
                refine wp_iinc (v := x7 + 1) (L' := [some (vR 9 0), some (vI (x1)), some (vI (x2)), some (vI (x3)), some (vI (x4)), some (vI (x7)), some (vI ((0 + 0))), some (vI (x7 + 1)), some (vI ((0 + 0))), some (vI (1))]) dX9_chosen_144 rfl rfl rfl ?_
                refine wp_goto (tgt := 9) dX9_chosen_147 (by decide) ?_
                exact ih h
              · replace h := itn c23 h
                refine wp_iload dX9_chosen_76 rfl ?_
                refine wp_iload dX9_chosen_78 rfl ?_
                refine wp_icmp_lt (tgt := 109) dX9_chosen_80 (by decide) (fun c24 => ?_) (fun c24 => ?_)
                · replace h := itp c24 h
                  refine wp_iconst (v := 1) dX9_chosen_109 (by decide) ?_
                  refine wp_goto (tgt := 114) dX9_chosen_110 (by decide) ?_
                  refine wp_istore (L' := [some (vR 9 0), some (vI (x1)), some (vI (x2)), some (vI (x3)), some (vI (x4)), some (vI (x5)), some (vI (x6)), some (vI (x7)), some (vI ((0 + 0))), some (vI (1))]) dX9_chosen_114 rfl rfl ?_
                  refine wp_iload dX9_chosen_116 rfl ?_
                  refine wp_if_eq (tgt := 126) dX9_chosen_118 (by decide) (fun z => absurd z (by decide)) (fun _ => ?_)
                  refine wp_iload dX9_chosen_121 rfl ?_
                  refine wp_goto (tgt := 128) dX9_chosen_123 (by decide) ?_
                  refine wp_istore (L' := [some (vR 9 0), some (vI (x1)), some (vI (x2)), some (vI (x3)), some (vI (x4)), some (vI (x7)), some (vI (x6)), some (vI (x7)), some (vI ((0 + 0))), some (vI (1))]) dX9_chosen_128 rfl rfl ?_
                  refine wp_iload dX9_chosen_130 rfl ?_
                  refine wp_if_eq (tgt := 140) dX9_chosen_132 (by decide) (fun z => absurd z (by decide)) (fun _ => ?_)
                  refine wp_iload dX9_chosen_135 rfl ?_
                  refine wp_goto (tgt := 142) dX9_chosen_137 (by decide) ?_
                  refine wp_istore (L' := [some (vR 9 0), some (vI (x1)), some (vI (x2)), some (vI (x3)), some (vI (x4)), some (vI (x7)), some (vI ((0 + 0))), some (vI (x7)), some (vI ((0 + 0))), some (vI (1))]) dX9_chosen_142 rfl rfl ?_
                  refine wp_iinc (v := x7 + 1) (L' := [some (vR 9 0), some (vI (x1)), some (vI (x2)), some (vI (x3)), some (vI (x4)), some (vI (x7)), some (vI ((0 + 0))), some (vI (x7 + 1)), some (vI ((0 + 0))), some (vI (1))]) dX9_chosen_144 rfl rfl rfl ?_
                  refine wp_goto (tgt := 9) dX9_chosen_147 (by decide) ?_
                  exact ih h
                · replace h := itn c24 h
                  refine wp_iload dX9_chosen_83 rfl ?_
                  refine wp_iload dX9_chosen_85 rfl ?_
                  refine wp_icmp_ne (tgt := 113) dX9_chosen_87 (by decide) (fun c25 => ?_) (fun c25 => ?_)
                  · replace h := itn c25 h
                    refine wp_iconst (v := 0) dX9_chosen_113 (by decide) ?_
                    refine wp_istore (L' := [some (vR 9 0), some (vI (x1)), some (vI (x2)), some (vI (x3)), some (vI (x4)), some (vI (x5)), some (vI (x6)), some (vI (x7)), some (vI ((0 + 0))), some (vI (0))]) dX9_chosen_114 rfl rfl ?_
                    refine wp_iload dX9_chosen_116 rfl ?_
                    refine wp_if_eq (tgt := 126) dX9_chosen_118 (by decide) (fun _ => ?_) (fun z => absurd (by decide) z)
                    refine wp_iload dX9_chosen_126 rfl ?_
                    refine wp_istore (L' := [some (vR 9 0), some (vI (x1)), some (vI (x2)), some (vI (x3)), some (vI (x4)), some (vI (x5)), some (vI (x6)), some (vI (x7)), some (vI ((0 + 0))), some (vI (0))]) dX9_chosen_128 rfl rfl ?_
                    refine wp_iload dX9_chosen_130 rfl ?_
                    refine wp_if_eq (tgt := 140) dX9_chosen_132 (by decide) (fun _ => ?_) (fun z => absurd (by decide) z)
                    refine wp_iload dX9_chosen_140 rfl ?_
                    refine wp_istore (L' := [some (vR 9 0), some (vI (x1)), some (vI (x2)), some (vI (x3)), some (vI (x4)), some (vI (x5)), some (vI (x6)), some (vI (x7)), some (vI ((0 + 0))), some (vI (0))]) dX9_chosen_142 rfl rfl ?_
                    refine wp_iinc (v := x7 + 1) (L' := [some (vR 9 0), some (vI (x1)), some (vI (x2)), some (vI (x3)), some (vI (x4)), some (vI (x5)), some (vI (x6)), some (vI (x7 + 1)), some (vI ((0 + 0))), some (vI (0))]) dX9_chosen_144 rfl rfl rfl ?_
                    refine wp_goto (tgt := 9) dX9_chosen_147 (by decide) ?_
                    exact ih h
                  · replace h := itp c25 h
                    refine wp_aload_n dX9_chosen_90 rfl ?_
                    refine wp_iload_n dX9_chosen_91 rfl ?_
                    refine wp_iload_n dX9_chosen_92 rfl ?_
                    refine wp_iload dX9_chosen_93 rfl ?_
                    obtain ⟨r26, rho27, hp28, h⟩ := ob_e h
                    refine wp_callV (k1 := 0) (k2 := 0) (As := [vI (x1), vI (x2), vI (x7)]) (rest := []) (w9_burden hfr hp28) okX9_burden ivX9_burden rfl (by decide) ml_X9_272 dX9_chosen_95 rfl (by decide) (Nat.le_refl _) rfl (Nat.le_of_ble_eq_true rfl) (fun _ _ z => z.elim) (fun r' S' z => ?_)
                    obtain ⟨rfl, rfl⟩ := z
                    show WP _ _ _ _ [some (vR 9 0), some (vI (x1)), some (vI (x2)), some (vI (x3)), some (vI (x4)), some (vI (x5)), some (vI (x6)), some (vI (x7)), some (vI ((0 + 0))), l9] [vI (r26)] _ _ _
                    refine wp_aload_n dX9_chosen_98 rfl ?_
                    refine wp_iload_n dX9_chosen_99 rfl ?_
                    refine wp_iload_n dX9_chosen_100 rfl ?_
                    refine wp_iload dX9_chosen_101 rfl ?_
                    obtain ⟨r29, rho30, hp31, h⟩ := ob_e h
                    refine wp_callV (k1 := 0) (k2 := 0) (As := [vI (x1), vI (x2), vI (x5)]) (rest := [vI (r26)]) (w9_burden hfr hp31) okX9_burden ivX9_burden rfl (by decide) ml_X9_272 dX9_chosen_103 rfl (by decide) (Nat.le_refl _) rfl (Nat.le_of_ble_eq_true rfl) (fun _ _ z => z.elim) (fun r' S' z => ?_)
                    obtain ⟨rfl, rfl⟩ := z
                    show WP _ _ _ _ [some (vR 9 0), some (vI (x1)), some (vI (x2)), some (vI (x3)), some (vI (x4)), some (vI (x5)), some (vI (x6)), some (vI (x7)), some (vI ((0 + 0))), l9] [vI (r29), vI (r26)] _ _ _
                    refine wp_icmp_ge (tgt := 113) dX9_chosen_106 (by decide) (fun c32 => ?_) (fun c32 => ?_)
                    · replace h := itp c32 h
                      refine wp_iconst (v := 0) dX9_chosen_113 (by decide) ?_
                      refine wp_istore (L' := [some (vR 9 0), some (vI (x1)), some (vI (x2)), some (vI (x3)), some (vI (x4)), some (vI (x5)), some (vI (x6)), some (vI (x7)), some (vI ((0 + 0))), some (vI (0))]) dX9_chosen_114 rfl rfl ?_
                      refine wp_iload dX9_chosen_116 rfl ?_
                      refine wp_if_eq (tgt := 126) dX9_chosen_118 (by decide) (fun _ => ?_) (fun z => absurd (by decide) z)
                      refine wp_iload dX9_chosen_126 rfl ?_
                      refine wp_istore (L' := [some (vR 9 0), some (vI (x1)), some (vI (x2)), some (vI (x3)), some (vI (x4)), some (vI (x5)), some (vI (x6)), some (vI (x7)), some (vI ((0 + 0))), some (vI (0))]) dX9_chosen_128 rfl rfl ?_
                      refine wp_iload dX9_chosen_130 rfl ?_
                      refine wp_if_eq (tgt := 140) dX9_chosen_132 (by decide) (fun _ => ?_) (fun z => absurd (by decide) z)
                      refine wp_iload dX9_chosen_140 rfl ?_
                      refine wp_istore (L' := [some (vR 9 0), some (vI (x1)), some (vI (x2)), some (vI (x3)), some (vI (x4)), some (vI (x5)), some (vI (x6)), some (vI (x7)), some (vI ((0 + 0))), some (vI (0))]) dX9_chosen_142 rfl rfl ?_
                      refine wp_iinc (v := x7 + 1) (L' := [some (vR 9 0), some (vI (x1)), some (vI (x2)), some (vI (x3)), some (vI (x4)), some (vI (x5)), some (vI (x6)), some (vI (x7 + 1)), some (vI ((0 + 0))), some (vI (0))]) dX9_chosen_144 rfl rfl rfl ?_
                      refine wp_goto (tgt := 9) dX9_chosen_147 (by decide) ?_
                      exact ih h
                    · replace h := itn c32 h
                      refine wp_iconst (v := 1) dX9_chosen_109 (by decide) ?_
                      refine wp_goto (tgt := 114) dX9_chosen_110 (by decide) ?_
                      refine wp_istore (L' := [some (vR 9 0), some (vI (x1)), some (vI (x2)), some (vI (x3)), some (vI (x4)), some (vI (x5)), some (vI (x6)), some (vI (x7)), some (vI ((0 + 0))), some (vI (1))]) dX9_chosen_114 rfl rfl ?_
                      refine wp_iload dX9_chosen_116 rfl ?_
                      refine wp_if_eq (tgt := 126) dX9_chosen_118 (by decide) (fun z => absurd z (by decide)) (fun _ => ?_)
                      refine wp_iload dX9_chosen_121 rfl ?_
                      refine wp_goto (tgt := 128) dX9_chosen_123 (by decide) ?_
                      refine wp_istore (L' := [some (vR 9 0), some (vI (x1)), some (vI (x2)), some (vI (x3)), some (vI (x4)), some (vI (x7)), some (vI (x6)), some (vI (x7)), some (vI ((0 + 0))), some (vI (1))]) dX9_chosen_128 rfl rfl ?_
                      refine wp_iload dX9_chosen_130 rfl ?_
                      refine wp_if_eq (tgt := 140) dX9_chosen_132 (by decide) (fun z => absurd z (by decide)) (fun _ => ?_)
                      refine wp_iload dX9_chosen_135 rfl ?_
                      refine wp_goto (tgt := 142) dX9_chosen_137 (by decide) ?_
                      refine wp_istore (L' := [some (vR 9 0), some (vI (x1)), some (vI (x2)), some (vI (x3)), some (vI (x4)), some (vI (x7)), some (vI ((0 + 0))), some (vI (x7)), some (vI ((0 + 0))), some (vI (1))]) dX9_chosen_142 rfl rfl ?_
                      refine wp_iinc (v := x7 + 1) (L' := [some (vR 9 0), some (vI (x1)), some (vI (x2)), some (vI (x3)), some (vI (x4)), some (vI (x7)), some (vI ((0 + 0))), some (vI (x7 + 1)), some (vI ((0 + 0))), some (vI (1))]) dX9_chosen_144 rfl rfl rfl ?_
                      refine wp_goto (tgt := 9) dX9_chosen_147 (by decide) ?_
                      exact ih h
        · replace h := itn c9 h
          refine wp_iconst (v := 2) dX9_chosen_39 (by decide) ?_
          refine wp_goto (tgt := 44) dX9_chosen_40 (by decide) ?_
          refine wp_iload dX9_chosen_44 rfl ?_
          refine wp_iconst (v := (-1)) dX9_chosen_46 (by decide) ?_
          refine wp_icmp_eq (tgt := 62) dX9_chosen_47 (by decide) (fun c43 => ?_) (fun c43 => ?_)
          · replace h := itp c43 h
            refine wp_iconst (v := 0) dX9_chosen_62 (by decide) ?_
            refine wp_goto (tgt := 67) dX9_chosen_63 (by decide) ?_
            refine wp_iadd dX9_chosen_67 ?_
            refine wp_istore (L' := [some (vR 9 0), some (vI (x1)), some (vI (x2)), some (vI (x3)), some (vI (x4)), some (vI (x5)), some (vI (x6)), some (vI (x7)), some (vI ((2 + 0))), l9]) dX9_chosen_68 rfl rfl ?_
            refine wp_iload dX9_chosen_70 rfl ?_
            refine wp_iconst (v := (-1)) dX9_chosen_72 (by decide) ?_
            refine wp_icmp_eq (tgt := 109) dX9_chosen_73 (by decide) (fun c44 => ?_) (fun c44 => ?_)
            · replace h := itp c44 h
              refine wp_iconst (v := 1) dX9_chosen_109 (by decide) ?_
              refine wp_goto (tgt := 114) dX9_chosen_110 (by decide) ?_
              refine wp_istore (L' := [some (vR 9 0), some (vI (x1)), some (vI (x2)), some (vI (x3)), some (vI (x4)), some (vI (x5)), some (vI (x6)), some (vI (x7)), some (vI ((2 + 0))), some (vI (1))]) dX9_chosen_114 rfl rfl ?_
              refine wp_iload dX9_chosen_116 rfl ?_
              refine wp_if_eq (tgt := 126) dX9_chosen_118 (by decide) (fun z => absurd z (by decide)) (fun _ => ?_)
              refine wp_iload dX9_chosen_121 rfl ?_
              refine wp_goto (tgt := 128) dX9_chosen_123 (by decide) ?_
              refine wp_istore (L' := [some (vR 9 0), some (vI (x1)), some (vI (x2)), some (vI (x3)), some (vI (x4)), some (vI (x7)), some (vI (x6)), some (vI (x7)), some (vI ((2 + 0))), some (vI (1))]) dX9_chosen_128 rfl rfl ?_
              refine wp_iload dX9_chosen_130 rfl ?_
              refine wp_if_eq (tgt := 140) dX9_chosen_132 (by decide) (fun z => absurd z (by decide)) (fun _ => ?_)
              refine wp_iload dX9_chosen_135 rfl ?_
              refine wp_goto (tgt := 142) dX9_chosen_137 (by decide) ?_
              refine wp_istore (L' := [some (vR 9 0), some (vI (x1)), some (vI (x2)), some (vI (x3)), some (vI (x4)), some (vI (x7)), some (vI ((2 + 0))), some (vI (x7)), some (vI ((2 + 0))), some (vI (1))]) dX9_chosen_142 rfl rfl ?_
              refine wp_iinc (v := x7 + 1) (L' := [some (vR 9 0), some (vI (x1)), some (vI (x2)), some (vI (x3)), some (vI (x4)), some (vI (x7)), some (vI ((2 + 0))), some (vI (x7 + 1)), some (vI ((2 + 0))), some (vI (1))]) dX9_chosen_144 rfl rfl rfl ?_
              refine wp_goto (tgt := 9) dX9_chosen_147 (by decide) ?_
              exact ih h
            · replace h := itn c44 h
              refine wp_iload dX9_chosen_76 rfl ?_
              refine wp_iload dX9_chosen_78 rfl ?_
              refine wp_icmp_lt (tgt := 109) dX9_chosen_80 (by decide) (fun c45 => ?_) (fun c45 => ?_)
              · replace h := itp c45 h
                refine wp_iconst (v := 1) dX9_chosen_109 (by decide) ?_
                refine wp_goto (tgt := 114) dX9_chosen_110 (by decide) ?_
                refine wp_istore (L' := [some (vR 9 0), some (vI (x1)), some (vI (x2)), some (vI (x3)), some (vI (x4)), some (vI (x5)), some (vI (x6)), some (vI (x7)), some (vI ((2 + 0))), some (vI (1))]) dX9_chosen_114 rfl rfl ?_
                refine wp_iload dX9_chosen_116 rfl ?_
                refine wp_if_eq (tgt := 126) dX9_chosen_118 (by decide) (fun z => absurd z (by decide)) (fun _ => ?_)
                refine wp_iload dX9_chosen_121 rfl ?_
                refine wp_goto (tgt := 128) dX9_chosen_123 (by decide) ?_
                refine wp_istore (L' := [some (vR 9 0), some (vI (x1)), some (vI (x2)), some (vI (x3)), some (vI (x4)), some (vI (x7)), some (vI (x6)), some (vI (x7)), some (vI ((2 + 0))), some (vI (1))]) dX9_chosen_128 rfl rfl ?_
                refine wp_iload dX9_chosen_130 rfl ?_
                refine wp_if_eq (tgt := 140) dX9_chosen_132 (by decide) (fun z => absurd z (by decide)) (fun _ => ?_)
                refine wp_iload dX9_chosen_135 rfl ?_
                refine wp_goto (tgt := 142) dX9_chosen_137 (by decide) ?_
                refine wp_istore (L' := [some (vR 9 0), some (vI (x1)), some (vI (x2)), some (vI (x3)), some (vI (x4)), some (vI (x7)), some (vI ((2 + 0))), some (vI (x7)), some (vI ((2 + 0))), some (vI (1))]) dX9_chosen_142 rfl rfl ?_
                refine wp_iinc (v := x7 + 1) (L' := [some (vR 9 0), some (vI (x1)), some (vI (x2)), some (vI (x3)), some (vI (x4)), some (vI (x7)), some (vI ((2 + 0))), some (vI (x7 + 1)), some (vI ((2 + 0))), some (vI (1))]) dX9_chosen_144 rfl rfl rfl ?_
                refine wp_goto (tgt := 9) dX9_chosen_147 (by decide) ?_
                exact ih h
              · replace h := itn c45 h
                refine wp_iload dX9_chosen_83 rfl ?_
                refine wp_iload dX9_chosen_85 rfl ?_
                refine wp_icmp_ne (tgt := 113) dX9_chosen_87 (by decide) (fun c46 => ?_) (fun c46 => ?_)
                · replace h := itn c46 h
                  refine wp_iconst (v := 0) dX9_chosen_113 (by decide) ?_
                  refine wp_istore (L' := [some (vR 9 0), some (vI (x1)), some (vI (x2)), some (vI (x3)), some (vI (x4)), some (vI (x5)), some (vI (x6)), some (vI (x7)), some (vI ((2 + 0))), some (vI (0))]) dX9_chosen_114 rfl rfl ?_
                  refine wp_iload dX9_chosen_116 rfl ?_
                  refine wp_if_eq (tgt := 126) dX9_chosen_118 (by decide) (fun _ => ?_) (fun z => absurd (by decide) z)
                  refine wp_iload dX9_chosen_126 rfl ?_
                  refine wp_istore (L' := [some (vR 9 0), some (vI (x1)), some (vI (x2)), some (vI (x3)), some (vI (x4)), some (vI (x5)), some (vI (x6)), some (vI (x7)), some (vI ((2 + 0))), some (vI (0))]) dX9_chosen_128 rfl rfl ?_
                  refine wp_iload dX9_chosen_130 rfl ?_
                  refine wp_if_eq (tgt := 140) dX9_chosen_132 (by decide) (fun _ => ?_) (fun z => absurd (by decide) z)
                  refine wp_iload dX9_chosen_140 rfl ?_
                  refine wp_istore (L' := [some (vR 9 0), some (vI (x1)), some (vI (x2)), some (vI (x3)), some (vI (x4)), some (vI (x5)), some (vI (x6)), some (vI (x7)), some (vI ((2 + 0))), some (vI (0))]) dX9_chosen_142 rfl rfl ?_
                  refine wp_iinc (v := x7 + 1) (L' := [some (vR 9 0), some (vI (x1)), some (vI (x2)), some (vI (x3)), some (vI (x4)), some (vI (x5)), some (vI (x6)), some (vI (x7 + 1)), some (vI ((2 + 0))), some (vI (0))]) dX9_chosen_144 rfl rfl rfl ?_
                  refine wp_goto (tgt := 9) dX9_chosen_147 (by decide) ?_
                  exact ih h
                · replace h := itp c46 h
                  refine wp_aload_n dX9_chosen_90 rfl ?_
                  refine wp_iload_n dX9_chosen_91 rfl ?_
                  refine wp_iload_n dX9_chosen_92 rfl ?_
                  refine wp_iload dX9_chosen_93 rfl ?_
                  obtain ⟨r47, rho48, hp49, h⟩ := ob_e h
                  refine wp_callV (k1 := 0) (k2 := 0) (As := [vI (x1), vI (x2), vI (x7)]) (rest := []) (w9_burden hfr hp49) okX9_burden ivX9_burden rfl (by decide) ml_X9_272 dX9_chosen_95 rfl (by decide) (Nat.le_refl _) rfl (Nat.le_of_ble_eq_true rfl) (fun _ _ z => z.elim) (fun r' S' z => ?_)
                  obtain ⟨rfl, rfl⟩ := z
                  show WP _ _ _ _ [some (vR 9 0), some (vI (x1)), some (vI (x2)), some (vI (x3)), some (vI (x4)), some (vI (x5)), some (vI (x6)), some (vI (x7)), some (vI ((2 + 0))), l9] [vI (r47)] _ _ _
                  refine wp_aload_n dX9_chosen_98 rfl ?_
                  refine wp_iload_n dX9_chosen_99 rfl ?_
                  refine wp_iload_n dX9_chosen_100 rfl ?_
                  refine wp_iload dX9_chosen_101 rfl ?_
                  obtain ⟨r50, rho51, hp52, h⟩ := ob_e h
                  refine wp_callV (k1 := 0) (k2 := 0) (As := [vI (x1), vI (x2), vI (x5)]) (rest := [vI (r47)]) (w9_burden hfr hp52) okX9_burden ivX9_burden rfl (by decide) ml_X9_272 dX9_chosen_103 rfl (by decide) (Nat.le_refl _) rfl (Nat.le_of_ble_eq_true rfl) (fun _ _ z => z.elim) (fun r' S' z => ?_)
                  obtain ⟨rfl, rfl⟩ := z
                  show WP _ _ _ _ [some (vR 9 0), some (vI (x1)), some (vI (x2)), some (vI (x3)), some (vI (x4)), some (vI (x5)), some (vI (x6)), some (vI (x7)), some (vI ((2 + 0))), l9] [vI (r50), vI (r47)] _ _ _
                  refine wp_icmp_ge (tgt := 113) dX9_chosen_106 (by decide) (fun c53 => ?_) (fun c53 => ?_)
                  · replace h := itp c53 h
                    refine wp_iconst (v := 0) dX9_chosen_113 (by decide) ?_
                    refine wp_istore (L' := [some (vR 9 0), some (vI (x1)), some (vI (x2)), some (vI (x3)), some (vI (x4)), some (vI (x5)), some (vI (x6)), some (vI (x7)), some (vI ((2 + 0))), some (vI (0))]) dX9_chosen_114 rfl rfl ?_
                    refine wp_iload dX9_chosen_116 rfl ?_
                    refine wp_if_eq (tgt := 126) dX9_chosen_118 (by decide) (fun _ => ?_) (fun z => absurd (by decide) z)
                    refine wp_iload dX9_chosen_126 rfl ?_
                    refine wp_istore (L' := [some (vR 9 0), some (vI (x1)), some (vI (x2)), some (vI (x3)), some (vI (x4)), some (vI (x5)), some (vI (x6)), some (vI (x7)), some (vI ((2 + 0))), some (vI (0))]) dX9_chosen_128 rfl rfl ?_
                    refine wp_iload dX9_chosen_130 rfl ?_
                    refine wp_if_eq (tgt := 140) dX9_chosen_132 (by decide) (fun _ => ?_) (fun z => absurd (by decide) z)
                    refine wp_iload dX9_chosen_140 rfl ?_
                    refine wp_istore (L' := [some (vR 9 0), some (vI (x1)), some (vI (x2)), some (vI (x3)), some (vI (x4)), some (vI (x5)), some (vI (x6)), some (vI (x7)), some (vI ((2 + 0))), some (vI (0))]) dX9_chosen_142 rfl rfl ?_
                    refine wp_iinc (v := x7 + 1) (L' := [some (vR 9 0), some (vI (x1)), some (vI (x2)), some (vI (x3)), some (vI (x4)), some (vI (x5)), some (vI (x6)), some (vI (x7 + 1)), some (vI ((2 + 0))), some (vI (0))]) dX9_chosen_144 rfl rfl rfl ?_
                    refine wp_goto (tgt := 9) dX9_chosen_147 (by decide) ?_
                    exact ih h
                  · replace h := itn c53 h
                    refine wp_iconst (v := 1) dX9_chosen_109 (by decide) ?_
                    refine wp_goto (tgt := 114) dX9_chosen_110 (by decide) ?_
                    refine wp_istore (L' := [some (vR 9 0), some (vI (x1)), some (vI (x2)), some (vI (x3)), some (vI (x4)), some (vI (x5)), some (vI (x6)), some (vI (x7)), some (vI ((2 + 0))), some (vI (1))]) dX9_chosen_114 rfl rfl ?_
                    refine wp_iload dX9_chosen_116 rfl ?_
                    refine wp_if_eq (tgt := 126) dX9_chosen_118 (by decide) (fun z => absurd z (by decide)) (fun _ => ?_)
                    refine wp_iload dX9_chosen_121 rfl ?_
                    refine wp_goto (tgt := 128) dX9_chosen_123 (by decide) ?_
                    refine wp_istore (L' := [some (vR 9 0), some (vI (x1)), some (vI (x2)), some (vI (x3)), some (vI (x4)), some (vI (x7)), some (vI (x6)), some (vI (x7)), some (vI ((2 + 0))), some (vI (1))]) dX9_chosen_128 rfl rfl ?_
                    refine wp_iload dX9_chosen_130 rfl ?_
                    refine wp_if_eq (tgt := 140) dX9_chosen_132 (by decide) (fun z => absurd z (by decide)) (fun _ => ?_)
                    refine wp_iload dX9_chosen_135 rfl ?_
                    refine wp_goto (tgt := 142) dX9_chosen_137 (by decide) ?_
                    refine wp_istore (L' := [some (vR 9 0), some (vI (x1)), some (vI (x2)), some (vI (x3)), some (vI (x4)), some (vI (x7)), some (vI ((2 + 0))), some (vI (x7)), some (vI ((2 + 0))), some (vI (1))]) dX9_chosen_142 rfl rfl ?_
                    refine wp_iinc (v := x7 + 1) (L' := [some (vR 9 0), some (vI (x1)), some (vI (x2)), some (vI (x3)), some (vI (x4)), some (vI (x7)), some (vI ((2 + 0))), some (vI (x7 + 1)), some (vI ((2 + 0))), some (vI (1))]) dX9_chosen_144 rfl rfl rfl ?_
                    refine wp_goto (tgt := 9) dX9_chosen_147 (by decide) ?_
                    exact ih h
          · replace h := itn c43 h
            refine wp_aload_n dX9_chosen_50 rfl ?_
            refine wp_arrR (y := 12) (c := 212) hfr (by decide) rfl fl_X9_41 dX9_chosen_51 ?_
            refine wp_iload dX9_chosen_54 rfl ?_
            obtain ⟨c54, h⟩ := ock h
            refine wp_ialdR (c := 212) (y := 12) rfl rfl (show vp_in (x7) (len 212) from c54) dX9_chosen_56 ?_
            refine wp_iload dX9_chosen_57 rfl ?_
            refine wp_icmp_ne (tgt := 66) dX9_chosen_59 (by decide) (fun c55 => ?_) (fun c55 => ?_)
            · replace h := itn c55 h
              refine wp_iconst (v := 1) dX9_chosen_66 (by decide) ?_
              refine wp_iadd dX9_chosen_67 ?_
              refine wp_istore (L' := [some (vR 9 0), some (vI (x1)), some (vI (x2)), some (vI (x3)), some (vI (x4)), some (vI (x5)), some (vI (x6)), some (vI (x7)), some (vI ((2 + 1))), l9]) dX9_chosen_68 rfl rfl ?_
              refine wp_iload dX9_chosen_70 rfl ?_
              refine wp_iconst (v := (-1)) dX9_chosen_72 (by decide) ?_
              refine wp_icmp_eq (tgt := 109) dX9_chosen_73 (by decide) (fun c66 => ?_) (fun c66 => ?_)
              · replace h := itp c66 h
                refine wp_iconst (v := 1) dX9_chosen_109 (by decide) ?_
                refine wp_goto (tgt := 114) dX9_chosen_110 (by decide) ?_
                refine wp_istore (L' := [some (vR 9 0), some (vI (x1)), some (vI (x2)), some (vI (x3)), some (vI (x4)), some (vI (x5)), some (vI (x6)), some (vI (x7)), some (vI ((2 + 1))), some (vI (1))]) dX9_chosen_114 rfl rfl ?_
                refine wp_iload dX9_chosen_116 rfl ?_
                refine wp_if_eq (tgt := 126) dX9_chosen_118 (by decide) (fun z => absurd z (by decide)) (fun _ => ?_)
                refine wp_iload dX9_chosen_121 rfl ?_
                refine wp_goto (tgt := 128) dX9_chosen_123 (by decide) ?_
                refine wp_istore (L' := [some (vR 9 0), some (vI (x1)), some (vI (x2)), some (vI (x3)), some (vI (x4)), some (vI (x7)), some (vI (x6)), some (vI (x7)), some (vI ((2 + 1))), some (vI (1))]) dX9_chosen_128 rfl rfl ?_
                refine wp_iload dX9_chosen_130 rfl ?_
                refine wp_if_eq (tgt := 140) dX9_chosen_132 (by decide) (fun z => absurd z (by decide)) (fun _ => ?_)
                refine wp_iload dX9_chosen_135 rfl ?_
                refine wp_goto (tgt := 142) dX9_chosen_137 (by decide) ?_
                refine wp_istore (L' := [some (vR 9 0), some (vI (x1)), some (vI (x2)), some (vI (x3)), some (vI (x4)), some (vI (x7)), some (vI ((2 + 1))), some (vI (x7)), some (vI ((2 + 1))), some (vI (1))]) dX9_chosen_142 rfl rfl ?_
                refine wp_iinc (v := x7 + 1) (L' := [some (vR 9 0), some (vI (x1)), some (vI (x2)), some (vI (x3)), some (vI (x4)), some (vI (x7)), some (vI ((2 + 1))), some (vI (x7 + 1)), some (vI ((2 + 1))), some (vI (1))]) dX9_chosen_144 rfl rfl rfl ?_
                refine wp_goto (tgt := 9) dX9_chosen_147 (by decide) ?_
                exact ih h
              · replace h := itn c66 h
                refine wp_iload dX9_chosen_76 rfl ?_
                refine wp_iload dX9_chosen_78 rfl ?_
                refine wp_icmp_lt (tgt := 109) dX9_chosen_80 (by decide) (fun c67 => ?_) (fun c67 => ?_)
                · replace h := itp c67 h
                  refine wp_iconst (v := 1) dX9_chosen_109 (by decide) ?_
                  refine wp_goto (tgt := 114) dX9_chosen_110 (by decide) ?_
                  refine wp_istore (L' := [some (vR 9 0), some (vI (x1)), some (vI (x2)), some (vI (x3)), some (vI (x4)), some (vI (x5)), some (vI (x6)), some (vI (x7)), some (vI ((2 + 1))), some (vI (1))]) dX9_chosen_114 rfl rfl ?_
                  refine wp_iload dX9_chosen_116 rfl ?_
                  refine wp_if_eq (tgt := 126) dX9_chosen_118 (by decide) (fun z => absurd z (by decide)) (fun _ => ?_)
                  refine wp_iload dX9_chosen_121 rfl ?_
                  refine wp_goto (tgt := 128) dX9_chosen_123 (by decide) ?_
                  refine wp_istore (L' := [some (vR 9 0), some (vI (x1)), some (vI (x2)), some (vI (x3)), some (vI (x4)), some (vI (x7)), some (vI (x6)), some (vI (x7)), some (vI ((2 + 1))), some (vI (1))]) dX9_chosen_128 rfl rfl ?_
                  refine wp_iload dX9_chosen_130 rfl ?_
                  refine wp_if_eq (tgt := 140) dX9_chosen_132 (by decide) (fun z => absurd z (by decide)) (fun _ => ?_)
                  refine wp_iload dX9_chosen_135 rfl ?_
                  refine wp_goto (tgt := 142) dX9_chosen_137 (by decide) ?_
                  refine wp_istore (L' := [some (vR 9 0), some (vI (x1)), some (vI (x2)), some (vI (x3)), some (vI (x4)), some (vI (x7)), some (vI ((2 + 1))), some (vI (x7)), some (vI ((2 + 1))), some (vI (1))]) dX9_chosen_142 rfl rfl ?_
                  refine wp_iinc (v := x7 + 1) (L' := [some (vR 9 0), some (vI (x1)), some (vI (x2)), some (vI (x3)), some (vI (x4)), some (vI (x7)), some (vI ((2 + 1))), some (vI (x7 + 1)), some (vI ((2 + 1))), some (vI (1))]) dX9_chosen_144 rfl rfl rfl ?_
                  refine wp_goto (tgt := 9) dX9_chosen_147 (by decide) ?_
                  exact ih h
                · replace h := itn c67 h
                  refine wp_iload dX9_chosen_83 rfl ?_
                  refine wp_iload dX9_chosen_85 rfl ?_
                  refine wp_icmp_ne (tgt := 113) dX9_chosen_87 (by decide) (fun c68 => ?_) (fun c68 => ?_)
                  · replace h := itn c68 h
                    refine wp_iconst (v := 0) dX9_chosen_113 (by decide) ?_
                    refine wp_istore (L' := [some (vR 9 0), some (vI (x1)), some (vI (x2)), some (vI (x3)), some (vI (x4)), some (vI (x5)), some (vI (x6)), some (vI (x7)), some (vI ((2 + 1))), some (vI (0))]) dX9_chosen_114 rfl rfl ?_
                    refine wp_iload dX9_chosen_116 rfl ?_
                    refine wp_if_eq (tgt := 126) dX9_chosen_118 (by decide) (fun _ => ?_) (fun z => absurd (by decide) z)
                    refine wp_iload dX9_chosen_126 rfl ?_
                    refine wp_istore (L' := [some (vR 9 0), some (vI (x1)), some (vI (x2)), some (vI (x3)), some (vI (x4)), some (vI (x5)), some (vI (x6)), some (vI (x7)), some (vI ((2 + 1))), some (vI (0))]) dX9_chosen_128 rfl rfl ?_
                    refine wp_iload dX9_chosen_130 rfl ?_
                    refine wp_if_eq (tgt := 140) dX9_chosen_132 (by decide) (fun _ => ?_) (fun z => absurd (by decide) z)
                    refine wp_iload dX9_chosen_140 rfl ?_
                    refine wp_istore (L' := [some (vR 9 0), some (vI (x1)), some (vI (x2)), some (vI (x3)), some (vI (x4)), some (vI (x5)), some (vI (x6)), some (vI (x7)), some (vI ((2 + 1))), some (vI (0))]) dX9_chosen_142 rfl rfl ?_
                    refine wp_iinc (v := x7 + 1) (L' := [some (vR 9 0), some (vI (x1)), some (vI (x2)), some (vI (x3)), some (vI (x4)), some (vI (x5)), some (vI (x6)), some (vI (x7 + 1)), some (vI ((2 + 1))), some (vI (0))]) dX9_chosen_144 rfl rfl rfl ?_
                    refine wp_goto (tgt := 9) dX9_chosen_147 (by decide) ?_
                    exact ih h
                  · replace h := itp c68 h
                    refine wp_aload_n dX9_chosen_90 rfl ?_
                    refine wp_iload_n dX9_chosen_91 rfl ?_
                    refine wp_iload_n dX9_chosen_92 rfl ?_
                    refine wp_iload dX9_chosen_93 rfl ?_
                    obtain ⟨r69, rho70, hp71, h⟩ := ob_e h
                    refine wp_callV (k1 := 0) (k2 := 0) (As := [vI (x1), vI (x2), vI (x7)]) (rest := []) (w9_burden hfr hp71) okX9_burden ivX9_burden rfl (by decide) ml_X9_272 dX9_chosen_95 rfl (by decide) (Nat.le_refl _) rfl (Nat.le_of_ble_eq_true rfl) (fun _ _ z => z.elim) (fun r' S' z => ?_)
                    obtain ⟨rfl, rfl⟩ := z
                    show WP _ _ _ _ [some (vR 9 0), some (vI (x1)), some (vI (x2)), some (vI (x3)), some (vI (x4)), some (vI (x5)), some (vI (x6)), some (vI (x7)), some (vI ((2 + 1))), l9] [vI (r69)] _ _ _
                    refine wp_aload_n dX9_chosen_98 rfl ?_
                    refine wp_iload_n dX9_chosen_99 rfl ?_
                    refine wp_iload_n dX9_chosen_100 rfl ?_
                    refine wp_iload dX9_chosen_101 rfl ?_
                    obtain ⟨r72, rho73, hp74, h⟩ := ob_e h
                    refine wp_callV (k1 := 0) (k2 := 0) (As := [vI (x1), vI (x2), vI (x5)]) (rest := [vI (r69)]) (w9_burden hfr hp74) okX9_burden ivX9_burden rfl (by decide) ml_X9_272 dX9_chosen_103 rfl (by decide) (Nat.le_refl _) rfl (Nat.le_of_ble_eq_true rfl) (fun _ _ z => z.elim) (fun r' S' z => ?_)
                    obtain ⟨rfl, rfl⟩ := z
                    show WP _ _ _ _ [some (vR 9 0), some (vI (x1)), some (vI (x2)), some (vI (x3)), some (vI (x4)), some (vI (x5)), some (vI (x6)), some (vI (x7)), some (vI ((2 + 1))), l9] [vI (r72), vI (r69)] _ _ _
                    refine wp_icmp_ge (tgt := 113) dX9_chosen_106 (by decide) (fun c75 => ?_) (fun c75 => ?_)
                    · replace h := itp c75 h
                      refine wp_iconst (v := 0) dX9_chosen_113 (by decide) ?_
                      refine wp_istore (L' := [some (vR 9 0), some (vI (x1)), some (vI (x2)), some (vI (x3)), some (vI (x4)), some (vI (x5)), some (vI (x6)), some (vI (x7)), some (vI ((2 + 1))), some (vI (0))]) dX9_chosen_114 rfl rfl ?_
                      refine wp_iload dX9_chosen_116 rfl ?_
                      refine wp_if_eq (tgt := 126) dX9_chosen_118 (by decide) (fun _ => ?_) (fun z => absurd (by decide) z)
                      refine wp_iload dX9_chosen_126 rfl ?_
                      refine wp_istore (L' := [some (vR 9 0), some (vI (x1)), some (vI (x2)), some (vI (x3)), some (vI (x4)), some (vI (x5)), some (vI (x6)), some (vI (x7)), some (vI ((2 + 1))), some (vI (0))]) dX9_chosen_128 rfl rfl ?_
                      refine wp_iload dX9_chosen_130 rfl ?_
                      refine wp_if_eq (tgt := 140) dX9_chosen_132 (by decide) (fun _ => ?_) (fun z => absurd (by decide) z)
                      refine wp_iload dX9_chosen_140 rfl ?_
                      refine wp_istore (L' := [some (vR 9 0), some (vI (x1)), some (vI (x2)), some (vI (x3)), some (vI (x4)), some (vI (x5)), some (vI (x6)), some (vI (x7)), some (vI ((2 + 1))), some (vI (0))]) dX9_chosen_142 rfl rfl ?_
                      refine wp_iinc (v := x7 + 1) (L' := [some (vR 9 0), some (vI (x1)), some (vI (x2)), some (vI (x3)), some (vI (x4)), some (vI (x5)), some (vI (x6)), some (vI (x7 + 1)), some (vI ((2 + 1))), some (vI (0))]) dX9_chosen_144 rfl rfl rfl ?_
                      refine wp_goto (tgt := 9) dX9_chosen_147 (by decide) ?_
                      exact ih h
                    · replace h := itn c75 h
                      refine wp_iconst (v := 1) dX9_chosen_109 (by decide) ?_
                      refine wp_goto (tgt := 114) dX9_chosen_110 (by decide) ?_
                      refine wp_istore (L' := [some (vR 9 0), some (vI (x1)), some (vI (x2)), some (vI (x3)), some (vI (x4)), some (vI (x5)), some (vI (x6)), some (vI (x7)), some (vI ((2 + 1))), some (vI (1))]) dX9_chosen_114 rfl rfl ?_
                      refine wp_iload dX9_chosen_116 rfl ?_
                      refine wp_if_eq (tgt := 126) dX9_chosen_118 (by decide) (fun z => absurd z (by decide)) (fun _ => ?_)
                      refine wp_iload dX9_chosen_121 rfl ?_
                      refine wp_goto (tgt := 128) dX9_chosen_123 (by decide) ?_
                      refine wp_istore (L' := [some (vR 9 0), some (vI (x1)), some (vI (x2)), some (vI (x3)), some (vI (x4)), some (vI (x7)), some (vI (x6)), some (vI (x7)), some (vI ((2 + 1))), some (vI (1))]) dX9_chosen_128 rfl rfl ?_
                      refine wp_iload dX9_chosen_130 rfl ?_
                      refine wp_if_eq (tgt := 140) dX9_chosen_132 (by decide) (fun z => absurd z (by decide)) (fun _ => ?_)
                      refine wp_iload dX9_chosen_135 rfl ?_
                      refine wp_goto (tgt := 142) dX9_chosen_137 (by decide) ?_
                      refine wp_istore (L' := [some (vR 9 0), some (vI (x1)), some (vI (x2)), some (vI (x3)), some (vI (x4)), some (vI (x7)), some (vI ((2 + 1))), some (vI (x7)), some (vI ((2 + 1))), some (vI (1))]) dX9_chosen_142 rfl rfl ?_
                      refine wp_iinc (v := x7 + 1) (L' := [some (vR 9 0), some (vI (x1)), some (vI (x2)), some (vI (x3)), some (vI (x4)), some (vI (x7)), some (vI ((2 + 1))), some (vI (x7 + 1)), some (vI ((2 + 1))), some (vI (1))]) dX9_chosen_144 rfl rfl rfl ?_
                      refine wp_goto (tgt := 9) dX9_chosen_147 (by decide) ?_
                      exact ih h
            · replace h := itp c55 h
              refine wp_iconst (v := 0) dX9_chosen_62 (by decide) ?_
              refine wp_goto (tgt := 67) dX9_chosen_63 (by decide) ?_
              refine wp_iadd dX9_chosen_67 ?_
              refine wp_istore (L' := [some (vR 9 0), some (vI (x1)), some (vI (x2)), some (vI (x3)), some (vI (x4)), some (vI (x5)), some (vI (x6)), some (vI (x7)), some (vI ((2 + 0))), l9]) dX9_chosen_68 rfl rfl ?_
              refine wp_iload dX9_chosen_70 rfl ?_
              refine wp_iconst (v := (-1)) dX9_chosen_72 (by decide) ?_
              refine wp_icmp_eq (tgt := 109) dX9_chosen_73 (by decide) (fun c56 => ?_) (fun c56 => ?_)
              · replace h := itp c56 h
                refine wp_iconst (v := 1) dX9_chosen_109 (by decide) ?_
                refine wp_goto (tgt := 114) dX9_chosen_110 (by decide) ?_
                refine wp_istore (L' := [some (vR 9 0), some (vI (x1)), some (vI (x2)), some (vI (x3)), some (vI (x4)), some (vI (x5)), some (vI (x6)), some (vI (x7)), some (vI ((2 + 0))), some (vI (1))]) dX9_chosen_114 rfl rfl ?_
                refine wp_iload dX9_chosen_116 rfl ?_
                refine wp_if_eq (tgt := 126) dX9_chosen_118 (by decide) (fun z => absurd z (by decide)) (fun _ => ?_)
                refine wp_iload dX9_chosen_121 rfl ?_
                refine wp_goto (tgt := 128) dX9_chosen_123 (by decide) ?_
                refine wp_istore (L' := [some (vR 9 0), some (vI (x1)), some (vI (x2)), some (vI (x3)), some (vI (x4)), some (vI (x7)), some (vI (x6)), some (vI (x7)), some (vI ((2 + 0))), some (vI (1))]) dX9_chosen_128 rfl rfl ?_
                refine wp_iload dX9_chosen_130 rfl ?_
                refine wp_if_eq (tgt := 140) dX9_chosen_132 (by decide) (fun z => absurd z (by decide)) (fun _ => ?_)
                refine wp_iload dX9_chosen_135 rfl ?_
                refine wp_goto (tgt := 142) dX9_chosen_137 (by decide) ?_
                refine wp_istore (L' := [some (vR 9 0), some (vI (x1)), some (vI (x2)), some (vI (x3)), some (vI (x4)), some (vI (x7)), some (vI ((2 + 0))), some (vI (x7)), some (vI ((2 + 0))), some (vI (1))]) dX9_chosen_142 rfl rfl ?_
                refine wp_iinc (v := x7 + 1) (L' := [some (vR 9 0), some (vI (x1)), some (vI (x2)), some (vI (x3)), some (vI (x4)), some (vI (x7)), some (vI ((2 + 0))), some (vI (x7 + 1)), some (vI ((2 + 0))), some (vI (1))]) dX9_chosen_144 rfl rfl rfl ?_
                refine wp_goto (tgt := 9) dX9_chosen_147 (by decide) ?_
                exact ih h
              · replace h := itn c56 h
                refine wp_iload dX9_chosen_76 rfl ?_
                refine wp_iload dX9_chosen_78 rfl ?_
                refine wp_icmp_lt (tgt := 109) dX9_chosen_80 (by decide) (fun c57 => ?_) (fun c57 => ?_)
                · replace h := itp c57 h
                  refine wp_iconst (v := 1) dX9_chosen_109 (by decide) ?_
                  refine wp_goto (tgt := 114) dX9_chosen_110 (by decide) ?_
                  refine wp_istore (L' := [some (vR 9 0), some (vI (x1)), some (vI (x2)), some (vI (x3)), some (vI (x4)), some (vI (x5)), some (vI (x6)), some (vI (x7)), some (vI ((2 + 0))), some (vI (1))]) dX9_chosen_114 rfl rfl ?_
                  refine wp_iload dX9_chosen_116 rfl ?_
                  refine wp_if_eq (tgt := 126) dX9_chosen_118 (by decide) (fun z => absurd z (by decide)) (fun _ => ?_)
                  refine wp_iload dX9_chosen_121 rfl ?_
                  refine wp_goto (tgt := 128) dX9_chosen_123 (by decide) ?_
                  refine wp_istore (L' := [some (vR 9 0), some (vI (x1)), some (vI (x2)), some (vI (x3)), some (vI (x4)), some (vI (x7)), some (vI (x6)), some (vI (x7)), some (vI ((2 + 0))), some (vI (1))]) dX9_chosen_128 rfl rfl ?_
                  refine wp_iload dX9_chosen_130 rfl ?_
                  refine wp_if_eq (tgt := 140) dX9_chosen_132 (by decide) (fun z => absurd z (by decide)) (fun _ => ?_)
                  refine wp_iload dX9_chosen_135 rfl ?_
                  refine wp_goto (tgt := 142) dX9_chosen_137 (by decide) ?_
                  refine wp_istore (L' := [some (vR 9 0), some (vI (x1)), some (vI (x2)), some (vI (x3)), some (vI (x4)), some (vI (x7)), some (vI ((2 + 0))), some (vI (x7)), some (vI ((2 + 0))), some (vI (1))]) dX9_chosen_142 rfl rfl ?_
                  refine wp_iinc (v := x7 + 1) (L' := [some (vR 9 0), some (vI (x1)), some (vI (x2)), some (vI (x3)), some (vI (x4)), some (vI (x7)), some (vI ((2 + 0))), some (vI (x7 + 1)), some (vI ((2 + 0))), some (vI (1))]) dX9_chosen_144 rfl rfl rfl ?_
                  refine wp_goto (tgt := 9) dX9_chosen_147 (by decide) ?_
                  exact ih h
                · replace h := itn c57 h
                  refine wp_iload dX9_chosen_83 rfl ?_
                  refine wp_iload dX9_chosen_85 rfl ?_
                  refine wp_icmp_ne (tgt := 113) dX9_chosen_87 (by decide) (fun c58 => ?_) (fun c58 => ?_)
                  · replace h := itn c58 h
                    refine wp_iconst (v := 0) dX9_chosen_113 (by decide) ?_
                    refine wp_istore (L' := [some (vR 9 0), some (vI (x1)), some (vI (x2)), some (vI (x3)), some (vI (x4)), some (vI (x5)), some (vI (x6)), some (vI (x7)), some (vI ((2 + 0))), some (vI (0))]) dX9_chosen_114 rfl rfl ?_
                    refine wp_iload dX9_chosen_116 rfl ?_
                    refine wp_if_eq (tgt := 126) dX9_chosen_118 (by decide) (fun _ => ?_) (fun z => absurd (by decide) z)
                    refine wp_iload dX9_chosen_126 rfl ?_
                    refine wp_istore (L' := [some (vR 9 0), some (vI (x1)), some (vI (x2)), some (vI (x3)), some (vI (x4)), some (vI (x5)), some (vI (x6)), some (vI (x7)), some (vI ((2 + 0))), some (vI (0))]) dX9_chosen_128 rfl rfl ?_
                    refine wp_iload dX9_chosen_130 rfl ?_
                    refine wp_if_eq (tgt := 140) dX9_chosen_132 (by decide) (fun _ => ?_) (fun z => absurd (by decide) z)
                    refine wp_iload dX9_chosen_140 rfl ?_
                    refine wp_istore (L' := [some (vR 9 0), some (vI (x1)), some (vI (x2)), some (vI (x3)), some (vI (x4)), some (vI (x5)), some (vI (x6)), some (vI (x7)), some (vI ((2 + 0))), some (vI (0))]) dX9_chosen_142 rfl rfl ?_
                    refine wp_iinc (v := x7 + 1) (L' := [some (vR 9 0), some (vI (x1)), some (vI (x2)), some (vI (x3)), some (vI (x4)), some (vI (x5)), some (vI (x6)), some (vI (x7 + 1)), some (vI ((2 + 0))), some (vI (0))]) dX9_chosen_144 rfl rfl rfl ?_
                    refine wp_goto (tgt := 9) dX9_chosen_147 (by decide) ?_
                    exact ih h
                  · replace h := itp c58 h
                    refine wp_aload_n dX9_chosen_90 rfl ?_
                    refine wp_iload_n dX9_chosen_91 rfl ?_
                    refine wp_iload_n dX9_chosen_92 rfl ?_
                    refine wp_iload dX9_chosen_93 rfl ?_
                    obtain ⟨r59, rho60, hp61, h⟩ := ob_e h
                    refine wp_callV (k1 := 0) (k2 := 0) (As := [vI (x1), vI (x2), vI (x7)]) (rest := []) (w9_burden hfr hp61) okX9_burden ivX9_burden rfl (by decide) ml_X9_272 dX9_chosen_95 rfl (by decide) (Nat.le_refl _) rfl (Nat.le_of_ble_eq_true rfl) (fun _ _ z => z.elim) (fun r' S' z => ?_)
                    obtain ⟨rfl, rfl⟩ := z
                    show WP _ _ _ _ [some (vR 9 0), some (vI (x1)), some (vI (x2)), some (vI (x3)), some (vI (x4)), some (vI (x5)), some (vI (x6)), some (vI (x7)), some (vI ((2 + 0))), l9] [vI (r59)] _ _ _
                    refine wp_aload_n dX9_chosen_98 rfl ?_
                    refine wp_iload_n dX9_chosen_99 rfl ?_
                    refine wp_iload_n dX9_chosen_100 rfl ?_
                    refine wp_iload dX9_chosen_101 rfl ?_
                    obtain ⟨r62, rho63, hp64, h⟩ := ob_e h
                    refine wp_callV (k1 := 0) (k2 := 0) (As := [vI (x1), vI (x2), vI (x5)]) (rest := [vI (r59)]) (w9_burden hfr hp64) okX9_burden ivX9_burden rfl (by decide) ml_X9_272 dX9_chosen_103 rfl (by decide) (Nat.le_refl _) rfl (Nat.le_of_ble_eq_true rfl) (fun _ _ z => z.elim) (fun r' S' z => ?_)
                    obtain ⟨rfl, rfl⟩ := z
                    show WP _ _ _ _ [some (vR 9 0), some (vI (x1)), some (vI (x2)), some (vI (x3)), some (vI (x4)), some (vI (x5)), some (vI (x6)), some (vI (x7)), some (vI ((2 + 0))), l9] [vI (r62), vI (r59)] _ _ _
                    refine wp_icmp_ge (tgt := 113) dX9_chosen_106 (by decide) (fun c65 => ?_) (fun c65 => ?_)
                    · replace h := itp c65 h
                      refine wp_iconst (v := 0) dX9_chosen_113 (by decide) ?_
                      refine wp_istore (L' := [some (vR 9 0), some (vI (x1)), some (vI (x2)), some (vI (x3)), some (vI (x4)), some (vI (x5)), some (vI (x6)), some (vI (x7)), some (vI ((2 + 0))), some (vI (0))]) dX9_chosen_114 rfl rfl ?_
                      refine wp_iload dX9_chosen_116 rfl ?_
                      refine wp_if_eq (tgt := 126) dX9_chosen_118 (by decide) (fun _ => ?_) (fun z => absurd (by decide) z)
                      refine wp_iload dX9_chosen_126 rfl ?_
                      refine wp_istore (L' := [some (vR 9 0), some (vI (x1)), some (vI (x2)), some (vI (x3)), some (vI (x4)), some (vI (x5)), some (vI (x6)), some (vI (x7)), some (vI ((2 + 0))), some (vI (0))]) dX9_chosen_128 rfl rfl ?_
                      refine wp_iload dX9_chosen_130 rfl ?_
                      refine wp_if_eq (tgt := 140) dX9_chosen_132 (by decide) (fun _ => ?_) (fun z => absurd (by decide) z)
                      refine wp_iload dX9_chosen_140 rfl ?_
                      refine wp_istore (L' := [some (vR 9 0), some (vI (x1)), some (vI (x2)), some (vI (x3)), some (vI (x4)), some (vI (x5)), some (vI (x6)), some (vI (x7)), some (vI ((2 + 0))), some (vI (0))]) dX9_chosen_142 rfl rfl ?_
                      refine wp_iinc (v := x7 + 1) (L' := [some (vR 9 0), some (vI (x1)), some (vI (x2)), some (vI (x3)), some (vI (x4)), some (vI (x5)), some (vI (x6)), some (vI (x7 + 1)), some (vI ((2 + 0))), some (vI (0))]) dX9_chosen_144 rfl rfl rfl ?_
                      refine wp_goto (tgt := 9) dX9_chosen_147 (by decide) ?_
                      exact ih h
                    · replace h := itn c65 h
                      refine wp_iconst (v := 1) dX9_chosen_109 (by decide) ?_
                      refine wp_goto (tgt := 114) dX9_chosen_110 (by decide) ?_
                      refine wp_istore (L' := [some (vR 9 0), some (vI (x1)), some (vI (x2)), some (vI (x3)), some (vI (x4)), some (vI (x5)), some (vI (x6)), some (vI (x7)), some (vI ((2 + 0))), some (vI (1))]) dX9_chosen_114 rfl rfl ?_
                      refine wp_iload dX9_chosen_116 rfl ?_
                      refine wp_if_eq (tgt := 126) dX9_chosen_118 (by decide) (fun z => absurd z (by decide)) (fun _ => ?_)
                      refine wp_iload dX9_chosen_121 rfl ?_
                      refine wp_goto (tgt := 128) dX9_chosen_123 (by decide) ?_
                      refine wp_istore (L' := [some (vR 9 0), some (vI (x1)), some (vI (x2)), some (vI (x3)), some (vI (x4)), some (vI (x7)), some (vI (x6)), some (vI (x7)), some (vI ((2 + 0))), some (vI (1))]) dX9_chosen_128 rfl rfl ?_
                      refine wp_iload dX9_chosen_130 rfl ?_
                      refine wp_if_eq (tgt := 140) dX9_chosen_132 (by decide) (fun z => absurd z (by decide)) (fun _ => ?_)
                      refine wp_iload dX9_chosen_135 rfl ?_
                      refine wp_goto (tgt := 142) dX9_chosen_137 (by decide) ?_
                      refine wp_istore (L' := [some (vR 9 0), some (vI (x1)), some (vI (x2)), some (vI (x3)), some (vI (x4)), some (vI (x7)), some (vI ((2 + 0))), some (vI (x7)), some (vI ((2 + 0))), some (vI (1))]) dX9_chosen_142 rfl rfl ?_
                      refine wp_iinc (v := x7 + 1) (L' := [some (vR 9 0), some (vI (x1)), some (vI (x2)), some (vI (x3)), some (vI (x4)), some (vI (x7)), some (vI ((2 + 0))), some (vI (x7 + 1)), some (vI ((2 + 0))), some (vI (1))]) dX9_chosen_144 rfl rfl rfl ?_
                      refine wp_goto (tgt := 9) dX9_chosen_147 (by decide) ?_
                      exact ih h
def f9_chosen (x1 x2 x3 x4 : Int32) (rho : RH) : Option (Int32 × RH) :=
  l9_chosen_9 FU (x1) (x2) (x3) (x4) ((-1)) (0) (0) rho
theorem w9_chosen {r : Int32} {rho9 : RH} (hfr : RA fr) {x1 x2 x3 x4 : Int32} {rho : RH} (h : f9_chosen x1 x2 x3 x4 rho = some (r, rho9)) : Spec mX9_chosen 5 0 [vR 9 0, vI x1, vI x2, vI x3, vI x4] (lv, fr, fi, ai, ar, li, out, rho) (Po lv fr fi ai ar li out (some (vI r)) rho9) NX := by
  unfold f9_chosen at h
  refine spec_of (by decide) rfl (by simp [catS, cat1]) (Nat.le_of_ble_eq_true rfl) ?_
  show WP mX9_chosen 5 0 0 [some (vR 9 0), some (vI (x1)), some (vI (x2)), some (vI (x3)), some (vI (x4)), none, none, none, none, none] [] (lv, fr, fi, ai, ar, li, out, rho) (Po lv fr fi ai ar li out (some (vI r)) rho9) NX
  refine wp_iconst (v := (-1)) dX9_chosen_0 (by decide) ?_
  refine wp_istore (L' := [some (vR 9 0), some (vI (x1)), some (vI (x2)), some (vI (x3)), some (vI (x4)), some (vI ((-1))), none, none, none, none]) dX9_chosen_1 rfl rfl ?_
  refine wp_iconst (v := 0) dX9_chosen_3 (by decide) ?_
  refine wp_istore (L' := [some (vR 9 0), some (vI (x1)), some (vI (x2)), some (vI (x3)), some (vI (x4)), some (vI ((-1))), some (vI (0)), none, none, none]) dX9_chosen_4 rfl rfl ?_
  refine wp_iconst (v := 0) dX9_chosen_6 (by decide) ?_
  refine wp_istore (L' := [some (vR 9 0), some (vI (x1)), some (vI (x2)), some (vI (x3)), some (vI (x4)), some (vI ((-1))), some (vI (0)), some (vI (0)), none, none]) dX9_chosen_7 rfl rfl ?_
  exact w9_chosen_9 hfr FU h
end S9
