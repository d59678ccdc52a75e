section S9
variable {lv : Nat → Nat → Bool} {fr : Nat → Nat → Option Nat} {fi : Nat → Nat → Int32} {ai : Nat → Nat → Nat → Int32} {ar : Nat → Nat → Nat → Option Nat} {li : Nat → Nat → List Nat} {out : Int64}
def f9_begins (x1 : Int32) (rho : RH) : Option (Int32 × RH) :=
  if vq (x1) 540 then
  wr (up2 rho 46 (x1).toNatClampNeg (((rho 46 (x1).toNatClampNeg) + 1))) fun rho2 =>
  wr (up2 rho2 48 (x1).toNatClampNeg (0)) fun rho4 =>
  wr (up2 rho4 49 (x1).toNatClampNeg (0)) fun rho6 =>
  ob (f9_tries (x1) (0) rho6) fun _ rho9 =>
  some (0, rho9)
  else none
theorem w9_begins {r : Int32} {rho9 : RH} (hfr : RA fr) {x1 : Int32} {rho : RH} (h : f9_begins x1 rho = some (r, rho9)) : Spec mX9_begins 7 0 [vR 9 0, vI x1] (lv, fr, fi, ai, ar, li, out, rho) (Po lv fr fi ai ar li out (none) rho9) NX := by
  unfold f9_begins at h
  refine spec_of (by decide) rfl (by simp [catS, cat1]) (Nat.le_of_ble_eq_true rfl) ?_
  show WP mX9_begins 7 0 0 [some (vR 9 0), some (vI (x1))] [] (lv, fr, fi, ai, ar, li, out, rho) (Po lv fr fi ai ar li out (none) rho9) NX
  refine wp_aload_n dX9_begins_0 rfl ?_
  refine wp_arrR (y := 46) (c := 246) hfr (by decide) rfl fl_X9_141 dX9_begins_1 ?_
  refine wp_iload_n dX9_begins_4 rfl ?_
  refine wp_dup2 dX9_begins_5 trivial trivial ?_
  obtain ⟨c1, h⟩ := ock h
  refine wp_ialdR (c := 246) (y := 46) rfl rfl (show vp_in (x1) (len 246) from c1) dX9_begins_6 ?_
  refine wp_iconst (v := 1) dX9_begins_7 (by decide) ?_
  refine wp_iadd dX9_begins_8 ?_
  refine wp_iastR (c := 246) (y := 46) rfl rfl (show vp_in (x1) (len 246) from c1) dX9_begins_9 ?_
  obtain ⟨rho2, e3, h⟩ := wr_e h
  rw [e3]
  refine wp_aload_n dX9_begins_10 rfl ?_
  refine wp_arrR (y := 48) (c := 248) hfr (by decide) rfl fl_X9_147 dX9_begins_11 ?_
  refine wp_iload_n dX9_begins_14 rfl ?_
  refine wp_iconst (v := 0) dX9_begins_15 (by decide) ?_
  refine wp_iastR (c := 248) (y := 48) rfl rfl (show vp_in (x1) (len 248) from c1) dX9_begins_16 ?_
  obtain ⟨rho4, e5, h⟩ := wr_e h
  rw [e5]
  refine wp_aload_n dX9_begins_17 rfl ?_
  refine wp_arrR (y := 49) (c := 249) hfr (by decide) rfl fl_X9_150 dX9_begins_18 ?_
  refine wp_iload_n dX9_begins_21 rfl ?_
  refine wp_iconst (v := 0) dX9_begins_22 (by decide) ?_
  refine wp_iastR (c := 249) (y := 49) rfl rfl (show vp_in (x1) (len 249) from c1) dX9_begins_23 ?_
  obtain ⟨rho6, e7, h⟩ := wr_e h
  rw [e7]
  refine wp_aload_n dX9_begins_24 rfl ?_
  refine wp_iload_n dX9_begins_25 rfl ?_
  refine wp_iconst (v := 0) dX9_begins_26 (by decide) ?_
  obtain ⟨r8, rho9, hp10, h⟩ := ob_e h
  refine wp_callV (k1 := 0) (k2 := 0) (As := [vI (x1), vI (0)]) (rest := []) (w9_tries hfr hp10) okX9_tries ivX9_tries rfl (by decide) ml_X9_302 dX9_begins_27 rfl (by decide) (Nat.le_refl _) rfl (Nat.le_of_ble_eq_true rfl) (fun _ _ z => z.elim) (fun r' S' z => ?_)
  obtain ⟨rfl, rfl⟩ := z
  show WP _ _ _ _ [some (vR 9 0), some (vI (x1))] [] _ _ _
  obtain ⟨q1, q2⟩ := sm_e h
  subst q2
  exact wp_return rfl dX9_begins_30 ⟨rfl, rfl⟩
def l9_looks_2 : Nat → Int32 → Int32 → RH → Option (Int32 × RH)
  | 0, _, _, _ => none
  | n + 1, x1, x2, rho =>
  if (rho 31 0) ≤ x2 then
    some (0, rho)
  else
    if vq (x2) 400 then
    if (rho 32 (x2).toNatClampNeg) = x1 then
      if vq (x1) 540 then
      if (rho 33 (x2).toNatClampNeg) = (rho 46 (x1).toNatClampNeg) then
        if (rho 43 (x2).toNatClampNeg) = 0 then
          ob (f9_isKnown (x2) rho) fun r7 rho8 =>
          if r7 = 0 then
            l9_looks_2 n (x1) (x2 + 1) rho8
          else
            ob (f9_looksAt (x2) rho8) fun r11 rho12 =>
            if r11 = 0 then
              l9_looks_2 n (x1) (x2 + 1) rho12
            else
              some (1, rho12)
        else
          l9_looks_2 n (x1) (x2 + 1) rho
      else
        l9_looks_2 n (x1) (x2 + 1) rho
      else none
    else
      l9_looks_2 n (x1) (x2 + 1) rho
    else none
theorem w9_looks_2 {r : Int32} {rho9 : RH} (hfr : RA fr) : ∀ (n : Nat) {x1 x2 : Int32} {rho : RH}, l9_looks_2 n x1 x2 rho = some (r, rho9) → WP mX9_looks 2 0 2 [some (vR 9 0), some (vI (x1)), some (vI (x2))] [] (lv, fr, fi, ai, ar, li, out, rho) (Po lv fr fi ai ar li out (some (vI r)) rho9) NX := by
  intro n
  induction n with
  | zero =>
    intro x1 x2 rho h
    rw [l9_looks_2] at h
    cases h
  | succ n ih =>
    intro x1 x2 rho h
    rw [l9_looks_2] at h
    refine wp_iload_n dX9_looks_2 rfl ?_
    refine wp_aload_n dX9_looks_3 rfl ?_
    refine wp_getRI (y := 31) (by decide) rfl fl_X9_217 dX9_looks_4 ?_
    refine wp_icmp_ge (tgt := 68) dX9_looks_7 (by decide) (fun c1 => ?_) (fun c1 => ?_)
    · replace h := itp c1 h
      refine wp_iconst (v := 0) dX9_looks_68 (by decide) ?_
      obtain ⟨q1, q2⟩ := sm_e h
      subst q1
      subst q2
      exact wp_zreturn rfl (by decide) dX9_looks_69 ⟨rfl, rfl⟩
    · replace h := itn c1 h
      refine wp_aload_n dX9_looks_10 rfl ?_
      refine wp_arrR (y := 32) (c := 232) hfr (by decide) rfl fl_X9_99 dX9_looks_11 ?_
      refine wp_iload_n dX9_looks_14 rfl ?_
      obtain ⟨c2, h⟩ := ock h
      refine wp_ialdR (c := 232) (y := 32) rfl rfl (show vp_in (x2) (len 232) from c2) dX9_looks_15 ?_
      refine wp_iload_n dX9_looks_16 rfl ?_
      refine wp_icmp_ne (tgt := 62) dX9_looks_17 (by decide) (fun c3 => ?_) (fun c3 => ?_)
      · replace h := itn c3 h
        refine wp_iinc (v := x2 + 1) (L' := [some (vR 9 0), some (vI (x1)), some (vI (x2 + 1))]) dX9_looks_62 rfl rfl rfl ?_
        refine wp_goto (tgt := 2) dX9_looks_65 (by decide) ?_
        exact ih h
      · replace h := itp c3 h
        refine wp_aload_n dX9_looks_20 rfl ?_
        refine wp_arrR (y := 33) (c := 233) hfr (by decide) rfl fl_X9_102 dX9_looks_21 ?_
        refine wp_iload_n dX9_looks_24 rfl ?_
        refine wp_ialdR (c := 233) (y := 33) rfl rfl (show vp_in (x2) (len 233) from c2) dX9_looks_25 ?_
        refine wp_aload_n dX9_looks_26 rfl ?_
        refine wp_arrR (y := 46) (c := 246) hfr (by decide) rfl fl_X9_141 dX9_looks_27 ?_
        refine wp_iload_n dX9_looks_30 rfl ?_
        obtain ⟨c4, h⟩ := ock h
        refine wp_ialdR (c := 246) (y := 46) rfl rfl (show vp_in (x1) (len 246) from c4) dX9_looks_31 ?_
        refine wp_icmp_ne (tgt := 62) dX9_looks_32 (by decide) (fun c5 => ?_) (fun c5 => ?_)
        · replace h := itn c5 h
          refine wp_iinc (v := x2 + 1) (L' := [some (vR 9 0), some (vI (x1)), some (vI (x2 + 1))]) dX9_looks_62 rfl rfl rfl ?_
          refine wp_goto (tgt := 2) dX9_looks_65 (by decide) ?_
          exact ih h
        · replace h := itp c5 h
          refine wp_aload_n dX9_looks_35 rfl ?_
          refine wp_arrR (y := 43) (c := 243) hfr (by decide) rfl fl_X9_132 dX9_looks_36 ?_
          refine wp_iload_n dX9_looks_39 rfl ?_
          refine wp_baldR (c := 243) (y := 43) rfl rfl (show vp_in (x2) (len 243) from c2) dX9_looks_40 ?_
          refine wp_if_ne (tgt := 62) dX9_looks_41 (by decide) (fun c6 => ?_) (fun c6 => ?_)
          · replace h := itn c6 h
            refine wp_iinc (v := x2 + 1) (L' := [some (vR 9 0), some (vI (x1)), some (vI (x2 + 1))]) dX9_looks_62 rfl rfl rfl ?_
            refine wp_goto (tgt := 2) dX9_looks_65 (by decide) ?_
            exact ih h
          · replace h := itp c6 h
            refine wp_aload_n dX9_looks_44 rfl ?_
            refine wp_iload_n dX9_looks_45 rfl ?_
            obtain ⟨r7, rho8, hp9, h⟩ := ob_e h
            refine wp_callV (k1 := 0) (k2 := 0) (As := [vI (x2)]) (rest := []) (w9_isKnown hfr hp9) okX9_isKnown ivX9_isKnown rfl (by decide) ml_X9_247 dX9_looks_46 rfl (by decide) (Nat.le_refl _) rfl (Nat.le_of_ble_eq_true rfl) (fun _ _ z => z.elim) (fun r' S' z => ?_)
            obtain ⟨rfl, rfl⟩ := z
            show WP _ _ _ _ [some (vR 9 0), some (vI (x1)), some (vI (x2))] [vI (r7)] _ _ _
            refine wp_if_eq (tgt := 62) dX9_looks_49 (by decide) (fun c10 => ?_) (fun c10 => ?_)
            · replace h := itp c10 h
              refine wp_iinc (v := x2 + 1) (L' := [some (vR 9 0), some (vI (x1)), some (vI (x2 + 1))]) dX9_looks_62 rfl rfl rfl ?_
              refine wp_goto (tgt := 2) dX9_looks_65 (by decide) ?_
              exact ih h
            · replace h := itn c10 h
              refine wp_aload_n dX9_looks_52 rfl ?_
              refine wp_iload_n dX9_looks_53 rfl ?_
              obtain ⟨r11, rho12, hp13, h⟩ := ob_e h
              refine wp_callV (k1 := 0) (k2 := 0) (As := [vI (x2)]) (rest := []) (w9_looksAt hfr hp13) okX9_looksAt ivX9_looksAt rfl (by decide) ml_X9_299 dX9_looks_54 rfl (by decide) (Nat.le_refl _) rfl (Nat.le_of_ble_eq_true rfl) (fun _ _ z => z.elim) (fun r' S' z => ?_)
              obtain ⟨rfl, rfl⟩ := z
              show WP _ _ _ _ [some (vR 9 0), some (vI (x1)), some (vI (x2))] [vI (r11)] _ _ _
              refine wp_if_eq (tgt := 62) dX9_looks_57 (by decide) (fun c14 => ?_) (fun c14 => ?_)
              · replace h := itp c14 h
                refine wp_iinc (v := x2 + 1) (L' := [some (vR 9 0), some (vI (x1)), some (vI (x2 + 1))]) dX9_looks_62 rfl rfl rfl ?_
                refine wp_goto (tgt := 2) dX9_looks_65 (by decide) ?_
                exact ih h
              · replace h := itn c14 h
                refine wp_iconst (v := 1) dX9_looks_60 (by decide) ?_
                obtain ⟨q1, q2⟩ := sm_e h
                subst q1
                subst q2
                exact wp_zreturn rfl (by decide) dX9_looks_61 ⟨rfl, rfl⟩
def f9_looks (x1 : Int32) (rho : RH) : Option (Int32 × RH) :=
  l9_looks_2 FU (x1) (0) rho
theorem w9_looks {r : Int32} {rho9 : RH} (hfr : RA fr) {x1 : Int32} {rho : RH} (h : f9_looks x1 rho = some (r, rho9)) : Spec mX9_looks 2 0 [vR 9 0, vI x1] (lv, fr, fi, ai, ar, li, out, rho) (Po lv fr fi ai ar li out (some (vI r)) rho9) NX := by
  unfold f9_looks at h
  refine spec_of (by decide) rfl (by simp [catS, cat1]) (Nat.le_of_ble_eq_true rfl) ?_
  show WP mX9_looks 2 0 0 [some (vR 9 0), some (vI (x1)), none] [] (lv, fr, fi, ai, ar, li, out, rho) (Po lv fr fi ai ar li out (some (vI r)) rho9) NX
  refine wp_iconst (v := 0) dX9_looks_0 (by decide) ?_
  refine wp_istore_n (L' := [some (vR 9 0), some (vI (x1)), some (vI (0))]) dX9_looks_1 rfl rfl ?_
  exact w9_looks_2 hfr FU h
def l9_liveOf_2 : Nat → Int32 → Int32 → Int32 → RH → Option (Int32 × RH)
  | 0, _, _, _, _ => none
  | n + 1, x1, x2, x3, rho =>
  if (rho 31 0) ≤ x3 then
    some ((-1), rho)
  else
    if vq (x3) 400 then
    if (rho 32 (x3).toNatClampNeg) = x1 then
      ob (f9_hasEnded (x3) rho) fun r4 rho5 =>
      if r4 = 0 then
        if x3 = x2 then
          l9_liveOf_2 n (x1) (x2) (x3 + 1) rho5
        else
          some (x3, rho5)
      else
        l9_liveOf_2 n (x1) (x2) (x3 + 1) rho5
    else
      l9_liveOf_2 n (x1) (x2) (x3 + 1) rho
    else none
theorem w9_liveOf_2 {r : Int32} {rho9 : RH} (hfr : RA fr) : ∀ (n : Nat) {x1 x2 x3 : Int32} {rho : RH}, l9_liveOf_2 n x1 x2 x3 rho = some (r, rho9) → WP mX9_liveOf 1 0 2 [some (vR 9 0), some (vI (x1)), some (vI (x2)), some (vI (x3))] [] (lv, fr, fi, ai, ar, li, out, rho) (Po lv fr fi ai ar li out (some (vI r)) rho9) NX := by
  intro n
  induction n with
  | zero =>
    intro x1 x2 x3 rho h
    rw [l9_liveOf_2] at h
    cases h
  | succ n ih =>
    intro x1 x2 x3 rho h
    rw [l9_liveOf_2] at h
    refine wp_iload_n dX9_liveOf_2 rfl ?_
    refine wp_aload_n dX9_liveOf_3 rfl ?_
    refine wp_getRI (y := 31) (by decide) rfl fl_X9_217 dX9_liveOf_4 ?_
    refine wp_icmp_ge (tgt := 41) dX9_liveOf_7 (by decide) (fun c1 => ?_) (fun c1 => ?_)
    · replace h := itp c1 h
      refine wp_iconst (v := (-1)) dX9_liveOf_41 (by decide) ?_
      obtain ⟨q1, q2⟩ := sm_e h
      subst q1
      subst q2
      exact wp_ireturn rfl dX9_liveOf_42 ⟨rfl, rfl⟩
    · replace h := itn c1 h
      refine wp_aload_n dX9_liveOf_10 rfl ?_
      refine wp_arrR (y := 32) (c := 232) hfr (by decide) rfl fl_X9_99 dX9_liveOf_11 ?_
      refine wp_iload_n dX9_liveOf_14 rfl ?_
      obtain ⟨c2, h⟩ := ock h
      refine wp_ialdR (c := 232) (y := 32) rfl rfl (show vp_in (x3) (len 232) from c2) dX9_liveOf_15 ?_
      refine wp_iload_n dX9_liveOf_16 rfl ?_
      refine wp_icmp_ne (tgt := 35) dX9_liveOf_17 (by decide) (fun c3 => ?_) (fun c3 => ?_)
      · replace h := itn c3 h
        refine wp_iinc (v := x3 + 1) (L' := [some (vR 9 0), some (vI (x1)), some (vI (x2)), some (vI (x3 + 1))]) dX9_liveOf_35 rfl rfl rfl ?_
        refine wp_goto (tgt := 2) dX9_liveOf_38 (by decide) ?_
        exact ih h
      · replace h := itp c3 h
        refine wp_aload_n dX9_liveOf_20 rfl ?_
        refine wp_iload_n dX9_liveOf_21 rfl ?_
        obtain ⟨r4, rho5, hp6, h⟩ := ob_e h
        refine wp_callV (k1 := 0) (k2 := 0) (As := [vI (x3)]) (rest := []) (w9_hasEnded hfr hp6) okX9_hasEnded ivX9_hasEnded rfl (by decide) ml_X9_223 dX9_liveOf_22 rfl (by decide) (Nat.le_refl _) rfl (Nat.le_of_ble_eq_true rfl) (fun _ _ z => z.elim) (fun r' S' z => ?_)
        obtain ⟨rfl, rfl⟩ := z
        show WP _ _ _ _ [some (vR 9 0), some (vI (x1)), some (vI (x2)), some (vI (x3))] [vI (r4)] _ _ _
        refine wp_if_ne (tgt := 35) dX9_liveOf_25 (by decide) (fun c7 => ?_) (fun c7 => ?_)
        · replace h := itn c7 h
          refine wp_iinc (v := x3 + 1) (L' := [some (vR 9 0), some (vI (x1)), some (vI (x2)), some (vI (x3 + 1))]) dX9_liveOf_35 rfl rfl rfl ?_
          refine wp_goto (tgt := 2) dX9_liveOf_38 (by decide) ?_
          exact ih h
        · replace h := itp c7 h
          refine wp_iload_n dX9_liveOf_28 rfl ?_
          refine wp_iload_n dX9_liveOf_29 rfl ?_
          refine wp_icmp_eq (tgt := 35) dX9_liveOf_30 (by decide) (fun c8 => ?_) (fun c8 => ?_)
          · replace h := itp c8 h
            refine wp_iinc (v := x3 + 1) (L' := [some (vR 9 0), some (vI (x1)), some (vI (x2)), some (vI (x3 + 1))]) dX9_liveOf_35 rfl rfl rfl ?_
            refine wp_goto (tgt := 2) dX9_liveOf_38 (by decide) ?_
            exact ih h
          · replace h := itn c8 h
            refine wp_iload_n dX9_liveOf_33 rfl ?_
            obtain ⟨q1, q2⟩ := sm_e h
            subst q1
            subst q2
            exact wp_ireturn rfl dX9_liveOf_34 ⟨rfl, rfl⟩
def f9_liveOf (x1 x2 : Int32) (rho : RH) : Option (Int32 × RH) :=
  l9_liveOf_2 FU (x1) (x2) (0) rho
theorem w9_liveOf {r : Int32} {rho9 : RH} (hfr : RA fr) {x1 x2 : Int32} {rho : RH} (h : f9_liveOf x1 x2 rho = some (r, rho9)) : Spec mX9_liveOf 1 0 [vR 9 0, vI x1, vI x2] (lv, fr, fi, ai, ar, li, out, rho) (Po lv fr fi ai ar li out (some (vI r)) rho9) NX := by
  unfold f9_liveOf at h
  refine spec_of (by decide) rfl (by simp [catS, cat1]) (Nat.le_of_ble_eq_true rfl) ?_
  show WP mX9_liveOf 1 0 0 [some (vR 9 0), some (vI (x1)), some (vI (x2)), none] [] (lv, fr, fi, ai, ar, li, out, rho) (Po lv fr fi ai ar li out (some (vI r)) rho9) NX
  refine wp_iconst (v := 0) dX9_liveOf_0 (by decide) ?_
  refine wp_istore_n (L' := [some (vR 9 0), some (vI (x1)), some (vI (x2)), some (vI (0))]) dX9_liveOf_1 rfl rfl ?_
  exact w9_liveOf_2 hfr FU h
def l9_hasRunIn_5 : Nat → Int32 → Int32 → Int32 → Int32 → RH → Option (Int32 × RH)
  | 0, _, _, _, _, _ => none
  | n + 1, x1, x2, x3, x4, rho =>
  if (rho 31 0) ≤ x4 then
    if x3 = 0 ∨ x3 = 1 then
    some (x3, rho)
    else none
  else
    if x3 = 0 then
      if vq (x4) 400 then
      if (rho 32 (x4).toNatClampNeg) = x1 then
        if (rho 33 (x4).toNatClampNeg) = x2 then
          if (rho 41 (x4).toNatClampNeg) = 0 then
            l9_hasRunIn_5 n (x1) (x2) (0) (x4 + 1) rho
          else
            l9_hasRunIn_5 n (x1) (x2) (1) (x4 + 1) rho
        else
          l9_hasRunIn_5 n (x1) (x2) (0) (x4 + 1) rho
      else
        l9_hasRunIn_5 n (x1) (x2) (0) (x4 + 1) rho
      else none
    else
      l9_hasRunIn_5 n (x1) (x2) (1) (x4 + 1) rho
theorem w9_hasRunIn_5 {r : Int32} {rho9 : RH} (hfr : RA fr) : ∀ (n : Nat) {x1 x2 x3 x4 : Int32} {rho : RH}, l9_hasRunIn_5 n x1 x2 x3 x4 rho = some (r, rho9) → WP mX9_hasRunIn 0 0 5 [some (vR 9 0), some (vI (x1)), some (vI (x2)), some (vI (x3)), some (vI (x4))] [] (lv, fr, fi, ai, ar, li, out, rho) (Po lv fr fi ai ar li out (some (vI r)) rho9) NX := by
  intro n
  induction n with
  | zero =>
    intro x1 x2 x3 x4 rho h
    rw [l9_hasRunIn_5] at h
    cases h
  | succ n ih =>
    intro x1 x2 x3 x4 rho h
    rw [l9_hasRunIn_5] at h
    refine wp_iload dX9_hasRunIn_5 rfl ?_
    refine wp_aload_n dX9_hasRunIn_7 rfl ?_
    refine wp_getRI (y := 31) (by decide) rfl fl_X9_217 dX9_hasRunIn_8 ?_
    refine wp_icmp_ge (tgt := 62) dX9_hasRunIn_11 (by decide) (fun c1 => ?_) (fun c1 => ?_)
    · replace h := itp c1 h
      refine wp_iload_n dX9_hasRunIn_62 rfl ?_
      obtain ⟨c2, h⟩ := ock h
      obtain ⟨q1, q2⟩ := sm_e h
      subst q1
      subst q2
      exact wp_zreturn rfl c2 dX9_hasRunIn_63 ⟨rfl, rfl⟩
    · replace h := itn c1 h
      refine wp_iload_n dX9_hasRunIn_14 rfl ?_
      refine wp_if_ne (tgt := 50) dX9_hasRunIn_15 (by decide) (fun c3 => ?_) (fun c3 => ?_)
      · replace h := itn c3 h
        refine wp_iconst (v := 1) dX9_hasRunIn_50 (by decide) ?_
        refine wp_goto (tgt := 55) dX9_hasRunIn_51 (by decide) ?_
        refine wp_istore_n (L' := [some (vR 9 0), some (vI (x1)), some (vI (x2)), some (vI (1)), some (vI (x4))]) dX9_hasRunIn_55 rfl rfl ?_
        refine wp_iinc (v := x4 + 1) (L' := [some (vR 9 0), some (vI (x1)), some (vI (x2)), some (vI (1)), some (vI (x4 + 1))]) dX9_hasRunIn_56 rfl rfl rfl ?_
        refine wp_goto (tgt := 5) dX9_hasRunIn_59 (by decide) ?_
        exact ih h
      · replace h := itp c3 h
        refine wp_aload_n dX9_hasRunIn_18 rfl ?_
        refine wp_arrR (y := 32) (c := 232) hfr (by decide) rfl fl_X9_99 dX9_hasRunIn_19 ?_
        refine wp_iload dX9_hasRunIn_22 rfl ?_
        obtain ⟨c4, h⟩ := ock h
        refine wp_ialdR (c := 232) (y := 32) rfl rfl (show vp_in (x4) (len 232) from c4) dX9_hasRunIn_24 ?_
        refine wp_iload_n dX9_hasRunIn_25 rfl ?_
        refine wp_icmp_ne (tgt := 54) dX9_hasRunIn_26 (by decide) (fun c5 => ?_) (fun c5 => ?_)
        · replace h := itn c5 h
          refine wp_iconst (v := 0) dX9_hasRunIn_54 (by decide) ?_
          refine wp_istore_n (L' := [some (vR 9 0), some (vI (x1)), some (vI (x2)), some (vI (0)), some (vI (x4))]) dX9_hasRunIn_55 rfl rfl ?_
          refine wp_iinc (v := x4 + 1) (L' := [some (vR 9 0), some (vI (x1)), some (vI (x2)), some (vI (0)), some (vI (x4 + 1))]) dX9_hasRunIn_56 rfl rfl rfl ?_
          refine wp_goto (tgt := 5) dX9_hasRunIn_59 (by decide) ?_
          exact ih h
        · replace h := itp c5 h
          refine wp_aload_n dX9_hasRunIn_29 rfl ?_
          refine wp_arrR (y := 33) (c := 233) hfr (by decide) rfl fl_X9_102 dX9_hasRunIn_30 ?_
          refine wp_iload dX9_hasRunIn_33 rfl ?_
          refine wp_ialdR (c := 233) (y := 33) rfl rfl (show vp_in (x4) (len 233) from c4) dX9_hasRunIn_35 ?_
          refine wp_iload_n dX9_hasRunIn_36 rfl ?_
          refine wp_icmp_ne (tgt := 54) dX9_hasRunIn_37 (by decide) (fun c6 => ?_) (fun c6 => ?_)
          · replace h := itn c6 h
            refine wp_iconst (v := 0) dX9_hasRunIn_54 (by decide) ?_
            refine wp_istore_n (L' := [some (vR 9 0), some (vI (x1)), some (vI (x2)), some (vI (0)), some (vI (x4))]) dX9_hasRunIn_55 rfl rfl ?_
            refine wp_iinc (v := x4 + 1) (L' := [some (vR 9 0), some (vI (x1)), some (vI (x2)), some (vI (0)), some (vI (x4 + 1))]) dX9_hasRunIn_56 rfl rfl rfl ?_
            refine wp_goto (tgt := 5) dX9_hasRunIn_59 (by decide) ?_
            exact ih h
          · replace h := itp c6 h
            refine wp_aload_n dX9_hasRunIn_40 rfl ?_
            refine wp_arrR (y := 41) (c := 241) hfr (by decide) rfl fl_X9_126 dX9_hasRunIn_41 ?_
            refine wp_iload dX9_hasRunIn_44 rfl ?_
            refine wp_baldR (c := 241) (y := 41) rfl rfl (show vp_in (x4) (len 241) from c4) dX9_hasRunIn_46 ?_
            refine wp_if_eq (tgt := 54) dX9_hasRunIn_47 (by decide) (fun c7 => ?_) (fun c7 => ?_)
            · replace h := itp c7 h
              refine wp_iconst (v := 0) dX9_hasRunIn_54 (by decide) ?_
              refine wp_istore_n (L' := [some (vR 9 0), some (vI (x1)), some (vI (x2)), some (vI (0)), some (vI (x4))]) dX9_hasRunIn_55 rfl rfl ?_
              refine wp_iinc (v := x4 + 1) (L' := [some (vR 9 0), some (vI (x1)), some (vI (x2)), some (vI (0)), some (vI (x4 + 1))]) dX9_hasRunIn_56 rfl rfl rfl ?_
              refine wp_goto (tgt := 5) dX9_hasRunIn_59 (by decide) ?_
              exact ih h
            · replace h := itn c7 h
              refine wp_iconst (v := 1) dX9_hasRunIn_50 (by decide) ?_
              refine wp_goto (tgt := 55) dX9_hasRunIn_51 (by decide) ?_
              refine wp_istore_n (L' := [some (vR 9 0), some (vI (x1)), some (vI (x2)), some (vI (1)), some (vI (x4))]) dX9_hasRunIn_55 rfl rfl ?_
              refine wp_iinc (v := x4 + 1) (L' := [some (vR 9 0), some (vI (x1)), some (vI (x2)), some (vI (1)), some (vI (x4 + 1))]) dX9_hasRunIn_56 rfl rfl rfl ?_
              refine wp_goto (tgt := 5) dX9_hasRunIn_59 (by decide) ?_
              exact ih h
def f9_hasRunIn (x1 x2 : Int32) (rho : RH) : Option (Int32 × RH) :=
  l9_hasRunIn_5 FU (x1) (x2) (0) (0) rho
theorem w9_hasRunIn {r : Int32} {rho9 : RH} (hfr : RA fr) {x1 x2 : Int32} {rho : RH} (h : f9_hasRunIn x1 x2 rho = some (r, rho9)) : Spec mX9_hasRunIn 0 0 [vR 9 0, vI x1, vI x2] (lv, fr, fi, ai, ar, li, out, rho) (Po lv fr fi ai ar li out (some (vI r)) rho9) NX := by
  unfold f9_hasRunIn at h
  refine spec_of (by decide) rfl (by simp [catS, cat1]) (Nat.le_of_ble_eq_true rfl) ?_
  show WP mX9_hasRunIn 0 0 0 [some (vR 9 0), some (vI (x1)), some (vI (x2)), none, none] [] (lv, fr, fi, ai, ar, li, out, rho) (Po lv fr fi ai ar li out (some (vI r)) rho9) NX
  refine wp_iconst (v := 0) dX9_hasRunIn_0 (by decide) ?_
  refine wp_istore_n (L' := [some (vR 9 0), some (vI (x1)), some (vI (x2)), some (vI (0)), none]) dX9_hasRunIn_1 rfl rfl ?_
  refine wp_iconst (v := 0) dX9_hasRunIn_2 (by decide) ?_
  refine wp_istore (L' := [some (vR 9 0), some (vI (x1)), some (vI (x2)), some (vI (0)), some (vI (0))]) dX9_hasRunIn_3 rfl rfl ?_
  exact w9_hasRunIn_5 hfr FU h
def l9_repairsFor_7 : Nat → Int32 → Int32 → RH → Option (Int32 × RH)
  | 0, _, _, _ => none
  | n + 1, x1, x2, rho =>
  if x2 < 0 then
    some (0, rho)
  else
    if vq (x1) 400 then
    if vq (((4 * (rho 34 (x1).toNatClampNeg)) + x2)) 24 then
    if (rho 5 (((4 * (rho 34 (x1).toNatClampNeg)) + x2)).toNatClampNeg) = (-1) then
      l9_repairsFor_7 n (x1) (x2 + (-1)) rho
    else
      ob (f9_hasRunIn (x1) (x2) rho) fun r5 rho6 =>
      if r5 = 0 then
        l9_repairsFor_7 n (x1) (x2 + (-1)) rho6
      else
        if 100 ≤ (rho6 59 0) then
          l9_repairsFor_7 n (x1) (x2 + (-1)) rho6
        else
          if vq ((rho6 59 0)) 100 then
          wr (up2 rho6 61 ((rho6 59 0)).toNatClampNeg ((rho6 34 (x1).toNatClampNeg))) fun rho11 =>
          if vq ((rho11 59 0)) 100 then
          wr (up2 rho11 62 ((rho11 59 0)).toNatClampNeg ((rho 5 (((4 * (rho 34 (x1).toNatClampNeg)) + x2)).toNatClampNeg))) fun rho14 =>
          if vq ((440 + (rho14 59 0))) 540 then
          wr (up2 rho14 46 ((440 + (rho14 59 0))).toNatClampNeg (0)) fun rho17 =>
          wr (up2 rho17 59 0 (((rho17 59 0) + 1))) fun rho19 =>
          l9_repairsFor_7 n (x1) (x2 + (-1)) rho19
          else none
          else none
          else none
    else none
    else none
theorem w9_repairsFor_7 {r : Int32} {rho9 : RH} (hfr : RA fr) : ∀ (n : Nat) {x1 x2 : Int32} {l3 : Option sV} {rho : RH}, l9_repairsFor_7 n x1 x2 rho = some (r, rho9) → WP mX9_repairsFor 1 0 7 [some (vR 9 0), some (vI (x1)), some (vI (x2)), l3] [] (lv, fr, fi, ai, ar, li, out, rho) (Po lv fr fi ai ar li out (none) rho9) NX := by
  intro n
  induction n with
  | zero =>
    intro x1 x2 l3 rho h
    rw [l9_repairsFor_7] at h
    cases h
  | succ n ih =>
    intro x1 x2 l3 rho h
    rw [l9_repairsFor_7] at h
    refine wp_iload_n dX9_repairsFor_7 rfl ?_
    refine wp_if_lt (tgt := 105) dX9_repairsFor_8 (by decide) (fun c1 => ?_) (fun c1 => ?_)
    · replace h := itp c1 h
      obtain ⟨q1, q2⟩ := sm_e h
      subst q2
      exact wp_return rfl dX9_repairsFor_105 ⟨rfl, rfl⟩
    · replace h := itn c1 h
      refine wp_aload_n dX9_repairsFor_11 rfl ?_
      refine wp_arrR (y := 5) (c := 205) hfr (by decide) rfl fl_X9_23 dX9_repairsFor_12 ?_
      refine wp_iconst (v := 4) dX9_repairsFor_15 (by decide) ?_
      refine wp_aload_n dX9_repairsFor_16 rfl ?_
      refine wp_arrR (y := 34) (c := 234) hfr (by decide) rfl fl_X9_105 dX9_repairsFor_17 ?_
      refine wp_iload_n dX9_repairsFor_20 rfl ?_
      obtain ⟨c2, h⟩ := ock h
      refine wp_ialdR (c := 234) (y := 34) rfl rfl (show vp_in (x1) (len 234) from c2) dX9_repairsFor_21 ?_
      refine wp_imul dX9_repairsFor_22 ?_
      refine wp_iload_n dX9_repairsFor_23 rfl ?_
      refine wp_iadd dX9_repairsFor_24 ?_
      obtain ⟨c3, h⟩ := ock h
      refine wp_ialdR (c := 205) (y := 5) rfl rfl (show vp_in (((4 * (rho 34 (x1).toNatClampNeg)) + x2)) (len 205) from c3) dX9_repairsFor_25 ?_
      refine wp_istore_n (L' := [some (vR 9 0), some (vI (x1)), some (vI (x2)), some (vI ((rho 5 (((4 * (rho 34 (x1).toNatClampNeg)) + x2)).toNatClampNeg)))]) dX9_repairsFor_26 rfl rfl ?_
      refine wp_iload_n dX9_repairsFor_27 rfl ?_
      refine wp_iconst (v := (-1)) dX9_repairsFor_28 (by decide) ?_
      refine wp_icmp_eq (tgt := 99) dX9_repairsFor_29 (by decide) (fun c4 => ?_) (fun c4 => ?_)
      · replace h := itp c4 h
        refine wp_iinc (v := x2 + (-1)) (L' := [some (vR 9 0), some (vI (x1)), some (vI (x2 + (-1))), some (vI ((rho 5 (((4 * (rho 34 (x1).toNatClampNeg)) + x2)).toNatClampNeg)))]) dX9_repairsFor_99 rfl rfl rfl ?_
        refine wp_goto (tgt := 7) dX9_repairsFor_102 (by decide) ?_
        exact ih h
      · replace h := itn c4 h
        refine wp_aload_n dX9_repairsFor_32 rfl ?_
        refine wp_iload_n dX9_repairsFor_33 rfl ?_
        refine wp_iload_n dX9_repairsFor_34 rfl ?_
        obtain ⟨r5, rho6, hp7, h⟩ := ob_e h
        refine wp_callV (k1 := 0) (k2 := 0) (As := [vI (x1), vI (x2)]) (rest := []) (w9_hasRunIn hfr hp7) okX9_hasRunIn ivX9_hasRunIn rfl (by decide) ml_X9_226 dX9_repairsFor_35 rfl (by decide) (Nat.le_refl _) rfl (Nat.le_of_ble_eq_true rfl) (fun _ _ z => z.elim) (fun r' S' z => ?_)
        obtain ⟨rfl, rfl⟩ := z
        show WP _ _ _ _ [some (vR 9 0), some (vI (x1)), some (vI (x2)), some (vI ((rho 5 (((4 * (rho 34 (x1).toNatClampNeg)) + x2)).toNatClampNeg)))] [vI (r5)] _ _ _
        refine wp_if_eq (tgt := 99) dX9_repairsFor_38 (by decide) (fun c8 => ?_) (fun c8 => ?_)
        · replace h := itp c8 h
          refine wp_iinc (v := x2 + (-1)) (L' := [some (vR 9 0), some (vI (x1)), some (vI (x2 + (-1))), some (vI ((rho 5 (((4 * (rho 34 (x1).toNatClampNeg)) + x2)).toNatClampNeg)))]) dX9_repairsFor_99 rfl rfl rfl ?_
          refine wp_goto (tgt := 7) dX9_repairsFor_102 (by decide) ?_
          exact ih h
        · replace h := itn c8 h
          refine wp_aload_n dX9_repairsFor_41 rfl ?_
          refine wp_getRI (y := 59) (by decide) rfl fl_X9_230 dX9_repairsFor_42 ?_
          refine wp_bipush (v := 100) dX9_repairsFor_45 (by decide) ?_
          refine wp_icmp_ge (tgt := 99) dX9_repairsFor_47 (by decide) (fun c9 => ?_) (fun c9 => ?_)
          · replace h := itp c9 h
            refine wp_iinc (v := x2 + (-1)) (L' := [some (vR 9 0), some (vI (x1)), some (vI (x2 + (-1))), some (vI ((rho 5 (((4 * (rho 34 (x1).toNatClampNeg)) + x2)).toNatClampNeg)))]) dX9_repairsFor_99 rfl rfl rfl ?_
            refine wp_goto (tgt := 7) dX9_repairsFor_102 (by decide) ?_
            exact ih h
          · replace h := itn c9 h
            refine wp_aload_n dX9_repairsFor_50 rfl ?_
            refine wp_arrR (y := 61) (c := 261) hfr (by decide) rfl fl_X9_177 dX9_repairsFor_51 ?_
            refine wp_aload_n dX9_repairsFor_54 rfl ?_
            refine wp_getRI (y := 59) (by decide) rfl fl_X9_230 dX9_repairsFor_55 ?_
            refine wp_aload_n dX9_repairsFor_58 rfl ?_
            refine wp_arrR (y := 34) (c := 234) hfr (by decide) rfl fl_X9_105 dX9_repairsFor_59 ?_
            refine wp_iload_n dX9_repairsFor_62 rfl ?_
            refine wp_ialdR (c := 234) (y := 34) rfl rfl (show vp_in (x1) (len 234) from c2) dX9_repairsFor_63 ?_
            obtain ⟨c10, h⟩ := ock h
            refine wp_iastR (c := 261) (y := 61) rfl rfl (show vp_in ((rho6 59 0)) (len 261) from c10) dX9_repairsFor_64 ?_
            obtain ⟨rho11, e12, h⟩ := wr_e h
            rw [e12]
            refine wp_aload_n dX9_repairsFor_65 rfl ?_
            refine wp_arrR (y := 62) (c := 262) hfr (by decide) rfl fl_X9_180 dX9_repairsFor_66 ?_
            refine wp_aload_n dX9_repairsFor_69 rfl ?_
            refine wp_getRI (y := 59) (by decide) rfl fl_X9_230 dX9_repairsFor_70 ?_
            refine wp_iload_n dX9_repairsFor_73 rfl ?_
            obtain ⟨c13, h⟩ := ock h
            refine wp_iastR (c := 262) (y := 62) rfl rfl (show vp_in ((rho11 59 0)) (len 262) from c13) dX9_repairsFor_74 ?_
            obtain ⟨rho14, e15, h⟩ := wr_e h
            rw [e15]
            refine wp_aload_n dX9_repairsFor_75 rfl ?_
            refine wp_arrR (y := 46) (c := 246) hfr (by decide) rfl fl_X9_141 dX9_repairsFor_76 ?_
            refine wp_sipush (v := 440) dX9_repairsFor_79 (by decide) ?_
            refine wp_aload_n dX9_repairsFor_82 rfl ?_
            refine wp_getRI (y := 59) (by decide) rfl fl_X9_230 dX9_repairsFor_83 ?_
            refine wp_iadd dX9_repairsFor_86 ?_
            refine wp_iconst (v := 0) dX9_repairsFor_87 (by decide) ?_
            obtain ⟨c16, h⟩ := ock h
            refine wp_iastR (c := 246) (y := 46) rfl rfl (show vp_in ((440 + (rho14 59 0))) (len 246) from c16) dX9_repairsFor_88 ?_
            obtain ⟨rho17, e18, h⟩ := wr_e h
            rw [e18]
            refine wp_aload_n dX9_repairsFor_89 rfl ?_
            refine wp_dup dX9_repairsFor_90 trivial ?_
            refine wp_getRI (y := 59) (by decide) rfl fl_X9_230 dX9_repairsFor_91 ?_
            refine wp_iconst (v := 1) dX9_repairsFor_94 (by decide) ?_
            refine wp_iadd dX9_repairsFor_95 ?_
            refine wp_putRI (y := 59) (by decide) rfl rfl fl_X9_230 dX9_repairsFor_96 rfl ?_
            obtain ⟨rho19, e20, h⟩ := wr_e h
            rw [e20]
            refine wp_iinc (v := x2 + (-1)) (L' := [some (vR 9 0), some (vI (x1)), some (vI (x2 + (-1))), some (vI ((rho 5 (((4 * (rho 34 (x1).toNatClampNeg)) + x2)).toNatClampNeg)))]) dX9_repairsFor_99 rfl rfl rfl ?_
            refine wp_goto (tgt := 7) dX9_repairsFor_102 (by decide) ?_
            exact ih h
def f9_repairsFor (x1 : Int32) (rho : RH) : Option (Int32 × RH) :=
  if vq (x1) 540 then
  l9_repairsFor_7 FU (x1) ((rho 46 (x1).toNatClampNeg)) rho
  else none
theorem w9_repairsFor {r : Int32} {rho9 : RH} (hfr : RA fr) {x1 : Int32} {rho : RH} (h : f9_repairsFor x1 rho = some (r, rho9)) : Spec mX9_repairsFor 1 0 [vR 9 0, vI x1] (lv, fr, fi, ai, ar, li, out, rho) (Po lv fr fi ai ar li out (none) rho9) NX := by
  unfold f9_repairsFor at h
  refine spec_of (by decide) rfl (by simp [catS, cat1]) (Nat.le_of_ble_eq_true rfl) ?_
  show WP mX9_repairsFor 1 0 0 [some (vR 9 0), some (vI (x1)), none, none] [] (lv, fr, fi, ai, ar, li, out, rho) (Po lv fr fi ai ar li out (none) rho9) NX
  refine wp_aload_n dX9_repairsFor_0 rfl ?_
  refine wp_arrR (y := 46) (c := 246) hfr (by decide) rfl fl_X9_141 dX9_repairsFor_1 ?_
  refine wp_iload_n dX9_repairsFor_4 rfl ?_
  obtain ⟨c1, h⟩ := ock h
  refine wp_ialdR (c := 246) (y := 46) rfl rfl (show vp_in (x1) (len 246) from c1) dX9_repairsFor_5 ?_
  refine wp_istore_n (L' := [some (vR 9 0), some (vI (x1)), some (vI ((rho 46 (x1).toNatClampNeg))), none]) dX9_repairsFor_6 rfl rfl ?_
  exact w9_repairsFor_7 hfr FU h
def l9_endsCall_15 : Nat → Int32 → RH → Option (Int32 × RH)
  | 0, _, _ => none
  | n + 1, x3, rho =>
  if x3 ≤ 0 then
    some (0, rho)
  else
    if vq ((x3 - 1)) 400 then
    ob (f9_liveOf ((rho 45 ((x3 - 1)).toNatClampNeg)) ((-1)) rho) fun r3 rho4 =>
    if r3 = (-1) then
      if vq (x3 + (-1)) 400 then
      if vq ((rho4 45 (x3 + (-1)).toNatClampNeg)) 400 then
      if (rho4 37 ((rho4 45 (x3 + (-1)).toNatClampNeg)).toNatClampNeg) = 3 then
        l9_endsCall_15 n (x3 + (-1)) rho4
      else
        ob (f9_repairsFor ((rho4 45 (x3 + (-1)).toNatClampNeg)) rho4) fun _ rho11 =>
        l9_endsCall_15 n (x3 + (-1)) rho11
      else none
      else none
    else
      ob (f9_setsEnd (r3) (7) rho4) fun _ rho14 =>
      if vq (x3) 400 then
      wr (up2 rho14 45 (x3).toNatClampNeg (r3)) fun rho17 =>
      l9_endsCall_15 n (x3 + 1) rho17
      else none
    else none
theorem w9_endsCall_15 {r : Int32} {rho9 : RH} (hfr : RA fr) : ∀ (n : Nat) {x3 : Int32} {l1 l2 l4 : Option sV} {rho : RH}, l9_endsCall_15 n x3 rho = some (r, rho9) → WP mX9_endsCall 2 0 15 [some (vR 9 0), l1, l2, some (vI (x3)), l4] [] (lv, fr, fi, ai, ar, li, out, rho) (Po lv fr fi ai ar li out (none) rho9) NX := by
  intro n
  induction n with
  | zero =>
    intro x3 l1 l2 l4 rho h
    rw [l9_endsCall_15] at h
    cases h
  | succ n ih =>
    intro x3 l1 l2 l4 rho h
    rw [l9_endsCall_15] at h
    refine wp_iload_n dX9_endsCall_15 rfl ?_
    refine wp_if_le (tgt := 93) dX9_endsCall_16 (by decide) (fun c1 => ?_) (fun c1 => ?_)
    · replace h := itp c1 h
      obtain ⟨q1, q2⟩ := sm_e h
      subst q2
      exact wp_return rfl dX9_endsCall_93 ⟨rfl, rfl⟩
    · replace h := itn c1 h
      refine wp_aload_n dX9_endsCall_19 rfl ?_
      refine wp_aload_n dX9_endsCall_20 rfl ?_
      refine wp_arrR (y := 45) (c := 245) hfr (by decide) rfl fl_X9_138 dX9_endsCall_21 ?_
      refine wp_iload_n dX9_endsCall_24 rfl ?_
      refine wp_iconst (v := 1) dX9_endsCall_25 (by decide) ?_
      refine wp_isub dX9_endsCall_26 ?_
      obtain ⟨c2, h⟩ := ock h
      refine wp_ialdR (c := 245) (y := 45) rfl rfl (show vp_in ((x3 - 1)) (len 245) from c2) dX9_endsCall_27 ?_
      refine wp_iconst (v := (-1)) dX9_endsCall_28 (by decide) ?_
      obtain ⟨r3, rho4, hp5, h⟩ := ob_e h
      refine wp_callV (k1 := 0) (k2 := 0) (As := [vI ((rho 45 ((x3 - 1)).toNatClampNeg)), vI ((-1))]) (rest := []) (w9_liveOf hfr hp5) okX9_liveOf ivX9_liveOf rfl (by decide) ml_X9_237 dX9_endsCall_29 rfl (by decide) (Nat.le_refl _) rfl (Nat.le_of_ble_eq_true rfl) (fun _ _ z => z.elim) (fun r' S' z => ?_)
      obtain ⟨rfl, rfl⟩ := z
      show WP _ _ _ _ [some (vR 9 0), l1, l2, some (vI (x3)), l4] [vI (r3)] _ _ _
      refine wp_istore (L' := [some (vR 9 0), l1, l2, some (vI (x3)), some (vI (r3))]) dX9_endsCall_32 rfl rfl ?_
      refine wp_iload dX9_endsCall_34 rfl ?_
      refine wp_iconst (v := (-1)) dX9_endsCall_36 (by decide) ?_
      refine wp_icmp_eq (tgt := 62) dX9_endsCall_37 (by decide) (fun c6 => ?_) (fun c6 => ?_)
      · replace h := itp c6 h
        refine wp_iinc (v := x3 + (-1)) (L' := [some (vR 9 0), l1, l2, some (vI (x3 + (-1))), some (vI (r3))]) dX9_endsCall_62 rfl rfl rfl ?_
        refine wp_aload_n dX9_endsCall_65 rfl ?_
        refine wp_arrR (y := 37) (c := 237) hfr (by decide) rfl fl_X9_114 dX9_endsCall_66 ?_
        refine wp_aload_n dX9_endsCall_69 rfl ?_
        refine wp_arrR (y := 45) (c := 245) hfr (by decide) rfl fl_X9_138 dX9_endsCall_70 ?_
        refine wp_iload_n dX9_endsCall_73 rfl ?_
        obtain ⟨c7, h⟩ := ock h
        refine wp_ialdR (c := 245) (y := 45) rfl rfl (show vp_in (x3 + (-1)) (len 245) from c7) dX9_endsCall_74 ?_
        obtain ⟨c8, h⟩ := ock h
        refine wp_ialdR (c := 237) (y := 37) rfl rfl (show vp_in ((rho4 45 (x3 + (-1)).toNatClampNeg)) (len 237) from c8) dX9_endsCall_75 ?_
        refine wp_iconst (v := 3) dX9_endsCall_76 (by decide) ?_
        refine wp_icmp_eq (tgt := 90) dX9_endsCall_77 (by decide) (fun c9 => ?_) (fun c9 => ?_)
        · replace h := itp c9 h
          refine wp_goto (tgt := 15) dX9_endsCall_90 (by decide) ?_
          exact ih h
        · replace h := itn c9 h
          refine wp_aload_n dX9_endsCall_80 rfl ?_
          refine wp_aload_n dX9_endsCall_81 rfl ?_
          refine wp_arrR (y := 45) (c := 245) hfr (by decide) rfl fl_X9_138 dX9_endsCall_82 ?_
          refine wp_iload_n dX9_endsCall_85 rfl ?_
          refine wp_ialdR (c := 245) (y := 45) rfl rfl (show vp_in (x3 + (-1)) (len 245) from c7) dX9_endsCall_86 ?_
          obtain ⟨r10, rho11, hp12, h⟩ := ob_e h
          refine wp_callV (k1 := 0) (k2 := 0) (As := [vI ((rho4 45 (x3 + (-1)).toNatClampNeg))]) (rest := []) (w9_repairsFor hfr hp12) okX9_repairsFor ivX9_repairsFor rfl (by decide) ml_X9_240 dX9_endsCall_87 rfl (by decide) (Nat.le_refl _) rfl (Nat.le_of_ble_eq_true rfl) (fun _ _ z => z.elim) (fun r' S' z => ?_)
          obtain ⟨rfl, rfl⟩ := z
          show WP _ _ _ _ [some (vR 9 0), l1, l2, some (vI (x3 + (-1))), some (vI (r3))] [] _ _ _
          refine wp_goto (tgt := 15) dX9_endsCall_90 (by decide) ?_
          exact ih h
      · replace h := itn c6 h
        refine wp_aload_n dX9_endsCall_40 rfl ?_
        refine wp_iload dX9_endsCall_41 rfl ?_
        refine wp_bipush (v := 7) dX9_endsCall_43 (by decide) ?_
        obtain ⟨r13, rho14, hp15, h⟩ := ob_e h
        refine wp_callV (k1 := 0) (k2 := 0) (As := [vI (r3), vI (7)]) (rest := []) (w9_setsEnd hfr hp15) okX9_setsEnd ivX9_setsEnd rfl (by decide) ml_X9_233 dX9_endsCall_45 rfl (by decide) (Nat.le_refl _) rfl (Nat.le_of_ble_eq_true rfl) (fun _ _ z => z.elim) (fun r' S' z => ?_)
        obtain ⟨rfl, rfl⟩ := z
        show WP _ _ _ _ [some (vR 9 0), l1, l2, some (vI (x3)), some (vI (r3))] [] _ _ _
        refine wp_aload_n dX9_endsCall_48 rfl ?_
        refine wp_arrR (y := 45) (c := 245) hfr (by decide) rfl fl_X9_138 dX9_endsCall_49 ?_
        refine wp_iload_n dX9_endsCall_52 rfl ?_
        refine wp_iload dX9_endsCall_53 rfl ?_
        obtain ⟨c16, h⟩ := ock h
        refine wp_iastR (c := 245) (y := 45) rfl rfl (show vp_in (x3) (len 245) from c16) dX9_endsCall_55 ?_
        obtain ⟨rho17, e18, h⟩ := wr_e h
        rw [e18]
        refine wp_iinc (v := x3 + 1) (L' := [some (vR 9 0), l1, l2, some (vI (x3 + 1)), some (vI (r3))]) dX9_endsCall_56 rfl rfl rfl ?_
        refine wp_goto (tgt := 90) dX9_endsCall_59 (by decide) ?_
        refine wp_goto (tgt := 15) dX9_endsCall_90 (by decide) ?_
        exact ih h
def f9_endsCall (x1 x2 : Int32) (rho : RH) : Option (Int32 × RH) :=
  wr (up2 rho 45 ((0 : Int32)).toNatClampNeg (x1)) fun rho1 =>
  ob (f9_setsEnd (x1) (x2) rho1) fun _ rho4 =>
  l9_endsCall_15 FU (1) rho4
theorem w9_endsCall {r : Int32} {rho9 : RH} (hfr : RA fr) {x1 x2 : Int32} {rho : RH} (h : f9_endsCall x1 x2 rho = some (r, rho9)) : Spec mX9_endsCall 2 0 [vR 9 0, vI x1, vI x2] (lv, fr, fi, ai, ar, li, out, rho) (Po lv fr fi ai ar li out (none) rho9) NX := by
  unfold f9_endsCall at h
  refine spec_of (by decide) rfl (by simp [catS, cat1]) (Nat.le_of_ble_eq_true rfl) ?_
  show WP mX9_endsCall 2 0 0 [some (vR 9 0), some (vI (x1)), some (vI (x2)), none, none] [] (lv, fr, fi, ai, ar, li, out, rho) (Po lv fr fi ai ar li out (none) rho9) NX
  refine wp_iconst (v := 1) dX9_endsCall_0 (by decide) ?_
  refine wp_istore_n (L' := [some (vR 9 0), some (vI (x1)), some (vI (x2)), some (vI (1)), none]) dX9_endsCall_1 rfl rfl ?_
  refine wp_aload_n dX9_endsCall_2 rfl ?_
  refine wp_arrR (y := 45) (c := 245) hfr (by decide) rfl fl_X9_138 dX9_endsCall_3 ?_
  refine wp_iconst (v := 0) dX9_endsCall_6 (by decide) ?_
  refine wp_iload_n dX9_endsCall_7 rfl ?_
  refine wp_iastR (c := 245) (y := 45) rfl rfl (show vp_in (0) (len 245) from (by decide : vq (0) 400)) dX9_endsCall_8 ?_
  obtain ⟨rho1, e2, h⟩ := wr_e h
  rw [e2]
  refine wp_aload_n dX9_endsCall_9 rfl ?_
  refine wp_iload_n dX9_endsCall_10 rfl ?_
  refine wp_iload_n dX9_endsCall_11 rfl ?_
  obtain ⟨r3, rho4, hp5, h⟩ := ob_e h
  refine wp_callV (k1 := 0) (k2 := 0) (As := [vI (x1), vI (x2)]) (rest := []) (w9_setsEnd hfr hp5) okX9_setsEnd ivX9_setsEnd rfl (by decide) ml_X9_233 dX9_endsCall_12 rfl (by decide) (Nat.le_refl _) rfl (Nat.le_of_ble_eq_true rfl) (fun _ _ z => z.elim) (fun r' S' z => ?_)
  obtain ⟨rfl, rfl⟩ := z
  show WP _ _ _ _ [some (vR 9 0), some (vI (x1)), some (vI (x2)), some (vI (1)), none] [] _ _ _
  exact w9_endsCall_15 hfr FU h
def l9_turnsOff_7 : Nat → Int32 → Int32 → RH → Option (Int32 × RH)
  | 0, _, _, _ => none
  | n + 1, x1, x2, rho =>
  if x2 = (-1) then
    some (0, rho)
  else
    ob (f9_endsCall (x2) (7) rho) fun _ rho3 =>
    ob (f9_liveOf (x1) ((-1)) rho3) fun r5 rho6 =>
    l9_turnsOff_7 n (x1) (r5) rho6
theorem w9_turnsOff_7 {r : Int32} {rho9 : RH} (hfr : RA fr) : ∀ (n : Nat) {x1 x2 : Int32} {rho : RH}, l9_turnsOff_7 n x1 x2 rho = some (r, rho9) → WP mX9_turnsOff 3 0 7 [some (vR 9 0), some (vI (x1)), some (vI (x2))] [] (lv, fr, fi, ai, ar, li, out, rho) (Po lv fr fi ai ar li out (none) rho9) NX := by
  intro n
  induction n with
  | zero =>
    intro x1 x2 rho h
    rw [l9_turnsOff_7] at h
    cases h
  | succ n ih =>
    intro x1 x2 rho h
    rw [l9_turnsOff_7] at h
    refine wp_iload_n dX9_turnsOff_7 rfl ?_
    refine wp_iconst (v := (-1)) dX9_turnsOff_8 (by decide) ?_
    refine wp_icmp_eq (tgt := 29) dX9_turnsOff_9 (by decide) (fun c1 => ?_) (fun c1 => ?_)
    · replace h := itp c1 h
      obtain ⟨q1, q2⟩ := sm_e h
      subst q2
      exact wp_return rfl dX9_turnsOff_29 ⟨rfl, rfl⟩
    · replace h := itn c1 h
      refine wp_aload_n dX9_turnsOff_12 rfl ?_
      refine wp_iload_n dX9_turnsOff_13 rfl ?_
      refine wp_bipush (v := 7) dX9_turnsOff_14 (by decide) ?_
      obtain ⟨r2, rho3, hp4, h⟩ := ob_e h
      refine wp_callV (k1 := 0) (k2 := 0) (As := [vI (x2), vI (7)]) (rest := []) (w9_endsCall hfr hp4) okX9_endsCall ivX9_endsCall rfl (by decide) ml_X9_244 dX9_turnsOff_16 rfl (by decide) (Nat.le_refl _) rfl (Nat.le_of_ble_eq_true rfl) (fun _ _ z => z.elim) (fun r' S' z => ?_)
      obtain ⟨rfl, rfl⟩ := z
      show WP _ _ _ _ [some (vR 9 0), some (vI (x1)), some (vI (x2))] [] _ _ _
      refine wp_aload_n dX9_turnsOff_19 rfl ?_
      refine wp_iload_n dX9_turnsOff_20 rfl ?_
      refine wp_iconst (v := (-1)) dX9_turnsOff_21 (by decide) ?_
      obtain ⟨r5, rho6, hp7, h⟩ := ob_e h
      refine wp_callV (k1 := 0) (k2 := 0) (As := [vI (x1), vI ((-1))]) (rest := []) (w9_liveOf hfr hp7) okX9_liveOf ivX9_liveOf rfl (by decide) ml_X9_237 dX9_turnsOff_22 rfl (by decide) (Nat.le_refl _) rfl (Nat.le_of_ble_eq_true rfl) (fun _ _ z => z.elim) (fun r' S' z => ?_)
      obtain ⟨rfl, rfl⟩ := z
      show WP _ _ _ _ [some (vR 9 0), some (vI (x1)), some (vI (x2))] [vI (r5)] _ _ _
      refine wp_istore_n (L' := [some (vR 9 0), some (vI (x1)), some (vI (r5))]) dX9_turnsOff_25 rfl rfl ?_
      refine wp_goto (tgt := 7) dX9_turnsOff_26 (by decide) ?_
      exact ih h
def f9_turnsOff (x1 : Int32) (rho : RH) : Option (Int32 × RH) :=
  ob (f9_liveOf (x1) ((-1)) rho) fun r1 rho2 =>
  l9_turnsOff_7 FU (x1) (r1) rho2
theorem w9_turnsOff {r : Int32} {rho9 : RH} (hfr : RA fr) {x1 : Int32} {rho : RH} (h : f9_turnsOff x1 rho = some (r, rho9)) : Spec mX9_turnsOff 3 0 [vR 9 0, vI x1] (lv, fr, fi, ai, ar, li, out, rho) (Po lv fr fi ai ar li out (none) rho9) NX := by
  unfold f9_turnsOff at h
  refine spec_of (by decide) rfl (by simp [catS, cat1]) (Nat.le_of_ble_eq_true rfl) ?_
  show WP mX9_turnsOff 3 0 0 [some (vR 9 0), some (vI (x1)), none] [] (lv, fr, fi, ai, ar, li, out, rho) (Po lv fr fi ai ar li out (none) rho9) NX
  refine wp_aload_n dX9_turnsOff_0 rfl ?_
  refine wp_iload_n dX9_turnsOff_1 rfl ?_
  refine wp_iconst (v := (-1)) dX9_turnsOff_2 (by decide) ?_
  obtain ⟨r1, rho2, hp3, h⟩ := ob_e h
  refine wp_callV (k1 := 0) (k2 := 0) (As := [vI (x1), vI ((-1))]) (rest := []) (w9_liveOf hfr hp3) okX9_liveOf ivX9_liveOf rfl (by decide) ml_X9_237 dX9_turnsOff_3 rfl (by decide) (Nat.le_refl _) rfl (Nat.le_of_ble_eq_true rfl) (fun _ _ z => z.elim) (fun r' S' z => ?_)
  obtain ⟨rfl, rfl⟩ := z
  show WP _ _ _ _ [some (vR 9 0), some (vI (x1)), none] [vI (r1)] _ _ _
  refine wp_istore_n (L' := [some (vR 9 0), some (vI (x1)), some (vI (r1))]) dX9_turnsOff_6 rfl rfl ?_
  exact w9_turnsOff_7 hfr FU h
def l9_hasOutOf_4 : Nat → Int32 → Int32 → Int32 → RH → Option (Int32 × RH)
  | 0, _, _, _, _ => none
  | n + 1, x1, x2, x3, rho =>
  if (rho 31 0) ≤ x3 then
    if x2 = 0 ∨ x2 = 1 then
    some (x2, rho)
    else none
  else
    if x2 = 0 then
      if vq (x3) 400 then
      if (rho 32 (x3).toNatClampNeg) = x1 then
        ob (f9_isOut (x3) rho) fun r6 rho7 =>
        if r6 = 0 then
          l9_hasOutOf_4 n (x1) (0) (x3 + 1) rho7
        else
          l9_hasOutOf_4 n (x1) (1) (x3 + 1) rho7
      else
        l9_hasOutOf_4 n (x1) (0) (x3 + 1) rho
      else none
    else
      l9_hasOutOf_4 n (x1) (1) (x3 + 1) rho
theorem w9_hasOutOf_4 {r : Int32} {rho9 : RH} (hfr : RA fr) : ∀ (n : Nat) {x1 x2 x3 : Int32} {rho : RH}, l9_hasOutOf_4 n x1 x2 x3 rho = some (r, rho9) → WP mX9_hasOutOf 3 0 4 [some (vR 9 0), some (vI (x1)), some (vI (x2)), some (vI (x3))] [] (lv, fr, fi, ai, ar, li, out, rho) (Po lv fr fi ai ar li out (some (vI r)) rho9) NX := by
  intro n
  induction n with
  | zero =>
    intro x1 x2 x3 rho h
    rw [l9_hasOutOf_4] at h
    cases h
  | succ n ih =>
    intro x1 x2 x3 rho h
    rw [l9_hasOutOf_4] at h
    refine wp_iload_n dX9_hasOutOf_4 rfl ?_
    refine wp_aload_n dX9_hasOutOf_5 rfl ?_
    refine wp_getRI (y := 31) (by decide) rfl fl_X9_217 dX9_hasOutOf_6 ?_
    refine wp_icmp_ge (tgt := 46) dX9_hasOutOf_9 (by decide) (fun c1 => ?_) (fun c1 => ?_)
    · replace h := itp c1 h
      refine wp_iload_n dX9_hasOutOf_46 rfl ?_
      obtain ⟨c2, h⟩ := ock h
      obtain ⟨q1, q2⟩ := sm_e h
      subst q1
      subst q2
      exact wp_zreturn rfl c2 dX9_hasOutOf_47 ⟨rfl, rfl⟩
    · replace h := itn c1 h
      refine wp_iload_n dX9_hasOutOf_12 rfl ?_
      refine wp_if_ne (tgt := 34) dX9_hasOutOf_13 (by decide) (fun c3 => ?_) (fun c3 => ?_)
      · replace h := itn c3 h
        refine wp_iconst (v := 1) dX9_hasOutOf_34 (by decide) ?_
        refine wp_goto (tgt := 39) dX9_hasOutOf_35 (by decide) ?_
        refine wp_istore_n (L' := [some (vR 9 0), some (vI (x1)), some (vI (1)), some (vI (x3))]) dX9_hasOutOf_39 rfl rfl ?_
        refine wp_iinc (v := x3 + 1) (L' := [some (vR 9 0), some (vI (x1)), some (vI (1)), some (vI (x3 + 1))]) dX9_hasOutOf_40 rfl rfl rfl ?_
        refine wp_goto (tgt := 4) dX9_hasOutOf_43 (by decide) ?_
        exact ih h
      · replace h := itp c3 h
        refine wp_aload_n dX9_hasOutOf_16 rfl ?_
        refine wp_arrR (y := 32) (c := 232) hfr (by decide) rfl fl_X9_99 dX9_hasOutOf_17 ?_
        refine wp_iload_n dX9_hasOutOf_20 rfl ?_
        obtain ⟨c4, h⟩ := ock h
        refine wp_ialdR (c := 232) (y := 32) rfl rfl (show vp_in (x3) (len 232) from c4) dX9_hasOutOf_21 ?_
        refine wp_iload_n dX9_hasOutOf_22 rfl ?_
        refine wp_icmp_ne (tgt := 38) dX9_hasOutOf_23 (by decide) (fun c5 => ?_) (fun c5 => ?_)
        · replace h := itn c5 h
          refine wp_iconst (v := 0) dX9_hasOutOf_38 (by decide) ?_
          refine wp_istore_n (L' := [some (vR 9 0), some (vI (x1)), some (vI (0)), some (vI (x3))]) dX9_hasOutOf_39 rfl rfl ?_
          refine wp_iinc (v := x3 + 1) (L' := [some (vR 9 0), some (vI (x1)), some (vI (0)), some (vI (x3 + 1))]) dX9_hasOutOf_40 rfl rfl rfl ?_
          refine wp_goto (tgt := 4) dX9_hasOutOf_43 (by decide) ?_
          exact ih h
        · replace h := itp c5 h
          refine wp_aload_n dX9_hasOutOf_26 rfl ?_
          refine wp_iload_n dX9_hasOutOf_27 rfl ?_
          obtain ⟨r6, rho7, hp8, h⟩ := ob_e h
          refine wp_callV (k1 := 0) (k2 := 0) (As := [vI (x3)]) (rest := []) (w9_isOut hfr hp8) okX9_isOut ivX9_isOut rfl (by decide) ml_X9_257 dX9_hasOutOf_28 rfl (by decide) (Nat.le_refl _) rfl (Nat.le_of_ble_eq_true rfl) (fun _ _ z => z.elim) (fun r' S' z => ?_)
          obtain ⟨rfl, rfl⟩ := z
          show WP _ _ _ _ [some (vR 9 0), some (vI (x1)), some (vI (x2)), some (vI (x3))] [vI (r6)] _ _ _
          refine wp_if_eq (tgt := 38) dX9_hasOutOf_31 (by decide) (fun c9 => ?_) (fun c9 => ?_)
          · replace h := itp c9 h
            refine wp_iconst (v := 0) dX9_hasOutOf_38 (by decide) ?_
            refine wp_istore_n (L' := [some (vR 9 0), some (vI (x1)), some (vI (0)), some (vI (x3))]) dX9_hasOutOf_39 rfl rfl ?_
            refine wp_iinc (v := x3 + 1) (L' := [some (vR 9 0), some (vI (x1)), some (vI (0)), some (vI (x3 + 1))]) dX9_hasOutOf_40 rfl rfl rfl ?_
            refine wp_goto (tgt := 4) dX9_hasOutOf_43 (by decide) ?_
            exact ih h
          · replace h := itn c9 h
            refine wp_iconst (v := 1) dX9_hasOutOf_34 (by decide) ?_
            refine wp_goto (tgt := 39) dX9_hasOutOf_35 (by decide) ?_
            refine wp_istore_n (L' := [some (vR 9 0), some (vI (x1)), some (vI (1)), some (vI (x3))]) dX9_hasOutOf_39 rfl rfl ?_
            refine wp_iinc (v := x3 + 1) (L' := [some (vR 9 0), some (vI (x1)), some (vI (1)), some (vI (x3 + 1))]) dX9_hasOutOf_40 rfl rfl rfl ?_
            refine wp_goto (tgt := 4) dX9_hasOutOf_43 (by decide) ?_
            exact ih h
def f9_hasOutOf (x1 : Int32) (rho : RH) : Option (Int32 × RH) :=
  l9_hasOutOf_4 FU (x1) (0) (0) rho
theorem w9_hasOutOf {r : Int32} {rho9 : RH} (hfr : RA fr) {x1 : Int32} {rho : RH} (h : f9_hasOutOf x1 rho = some (r, rho9)) : Spec mX9_hasOutOf 3 0 [vR 9 0, vI x1] (lv, fr, fi, ai, ar, li, out, rho) (Po lv fr fi ai ar li out (some (vI r)) rho9) NX := by
  unfold f9_hasOutOf at h
  refine spec_of (by decide) rfl (by simp [catS, cat1]) (Nat.le_of_ble_eq_true rfl) ?_
  show WP mX9_hasOutOf 3 0 0 [some (vR 9 0), some (vI (x1)), none, none] [] (lv, fr, fi, ai, ar, li, out, rho) (Po lv fr fi ai ar li out (some (vI r)) rho9) NX
  refine wp_iconst (v := 0) dX9_hasOutOf_0 (by decide) ?_
  refine wp_istore_n (L' := [some (vR 9 0), some (vI (x1)), some (vI (0)), none]) dX9_hasOutOf_1 rfl rfl ?_
  refine wp_iconst (v := 0) dX9_hasOutOf_2 (by decide) ?_
  refine wp_istore_n (L' := [some (vR 9 0), some (vI (x1)), some (vI (0)), some (vI (0))]) dX9_hasOutOf_3 rfl rfl ?_
  exact w9_hasOutOf_4 hfr FU h
def f9_isSafeOf (x1 : Int32) (rho : RH) : Option (Int32 × RH) :=
  if 400 ≤ x1 then
    if 440 ≤ x1 then
      some (0, rho)
    else
      if vq ((x1 - 400)) 40 then
      if (rho 53 ((x1 - 400)).toNatClampNeg) = 0 then
        some (0, rho)
      else
        some (1, rho)
      else none
  else
    if vq (x1) 400 then
    if vq (x1) 540 then
    if vq (((4 * (rho 34 (x1).toNatClampNeg)) + (rho 46 (x1).toNatClampNeg))) 24 then
    if (rho 4 (((4 * (rho 34 (x1).toNatClampNeg)) + (rho 46 (x1).toNatClampNeg))).toNatClampNeg) = 0 ∨ (rho 4 (((4 * (rho 34 (x1).toNatClampNeg)) + (rho 46 (x1).toNatClampNeg))).toNatClampNeg) = 1 then
    some ((rho 4 (((4 * (rho 34 (x1).toNatClampNeg)) + (rho 46 (x1).toNatClampNeg))).toNatClampNeg), rho)
    else none
    else none
    else none
    else none
theorem w9_isSafeOf {r : Int32} {rho9 : RH} (hfr : RA fr) {x1 : Int32} {rho : RH} (h : f9_isSafeOf x1 rho = some (r, rho9)) : Spec mX9_isSafeOf 0 0 [vR 9 0, vI x1] (lv, fr, fi, ai, ar, li, out, rho) (Po lv fr fi ai ar li out (some (vI r)) rho9) NX := by
  unfold f9_isSafeOf at h
  refine spec_of (by decide) rfl (by simp [catS, cat1]) (Nat.le_of_ble_eq_true rfl) ?_
  show WP mX9_isSafeOf 0 0 0 [some (vR 9 0), some (vI (x1))] [] (lv, fr, fi, ai, ar, li, out, rho) (Po lv fr fi ai ar li out (some (vI r)) rho9) NX
  refine wp_iload_n dX9_isSafeOf_0 rfl ?_
  refine wp_sipush (v := 400) dX9_isSafeOf_1 (by decide) ?_
  refine wp_icmp_ge (tgt := 30) dX9_isSafeOf_4 (by decide) (fun c1 => ?_) (fun c1 => ?_)
  · replace h := itp c1 h
    refine wp_iload_n dX9_isSafeOf_30 rfl ?_
    refine wp_sipush (v := 440) dX9_isSafeOf_31 (by decide) ?_
    refine wp_icmp_ge (tgt := 54) dX9_isSafeOf_34 (by decide) (fun c2 => ?_) (fun c2 => ?_)
    · replace h := itp c2 h
      refine wp_iconst (v := 0) dX9_isSafeOf_54 (by decide) ?_
      obtain ⟨q1, q2⟩ := sm_e h
      subst q1
      subst q2
      exact wp_zreturn rfl (by decide) dX9_isSafeOf_55 ⟨rfl, rfl⟩
    · replace h := itn c2 h
      refine wp_aload_n dX9_isSafeOf_37 rfl ?_
      refine wp_arrR (y := 53) (c := 253) hfr (by decide) rfl fl_X9_159 dX9_isSafeOf_38 ?_
      refine wp_iload_n dX9_isSafeOf_41 rfl ?_
      refine wp_sipush (v := 400) dX9_isSafeOf_42 (by decide) ?_
      refine wp_isub dX9_isSafeOf_45 ?_
      obtain ⟨c3, h⟩ := ock h
      refine wp_baldR (c := 253) (y := 53) rfl rfl (show vp_in ((x1 - 400)) (len 253) from c3) dX9_isSafeOf_46 ?_
      refine wp_if_eq (tgt := 54) dX9_isSafeOf_47 (by decide) (fun c4 => ?_) (fun c4 => ?_)
      · replace h := itp c4 h
        refine wp_iconst (v := 0) dX9_isSafeOf_54 (by decide) ?_
        obtain ⟨q1, q2⟩ := sm_e h
        subst q1
        subst q2
        exact wp_zreturn rfl (by decide) dX9_isSafeOf_55 ⟨rfl, rfl⟩
      · replace h := itn c4 h
        refine wp_iconst (v := 1) dX9_isSafeOf_50 (by decide) ?_
        refine wp_goto (tgt := 55) dX9_isSafeOf_51 (by decide) ?_
        obtain ⟨q1, q2⟩ := sm_e h
        subst q1
        subst q2
        exact wp_zreturn rfl (by decide) dX9_isSafeOf_55 ⟨rfl, rfl⟩
  · replace h := itn c1 h
    refine wp_aload_n dX9_isSafeOf_7 rfl ?_
    refine wp_arrR (y := 4) (c := 204) hfr (by decide) rfl fl_X9_19 dX9_isSafeOf_8 ?_
    refine wp_iconst (v := 4) dX9_isSafeOf_11 (by decide) ?_
    refine wp_aload_n dX9_isSafeOf_12 rfl ?_
    refine wp_arrR (y := 34) (c := 234) hfr (by decide) rfl fl_X9_105 dX9_isSafeOf_13 ?_
    refine wp_iload_n dX9_isSafeOf_16 rfl ?_
    obtain ⟨c5, h⟩ := ock h
    refine wp_ialdR (c := 234) (y := 34) rfl rfl (show vp_in (x1) (len 234) from c5) dX9_isSafeOf_17 ?_
    refine wp_imul dX9_isSafeOf_18 ?_
    refine wp_aload_n dX9_isSafeOf_19 rfl ?_
    refine wp_arrR (y := 46) (c := 246) hfr (by decide) rfl fl_X9_141 dX9_isSafeOf_20 ?_
    refine wp_iload_n dX9_isSafeOf_23 rfl ?_
    obtain ⟨c6, h⟩ := ock h
    refine wp_ialdR (c := 246) (y := 46) rfl rfl (show vp_in (x1) (len 246) from c6) dX9_isSafeOf_24 ?_
    refine wp_iadd dX9_isSafeOf_25 ?_
    obtain ⟨c7, h⟩ := ock h
    refine wp_baldR (c := 204) (y := 4) rfl rfl (show vp_in (((4 * (rho 34 (x1).toNatClampNeg)) + (rho 46 (x1).toNatClampNeg))) (len 204) from c7) dX9_isSafeOf_26 ?_
    refine wp_goto (tgt := 55) dX9_isSafeOf_27 (by decide) ?_
    obtain ⟨c8, h⟩ := ock h
    obtain ⟨q1, q2⟩ := sm_e h
    subst q1
    subst q2
    exact wp_zreturn rfl c8 dX9_isSafeOf_55 ⟨rfl, rfl⟩
def l9_goesStep_12 : Nat → Int32 → Int32 → Int32 → RH → Option (Int32 × RH)
  | 0, _, _, _, _ => none
  | n + 1, x1, x2, x3, rho =>
  ob (f9_looks (x1) rho) fun r1 rho2 =>
  if r1 = 0 then
    ob (f9_hasOutOf (x1) rho2) fun r5 rho6 =>
    if r5 = 0 then
      if vq (x1) 540 then
      ob (f9_policyOf (x2) (x3) (1) rho6) fun r10 rho11 =>
      if r10 ≤ (rho6 49 (x1).toNatClampNeg) then
        some (2, rho11)
      else
        if (rho11 50 (x1).toNatClampNeg) = 6 then
          if vq (x2) 7 then
          if (rho11 17 (x2).toNatClampNeg) < 100 then
            some (2, rho11)
          else
            ob (f9_tries (x1) (1) rho11) fun _ rho18 =>
            l9_goesStep_12 n (x1) (x2) (x3) rho18
          else none
        else
          ob (f9_isSafeOf (x1) rho11) fun r20 rho21 =>
          if r20 = 0 then
            some (2, rho21)
          else
            if vq (x2) 7 then
            if (rho21 17 (x2).toNatClampNeg) < 100 then
              some (2, rho21)
            else
              ob (f9_tries (x1) (1) rho21) fun _ rho27 =>
              l9_goesStep_12 n (x1) (x2) (x3) rho27
            else none
      else none
    else
      ob (f9_policyOf (x2) (x3) (2) rho6) fun r29 rho30 =>
      ob (f9_isSafeOf (x1) rho30) fun r32 rho33 =>
      if r32 = 0 then
        some (0, rho33)
      else
        if r29 ≤ 0 then
          some (0, rho33)
        else
          if vq (x1) 540 then
          if ((rho33 0 0) - (rho33 47 (x1).toNatClampNeg)) < r29 then
            some (0, rho33)
          else
            if (rho33 48 (x1).toNatClampNeg) = 1 then
              if vq (x2) 7 then
              if (rho33 17 (x2).toNatClampNeg) < 100 then
                some (0, rho33)
              else
                ob (f9_tries (x1) (2) rho33) fun _ rho43 =>
                some (0, rho43)
              else none
            else
              some (0, rho33)
          else none
  else
    ob (f9_turnsOff (x1) rho2) fun _ rho46 =>
    some (1, rho46)
theorem w9_goesStep_12 {r : Int32} {rho9 : RH} (hfr : RA fr) : ∀ (n : Nat) {x1 x2 x3 : Int32} {l4 : Option sV} {rho : RH}, l9_goesStep_12 n x1 x2 x3 rho = some (r, rho9) → WP mX9_goesStep 7 0 12 [some (vR 9 0), some (vI (x1)), some (vI (x2)), some (vI (x3)), l4] [] (lv, fr, fi, ai, ar, li, out, rho) (Po lv fr fi ai ar li out (some (vI r)) rho9) NX := by
  intro n
  induction n with
  | zero =>
    intro x1 x2 x3 l4 rho h
    rw [l9_goesStep_12] at h
    cases h
  | succ n ih =>
    intro x1 x2 x3 l4 rho h
    rw [l9_goesStep_12] at h
    refine wp_aload_n dX9_goesStep_12 rfl ?_
    refine wp_iload_n dX9_goesStep_13 rfl ?_
    obtain ⟨r1, rho2, hp3, h⟩ := ob_e h
    refine wp_callV (k1 := 0) (k2 := 0) (As := [vI (x1)]) (rest := []) (w9_looks hfr hp3) okX9_looks ivX9_looks rfl (by decide) ml_X9_304 dX9_goesStep_14 rfl (by decide) (Nat.le_refl _) rfl (Nat.le_of_ble_eq_true rfl) (fun _ _ z => z.elim) (fun r' S' z => ?_)
    obtain ⟨rfl, rfl⟩ := z
    show WP _ _ _ _ [some (vR 9 0), some (vI (x1)), some (vI (x2)), some (vI (x3)), l4] [vI (r1)] _ _ _
    refine wp_if_eq (tgt := 27) dX9_goesStep_17 (by decide) (fun c4 => ?_) (fun c4 => ?_)
    · replace h := itp c4 h
      refine wp_aload_n dX9_goesStep_27 rfl ?_
      refine wp_iload_n dX9_goesStep_28 rfl ?_
      obtain ⟨r5, rho6, hp7, h⟩ := ob_e h
      refine wp_callV (k1 := 0) (k2 := 0) (As := [vI (x1)]) (rest := []) (w9_hasOutOf hfr hp7) okX9_hasOutOf ivX9_hasOutOf rfl (by decide) ml_X9_310 dX9_goesStep_29 rfl (by decide) (Nat.le_refl _) rfl (Nat.le_of_ble_eq_true rfl) (fun _ _ z => z.elim) (fun r' S' z => ?_)
      obtain ⟨rfl, rfl⟩ := z
      show WP _ _ _ _ [some (vR 9 0), some (vI (x1)), some (vI (x2)), some (vI (x3)), l4] [vI (r5)] _ _ _
      refine wp_if_eq (tgt := 102) dX9_goesStep_32 (by decide) (fun c8 => ?_) (fun c8 => ?_)
      · replace h := itp c8 h
        refine wp_aload_n dX9_goesStep_102 rfl ?_
        refine wp_arrR (y := 49) (c := 249) hfr (by decide) rfl fl_X9_150 dX9_goesStep_103 ?_
        refine wp_iload_n dX9_goesStep_106 rfl ?_
        obtain ⟨c9, h⟩ := ock h
        refine wp_ialdR (c := 249) (y := 49) rfl rfl (show vp_in (x1) (len 249) from c9) dX9_goesStep_107 ?_
        refine wp_aload_n dX9_goesStep_108 rfl ?_
        refine wp_iload_n dX9_goesStep_109 rfl ?_
        refine wp_iload_n dX9_goesStep_110 rfl ?_
        refine wp_iconst (v := 1) dX9_goesStep_111 (by decide) ?_
        obtain ⟨r10, rho11, hp12, h⟩ := ob_e h
        refine wp_callV (k1 := 0) (k2 := 0) (As := [vI (x2), vI (x3), vI (1)]) (rest := [vI ((rho6 49 (x1).toNatClampNeg))]) (w9_policyOf hfr hp12) okX9_policyOf ivX9_policyOf rfl (by decide) ml_X9_290 dX9_goesStep_112 rfl (by decide) (Nat.le_refl _) rfl (Nat.le_of_ble_eq_true rfl) (fun _ _ z => z.elim) (fun r' S' z => ?_)
        obtain ⟨rfl, rfl⟩ := z
        show WP _ _ _ _ [some (vR 9 0), some (vI (x1)), some (vI (x2)), some (vI (x3)), l4] [vI (r10), vI ((rho6 49 (x1).toNatClampNeg))] _ _ _
        refine wp_icmp_ge (tgt := 157) dX9_goesStep_115 (by decide) (fun c13 => ?_) (fun c13 => ?_)
        · replace h := itp c13 h
          refine wp_iconst (v := 2) dX9_goesStep_157 (by decide) ?_
          obtain ⟨q1, q2⟩ := sm_e h
          subst q1
          subst q2
          exact wp_ireturn rfl dX9_goesStep_158 ⟨rfl, rfl⟩
        · replace h := itn c13 h
          refine wp_aload_n dX9_goesStep_118 rfl ?_
          refine wp_arrR (y := 50) (c := 250) hfr (by decide) rfl fl_X9_153 dX9_goesStep_119 ?_
          refine wp_iload_n dX9_goesStep_122 rfl ?_
          refine wp_ialdR (c := 250) (y := 50) rfl rfl (show vp_in (x1) (len 250) from c9) dX9_goesStep_123 ?_
          refine wp_bipush (v := 6) dX9_goesStep_124 (by decide) ?_
          refine wp_icmp_eq (tgt := 137) dX9_goesStep_126 (by decide) (fun c14 => ?_) (fun c14 => ?_)
          · replace h := itp c14 h
            refine wp_aload_n dX9_goesStep_137 rfl ?_
            refine wp_arrR (y := 17) (c := 217) hfr (by decide) rfl fl_X9_56 dX9_goesStep_138 ?_
            refine wp_iload_n dX9_goesStep_141 rfl ?_
            obtain ⟨c15, h⟩ := ock h
            refine wp_ialdR (c := 217) (y := 17) rfl rfl (show vp_in (x2) (len 217) from c15) dX9_goesStep_142 ?_
            refine wp_bipush (v := 100) dX9_goesStep_143 (by decide) ?_
            refine wp_icmp_lt (tgt := 157) dX9_goesStep_145 (by decide) (fun c16 => ?_) (fun c16 => ?_)
            · replace h := itp c16 h
              refine wp_iconst (v := 2) dX9_goesStep_157 (by decide) ?_
              obtain ⟨q1, q2⟩ := sm_e h
              subst q1
              subst q2
              exact wp_ireturn rfl dX9_goesStep_158 ⟨rfl, rfl⟩
            · replace h := itn c16 h
              refine wp_aload_n dX9_goesStep_148 rfl ?_
              refine wp_iload_n dX9_goesStep_149 rfl ?_
              refine wp_iconst (v := 1) dX9_goesStep_150 (by decide) ?_
              obtain ⟨r17, rho18, hp19, h⟩ := ob_e h
              refine wp_callV (k1 := 0) (k2 := 0) (As := [vI (x1), vI (1)]) (rest := []) (w9_tries hfr hp19) okX9_tries ivX9_tries rfl (by decide) ml_X9_302 dX9_goesStep_151 rfl (by decide) (Nat.le_refl _) rfl (Nat.le_of_ble_eq_true rfl) (fun _ _ z => z.elim) (fun r' S' z => ?_)
              obtain ⟨rfl, rfl⟩ := z
              show WP _ _ _ _ [some (vR 9 0), some (vI (x1)), some (vI (x2)), some (vI (x3)), l4] [] _ _ _
              refine wp_goto (tgt := 12) dX9_goesStep_154 (by decide) ?_
              exact ih h
          · replace h := itn c14 h
            refine wp_aload_n dX9_goesStep_129 rfl ?_
            refine wp_iload_n dX9_goesStep_130 rfl ?_
            obtain ⟨r20, rho21, hp22, h⟩ := ob_e h
            refine wp_callV (k1 := 0) (k2 := 0) (As := [vI (x1)]) (rest := []) (w9_isSafeOf hfr hp22) okX9_isSafeOf ivX9_isSafeOf rfl (by decide) ml_X9_313 dX9_goesStep_131 rfl (by decide) (Nat.le_refl _) rfl (Nat.le_of_ble_eq_true rfl) (fun _ _ z => z.elim) (fun r' S' z => ?_)
            obtain ⟨rfl, rfl⟩ := z
            show WP _ _ _ _ [some (vR 9 0), some (vI (x1)), some (vI (x2)), some (vI (x3)), l4] [vI (r20)] _ _ _
            refine wp_if_eq (tgt := 157) dX9_goesStep_134 (by decide) (fun c23 => ?_) (fun c23 => ?_)
            · replace h := itp c23 h
              refine wp_iconst (v := 2) dX9_goesStep_157 (by decide) ?_
              obtain ⟨q1, q2⟩ := sm_e h
              subst q1
              subst q2
              exact wp_ireturn rfl dX9_goesStep_158 ⟨rfl, rfl⟩
            · replace h := itn c23 h
              refine wp_aload_n dX9_goesStep_137 rfl ?_
              refine wp_arrR (y := 17) (c := 217) hfr (by decide) rfl fl_X9_56 dX9_goesStep_138 ?_
              refine wp_iload_n dX9_goesStep_141 rfl ?_
              obtain ⟨c24, h⟩ := ock h
              refine wp_ialdR (c := 217) (y := 17) rfl rfl (show vp_in (x2) (len 217) from c24) dX9_goesStep_142 ?_
              refine wp_bipush (v := 100) dX9_goesStep_143 (by decide) ?_
              refine wp_icmp_lt (tgt := 157) dX9_goesStep_145 (by decide) (fun c25 => ?_) (fun c25 => ?_)
              · replace h := itp c25 h
                refine wp_iconst (v := 2) dX9_goesStep_157 (by decide) ?_
                obtain ⟨q1, q2⟩ := sm_e h
                subst q1
                subst q2
                exact wp_ireturn rfl dX9_goesStep_158 ⟨rfl, rfl⟩
              · replace h := itn c25 h
                refine wp_aload_n dX9_goesStep_148 rfl ?_
                refine wp_iload_n dX9_goesStep_149 rfl ?_
                refine wp_iconst (v := 1) dX9_goesStep_150 (by decide) ?_
                obtain ⟨r26, rho27, hp28, h⟩ := ob_e h
                refine wp_callV (k1 := 0) (k2 := 0) (As := [vI (x1), vI (1)]) (rest := []) (w9_tries hfr hp28) okX9_tries ivX9_tries rfl (by decide) ml_X9_302 dX9_goesStep_151 rfl (by decide) (Nat.le_refl _) rfl (Nat.le_of_ble_eq_true rfl) (fun _ _ z => z.elim) (fun r' S' z => ?_)
                obtain ⟨rfl, rfl⟩ := z
                show WP _ _ _ _ [some (vR 9 0), some (vI (x1)), some (vI (x2)), some (vI (x3)), l4] [] _ _ _
                refine wp_goto (tgt := 12) dX9_goesStep_154 (by decide) ?_
                exact ih h
      · replace h := itn c8 h
        refine wp_aload_n dX9_goesStep_35 rfl ?_
        refine wp_iload_n dX9_goesStep_36 rfl ?_
        refine wp_iload_n dX9_goesStep_37 rfl ?_
        refine wp_iconst (v := 2) dX9_goesStep_38 (by decide) ?_
        obtain ⟨r29, rho30, hp31, h⟩ := ob_e h
        refine wp_callV (k1 := 0) (k2 := 0) (As := [vI (x2), vI (x3), vI (2)]) (rest := []) (w9_policyOf hfr hp31) okX9_policyOf ivX9_policyOf rfl (by decide) ml_X9_290 dX9_goesStep_39 rfl (by decide) (Nat.le_refl _) rfl (Nat.le_of_ble_eq_true rfl) (fun _ _ z => z.elim) (fun r' S' z => ?_)
        obtain ⟨rfl, rfl⟩ := z
        show WP _ _ _ _ [some (vR 9 0), some (vI (x1)), some (vI (x2)), some (vI (x3)), l4] [vI (r29)] _ _ _
        refine wp_istore (L' := [some (vR 9 0), some (vI (x1)), some (vI (x2)), some (vI (x3)), some (vI (r29))]) dX9_goesStep_42 rfl rfl ?_
        refine wp_aload_n dX9_goesStep_44 rfl ?_
        refine wp_iload_n dX9_goesStep_45 rfl ?_
        obtain ⟨r32, rho33, hp34, h⟩ := ob_e h
        refine wp_callV (k1 := 0) (k2 := 0) (As := [vI (x1)]) (rest := []) (w9_isSafeOf hfr hp34) okX9_isSafeOf ivX9_isSafeOf rfl (by decide) ml_X9_313 dX9_goesStep_46 rfl (by decide) (Nat.le_refl _) rfl (Nat.le_of_ble_eq_true rfl) (fun _ _ z => z.elim) (fun r' S' z => ?_)
        obtain ⟨rfl, rfl⟩ := z
        show WP _ _ _ _ [some (vR 9 0), some (vI (x1)), some (vI (x2)), some (vI (x3)), some (vI (r29))] [vI (r32)] _ _ _
        refine wp_if_eq (tgt := 100) dX9_goesStep_49 (by decide) (fun c35 => ?_) (fun c35 => ?_)
        · replace h := itp c35 h
          refine wp_iconst (v := 0) dX9_goesStep_100 (by decide) ?_
          obtain ⟨q1, q2⟩ := sm_e h
          subst q1
          subst q2
          exact wp_ireturn rfl dX9_goesStep_101 ⟨rfl, rfl⟩
        · replace h := itn c35 h
          refine wp_iload dX9_goesStep_52 rfl ?_
          refine wp_if_le (tgt := 100) dX9_goesStep_54 (by decide) (fun c36 => ?_) (fun c36 => ?_)
          · replace h := itp c36 h
            refine wp_iconst (v := 0) dX9_goesStep_100 (by decide) ?_
            obtain ⟨q1, q2⟩ := sm_e h
            subst q1
            subst q2
            exact wp_ireturn rfl dX9_goesStep_101 ⟨rfl, rfl⟩
          · replace h := itn c36 h
            refine wp_aload_n dX9_goesStep_57 rfl ?_
            refine wp_getRI (y := 0) (by decide) rfl fl_X9_220 dX9_goesStep_58 ?_
            refine wp_aload_n dX9_goesStep_61 rfl ?_
            refine wp_arrR (y := 47) (c := 247) hfr (by decide) rfl fl_X9_144 dX9_goesStep_62 ?_
            refine wp_iload_n dX9_goesStep_65 rfl ?_
            obtain ⟨c37, h⟩ := ock h
            refine wp_ialdR (c := 247) (y := 47) rfl rfl (show vp_in (x1) (len 247) from c37) dX9_goesStep_66 ?_
            refine wp_isub dX9_goesStep_67 ?_
            refine wp_iload dX9_goesStep_68 rfl ?_
            refine wp_icmp_lt (tgt := 100) dX9_goesStep_70 (by decide) (fun c38 => ?_) (fun c38 => ?_)
            · replace h := itp c38 h
              refine wp_iconst (v := 0) dX9_goesStep_100 (by decide) ?_
              obtain ⟨q1, q2⟩ := sm_e h
              subst q1
              subst q2
              exact wp_ireturn rfl dX9_goesStep_101 ⟨rfl, rfl⟩
            · replace h := itn c38 h
              refine wp_aload_n dX9_goesStep_73 rfl ?_
              refine wp_arrR (y := 48) (c := 248) hfr (by decide) rfl fl_X9_147 dX9_goesStep_74 ?_
              refine wp_iload_n dX9_goesStep_77 rfl ?_
              refine wp_ialdR (c := 248) (y := 48) rfl rfl (show vp_in (x1) (len 248) from c37) dX9_goesStep_78 ?_
              refine wp_iconst (v := 1) dX9_goesStep_79 (by decide) ?_
              refine wp_icmp_ne (tgt := 100) dX9_goesStep_80 (by decide) (fun c39 => ?_) (fun c39 => ?_)
              · replace h := itn c39 h
                refine wp_iconst (v := 0) dX9_goesStep_100 (by decide) ?_
                obtain ⟨q1, q2⟩ := sm_e h
                subst q1
                subst q2
                exact wp_ireturn rfl dX9_goesStep_101 ⟨rfl, rfl⟩
              · replace h := itp c39 h
                refine wp_aload_n dX9_goesStep_83 rfl ?_
                refine wp_arrR (y := 17) (c := 217) hfr (by decide) rfl fl_X9_56 dX9_goesStep_84 ?_
                refine wp_iload_n dX9_goesStep_87 rfl ?_
                obtain ⟨c40, h⟩ := ock h
                refine wp_ialdR (c := 217) (y := 17) rfl rfl (show vp_in (x2) (len 217) from c40) dX9_goesStep_88 ?_
                refine wp_bipush (v := 100) dX9_goesStep_89 (by decide) ?_
                refine wp_icmp_lt (tgt := 100) dX9_goesStep_91 (by decide) (fun c41 => ?_) (fun c41 => ?_)
                · replace h := itp c41 h
                  refine wp_iconst (v := 0) dX9_goesStep_100 (by decide) ?_
                  obtain ⟨q1, q2⟩ := sm_e h
                  subst q1
                  subst q2
                  exact wp_ireturn rfl dX9_goesStep_101 ⟨rfl, rfl⟩
                · replace h := itn c41 h
                  refine wp_aload_n dX9_goesStep_94 rfl ?_
                  refine wp_iload_n dX9_goesStep_95 rfl ?_
                  refine wp_iconst (v := 2) dX9_goesStep_96 (by decide) ?_
                  obtain ⟨r42, rho43, hp44, h⟩ := ob_e h
                  refine wp_callV (k1 := 0) (k2 := 0) (As := [vI (x1), vI (2)]) (rest := []) (w9_tries hfr hp44) okX9_tries ivX9_tries rfl (by decide) ml_X9_302 dX9_goesStep_97 rfl (by decide) (Nat.le_refl _) rfl (Nat.le_of_ble_eq_true rfl) (fun _ _ z => z.elim) (fun r' S' z => ?_)
                  obtain ⟨rfl, rfl⟩ := z
                  show WP _ _ _ _ [some (vR 9 0), some (vI (x1)), some (vI (x2)), some (vI (x3)), some (vI (r29))] [] _ _ _
                  refine wp_iconst (v := 0) dX9_goesStep_100 (by decide) ?_
                  obtain ⟨q1, q2⟩ := sm_e h
                  subst q1
                  subst q2
                  exact wp_ireturn rfl dX9_goesStep_101 ⟨rfl, rfl⟩
    · replace h := itn c4 h
      refine wp_aload_n dX9_goesStep_20 rfl ?_
      refine wp_iload_n dX9_goesStep_21 rfl ?_
      obtain ⟨r45, rho46, hp47, h⟩ := ob_e h
      refine wp_callV (k1 := 0) (k2 := 0) (As := [vI (x1)]) (rest := []) (w9_turnsOff hfr hp47) okX9_turnsOff ivX9_turnsOff rfl (by decide) ml_X9_307 dX9_goesStep_22 rfl (by decide) (Nat.le_refl _) rfl (Nat.le_of_ble_eq_true rfl) (fun _ _ z => z.elim) (fun r' S' z => ?_)
      obtain ⟨rfl, rfl⟩ := z
      show WP _ _ _ _ [some (vR 9 0), some (vI (x1)), some (vI (x2)), some (vI (x3)), l4] [] _ _ _
      refine wp_iconst (v := 1) dX9_goesStep_25 (by decide) ?_
      obtain ⟨q1, q2⟩ := sm_e h
      subst q1
      subst q2
      exact wp_ireturn rfl dX9_goesStep_26 ⟨rfl, rfl⟩
def f9_goesStep (x1 : Int32) (rho : RH) : Option (Int32 × RH) :=
  ob (f9_callerOf (x1) rho) fun r1 rho2 =>
  ob (f9_calledBy (x1) rho2) fun r4 rho5 =>
  l9_goesStep_12 FU (x1) (r1) (r4) rho5
theorem w9_goesStep {r : Int32} {rho9 : RH} (hfr : RA fr) {x1 : Int32} {rho : RH} (h : f9_goesStep x1 rho = some (r, rho9)) : Spec mX9_goesStep 7 0 [vR 9 0, vI x1] (lv, fr, fi, ai, ar, li, out, rho) (Po lv fr fi ai ar li out (some (vI r)) rho9) NX := by
  unfold f9_goesStep at h
  refine spec_of (by decide) rfl (by simp [catS, cat1]) (Nat.le_of_ble_eq_true rfl) ?_
  show WP mX9_goesStep 7 0 0 [some (vR 9 0), some (vI (x1)), none, none, none] [] (lv, fr, fi, ai, ar, li, out, rho) (Po lv fr fi ai ar li out (some (vI r)) rho9) NX
  refine wp_aload_n dX9_goesStep_0 rfl ?_
  refine wp_iload_n dX9_goesStep_1 rfl ?_
  obtain ⟨r1, rho2, hp3, h⟩ := ob_e h
  refine wp_callV (k1 := 0) (k2 := 0) (As := [vI (x1)]) (rest := []) (w9_callerOf hfr hp3) okX9_callerOf ivX9_callerOf rfl (by decide) ml_X9_276 dX9_goesStep_2 rfl (by decide) (Nat.le_refl _) rfl (Nat.le_of_ble_eq_true rfl) (fun _ _ z => z.elim) (fun r' S' z => ?_)
  obtain ⟨rfl, rfl⟩ := z
  show WP _ _ _ _ [some (vR 9 0), some (vI (x1)), none, none, none] [vI (r1)] _ _ _
  refine wp_istore_n (L' := [some (vR 9 0), some (vI (x1)), some (vI (r1)), none, none]) dX9_goesStep_5 rfl rfl ?_
  refine wp_aload_n dX9_goesStep_6 rfl ?_
  refine wp_iload_n dX9_goesStep_7 rfl ?_
  obtain ⟨r4, rho5, hp6, h⟩ := ob_e h
  refine wp_callV (k1 := 0) (k2 := 0) (As := [vI (x1)]) (rest := []) (w9_calledBy hfr hp6) okX9_calledBy ivX9_calledBy rfl (by decide) ml_X9_280 dX9_goesStep_8 rfl (by decide) (Nat.le_refl _) rfl (Nat.le_of_ble_eq_true rfl) (fun _ _ z => z.elim) (fun r' S' z => ?_)
  obtain ⟨rfl, rfl⟩ := z
  show WP _ _ _ _ [some (vR 9 0), some (vI (x1)), some (vI (r1)), none, none] [vI (r4)] _ _ _
  refine wp_istore_n (L' := [some (vR 9 0), some (vI (x1)), some (vI (r1)), some (vI (r4)), none]) dX9_goesStep_11 rfl rfl ?_
  exact w9_goesStep_12 hfr FU h
end S9
