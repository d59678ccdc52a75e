section S8
variable {out : Int64} {rho : RH}
def l8_X8_endLateCalls_2 : Nat → Nat → Int32 → CM → CR (Int32)
  | 0, _, _, _ => none
  | n + 1, i0, x1, m =>
  od (gR m 1033 i0) fun j1 =>
  if (nI (gL m 52 j1).length) ≤ x1 then
    some (0, m, 0)
  else
    if ¬ x1 < 0 then
    od ((gL m 52 j1)[(x1).toNatClampNeg]?) fun j5 =>
    cb (f8_X1_hasEnded j5 m) fun r7 m8 =>
    if r7 = 0 then
      if (gI m8 1024 i0) < (gI m8 131 j5) then
        l8_X8_endLateCalls_2 n (i0) (x1 + 1) m8
      else
        cb (f8_X8_end 8 i0 (j5) (5) (0) m8) fun _ m16 =>
        l8_X8_endLateCalls_2 n (i0) (x1 + 1) m16
    else
      l8_X8_endLateCalls_2 n (i0) (x1 + 1) m8
    else none
theorem w8_X8_endLateCalls_2 {r : Int32} {m9 : CM} : ∀ (n : Nat) {i0 : Nat} {x1 : Int32} {l2 : Option sV} {m : CM} {n9 : Nat}, l8_X8_endLateCalls_2 n i0 x1 m = some (r, m9, n9) → WP mX8_endLateCalls (37) n9 2 [some (vR 8 (i0)), some (vI (x1)), l2] [] (cM m out rho) (Pc out rho none m9) NX := by
  intro n
  induction n with
  | zero =>
    intro i0 x1 l2 m n9 h
    rw [l8_X8_endLateCalls_2] at h
    cases h
  | succ n ih =>
    intro i0 x1 l2 m n9 h
    rw [l8_X8_endLateCalls_2] at h
    refine wp_iload_n dX8_endLateCalls_2 rfl ?_
    refine wp_aload_n dX8_endLateCalls_3 rfl ?_
    obtain ⟨j1, ho2, h⟩ := od_e h
    refine cp_getS (y := 9) (f := 1033) (t := 52) (by decide) (by decide) rfl rfl fl_X8_46 dX8_endLateCalls_4 ho2 ?_
    refine cp_size (c := 52) rfl (by decide) ml_X8_82 dX8_endLateCalls_7 (Nat.le_of_ble_eq_true rfl) ?_
    refine wp_icmp_ge (tgt := 56) dX8_endLateCalls_10 (by decide) (fun c3 => ?_) (fun c3 => ?_)
    · replace h := itp c3 h
      obtain ⟨q1, q2, q3⟩ := cs_e h
      clear q1
      subst q2
      exact wp_return rfl dX8_endLateCalls_56 ⟨rfl, rfl⟩
    · replace h := itn c3 h
      refine wp_aload_n dX8_endLateCalls_13 rfl ?_
      refine cp_getS (y := 9) (f := 1033) (t := 52) (by decide) (by decide) rfl rfl fl_X8_46 dX8_endLateCalls_14 ho2 ?_
      refine wp_iload_n dX8_endLateCalls_17 rfl ?_
      obtain ⟨c4, h⟩ := ock h
      obtain ⟨j5, ho6, h⟩ := od_e h
      refine cp_get (c := 52) (t := 1) rfl rfl (by decide) c4 ho6 ml_X8_98 dX8_endLateCalls_18 (Nat.le_of_ble_eq_true rfl) ?_
      refine cp_cast (c := 1) (by decide) kl_X8_204 dX8_endLateCalls_21 ?_
      refine wp_astore_n (L' := [some (vR 8 (i0)), some (vI (x1)), some (vR 1 (j5))]) dX8_endLateCalls_24 rfl rfl ?_
      refine wp_aload_n dX8_endLateCalls_25 rfl ?_
      obtain ⟨r7, m8, n9, n10, hp11, h, en12⟩ := cb_e h
      refine wp_callV (k1 := n9) (k2 := n10) (As := []) (rest := []) (w8_X1_hasEnded hp11) okX1_hasEnded ivX1_hasEnded rfl (by decide) ml_X8_282 dX8_endLateCalls_26 rfl (by decide) (Nat.le_of_eq en12) rfl (Nat.le_of_ble_eq_true rfl) (fun _ _ z => z.elim) (fun r' S' z => ?_)
      obtain ⟨rfl, rfl⟩ := z
      show WP _ _ _ _ [some (vR 8 (i0)), some (vI (x1)), some (vR 1 (j5))] [vI (r7)] _ _ _
      refine wp_if_ne (tgt := 50) dX8_endLateCalls_29 (by decide) (fun c13 => ?_) (fun c13 => ?_)
      · replace h := itn c13 h
        refine wp_iinc (v := x1 + 1) (L' := [some (vR 8 (i0)), some (vI (x1 + 1)), some (vR 1 (j5))]) dX8_endLateCalls_50 rfl rfl rfl ?_
        refine wp_goto (tgt := 2) dX8_endLateCalls_53 (by decide) ?_
        exact ih h
      · replace h := itp c13 h
        refine wp_aload_n dX8_endLateCalls_32 rfl ?_
        refine cp_getI (y := 3) (f := 131) (by decide) (by decide) rfl rfl fl_X8_218 dX8_endLateCalls_33 ?_
        refine wp_aload_n dX8_endLateCalls_36 rfl ?_
        refine cp_getI (y := 0) (f := 1024) (by decide) (by decide) rfl rfl fl_X8_140 dX8_endLateCalls_37 ?_
        refine wp_icmp_gt (tgt := 50) dX8_endLateCalls_40 (by decide) (fun c14 => ?_) (fun c14 => ?_)
        · replace h := itp c14 h
          refine wp_iinc (v := x1 + 1) (L' := [some (vR 8 (i0)), some (vI (x1 + 1)), some (vR 1 (j5))]) dX8_endLateCalls_50 rfl rfl rfl ?_
          refine wp_goto (tgt := 2) dX8_endLateCalls_53 (by decide) ?_
          exact ih h
        · replace h := itn c14 h
          refine wp_aload_n dX8_endLateCalls_43 rfl ?_
          refine wp_aload_n dX8_endLateCalls_44 rfl ?_
          refine wp_iconst (v := 5) dX8_endLateCalls_45 (by decide) ?_
          refine wp_iconst (v := 0) dX8_endLateCalls_46 (by decide) ?_
          obtain ⟨r15, m16, n17, n18, hp19, h, en20⟩ := cb_e h
          refine wp_callV (k1 := n17) (k2 := n18) (As := [vR 1 (j5), vI (5), vI (0)]) (rest := []) (w8_X8_end 8 hp19) okX8_end ivX8_end rfl (by decide) ml_X8_285 dX8_endLateCalls_47 rfl (by decide) (Nat.le_of_eq en20) rfl (Nat.le_of_ble_eq_true rfl) (fun _ _ z => z.elim) (fun r' S' z => ?_)
          obtain ⟨rfl, rfl⟩ := z
          show WP _ _ _ _ [some (vR 8 (i0)), some (vI (x1)), some (vR 1 (j5))] [] _ _ _
          refine wp_iinc (v := x1 + 1) (L' := [some (vR 8 (i0)), some (vI (x1 + 1)), some (vR 1 (j5))]) dX8_endLateCalls_50 rfl rfl rfl ?_
          refine wp_goto (tgt := 2) dX8_endLateCalls_53 (by decide) ?_
          exact ih h
def f8_X8_endLateCalls (i0 : Nat) (m : CM) : CR (Int32) :=
  l8_X8_endLateCalls_2 FU (i0) (0) m
theorem w8_X8_endLateCalls {r : Int32} {m9 : CM} {i0 : Nat} {m : CM} {n9 : Nat} (h : f8_X8_endLateCalls i0 m = some (r, m9, n9)) : Spec mX8_endLateCalls (37) n9 [vR 8 (i0)] (cM m out rho) (Pc out rho none m9) NX := by
  unfold f8_X8_endLateCalls at h
  refine spec_of (by decide) rfl (by simp [catS, cat1]) (Nat.le_of_ble_eq_true rfl) ?_
  show WP mX8_endLateCalls (37) n9 0 [some (vR 8 (i0)), none, none] [] (cM m out rho) (Pc out rho none m9) NX
  refine wp_iconst (v := 0) dX8_endLateCalls_0 (by decide) ?_
  refine wp_istore_n (L' := [some (vR 8 (i0)), some (vI (0)), none]) dX8_endLateCalls_1 rfl rfl ?_
  exact w8_X8_endLateCalls_2 FU h
def l8_X8_endWork_2 : Nat → Nat → Int32 → CM → CR (Int32)
  | 0, _, _, _ => none
  | n + 1, i0, x1, m =>
  od (gR m 1033 i0) fun j1 =>
  if (nI (gL m 52 j1).length) ≤ x1 then
    some (0, m, 0)
  else
    if ¬ x1 < 0 then
    od ((gL m 52 j1)[(x1).toNatClampNeg]?) fun j5 =>
    if (gI m 133 j5) = 1 then
      if (gI m 134 j5) ≤ (gI m 1024 i0) then
        od (gR m 130 j5) fun j9 =>
        od (gR m 519 j9) fun j11 =>
        if (gA m 30 j11 (1 : Int32).toNatClampNeg) = 0 then
          od (gR m 1029 i0) fun j14 =>
          od (gR m 129 j5) fun j16 =>
          if vq ((gI m 897 j16)) 6 then
          od (gO m 41 j14 ((gI m 897 j16)).toNatClampNeg) fun j19 =>
          if (gI m 769 j19) = 0 then
            cb (f8_X8_end 8 i0 (j5) (3) (0) m) fun _ m23 =>
            l8_X8_endWork_2 n (i0) (x1 + 1) m23
          else
            wr (sI m 133 j5 (2)) fun m28 =>
            l8_X8_endWork_2 n (i0) (x1 + 1) m28
          else none
        else
          cb (f8_X8_end 8 i0 (j5) (4) (0) m) fun _ m31 =>
          l8_X8_endWork_2 n (i0) (x1 + 1) m31
      else
        l8_X8_endWork_2 n (i0) (x1 + 1) m
    else
      l8_X8_endWork_2 n (i0) (x1 + 1) m
    else none
theorem w8_X8_endWork_2 {r : Int32} {m9 : CM} : ∀ (n : Nat) {i0 : Nat} {x1 : Int32} {l2 : Option sV} {m : CM} {n9 : Nat}, l8_X8_endWork_2 n i0 x1 m = some (r, m9, n9) → WP mX8_endWork (37) n9 2 [some (vR 8 (i0)), some (vI (x1)), l2] [] (cM m out rho) (Pc out rho none m9) NX := by
  intro n
  induction n with
  | zero =>
    intro i0 x1 l2 m n9 h
    rw [l8_X8_endWork_2] at h
    cases h
  | succ n ih =>
    intro i0 x1 l2 m n9 h
    rw [l8_X8_endWork_2] at h
    refine wp_iload_n dX8_endWork_2 rfl ?_
    refine wp_aload_n dX8_endWork_3 rfl ?_
    obtain ⟨j1, ho2, h⟩ := od_e h
    refine cp_getS (y := 9) (f := 1033) (t := 52) (by decide) (by decide) rfl rfl fl_X8_46 dX8_endWork_4 ho2 ?_
    refine cp_size (c := 52) rfl (by decide) ml_X8_82 dX8_endWork_7 (Nat.le_of_ble_eq_true rfl) ?_
    refine wp_icmp_ge (tgt := 108) dX8_endWork_10 (by decide) (fun c3 => ?_) (fun c3 => ?_)
    · replace h := itp c3 h
      obtain ⟨q1, q2, q3⟩ := cs_e h
      clear q1
      subst q2
      exact wp_return rfl dX8_endWork_108 ⟨rfl, rfl⟩
    · replace h := itn c3 h
      refine wp_aload_n dX8_endWork_13 rfl ?_
      refine cp_getS (y := 9) (f := 1033) (t := 52) (by decide) (by decide) rfl rfl fl_X8_46 dX8_endWork_14 ho2 ?_
      refine wp_iload_n dX8_endWork_17 rfl ?_
      obtain ⟨c4, h⟩ := ock h
      obtain ⟨j5, ho6, h⟩ := od_e h
      refine cp_get (c := 52) (t := 1) rfl rfl (by decide) c4 ho6 ml_X8_98 dX8_endWork_18 (Nat.le_of_ble_eq_true rfl) ?_
      refine cp_cast (c := 1) (by decide) kl_X8_204 dX8_endWork_21 ?_
      refine wp_astore_n (L' := [some (vR 8 (i0)), some (vI (x1)), some (vR 1 (j5))]) dX8_endWork_24 rfl rfl ?_
      refine wp_aload_n dX8_endWork_25 rfl ?_
      refine cp_getI (y := 5) (f := 133) (by decide) (by decide) rfl rfl fl_X8_217 dX8_endWork_26 ?_
      refine wp_iconst (v := 1) dX8_endWork_29 (by decide) ?_
      refine wp_icmp_ne (tgt := 102) dX8_endWork_30 (by decide) (fun c7 => ?_) (fun c7 => ?_)
      · replace h := itn c7 h
        refine wp_iinc (v := x1 + 1) (L' := [some (vR 8 (i0)), some (vI (x1 + 1)), some (vR 1 (j5))]) dX8_endWork_102 rfl rfl rfl ?_
        refine wp_goto (tgt := 2) dX8_endWork_105 (by decide) ?_
        exact ih h
      · replace h := itp c7 h
        refine wp_aload_n dX8_endWork_33 rfl ?_
        refine cp_getI (y := 6) (f := 134) (by decide) (by decide) rfl rfl fl_X8_289 dX8_endWork_34 ?_
        refine wp_aload_n dX8_endWork_37 rfl ?_
        refine cp_getI (y := 0) (f := 1024) (by decide) (by decide) rfl rfl fl_X8_140 dX8_endWork_38 ?_
        refine wp_icmp_le (tgt := 47) dX8_endWork_41 (by decide) (fun c8 => ?_) (fun c8 => ?_)
        · replace h := itp c8 h
          refine wp_aload_n dX8_endWork_47 rfl ?_
          obtain ⟨j9, ho10, h⟩ := od_e h
          refine cp_getS (y := 2) (f := 130) (t := 4) (by decide) (by decide) rfl rfl fl_X8_213 dX8_endWork_48 ho10 ?_
          obtain ⟨j11, ho12, h⟩ := od_e h
          refine cp_getS (y := 7) (f := 519) (t := 30) (by decide) (by decide) rfl rfl fl_X8_102 dX8_endWork_51 ho12 ?_
          refine wp_iconst (v := 1) dX8_endWork_54 (by decide) ?_
          refine cp_iald (c := 30) rfl (by decide) (show vp_in (1) (len 30) from (by decide : vq (1) 4)) dX8_endWork_55 ?_
          refine wp_if_eq (tgt := 69) dX8_endWork_56 (by decide) (fun c13 => ?_) (fun c13 => ?_)
          · replace h := itp c13 h
            refine wp_aload_n dX8_endWork_69 rfl ?_
            obtain ⟨j14, ho15, h⟩ := od_e h
            refine cp_getS (y := 5) (f := 1029) (t := 41) (by decide) (by decide) rfl rfl fl_X8_26 dX8_endWork_70 ho15 ?_
            refine wp_aload_n dX8_endWork_73 rfl ?_
            obtain ⟨j16, ho17, h⟩ := od_e h
            refine cp_getS (y := 1) (f := 129) (t := 7) (by decide) (by decide) rfl rfl fl_X8_206 dX8_endWork_74 ho17 ?_
            refine cp_getI (y := 1) (f := 897) (by decide) (by decide) rfl rfl fl_X8_210 dX8_endWork_77 ?_
            obtain ⟨c18, h⟩ := ock h
            obtain ⟨j19, ho20, h⟩ := od_e h
            refine cp_aald (c := 41) (t := 6) rfl (by decide) rfl (show vp_in ((gI m 897 j16)) (len 41) from c18) dX8_endWork_80 ho20 ?_
            refine cp_getI (y := 1) (f := 769) (by decide) (by decide) rfl rfl fl_X8_68 dX8_endWork_81 ?_
            refine wp_if_ne (tgt := 97) dX8_endWork_84 (by decide) (fun c21 => ?_) (fun c21 => ?_)
            · replace h := itn c21 h
              refine wp_aload_n dX8_endWork_97 rfl ?_
              refine wp_iconst (v := 2) dX8_endWork_98 (by decide) ?_
              obtain ⟨m28, e29, h⟩ := wr_e h
              refine cp_putI (y := 5) (f := 133) e29 (by decide) (by decide) rfl rfl (Or.inl rfl) fl_X8_217 dX8_endWork_99 rfl ?_
              refine wp_iinc (v := x1 + 1) (L' := [some (vR 8 (i0)), some (vI (x1 + 1)), some (vR 1 (j5))]) dX8_endWork_102 rfl rfl rfl ?_
              refine wp_goto (tgt := 2) dX8_endWork_105 (by decide) ?_
              exact ih h
            · replace h := itp c21 h
              refine wp_aload_n dX8_endWork_87 rfl ?_
              refine wp_aload_n dX8_endWork_88 rfl ?_
              refine wp_iconst (v := 3) dX8_endWork_89 (by decide) ?_
              refine wp_iconst (v := 0) dX8_endWork_90 (by decide) ?_
              obtain ⟨r22, m23, n24, n25, hp26, h, en27⟩ := cb_e h
              refine wp_callV (k1 := n24) (k2 := n25) (As := [vR 1 (j5), vI (3), vI (0)]) (rest := []) (w8_X8_end 8 hp26) okX8_end ivX8_end rfl (by decide) ml_X8_285 dX8_endWork_91 rfl (by decide) (Nat.le_of_eq en27) rfl (Nat.le_of_ble_eq_true rfl) (fun _ _ z => z.elim) (fun r' S' z => ?_)
              obtain ⟨rfl, rfl⟩ := z
              show WP _ _ _ _ [some (vR 8 (i0)), some (vI (x1)), some (vR 1 (j5))] [] _ _ _
              refine wp_goto (tgt := 102) dX8_endWork_94 (by decide) ?_
              refine wp_iinc (v := x1 + 1) (L' := [some (vR 8 (i0)), some (vI (x1 + 1)), some (vR 1 (j5))]) dX8_endWork_102 rfl rfl rfl ?_
              refine wp_goto (tgt := 2) dX8_endWork_105 (by decide) ?_
              exact ih h
          · replace h := itn c13 h
            refine wp_aload_n dX8_endWork_59 rfl ?_
            refine wp_aload_n dX8_endWork_60 rfl ?_
            refine wp_iconst (v := 4) dX8_endWork_61 (by decide) ?_
            refine wp_iconst (v := 0) dX8_endWork_62 (by decide) ?_
            obtain ⟨r30, m31, n32, n33, hp34, h, en35⟩ := cb_e h
            refine wp_callV (k1 := n32) (k2 := n33) (As := [vR 1 (j5), vI (4), vI (0)]) (rest := []) (w8_X8_end 8 hp34) okX8_end ivX8_end rfl (by decide) ml_X8_285 dX8_endWork_63 rfl (by decide) (Nat.le_of_eq en35) rfl (Nat.le_of_ble_eq_true rfl) (fun _ _ z => z.elim) (fun r' S' z => ?_)
            obtain ⟨rfl, rfl⟩ := z
            show WP _ _ _ _ [some (vR 8 (i0)), some (vI (x1)), some (vR 1 (j5))] [] _ _ _
            refine wp_goto (tgt := 102) dX8_endWork_66 (by decide) ?_
            refine wp_iinc (v := x1 + 1) (L' := [some (vR 8 (i0)), some (vI (x1 + 1)), some (vR 1 (j5))]) dX8_endWork_102 rfl rfl rfl ?_
            refine wp_goto (tgt := 2) dX8_endWork_105 (by decide) ?_
            exact ih h
        · replace h := itn c8 h
          refine wp_goto (tgt := 102) dX8_endWork_44 (by decide) ?_
          refine wp_iinc (v := x1 + 1) (L' := [some (vR 8 (i0)), some (vI (x1 + 1)), some (vR 1 (j5))]) dX8_endWork_102 rfl rfl rfl ?_
          refine wp_goto (tgt := 2) dX8_endWork_105 (by decide) ?_
          exact ih h
def f8_X8_endWork (i0 : Nat) (m : CM) : CR (Int32) :=
  l8_X8_endWork_2 FU (i0) (0) m
theorem w8_X8_endWork {r : Int32} {m9 : CM} {i0 : Nat} {m : CM} {n9 : Nat} (h : f8_X8_endWork i0 m = some (r, m9, n9)) : Spec mX8_endWork (37) n9 [vR 8 (i0)] (cM m out rho) (Pc out rho none m9) NX := by
  unfold f8_X8_endWork at h
  refine spec_of (by decide) rfl (by simp [catS, cat1]) (Nat.le_of_ble_eq_true rfl) ?_
  show WP mX8_endWork (37) n9 0 [some (vR 8 (i0)), none, none] [] (cM m out rho) (Pc out rho none m9) NX
  refine wp_iconst (v := 0) dX8_endWork_0 (by decide) ?_
  refine wp_istore_n (L' := [some (vR 8 (i0)), some (vI (0)), none]) dX8_endWork_1 rfl rfl ?_
  exact w8_X8_endWork_2 FU h
def f8_X8_isDone (o0 : Option Nat) (m : CM) : CR (Int32) :=
  if o0 = none then
    some (1, m, 0)
  else
    od (o0) fun j2 =>
    if (gI m 911 j2) = 3 then
      some (1, m, 0)
    else
      some (0, m, 0)
theorem w8_X8_isDone {r : Int32} {m9 : CM} {o0 : Option Nat} {m : CM} {n9 : Nat} (h : f8_X8_isDone o0 m = some (r, m9, n9)) : Spec mX8_isDone (0) n9 [vO 7 (o0)] (cM m out rho) (Pc out rho (some (vI r)) m9) NX := by
  unfold f8_X8_isDone at h
  refine spec_of (by decide) rfl (by simp [catS, cat1]) (Nat.le_of_ble_eq_true rfl) ?_
  show WP mX8_isDone (0) n9 0 [some (vO 7 (o0))] [] (cM m out rho) (Pc out rho (some (vI r)) m9) NX
  refine wp_aload_n dX8_isDone_0 rfl ?_
  refine cp_ifnull (o := o0) (tgt := 12) dX8_isDone_1 (by decide) (fun c1 => ?_) (fun c1 => ?_)
  · replace h := itp c1 h
    refine wp_iconst (v := 1) dX8_isDone_12 (by decide) ?_
    refine wp_goto (tgt := 17) dX8_isDone_13 (by decide) ?_
    obtain ⟨q1, q2, q3⟩ := cs_e h
    subst q1
    subst q2
    exact wp_zreturn rfl (by decide) dX8_isDone_17 ⟨rfl, rfl⟩
  · replace h := itn c1 h
    refine wp_aload_n dX8_isDone_4 rfl ?_
    obtain ⟨j2, ho3, h⟩ := od_e h
    rw [ho3]
    show WP _ _ _ _ [some (vR 7 (j2))] [vR 7 (j2)] _ _ _
    refine cp_getI (y := 15) (f := 911) (by decide) (by decide) rfl rfl fl_X8_249 dX8_isDone_5 ?_
    refine wp_iconst (v := 3) dX8_isDone_8 (by decide) ?_
    refine wp_icmp_ne (tgt := 16) dX8_isDone_9 (by decide) (fun c4 => ?_) (fun c4 => ?_)
    · replace h := itn c4 h
      refine wp_iconst (v := 0) dX8_isDone_16 (by decide) ?_
      obtain ⟨q1, q2, q3⟩ := cs_e h
      subst q1
      subst q2
      exact wp_zreturn rfl (by decide) dX8_isDone_17 ⟨rfl, rfl⟩
    · replace h := itp c4 h
      refine wp_iconst (v := 1) dX8_isDone_12 (by decide) ?_
      refine wp_goto (tgt := 17) dX8_isDone_13 (by decide) ?_
      obtain ⟨q1, q2, q3⟩ := cs_e h
      subst q1
      subst q2
      exact wp_zreturn rfl (by decide) dX8_isDone_17 ⟨rfl, rfl⟩
def f8_X8_stepOf (i0 : Nat) (i1 : Nat) (x2 : Int32) (m : CM) : CR (Option Nat) :=
  if gV m 7 (4 * i0 + (x2).toNatClampNeg) = false then
  cg 1 (
  wr (sN m 7 (4 * i0 + (x2).toNatClampNeg)) fun m4 =>
  od (gR m4 129 i0) fun j6 =>
  od (gR m4 770 i1) fun j8 =>
  if vq (x2) 4 then
  od (gR m4 772 i1) fun j11 =>
  cb (f8_X7_init (4 * i0 + (x2).toNatClampNeg) ((gI m4 897 j6)) ((gA m4 32 j8 (x2).toNatClampNeg)) ((gA m4 34 j11 (x2).toNatClampNeg)) m4) fun _ m14 =>
  od (gR m14 771 i1) fun j19 =>
  wr (sI m14 899 (4 * i0 + (x2).toNatClampNeg) ((gA m14 33 j19 (x2).toNatClampNeg))) fun m21 =>
  wr (sR m21 904 (4 * i0 + (x2).toNatClampNeg) (some (i0))) fun m23 =>
  od (gR m23 130 i0) fun j25 =>
  wr (sI m23 900 (4 * i0 + (x2).toNatClampNeg) ((gI m23 514 j25))) fun m27 =>
  od (gR m27 129 i0) fun j29 =>
  wr (sI m27 902 (4 * i0 + (x2).toNatClampNeg) ((gI m27 902 j29))) fun m31 =>
  wr (sI m31 901 (4 * i0 + (x2).toNatClampNeg) ((gI m31 131 i0))) fun m33 =>
  some (some ((4 * i0 + (x2).toNatClampNeg)), m33, 0)
  else none)
  else none
theorem w8_X8_stepOf {r : Option Nat} {m9 : CM} {i0 : Nat} {i1 : Nat} {x2 : Int32} {m : CM} {n9 : Nat} (h : f8_X8_stepOf i0 i1 x2 m = some (r, m9, n9)) : Spec mX8_stepOf (9) n9 [vR 1 (i0), vR 6 (i1), vI (x2)] (cM m out rho) (Pc out rho (some (vO 7 r)) m9) NX := by
  unfold f8_X8_stepOf at h
  refine spec_of (by decide) rfl (by simp [catS, cat1]) (Nat.le_of_ble_eq_true rfl) ?_
  show WP mX8_stepOf (9) n9 0 [some (vR 1 (i0)), some (vR 6 (i1)), some (vI (x2)), none] [] (cM m out rho) (Pc out rho (some (vO 7 r)) m9) NX
  obtain ⟨c1, h⟩ := ock h
  obtain ⟨n2, h, en3⟩ := cg_e h
  rw [← en3]
  obtain ⟨m4, e5, h⟩ := wr_e h
  refine cp_new (c := 7) (i := (4 * i0 + (x2).toNatClampNeg)) e5 (by decide) c1 kl_X8_132 it_X7 in_X7 dX8_stepOf_0 ?_
  refine wp_dup dX8_stepOf_3 trivial ?_
  refine wp_aload_n dX8_stepOf_4 rfl ?_
  obtain ⟨j6, ho7, h⟩ := od_e h
  refine cp_getS (y := 1) (f := 129) (t := 7) (by decide) (by decide) rfl rfl fl_X8_206 dX8_stepOf_5 ho7 ?_
  refine cp_getI (y := 1) (f := 897) (by decide) (by decide) rfl rfl fl_X8_210 dX8_stepOf_8 ?_
  refine wp_aload_n dX8_stepOf_11 rfl ?_
  obtain ⟨j8, ho9, h⟩ := od_e h
  refine cp_getS (y := 2) (f := 770) (t := 32) (by decide) (by decide) rfl rfl fl_X8_308 dX8_stepOf_12 ho9 ?_
  refine wp_iload_n dX8_stepOf_15 rfl ?_
  obtain ⟨c10, h⟩ := ock h
  refine cp_iald (c := 32) rfl (by decide) (show vp_in (x2) (len 32) from c10) dX8_stepOf_16 ?_
  refine wp_aload_n dX8_stepOf_17 rfl ?_
  obtain ⟨j11, ho12, h⟩ := od_e h
  refine cp_getS (y := 4) (f := 772) (t := 34) (by decide) (by decide) rfl rfl fl_X8_310 dX8_stepOf_18 ho12 ?_
  refine wp_iload_n dX8_stepOf_21 rfl ?_
  refine cp_bald (c := 34) rfl (by decide) (show vp_in (x2) (len 34) from c10) dX8_stepOf_22 ?_
  obtain ⟨r13, m14, n15, n16, hp17, h, en18⟩ := cb_e h
  refine wp_callI (k1 := n15) (k2 := n16) (As := [vI ((gI m4 897 j6)), vI ((gA m4 32 j8 (x2).toNatClampNeg)), vI ((gA m4 34 j11 (x2).toNatClampNeg))]) (rest := [vR 7 ((4 * i0 + (x2).toNatClampNeg))]) (w8_X7_init hp17) okX7_init rfl rfl im_X7_init ml_X8_134 dX8_stepOf_23 (by decide) (Nat.le_of_eq en18) rfl (Nat.le_of_ble_eq_true rfl) (fun r' S' z => ?_)
  obtain ⟨rfl, rfl⟩ := z
  show WP _ _ _ _ [some (vR 1 (i0)), some (vR 6 (i1)), some (vI (x2)), none] [vR 7 ((4 * i0 + (x2).toNatClampNeg))] _ _ _
  refine wp_astore_n (L' := [some (vR 1 (i0)), some (vR 6 (i1)), some (vI (x2)), some (vR 7 ((4 * i0 + (x2).toNatClampNeg)))]) dX8_stepOf_26 rfl rfl ?_
  refine wp_aload_n dX8_stepOf_27 rfl ?_
  refine wp_aload_n dX8_stepOf_28 rfl ?_
  obtain ⟨j19, ho20, h⟩ := od_e h
  refine cp_getS (y := 3) (f := 771) (t := 33) (by decide) (by decide) rfl rfl fl_X8_314 dX8_stepOf_29 ho20 ?_
  refine wp_iload_n dX8_stepOf_32 rfl ?_
  refine cp_iald (c := 33) rfl (by decide) (show vp_in (x2) (len 33) from c10) dX8_stepOf_33 ?_
  obtain ⟨m21, e22, h⟩ := wr_e h
  refine cp_putI (y := 3) (f := 899) e22 (by decide) (by decide) rfl rfl (Or.inl rfl) fl_X8_317 dX8_stepOf_34 rfl ?_
  refine wp_aload_n dX8_stepOf_37 rfl ?_
  refine wp_aload_n dX8_stepOf_38 rfl ?_
  obtain ⟨m23, e24, h⟩ := wr_e h
  refine cp_putR (y := 8) (f := 904) (t := 1) (o := (some (i0))) e24 (by decide) (by decide) rfl rfl (Or.inl rfl) fl_X8_219 dX8_stepOf_39 (fun _ => rfl) rfl (fun _ => rfl) (by decide) ?_
  refine wp_aload_n dX8_stepOf_42 rfl ?_
  refine wp_aload_n dX8_stepOf_43 rfl ?_
  obtain ⟨j25, ho26, h⟩ := od_e h
  refine cp_getS (y := 2) (f := 130) (t := 4) (by decide) (by decide) rfl rfl fl_X8_213 dX8_stepOf_44 ho26 ?_
  refine cp_getI (y := 2) (f := 514) (by decide) (by decide) rfl rfl fl_X8_319 dX8_stepOf_47 ?_
  obtain ⟨m27, e28, h⟩ := wr_e h
  refine cp_putI (y := 4) (f := 900) e28 (by decide) (by decide) rfl rfl (Or.inl rfl) fl_X8_322 dX8_stepOf_50 rfl ?_
  refine wp_aload_n dX8_stepOf_53 rfl ?_
  refine wp_aload_n dX8_stepOf_54 rfl ?_
  obtain ⟨j29, ho30, h⟩ := od_e h
  refine cp_getS (y := 1) (f := 129) (t := 7) (by decide) (by decide) rfl rfl fl_X8_206 dX8_stepOf_55 ho30 ?_
  refine cp_getI (y := 6) (f := 902) (by decide) (by decide) rfl rfl fl_X8_137 dX8_stepOf_58 ?_
  obtain ⟨m31, e32, h⟩ := wr_e h
  refine cp_putI (y := 6) (f := 902) e32 (by decide) (by decide) rfl rfl (Or.inl rfl) fl_X8_137 dX8_stepOf_61 rfl ?_
  refine wp_aload_n dX8_stepOf_64 rfl ?_
  refine wp_aload_n dX8_stepOf_65 rfl ?_
  refine cp_getI (y := 3) (f := 131) (by decide) (by decide) rfl rfl fl_X8_218 dX8_stepOf_66 ?_
  obtain ⟨m33, e34, h⟩ := wr_e h
  refine cp_putI (y := 5) (f := 901) e34 (by decide) (by decide) rfl rfl (Or.inl rfl) fl_X8_143 dX8_stepOf_69 rfl ?_
  refine wp_aload_n dX8_stepOf_72 rfl ?_
  obtain ⟨q1, q2, q3⟩ := cs_e h
  subst q1
  subst q2
  exact wp_areturn rfl dX8_stepOf_73 ⟨rfl, rfl⟩
def f8_X8_beginStep (i0 : Nat) (i1 : Nat) (x2 : Int32) (m : CM) : CR (Option Nat) :=
  od (gR m 1029 i0) fun j1 =>
  od (gR m 129 i1) fun j3 =>
  if vq ((gI m 897 j3)) 6 then
  od (gO m 41 j1 ((gI m 897 j3)).toNatClampNeg) fun j6 =>
  cb (f8_X8_stepOf (i1) (j6) (x2) m) fun r8 m9 =>
  od (gR m9 132 i1) fun j14 =>
  od (r8) fun j16 =>
  if (gL m9 56 j14).length ≤ 450 then
  cg 1 (
  wr (sL m9 56 j14 (gL m9 56 j14 ++ [j16])) fun m21 =>
  cb (f8_X8_tryOnce i0 (j16) (0) m21) fun _ m24 =>
  some (some (j16), m24, 0))
  else none
  else none
theorem w8_X8_beginStep {r : Option Nat} {m9 : CM} {i0 : Nat} {i1 : Nat} {x2 : Int32} {m : CM} {n9 : Nat} (h : f8_X8_beginStep i0 i1 x2 m = some (r, m9, n9)) : Spec mX8_beginStep (12) n9 [vR 8 (i0), vR 1 (i1), vI (x2)] (cM m out rho) (Pc out rho (some (vO 7 r)) m9) NX := by
  unfold f8_X8_beginStep at h
  refine spec_of (by decide) rfl (by simp [catS, cat1]) (Nat.le_of_ble_eq_true rfl) ?_
  show WP mX8_beginStep (12) n9 0 [some (vR 8 (i0)), some (vR 1 (i1)), some (vI (x2)), none] [] (cM m out rho) (Pc out rho (some (vO 7 r)) m9) NX
  refine wp_aload_n dX8_beginStep_0 rfl ?_
  refine wp_aload_n dX8_beginStep_1 rfl ?_
  obtain ⟨j1, ho2, h⟩ := od_e h
  refine cp_getS (y := 5) (f := 1029) (t := 41) (by decide) (by decide) rfl rfl fl_X8_26 dX8_beginStep_2 ho2 ?_
  refine wp_aload_n dX8_beginStep_5 rfl ?_
  obtain ⟨j3, ho4, h⟩ := od_e h
  refine cp_getS (y := 1) (f := 129) (t := 7) (by decide) (by decide) rfl rfl fl_X8_206 dX8_beginStep_6 ho4 ?_
  refine cp_getI (y := 1) (f := 897) (by decide) (by decide) rfl rfl fl_X8_210 dX8_beginStep_9 ?_
  obtain ⟨c5, h⟩ := ock h
  obtain ⟨j6, ho7, h⟩ := od_e h
  refine cp_aald (c := 41) (t := 6) rfl (by decide) rfl (show vp_in ((gI m 897 j3)) (len 41) from c5) dX8_beginStep_12 ho7 ?_
  refine wp_iload_n dX8_beginStep_13 rfl ?_
  obtain ⟨r8, m9, n10, n11, hp12, h, en13⟩ := cb_e h
  refine wp_callS (k1 := n10) (k2 := n11) (As := [vR 1 (i1), vR 6 (j6), vI (x2)]) (rest := []) (w8_X8_stepOf hp12) okX8_stepOf sm_X8_stepOf rfl ml_X8_304 dX8_beginStep_14 rfl (by decide) (Nat.le_of_eq en13) rfl (Nat.le_of_ble_eq_true rfl) (fun _ _ z => z.elim) (fun r' S' z => ?_)
  obtain ⟨rfl, rfl⟩ := z
  show WP _ _ _ _ [some (vR 8 (i0)), some (vR 1 (i1)), some (vI (x2)), none] [vO 7 (r8)] _ _ _
  refine wp_astore_n (L' := [some (vR 8 (i0)), some (vR 1 (i1)), some (vI (x2)), some (vO 7 (r8))]) dX8_beginStep_17 rfl rfl ?_
  refine wp_aload_n dX8_beginStep_18 rfl ?_
  obtain ⟨j14, ho15, h⟩ := od_e h
  refine cp_getS (y := 4) (f := 132) (t := 56) (by decide) (by decide) rfl rfl fl_X8_224 dX8_beginStep_19 ho15 ?_
  refine wp_aload_n dX8_beginStep_22 rfl ?_
  obtain ⟨j16, ho17, h⟩ := od_e h
  rw [ho17]
  show WP _ _ _ _ [some (vR 8 (i0)), some (vR 1 (i1)), some (vI (x2)), some (vR 7 (j16))] [vR 7 (j16), vR 56 (j14)] _ _ _
  obtain ⟨c18, h⟩ := ock h
  obtain ⟨n19, h, en20⟩ := cg_e h
  rw [← en20]
  obtain ⟨m21, e22, h⟩ := wr_e h
  refine cp_add (c := 56) (t := 7) e22 rfl rfl (by decide) c18 ml_X8_91 dX8_beginStep_23 (Nat.le_of_ble_eq_true rfl) ?_
  refine wp_pop dX8_beginStep_26 trivial ?_
  refine wp_aload_n dX8_beginStep_27 rfl ?_
  refine wp_aload_n dX8_beginStep_28 rfl ?_
  refine wp_iconst (v := 0) dX8_beginStep_29 (by decide) ?_
  obtain ⟨r23, m24, n25, n26, hp27, h, en28⟩ := cb_e h
  refine wp_callV (k1 := n25) (k2 := n26) (As := [vR 7 (j16), vI (0)]) (rest := []) (w8_X8_tryOnce hp27) okX8_tryOnce ivX8_tryOnce rfl (by decide) ml_X8_151 dX8_beginStep_30 rfl (by decide) (Nat.le_of_eq en28) rfl (Nat.le_of_ble_eq_true rfl) (fun _ _ z => z.elim) (fun r' S' z => ?_)
  obtain ⟨rfl, rfl⟩ := z
  show WP _ _ _ _ [some (vR 8 (i0)), some (vR 1 (i1)), some (vI (x2)), some (vR 7 (j16))] [] _ _ _
  refine wp_aload_n dX8_beginStep_33 rfl ?_
  obtain ⟨q1, q2, q3⟩ := cs_e h
  subst q1
  subst q2
  exact wp_areturn rfl dX8_beginStep_34 ⟨rfl, rfl⟩
def l8_X8_goOnWithCalls_77 (K10 : Nat → Int32 → CM → CR (Int32)) : Nat → Nat → Int32 → Nat → (Option Nat) → Int32 → Int32 → CM → CR (Int32)
  | 0, _, _, _, _, _, _, _ => none
  | n + 1, i0, x1, i2, o3, x4, x5, m =>
  if x4 ≤ x5 then
    cb (f8_X8_isDone (o3) m) fun r2 m3 =>
    if r2 = 0 then
      if o3 = none then
        K10 (i0) (x1 + (-1)) m3
      else
        od (o3) fun j10 =>
        if (gI m3 911 j10) = 4 then
          cb (f8_X8_end 8 i0 (i2) (4) (0) m3) fun _ m14 =>
          K10 (i0) (x1 + (-1)) m14
        else
          K10 (i0) (x1 + (-1)) m3
    else
      cb (f8_X8_end 8 i0 (i2) (3) (0) m3) fun _ m20 =>
      K10 (i0) (x1 + (-1)) m20
  else
    cb (f8_X8_isDone (o3) m) fun r25 m26 =>
    if r25 = 0 then
      cb (f8_X8_isDone (o3) m26) fun r32 m33 =>
      if r32 = 0 then
        if o3 = none then
          K10 (i0) (x1 + (-1)) m33
        else
          od (o3) fun j40 =>
          if (gI m33 911 j40) = 4 then
            cb (f8_X8_end 8 i0 (i2) (4) (0) m33) fun _ m44 =>
            K10 (i0) (x1 + (-1)) m44
          else
            K10 (i0) (x1 + (-1)) m33
      else
        cb (f8_X8_end 8 i0 (i2) (3) (0) m33) fun _ m50 =>
        K10 (i0) (x1 + (-1)) m50
    else
      cb (f8_X8_beginStep i0 (i2) (x5) m26) fun r55 m56 =>
      od (r55) fun j61 =>
      cb (f8_X8_goOn i0 (j61) m56) fun _ m64 =>
      l8_X8_goOnWithCalls_77 K10 n (i0) (x1) (i2) (some (j61)) (x4) (x5 + 1) m64
theorem w8_X8_goOnWithCalls_77 {K10 : Nat → Int32 → CM → CR (Int32)} {r : Int32} {m9 : CM} (hK10 : ∀ {i0 : Nat} {x1 : Int32} {l2 : Option sV} {l3 : Option sV} {l4 : Option sV} {l5 : Option sV} {m : CM} {n9 : Nat}, K10 i0 x1 m = some (r, m9, n9) → WP mX8_goOnWithCalls (40) n9 10 [some (vR 8 (i0)), some (vI (x1)), l2, l3, l4, l5] [] (cM m out rho) (Pc out rho none m9) NX) : ∀ (n : Nat) {i0 : Nat} {x1 : Int32} {i2 : Nat} {o3 : Option Nat} {x4 : Int32} {x5 : Int32} {m : CM} {n9 : Nat}, l8_X8_goOnWithCalls_77 K10 n i0 x1 i2 o3 x4 x5 m = some (r, m9, n9) → WP mX8_goOnWithCalls (40) n9 77 [some (vR 8 (i0)), some (vI (x1)), some (vR 1 (i2)), some (vO 7 (o3)), some (vI (x4)), some (vI (x5))] [] (cM m out rho) (Pc out rho none m9) NX := by
  intro n
  induction n with
  | zero =>
    intro i0 x1 i2 o3 x4 x5  m n9 h
    rw [l8_X8_goOnWithCalls_77] at h
    cases h
  | succ n ih =>
    intro i0 x1 i2 o3 x4 x5  m n9 h
    rw [l8_X8_goOnWithCalls_77] at h
    refine wp_iload dX8_goOnWithCalls_77 rfl ?_
    refine wp_iload dX8_goOnWithCalls_79 rfl ?_
    refine wp_icmp_ge (tgt := 110) dX8_goOnWithCalls_81 (by decide) (fun c1 => ?_) (fun c1 => ?_)
    · replace h := itp c1 h
      refine wp_aload_n dX8_goOnWithCalls_110 rfl ?_
      obtain ⟨r2, m3, n4, n5, hp6, h, en7⟩ := cb_e h
      refine wp_callS (k1 := n4) (k2 := n5) (As := [vO 7 (o3)]) (rest := []) (w8_X8_isDone hp6) okX8_isDone sm_X8_isDone rfl ml_X8_296 dX8_goOnWithCalls_111 rfl (by decide) (Nat.le_of_eq en7) rfl (Nat.le_of_ble_eq_true rfl) (fun _ _ z => z.elim) (fun r' S' z => ?_)
      obtain ⟨rfl, rfl⟩ := z
      show WP _ _ _ _ [some (vR 8 (i0)), some (vI (x1)), some (vR 1 (i2)), some (vO 7 (o3)), some (vI (x4)), some (vI (x5))] [vI (r2)] _ _ _
      refine wp_if_eq (tgt := 127) dX8_goOnWithCalls_114 (by decide) (fun c8 => ?_) (fun c8 => ?_)
      · replace h := itp c8 h
        refine wp_aload_n dX8_goOnWithCalls_127 rfl ?_
        refine cp_ifnull (o := o3) (tgt := 146) dX8_goOnWithCalls_128 (by decide) (fun c9 => ?_) (fun c9 => ?_)
        · replace h := itp c9 h
          refine wp_iinc (v := x1 + (-1)) (L' := [some (vR 8 (i0)), some (vI (x1 + (-1))), some (vR 1 (i2)), some (vO 7 (o3)), some (vI (x4)), some (vI (x5))]) dX8_goOnWithCalls_146 rfl rfl rfl ?_
          refine wp_goto (tgt := 10) dX8_goOnWithCalls_149 (by decide) ?_
          exact hK10 h
        · replace h := itn c9 h
          refine wp_aload_n dX8_goOnWithCalls_131 rfl ?_
          obtain ⟨j10, ho11, h⟩ := od_e h
          rw [ho11]
          show WP _ _ _ _ [some (vR 8 (i0)), some (vI (x1)), some (vR 1 (i2)), some (vR 7 (j10)), some (vI (x4)), some (vI (x5))] [vR 7 (j10)] _ _ _
          refine cp_getI (y := 15) (f := 911) (by decide) (by decide) rfl rfl fl_X8_249 dX8_goOnWithCalls_132 ?_
          refine wp_iconst (v := 4) dX8_goOnWithCalls_135 (by decide) ?_
          refine wp_icmp_ne (tgt := 146) dX8_goOnWithCalls_136 (by decide) (fun c12 => ?_) (fun c12 => ?_)
          · replace h := itn c12 h
            refine wp_iinc (v := x1 + (-1)) (L' := [some (vR 8 (i0)), some (vI (x1 + (-1))), some (vR 1 (i2)), some (vR 7 (j10)), some (vI (x4)), some (vI (x5))]) dX8_goOnWithCalls_146 rfl rfl rfl ?_
            refine wp_goto (tgt := 10) dX8_goOnWithCalls_149 (by decide) ?_
            exact hK10 h
          · replace h := itp c12 h
            refine wp_aload_n dX8_goOnWithCalls_139 rfl ?_
            refine wp_aload_n dX8_goOnWithCalls_140 rfl ?_
            refine wp_iconst (v := 4) dX8_goOnWithCalls_141 (by decide) ?_
            refine wp_iconst (v := 0) dX8_goOnWithCalls_142 (by decide) ?_
            obtain ⟨r13, m14, n15, n16, hp17, h, en18⟩ := cb_e h
            refine wp_callV (k1 := n15) (k2 := n16) (As := [vR 1 (i2), vI (4), vI (0)]) (rest := []) (w8_X8_end 8 hp17) okX8_end ivX8_end rfl (by decide) ml_X8_285 dX8_goOnWithCalls_143 rfl (by decide) (Nat.le_of_eq en18) rfl (Nat.le_of_ble_eq_true rfl) (fun _ _ z => z.elim) (fun r' S' z => ?_)
            obtain ⟨rfl, rfl⟩ := z
            show WP _ _ _ _ [some (vR 8 (i0)), some (vI (x1)), some (vR 1 (i2)), some (vR 7 (j10)), some (vI (x4)), some (vI (x5))] [] _ _ _
            refine wp_iinc (v := x1 + (-1)) (L' := [some (vR 8 (i0)), some (vI (x1 + (-1))), some (vR 1 (i2)), some (vR 7 (j10)), some (vI (x4)), some (vI (x5))]) dX8_goOnWithCalls_146 rfl rfl rfl ?_
            refine wp_goto (tgt := 10) dX8_goOnWithCalls_149 (by decide) ?_
            exact hK10 h
      · replace h := itn c8 h
        refine wp_aload_n dX8_goOnWithCalls_117 rfl ?_
        refine wp_aload_n dX8_goOnWithCalls_118 rfl ?_
        refine wp_iconst (v := 3) dX8_goOnWithCalls_119 (by decide) ?_
        refine wp_iconst (v := 0) dX8_goOnWithCalls_120 (by decide) ?_
        obtain ⟨r19, m20, n21, n22, hp23, h, en24⟩ := cb_e h
        refine wp_callV (k1 := n21) (k2 := n22) (As := [vR 1 (i2), vI (3), vI (0)]) (rest := []) (w8_X8_end 8 hp23) okX8_end ivX8_end rfl (by decide) ml_X8_285 dX8_goOnWithCalls_121 rfl (by decide) (Nat.le_of_eq en24) rfl (Nat.le_of_ble_eq_true rfl) (fun _ _ z => z.elim) (fun r' S' z => ?_)
        obtain ⟨rfl, rfl⟩ := z
        show WP _ _ _ _ [some (vR 8 (i0)), some (vI (x1)), some (vR 1 (i2)), some (vO 7 (o3)), some (vI (x4)), some (vI (x5))] [] _ _ _
        refine wp_goto (tgt := 146) dX8_goOnWithCalls_124 (by decide) ?_
        refine wp_iinc (v := x1 + (-1)) (L' := [some (vR 8 (i0)), some (vI (x1 + (-1))), some (vR 1 (i2)), some (vO 7 (o3)), some (vI (x4)), some (vI (x5))]) dX8_goOnWithCalls_146 rfl rfl rfl ?_
        refine wp_goto (tgt := 10) dX8_goOnWithCalls_149 (by decide) ?_
        exact hK10 h
    · replace h := itn c1 h
      refine wp_aload_n dX8_goOnWithCalls_84 rfl ?_
      obtain ⟨r25, m26, n27, n28, hp29, h, en30⟩ := cb_e h
      refine wp_callS (k1 := n27) (k2 := n28) (As := [vO 7 (o3)]) (rest := []) (w8_X8_isDone hp29) okX8_isDone sm_X8_isDone rfl ml_X8_296 dX8_goOnWithCalls_85 rfl (by decide) (Nat.le_of_eq en30) rfl (Nat.le_of_ble_eq_true rfl) (fun _ _ z => z.elim) (fun r' S' z => ?_)
      obtain ⟨rfl, rfl⟩ := z
      show WP _ _ _ _ [some (vR 8 (i0)), some (vI (x1)), some (vR 1 (i2)), some (vO 7 (o3)), some (vI (x4)), some (vI (x5))] [vI (r25)] _ _ _
      refine wp_if_eq (tgt := 110) dX8_goOnWithCalls_88 (by decide) (fun c31 => ?_) (fun c31 => ?_)
      · replace h := itp c31 h
        refine wp_aload_n dX8_goOnWithCalls_110 rfl ?_
        obtain ⟨r32, m33, n34, n35, hp36, h, en37⟩ := cb_e h
        refine wp_callS (k1 := n34) (k2 := n35) (As := [vO 7 (o3)]) (rest := []) (w8_X8_isDone hp36) okX8_isDone sm_X8_isDone rfl ml_X8_296 dX8_goOnWithCalls_111 rfl (by decide) (Nat.le_of_eq en37) rfl (Nat.le_of_ble_eq_true rfl) (fun _ _ z => z.elim) (fun r' S' z => ?_)
        obtain ⟨rfl, rfl⟩ := z
        show WP _ _ _ _ [some (vR 8 (i0)), some (vI (x1)), some (vR 1 (i2)), some (vO 7 (o3)), some (vI (x4)), some (vI (x5))] [vI (r32)] _ _ _
        refine wp_if_eq (tgt := 127) dX8_goOnWithCalls_114 (by decide) (fun c38 => ?_) (fun c38 => ?_)
        · replace h := itp c38 h
          refine wp_aload_n dX8_goOnWithCalls_127 rfl ?_
          refine cp_ifnull (o := o3) (tgt := 146) dX8_goOnWithCalls_128 (by decide) (fun c39 => ?_) (fun c39 => ?_)
          · replace h := itp c39 h
            refine wp_iinc (v := x1 + (-1)) (L' := [some (vR 8 (i0)), some (vI (x1 + (-1))), some (vR 1 (i2)), some (vO 7 (o3)), some (vI (x4)), some (vI (x5))]) dX8_goOnWithCalls_146 rfl rfl rfl ?_
            refine wp_goto (tgt := 10) dX8_goOnWithCalls_149 (by decide) ?_
            exact hK10 h
          · replace h := itn c39 h
            refine wp_aload_n dX8_goOnWithCalls_131 rfl ?_
            obtain ⟨j40, ho41, h⟩ := od_e h
            rw [ho41]
            show WP _ _ _ _ [some (vR 8 (i0)), some (vI (x1)), some (vR 1 (i2)), some (vR 7 (j40)), some (vI (x4)), some (vI (x5))] [vR 7 (j40)] _ _ _
            refine cp_getI (y := 15) (f := 911) (by decide) (by decide) rfl rfl fl_X8_249 dX8_goOnWithCalls_132 ?_
            refine wp_iconst (v := 4) dX8_goOnWithCalls_135 (by decide) ?_
            refine wp_icmp_ne (tgt := 146) dX8_goOnWithCalls_136 (by decide) (fun c42 => ?_) (fun c42 => ?_)
            · replace h := itn c42 h
              refine wp_iinc (v := x1 + (-1)) (L' := [some (vR 8 (i0)), some (vI (x1 + (-1))), some (vR 1 (i2)), some (vR 7 (j40)), some (vI (x4)), some (vI (x5))]) dX8_goOnWithCalls_146 rfl rfl rfl ?_
              refine wp_goto (tgt := 10) dX8_goOnWithCalls_149 (by decide) ?_
              exact hK10 h
            · replace h := itp c42 h
              refine wp_aload_n dX8_goOnWithCalls_139 rfl ?_
              refine wp_aload_n dX8_goOnWithCalls_140 rfl ?_
              refine wp_iconst (v := 4) dX8_goOnWithCalls_141 (by decide) ?_
              refine wp_iconst (v := 0) dX8_goOnWithCalls_142 (by decide) ?_
              obtain ⟨r43, m44, n45, n46, hp47, h, en48⟩ := cb_e h
              refine wp_callV (k1 := n45) (k2 := n46) (As := [vR 1 (i2), vI (4), vI (0)]) (rest := []) (w8_X8_end 8 hp47) okX8_end ivX8_end rfl (by decide) ml_X8_285 dX8_goOnWithCalls_143 rfl (by decide) (Nat.le_of_eq en48) rfl (Nat.le_of_ble_eq_true rfl) (fun _ _ z => z.elim) (fun r' S' z => ?_)
              obtain ⟨rfl, rfl⟩ := z
              show WP _ _ _ _ [some (vR 8 (i0)), some (vI (x1)), some (vR 1 (i2)), some (vR 7 (j40)), some (vI (x4)), some (vI (x5))] [] _ _ _
              refine wp_iinc (v := x1 + (-1)) (L' := [some (vR 8 (i0)), some (vI (x1 + (-1))), some (vR 1 (i2)), some (vR 7 (j40)), some (vI (x4)), some (vI (x5))]) dX8_goOnWithCalls_146 rfl rfl rfl ?_
              refine wp_goto (tgt := 10) dX8_goOnWithCalls_149 (by decide) ?_
              exact hK10 h
        · replace h := itn c38 h
          refine wp_aload_n dX8_goOnWithCalls_117 rfl ?_
          refine wp_aload_n dX8_goOnWithCalls_118 rfl ?_
          refine wp_iconst (v := 3) dX8_goOnWithCalls_119 (by decide) ?_
          refine wp_iconst (v := 0) dX8_goOnWithCalls_120 (by decide) ?_
          obtain ⟨r49, m50, n51, n52, hp53, h, en54⟩ := cb_e h
          refine wp_callV (k1 := n51) (k2 := n52) (As := [vR 1 (i2), vI (3), vI (0)]) (rest := []) (w8_X8_end 8 hp53) okX8_end ivX8_end rfl (by decide) ml_X8_285 dX8_goOnWithCalls_121 rfl (by decide) (Nat.le_of_eq en54) rfl (Nat.le_of_ble_eq_true rfl) (fun _ _ z => z.elim) (fun r' S' z => ?_)
          obtain ⟨rfl, rfl⟩ := z
          show WP _ _ _ _ [some (vR 8 (i0)), some (vI (x1)), some (vR 1 (i2)), some (vO 7 (o3)), some (vI (x4)), some (vI (x5))] [] _ _ _
          refine wp_goto (tgt := 146) dX8_goOnWithCalls_124 (by decide) ?_
          refine wp_iinc (v := x1 + (-1)) (L' := [some (vR 8 (i0)), some (vI (x1 + (-1))), some (vR 1 (i2)), some (vO 7 (o3)), some (vI (x4)), some (vI (x5))]) dX8_goOnWithCalls_146 rfl rfl rfl ?_
          refine wp_goto (tgt := 10) dX8_goOnWithCalls_149 (by decide) ?_
          exact hK10 h
      · replace h := itn c31 h
        refine wp_aload_n dX8_goOnWithCalls_91 rfl ?_
        refine wp_aload_n dX8_goOnWithCalls_92 rfl ?_
        refine wp_iload dX8_goOnWithCalls_93 rfl ?_
        obtain ⟨r55, m56, n57, n58, hp59, h, en60⟩ := cb_e h
        refine wp_callV (k1 := n57) (k2 := n58) (As := [vR 1 (i2), vI (x5)]) (rest := []) (w8_X8_beginStep hp59) okX8_beginStep ivX8_beginStep rfl (by decide) ml_X8_300 dX8_goOnWithCalls_95 rfl (by decide) (Nat.le_of_eq en60) rfl (Nat.le_of_ble_eq_true rfl) (fun _ _ z => z.elim) (fun r' S' z => ?_)
        obtain ⟨rfl, rfl⟩ := z
        show WP _ _ _ _ [some (vR 8 (i0)), some (vI (x1)), some (vR 1 (i2)), some (vO 7 (o3)), some (vI (x4)), some (vI (x5))] [vO 7 (r55)] _ _ _
        refine wp_astore_n (L' := [some (vR 8 (i0)), some (vI (x1)), some (vR 1 (i2)), some (vO 7 (r55)), some (vI (x4)), some (vI (x5))]) dX8_goOnWithCalls_98 rfl rfl ?_
        refine wp_aload_n dX8_goOnWithCalls_99 rfl ?_
        refine wp_aload_n dX8_goOnWithCalls_100 rfl ?_
        obtain ⟨j61, ho62, h⟩ := od_e h
        rw [ho62]
        show WP _ _ _ _ [some (vR 8 (i0)), some (vI (x1)), some (vR 1 (i2)), some (vR 7 (j61)), some (vI (x4)), some (vI (x5))] [vR 7 (j61), vR 8 (i0)] _ _ _
        obtain ⟨r63, m64, n65, n66, hp67, h, en68⟩ := cb_e h
        refine wp_callV (k1 := n65) (k2 := n66) (As := [vR 7 (j61)]) (rest := []) (w8_X8_goOn hp67) okX8_goOn ivX8_goOn rfl (by decide) ml_X8_155 dX8_goOnWithCalls_101 rfl (by decide) (Nat.le_of_eq en68) rfl (Nat.le_of_ble_eq_true rfl) (fun _ _ z => z.elim) (fun r' S' z => ?_)
        obtain ⟨rfl, rfl⟩ := z
        show WP _ _ _ _ [some (vR 8 (i0)), some (vI (x1)), some (vR 1 (i2)), some (vR 7 (j61)), some (vI (x4)), some (vI (x5))] [] _ _ _
        refine wp_iinc (v := x5 + 1) (L' := [some (vR 8 (i0)), some (vI (x1)), some (vR 1 (i2)), some (vR 7 (j61)), some (vI (x4)), some (vI (x5 + 1))]) dX8_goOnWithCalls_104 rfl rfl rfl ?_
        refine wp_goto (tgt := 77) dX8_goOnWithCalls_107 (by decide) ?_
        exact ih h
def l8_X8_goOnWithCalls_10 : Nat → Nat → Int32 → CM → CR (Int32)
  | 0, _, _, _ => none
  | n + 1, i0, x1, m =>
  if x1 < 0 then
    some (0, m, 0)
  else
    od (gR m 1033 i0) fun j2 =>
    if ¬ x1 < 0 then
    od ((gL m 52 j2)[(x1).toNatClampNeg]?) fun j5 =>
    if (gI m 133 j5) = 2 then
      cb (f8_X1_lastStep j5 m) fun r8 m9 =>
      if r8 = none then
        od (gR m9 1029 i0) fun j15 =>
        od (gR m9 129 j5) fun j17 =>
        if vq ((gI m9 897 j17)) 6 then
        od (gO m9 41 j15 ((gI m9 897 j17)).toNatClampNeg) fun j20 =>
        od (gR m9 132 j5) fun j22 =>
        l8_X8_goOnWithCalls_77 (l8_X8_goOnWithCalls_10 n) FU (i0) (x1) (j5) (r8) ((gI m9 769 j20)) ((nI (gL m9 56 j22).length)) m9
        else none
      else
        od (r8) fun j24 =>
        cb (f8_X8_goOn i0 (j24) m9) fun _ m27 =>
        od (gR m27 1029 i0) fun j32 =>
        od (gR m27 129 j5) fun j34 =>
        if vq ((gI m27 897 j34)) 6 then
        od (gO m27 41 j32 ((gI m27 897 j34)).toNatClampNeg) fun j37 =>
        od (gR m27 132 j5) fun j39 =>
        l8_X8_goOnWithCalls_77 (l8_X8_goOnWithCalls_10 n) FU (i0) (x1) (j5) (some (j24)) ((gI m27 769 j37)) ((nI (gL m27 56 j39).length)) m27
        else none
    else
      l8_X8_goOnWithCalls_10 n (i0) (x1 + (-1)) m
    else none
theorem w8_X8_goOnWithCalls_10 {r : Int32} {m9 : CM} : ∀ (n : Nat) {i0 : Nat} {x1 : Int32} {l2 : Option sV} {l3 : Option sV} {l4 : Option sV} {l5 : Option sV} {m : CM} {n9 : Nat}, l8_X8_goOnWithCalls_10 n i0 x1 m = some (r, m9, n9) → WP mX8_goOnWithCalls (40) n9 10 [some (vR 8 (i0)), some (vI (x1)), l2, l3, l4, l5] [] (cM m out rho) (Pc out rho none m9) NX := by
  intro n
  induction n with
  | zero =>
    intro i0 x1 l2 l3 l4 l5 m n9 h
    rw [l8_X8_goOnWithCalls_10] at h
    cases h
  | succ n ih =>
    intro i0 x1 l2 l3 l4 l5 m n9 h
    rw [l8_X8_goOnWithCalls_10] at h
    refine wp_iload_n dX8_goOnWithCalls_10 rfl ?_
    refine wp_if_lt (tgt := 152) dX8_goOnWithCalls_11 (by decide) (fun c1 => ?_) (fun c1 => ?_)
    · replace h := itp c1 h
      obtain ⟨q1, q2, q3⟩ := cs_e h
      clear q1
      subst q2
      exact wp_return rfl dX8_goOnWithCalls_152 ⟨rfl, rfl⟩
    · replace h := itn c1 h
      refine wp_aload_n dX8_goOnWithCalls_14 rfl ?_
      obtain ⟨j2, ho3, h⟩ := od_e h
      refine cp_getS (y := 9) (f := 1033) (t := 52) (by decide) (by decide) rfl rfl fl_X8_46 dX8_goOnWithCalls_15 ho3 ?_
      refine wp_iload_n dX8_goOnWithCalls_18 rfl ?_
      obtain ⟨c4, h⟩ := ock h
      obtain ⟨j5, ho6, h⟩ := od_e h
      refine cp_get (c := 52) (t := 1) rfl rfl (by decide) c4 ho6 ml_X8_98 dX8_goOnWithCalls_19 (Nat.le_of_ble_eq_true rfl) ?_
      refine cp_cast (c := 1) (by decide) kl_X8_204 dX8_goOnWithCalls_22 ?_
      refine wp_astore_n (L' := [some (vR 8 (i0)), some (vI (x1)), some (vR 1 (j5)), l3, l4, l5]) dX8_goOnWithCalls_25 rfl rfl ?_
      refine wp_aload_n dX8_goOnWithCalls_26 rfl ?_
      refine cp_getI (y := 5) (f := 133) (by decide) (by decide) rfl rfl fl_X8_217 dX8_goOnWithCalls_27 ?_
      refine wp_iconst (v := 2) dX8_goOnWithCalls_30 (by decide) ?_
      refine wp_icmp_eq (tgt := 37) dX8_goOnWithCalls_31 (by decide) (fun c7 => ?_) (fun c7 => ?_)
      · replace h := itp c7 h
        refine wp_aload_n dX8_goOnWithCalls_37 rfl ?_
        obtain ⟨r8, m9, n10, n11, hp12, h, en13⟩ := cb_e h
        refine wp_callV (k1 := n10) (k2 := n11) (As := []) (rest := []) (w8_X1_lastStep hp12) okX1_lastStep ivX1_lastStep rfl (by decide) ml_X8_292 dX8_goOnWithCalls_38 rfl (by decide) (Nat.le_of_eq en13) rfl (Nat.le_of_ble_eq_true rfl) (fun _ _ z => z.elim) (fun r' S' z => ?_)
        obtain ⟨rfl, rfl⟩ := z
        show WP _ _ _ _ [some (vR 8 (i0)), some (vI (x1)), some (vR 1 (j5)), l3, l4, l5] [vO 7 (r8)] _ _ _
        refine wp_astore_n (L' := [some (vR 8 (i0)), some (vI (x1)), some (vR 1 (j5)), some (vO 7 (r8)), l4, l5]) dX8_goOnWithCalls_41 rfl rfl ?_
        refine wp_aload_n dX8_goOnWithCalls_42 rfl ?_
        refine cp_ifnull (o := r8) (tgt := 51) dX8_goOnWithCalls_43 (by decide) (fun c14 => ?_) (fun c14 => ?_)
        · replace h := itp c14 h
          refine wp_aload_n dX8_goOnWithCalls_51 rfl ?_
          obtain ⟨j15, ho16, h⟩ := od_e h
          refine cp_getS (y := 5) (f := 1029) (t := 41) (by decide) (by decide) rfl rfl fl_X8_26 dX8_goOnWithCalls_52 ho16 ?_
          refine wp_aload_n dX8_goOnWithCalls_55 rfl ?_
          obtain ⟨j17, ho18, h⟩ := od_e h
          refine cp_getS (y := 1) (f := 129) (t := 7) (by decide) (by decide) rfl rfl fl_X8_206 dX8_goOnWithCalls_56 ho18 ?_
          refine cp_getI (y := 1) (f := 897) (by decide) (by decide) rfl rfl fl_X8_210 dX8_goOnWithCalls_59 ?_
          obtain ⟨c19, h⟩ := ock h
          obtain ⟨j20, ho21, h⟩ := od_e h
          refine cp_aald (c := 41) (t := 6) rfl (by decide) rfl (show vp_in ((gI m9 897 j17)) (len 41) from c19) dX8_goOnWithCalls_62 ho21 ?_
          refine cp_getI (y := 1) (f := 769) (by decide) (by decide) rfl rfl fl_X8_68 dX8_goOnWithCalls_63 ?_
          refine wp_istore (L' := [some (vR 8 (i0)), some (vI (x1)), some (vR 1 (j5)), some (vO 7 (r8)), some (vI ((gI m9 769 j20))), l5]) dX8_goOnWithCalls_66 rfl rfl ?_
          refine wp_aload_n dX8_goOnWithCalls_68 rfl ?_
          obtain ⟨j22, ho23, h⟩ := od_e h
          refine cp_getS (y := 4) (f := 132) (t := 56) (by decide) (by decide) rfl rfl fl_X8_224 dX8_goOnWithCalls_69 ho23 ?_
          refine cp_size (c := 56) rfl (by decide) ml_X8_82 dX8_goOnWithCalls_72 (Nat.le_of_ble_eq_true rfl) ?_
          refine wp_istore (L' := [some (vR 8 (i0)), some (vI (x1)), some (vR 1 (j5)), some (vO 7 (r8)), some (vI ((gI m9 769 j20))), some (vI ((nI (gL m9 56 j22).length)))]) dX8_goOnWithCalls_75 rfl rfl ?_
          exact w8_X8_goOnWithCalls_77 ih FU h
        · replace h := itn c14 h
          refine wp_aload_n dX8_goOnWithCalls_46 rfl ?_
          refine wp_aload_n dX8_goOnWithCalls_47 rfl ?_
          obtain ⟨j24, ho25, h⟩ := od_e h
          rw [ho25]
          show WP _ _ _ _ [some (vR 8 (i0)), some (vI (x1)), some (vR 1 (j5)), some (vR 7 (j24)), l4, l5] [vR 7 (j24), vR 8 (i0)] _ _ _
          obtain ⟨r26, m27, n28, n29, hp30, h, en31⟩ := cb_e h
          refine wp_callV (k1 := n28) (k2 := n29) (As := [vR 7 (j24)]) (rest := []) (w8_X8_goOn hp30) okX8_goOn ivX8_goOn rfl (by decide) ml_X8_155 dX8_goOnWithCalls_48 rfl (by decide) (Nat.le_of_eq en31) rfl (Nat.le_of_ble_eq_true rfl) (fun _ _ z => z.elim) (fun r' S' z => ?_)
          obtain ⟨rfl, rfl⟩ := z
          show WP _ _ _ _ [some (vR 8 (i0)), some (vI (x1)), some (vR 1 (j5)), some (vR 7 (j24)), l4, l5] [] _ _ _
          refine wp_aload_n dX8_goOnWithCalls_51 rfl ?_
          obtain ⟨j32, ho33, h⟩ := od_e h
          refine cp_getS (y := 5) (f := 1029) (t := 41) (by decide) (by decide) rfl rfl fl_X8_26 dX8_goOnWithCalls_52 ho33 ?_
          refine wp_aload_n dX8_goOnWithCalls_55 rfl ?_
          obtain ⟨j34, ho35, h⟩ := od_e h
          refine cp_getS (y := 1) (f := 129) (t := 7) (by decide) (by decide) rfl rfl fl_X8_206 dX8_goOnWithCalls_56 ho35 ?_
          refine cp_getI (y := 1) (f := 897) (by decide) (by decide) rfl rfl fl_X8_210 dX8_goOnWithCalls_59 ?_
          obtain ⟨c36, h⟩ := ock h
          obtain ⟨j37, ho38, h⟩ := od_e h
          refine cp_aald (c := 41) (t := 6) rfl (by decide) rfl (show vp_in ((gI m27 897 j34)) (len 41) from c36) dX8_goOnWithCalls_62 ho38 ?_
          refine cp_getI (y := 1) (f := 769) (by decide) (by decide) rfl rfl fl_X8_68 dX8_goOnWithCalls_63 ?_
          refine wp_istore (L' := [some (vR 8 (i0)), some (vI (x1)), some (vR 1 (j5)), some (vR 7 (j24)), some (vI ((gI m27 769 j37))), l5]) dX8_goOnWithCalls_66 rfl rfl ?_
          refine wp_aload_n dX8_goOnWithCalls_68 rfl ?_
          obtain ⟨j39, ho40, h⟩ := od_e h
          refine cp_getS (y := 4) (f := 132) (t := 56) (by decide) (by decide) rfl rfl fl_X8_224 dX8_goOnWithCalls_69 ho40 ?_
          refine cp_size (c := 56) rfl (by decide) ml_X8_82 dX8_goOnWithCalls_72 (Nat.le_of_ble_eq_true rfl) ?_
          refine wp_istore (L' := [some (vR 8 (i0)), some (vI (x1)), some (vR 1 (j5)), some (vR 7 (j24)), some (vI ((gI m27 769 j37))), some (vI ((nI (gL m27 56 j39).length)))]) dX8_goOnWithCalls_75 rfl rfl ?_
          exact w8_X8_goOnWithCalls_77 ih FU h
      · replace h := itn c7 h
        refine wp_goto (tgt := 146) dX8_goOnWithCalls_34 (by decide) ?_
        refine wp_iinc (v := x1 + (-1)) (L' := [some (vR 8 (i0)), some (vI (x1 + (-1))), some (vR 1 (j5)), l3, l4, l5]) dX8_goOnWithCalls_146 rfl rfl rfl ?_
        refine wp_goto (tgt := 10) dX8_goOnWithCalls_149 (by decide) ?_
        exact ih h
def f8_X8_goOnWithCalls (i0 : Nat) (m : CM) : CR (Int32) :=
  od (gR m 1033 i0) fun j1 =>
  l8_X8_goOnWithCalls_10 FU (i0) (((nI (gL m 52 j1).length) - 1)) m
theorem w8_X8_goOnWithCalls {r : Int32} {m9 : CM} {i0 : Nat} {m : CM} {n9 : Nat} (h : f8_X8_goOnWithCalls i0 m = some (r, m9, n9)) : Spec mX8_goOnWithCalls (40) n9 [vR 8 (i0)] (cM m out rho) (Pc out rho none m9) NX := by
  unfold f8_X8_goOnWithCalls at h
  refine spec_of (by decide) rfl (by simp [catS, cat1]) (Nat.le_of_ble_eq_true rfl) ?_
  show WP mX8_goOnWithCalls (40) n9 0 [some (vR 8 (i0)), none, none, none, none, none] [] (cM m out rho) (Pc out rho none m9) NX
  refine wp_aload_n dX8_goOnWithCalls_0 rfl ?_
  obtain ⟨j1, ho2, h⟩ := od_e h
  refine cp_getS (y := 9) (f := 1033) (t := 52) (by decide) (by decide) rfl rfl fl_X8_46 dX8_goOnWithCalls_1 ho2 ?_
  refine cp_size (c := 52) rfl (by decide) ml_X8_82 dX8_goOnWithCalls_4 (Nat.le_of_ble_eq_true rfl) ?_
  refine wp_iconst (v := 1) dX8_goOnWithCalls_7 (by decide) ?_
  refine wp_isub dX8_goOnWithCalls_8 ?_
  refine wp_istore_n (L' := [some (vR 8 (i0)), some (vI (((nI (gL m 52 j1).length) - 1))), none, none, none, none]) dX8_goOnWithCalls_9 rfl rfl ?_
  exact w8_X8_goOnWithCalls_10 FU h
def l8_X8_goOnWithRequests_2 : Nat → Nat → Int32 → CM → CR (Int32)
  | 0, _, _, _ => none
  | n + 1, i0, x1, m =>
  od (gR m 1032 i0) fun j1 =>
  if (nI (gL m 51 j1).length) ≤ x1 then
    some (0, m, 0)
  else
    if ¬ x1 < 0 then
    od ((gL m 51 j1)[(x1).toNatClampNeg]?) fun j5 =>
    if (gI m 642 j5) = 8 then
      od (gR m 640 j5) fun j8 =>
      if (gI m 1024 i0) < (gI m 901 j8) then
        cb (f8_X8_goOn i0 (j8) m) fun _ m12 =>
        cb (f8_X8_endIfOver i0 (j5) m12) fun _ m18 =>
        l8_X8_goOnWithRequests_2 n (i0) (x1 + 1) m18
      else
        cb (f8_X8_endRequest i0 (j5) (5) m) fun _ m24 =>
        l8_X8_goOnWithRequests_2 n (i0) (x1 + 1) m24
    else
      l8_X8_goOnWithRequests_2 n (i0) (x1 + 1) m
    else none
theorem w8_X8_goOnWithRequests_2 {r : Int32} {m9 : CM} : ∀ (n : Nat) {i0 : Nat} {x1 : Int32} {l2 : Option sV} {m : CM} {n9 : Nat}, l8_X8_goOnWithRequests_2 n i0 x1 m = some (r, m9, n9) → WP mX8_goOnWithRequests (40) n9 2 [some (vR 8 (i0)), some (vI (x1)), l2] [] (cM m out rho) (Pc out rho none m9) NX := by
  intro n
  induction n with
  | zero =>
    intro i0 x1 l2 m n9 h
    rw [l8_X8_goOnWithRequests_2] at h
    cases h
  | succ n ih =>
    intro i0 x1 l2 m n9 h
    rw [l8_X8_goOnWithRequests_2] at h
    refine wp_iload_n dX8_goOnWithRequests_2 rfl ?_
    refine wp_aload_n dX8_goOnWithRequests_3 rfl ?_
    obtain ⟨j1, ho2, h⟩ := od_e h
    refine cp_getS (y := 8) (f := 1032) (t := 51) (by decide) (by decide) rfl rfl fl_X8_43 dX8_goOnWithRequests_4 ho2 ?_
    refine cp_size (c := 51) rfl (by decide) ml_X8_82 dX8_goOnWithRequests_7 (Nat.le_of_ble_eq_true rfl) ?_
    refine wp_icmp_ge (tgt := 79) dX8_goOnWithRequests_10 (by decide) (fun c3 => ?_) (fun c3 => ?_)
    · replace h := itp c3 h
      obtain ⟨q1, q2, q3⟩ := cs_e h
      clear q1
      subst q2
      exact wp_return rfl dX8_goOnWithRequests_79 ⟨rfl, rfl⟩
    · replace h := itn c3 h
      refine wp_aload_n dX8_goOnWithRequests_13 rfl ?_
      refine cp_getS (y := 8) (f := 1032) (t := 51) (by decide) (by decide) rfl rfl fl_X8_43 dX8_goOnWithRequests_14 ho2 ?_
      refine wp_iload_n dX8_goOnWithRequests_17 rfl ?_
      obtain ⟨c4, h⟩ := ock h
      obtain ⟨j5, ho6, h⟩ := od_e h
      refine cp_get (c := 51) (t := 5) rfl rfl (by decide) c4 ho6 ml_X8_98 dX8_goOnWithRequests_18 (Nat.le_of_ble_eq_true rfl) ?_
      refine cp_cast (c := 5) (by decide) kl_X8_146 dX8_goOnWithRequests_21 ?_
      refine wp_astore_n (L' := [some (vR 8 (i0)), some (vI (x1)), some (vR 5 (j5))]) dX8_goOnWithRequests_24 rfl rfl ?_
      refine wp_aload_n dX8_goOnWithRequests_25 rfl ?_
      refine cp_getI (y := 2) (f := 642) (by decide) (by decide) rfl rfl fl_X8_187 dX8_goOnWithRequests_26 ?_
      refine wp_bipush (v := 8) dX8_goOnWithRequests_29 (by decide) ?_
      refine wp_icmp_eq (tgt := 37) dX8_goOnWithRequests_31 (by decide) (fun c7 => ?_) (fun c7 => ?_)
      · replace h := itp c7 h
        refine wp_aload_n dX8_goOnWithRequests_37 rfl ?_
        obtain ⟨j8, ho9, h⟩ := od_e h
        refine cp_getS (y := 0) (f := 640) (t := 7) (by decide) (by decide) rfl rfl fl_X8_323 dX8_goOnWithRequests_38 ho9 ?_
        refine cp_getI (y := 5) (f := 901) (by decide) (by decide) rfl rfl fl_X8_143 dX8_goOnWithRequests_41 ?_
        refine wp_aload_n dX8_goOnWithRequests_44 rfl ?_
        refine cp_getI (y := 0) (f := 1024) (by decide) (by decide) rfl rfl fl_X8_140 dX8_goOnWithRequests_45 ?_
        refine wp_icmp_gt (tgt := 60) dX8_goOnWithRequests_48 (by decide) (fun c10 => ?_) (fun c10 => ?_)
        · replace h := itp c10 h
          refine wp_aload_n dX8_goOnWithRequests_60 rfl ?_
          refine wp_aload_n dX8_goOnWithRequests_61 rfl ?_
          refine cp_getS (y := 0) (f := 640) (t := 7) (by decide) (by decide) rfl rfl fl_X8_323 dX8_goOnWithRequests_62 ho9 ?_
          obtain ⟨r11, m12, n13, n14, hp15, h, en16⟩ := cb_e h
          refine wp_callV (k1 := n13) (k2 := n14) (As := [vR 7 (j8)]) (rest := []) (w8_X8_goOn hp15) okX8_goOn ivX8_goOn rfl (by decide) ml_X8_155 dX8_goOnWithRequests_65 rfl (by decide) (Nat.le_of_eq en16) rfl (Nat.le_of_ble_eq_true rfl) (fun _ _ z => z.elim) (fun r' S' z => ?_)
          obtain ⟨rfl, rfl⟩ := z
          show WP _ _ _ _ [some (vR 8 (i0)), some (vI (x1)), some (vR 5 (j5))] [] _ _ _
          refine wp_aload_n dX8_goOnWithRequests_68 rfl ?_
          refine wp_aload_n dX8_goOnWithRequests_69 rfl ?_
          obtain ⟨r17, m18, n19, n20, hp21, h, en22⟩ := cb_e h
          refine wp_callV (k1 := n19) (k2 := n20) (As := [vR 5 (j5)]) (rest := []) (w8_X8_endIfOver hp21) okX8_endIfOver ivX8_endIfOver rfl (by decide) ml_X8_159 dX8_goOnWithRequests_70 rfl (by decide) (Nat.le_of_eq en22) rfl (Nat.le_of_ble_eq_true rfl) (fun _ _ z => z.elim) (fun r' S' z => ?_)
          obtain ⟨rfl, rfl⟩ := z
          show WP _ _ _ _ [some (vR 8 (i0)), some (vI (x1)), some (vR 5 (j5))] [] _ _ _
          refine wp_iinc (v := x1 + 1) (L' := [some (vR 8 (i0)), some (vI (x1 + 1)), some (vR 5 (j5))]) dX8_goOnWithRequests_73 rfl rfl rfl ?_
          refine wp_goto (tgt := 2) dX8_goOnWithRequests_76 (by decide) ?_
          exact ih h
        · replace h := itn c10 h
          refine wp_aload_n dX8_goOnWithRequests_51 rfl ?_
          refine wp_aload_n dX8_goOnWithRequests_52 rfl ?_
          refine wp_iconst (v := 5) dX8_goOnWithRequests_53 (by decide) ?_
          obtain ⟨r23, m24, n25, n26, hp27, h, en28⟩ := cb_e h
          refine wp_callV (k1 := n25) (k2 := n26) (As := [vR 5 (j5), vI (5)]) (rest := []) (w8_X8_endRequest hp27) okX8_endRequest ivX8_endRequest rfl (by decide) ml_X8_326 dX8_goOnWithRequests_54 rfl (by decide) (Nat.le_of_eq en28) rfl (Nat.le_of_ble_eq_true rfl) (fun _ _ z => z.elim) (fun r' S' z => ?_)
          obtain ⟨rfl, rfl⟩ := z
          show WP _ _ _ _ [some (vR 8 (i0)), some (vI (x1)), some (vR 5 (j5))] [] _ _ _
          refine wp_goto (tgt := 73) dX8_goOnWithRequests_57 (by decide) ?_
          refine wp_iinc (v := x1 + 1) (L' := [some (vR 8 (i0)), some (vI (x1 + 1)), some (vR 5 (j5))]) dX8_goOnWithRequests_73 rfl rfl rfl ?_
          refine wp_goto (tgt := 2) dX8_goOnWithRequests_76 (by decide) ?_
          exact ih h
      · replace h := itn c7 h
        refine wp_goto (tgt := 73) dX8_goOnWithRequests_34 (by decide) ?_
        refine wp_iinc (v := x1 + 1) (L' := [some (vR 8 (i0)), some (vI (x1 + 1)), some (vR 5 (j5))]) dX8_goOnWithRequests_73 rfl rfl rfl ?_
        refine wp_goto (tgt := 2) dX8_goOnWithRequests_76 (by decide) ?_
        exact ih h
def f8_X8_goOnWithRequests (i0 : Nat) (m : CM) : CR (Int32) :=
  l8_X8_goOnWithRequests_2 FU (i0) (0) m
theorem w8_X8_goOnWithRequests {r : Int32} {m9 : CM} {i0 : Nat} {m : CM} {n9 : Nat} (h : f8_X8_goOnWithRequests i0 m = some (r, m9, n9)) : Spec mX8_goOnWithRequests (40) n9 [vR 8 (i0)] (cM m out rho) (Pc out rho none m9) NX := by
  unfold f8_X8_goOnWithRequests at h
  refine spec_of (by decide) rfl (by simp [catS, cat1]) (Nat.le_of_ble_eq_true rfl) ?_
  show WP mX8_goOnWithRequests (40) n9 0 [some (vR 8 (i0)), none, none] [] (cM m out rho) (Pc out rho none m9) NX
  refine wp_iconst (v := 0) dX8_goOnWithRequests_0 (by decide) ?_
  refine wp_istore_n (L' := [some (vR 8 (i0)), some (vI (0)), none]) dX8_goOnWithRequests_1 rfl rfl ?_
  exact w8_X8_goOnWithRequests_2 FU h
def l8_X8_goOnWithRepairs_2 : Nat → Nat → Int32 → CM → CR (Int32)
  | 0, _, _, _ => none
  | n + 1, i0, x1, m =>
  od (gR m 1034 i0) fun j1 =>
  if (nI (gL m 53 j1).length) ≤ x1 then
    some (0, m, 0)
  else
    if ¬ x1 < 0 then
    od ((gL m 53 j1)[(x1).toNatClampNeg]?) fun j5 =>
    cb (f8_X8_lookAtEnds i0 (j5) m) fun _ m8 =>
    if (gI m8 911 j5) = 8 then
      cb (f8_X7_hasTryOut j5 ((gI m8 1024 i0)) m8) fun r14 m15 =>
      if r14 = 0 then
        cb (f8_X8_tryOnce i0 (j5) (0) m15) fun _ m22 =>
        cb (f8_X8_lookAtEnds i0 (j5) m22) fun _ m28 =>
        l8_X8_goOnWithRepairs_2 n (i0) (x1 + 1) m28
      else
        l8_X8_goOnWithRepairs_2 n (i0) (x1 + 1) m15
    else
      l8_X8_goOnWithRepairs_2 n (i0) (x1 + 1) m8
    else none
theorem w8_X8_goOnWithRepairs_2 {r : Int32} {m9 : CM} : ∀ (n : Nat) {i0 : Nat} {x1 : Int32} {l2 : Option sV} {m : CM} {n9 : Nat}, l8_X8_goOnWithRepairs_2 n i0 x1 m = some (r, m9, n9) → WP mX8_goOnWithRepairs (39) n9 2 [some (vR 8 (i0)), some (vI (x1)), l2] [] (cM m out rho) (Pc out rho none m9) NX := by
  intro n
  induction n with
  | zero =>
    intro i0 x1 l2 m n9 h
    rw [l8_X8_goOnWithRepairs_2] at h
    cases h
  | succ n ih =>
    intro i0 x1 l2 m n9 h
    rw [l8_X8_goOnWithRepairs_2] at h
    refine wp_iload_n dX8_goOnWithRepairs_2 rfl ?_
    refine wp_aload_n dX8_goOnWithRepairs_3 rfl ?_
    obtain ⟨j1, ho2, h⟩ := od_e h
    refine cp_getS (y := 10) (f := 1034) (t := 53) (by decide) (by decide) rfl rfl fl_X8_49 dX8_goOnWithRepairs_4 ho2 ?_
    refine cp_size (c := 53) rfl (by decide) ml_X8_82 dX8_goOnWithRepairs_7 (Nat.le_of_ble_eq_true rfl) ?_
    refine wp_icmp_ge (tgt := 67) dX8_goOnWithRepairs_10 (by decide) (fun c3 => ?_) (fun c3 => ?_)
    · replace h := itp c3 h
      obtain ⟨q1, q2, q3⟩ := cs_e h
      clear q1
      subst q2
      exact wp_return rfl dX8_goOnWithRepairs_67 ⟨rfl, rfl⟩
    · replace h := itn c3 h
      refine wp_aload_n dX8_goOnWithRepairs_13 rfl ?_
      refine cp_getS (y := 10) (f := 1034) (t := 53) (by decide) (by decide) rfl rfl fl_X8_49 dX8_goOnWithRepairs_14 ho2 ?_
      refine wp_iload_n dX8_goOnWithRepairs_17 rfl ?_
      obtain ⟨c4, h⟩ := ock h
      obtain ⟨j5, ho6, h⟩ := od_e h
      refine cp_get (c := 53) (t := 7) rfl rfl (by decide) c4 ho6 ml_X8_98 dX8_goOnWithRepairs_18 (Nat.le_of_ble_eq_true rfl) ?_
      refine cp_cast (c := 7) (by decide) kl_X8_132 dX8_goOnWithRepairs_21 ?_
      refine wp_astore_n (L' := [some (vR 8 (i0)), some (vI (x1)), some (vR 7 (j5))]) dX8_goOnWithRepairs_24 rfl rfl ?_
      refine wp_aload_n dX8_goOnWithRepairs_25 rfl ?_
      refine wp_aload_n dX8_goOnWithRepairs_26 rfl ?_
      obtain ⟨r7, m8, n9, n10, hp11, h, en12⟩ := cb_e h
      refine wp_callV (k1 := n9) (k2 := n10) (As := [vR 7 (j5)]) (rest := []) (w8_X8_lookAtEnds hp11) okX8_lookAtEnds ivX8_lookAtEnds rfl (by decide) ml_X8_330 dX8_goOnWithRepairs_27 rfl (by decide) (Nat.le_of_eq en12) rfl (Nat.le_of_ble_eq_true rfl) (fun _ _ z => z.elim) (fun r' S' z => ?_)
      obtain ⟨rfl, rfl⟩ := z
      show WP _ _ _ _ [some (vR 8 (i0)), some (vI (x1)), some (vR 7 (j5))] [] _ _ _
      refine wp_aload_n dX8_goOnWithRepairs_30 rfl ?_
      refine cp_getI (y := 15) (f := 911) (by decide) (by decide) rfl rfl fl_X8_249 dX8_goOnWithRepairs_31 ?_
      refine wp_bipush (v := 8) dX8_goOnWithRepairs_34 (by decide) ?_
      refine wp_icmp_ne (tgt := 61) dX8_goOnWithRepairs_36 (by decide) (fun c13 => ?_) (fun c13 => ?_)
      · replace h := itn c13 h
        refine wp_iinc (v := x1 + 1) (L' := [some (vR 8 (i0)), some (vI (x1 + 1)), some (vR 7 (j5))]) dX8_goOnWithRepairs_61 rfl rfl rfl ?_
        refine wp_goto (tgt := 2) dX8_goOnWithRepairs_64 (by decide) ?_
        exact ih h
      · replace h := itp c13 h
        refine wp_aload_n dX8_goOnWithRepairs_39 rfl ?_
        refine wp_aload_n dX8_goOnWithRepairs_40 rfl ?_
        refine cp_getI (y := 0) (f := 1024) (by decide) (by decide) rfl rfl fl_X8_140 dX8_goOnWithRepairs_41 ?_
        obtain ⟨r14, m15, n16, n17, hp18, h, en19⟩ := cb_e h
        refine wp_callV (k1 := n16) (k2 := n17) (As := [vI ((gI m8 1024 i0))]) (rest := []) (w8_X7_hasTryOut hp18) okX7_hasTryOut ivX7_hasTryOut rfl (by decide) ml_X8_333 dX8_goOnWithRepairs_44 rfl (by decide) (Nat.le_of_eq en19) rfl (Nat.le_of_ble_eq_true rfl) (fun _ _ z => z.elim) (fun r' S' z => ?_)
        obtain ⟨rfl, rfl⟩ := z
        show WP _ _ _ _ [some (vR 8 (i0)), some (vI (x1)), some (vR 7 (j5))] [vI (r14)] _ _ _
        refine wp_if_ne (tgt := 61) dX8_goOnWithRepairs_47 (by decide) (fun c20 => ?_) (fun c20 => ?_)
        · replace h := itn c20 h
          refine wp_iinc (v := x1 + 1) (L' := [some (vR 8 (i0)), some (vI (x1 + 1)), some (vR 7 (j5))]) dX8_goOnWithRepairs_61 rfl rfl rfl ?_
          refine wp_goto (tgt := 2) dX8_goOnWithRepairs_64 (by decide) ?_
          exact ih h
        · replace h := itp c20 h
          refine wp_aload_n dX8_goOnWithRepairs_50 rfl ?_
          refine wp_aload_n dX8_goOnWithRepairs_51 rfl ?_
          refine wp_iconst (v := 0) dX8_goOnWithRepairs_52 (by decide) ?_
          obtain ⟨r21, m22, n23, n24, hp25, h, en26⟩ := cb_e h
          refine wp_callV (k1 := n23) (k2 := n24) (As := [vR 7 (j5), vI (0)]) (rest := []) (w8_X8_tryOnce hp25) okX8_tryOnce ivX8_tryOnce rfl (by decide) ml_X8_151 dX8_goOnWithRepairs_53 rfl (by decide) (Nat.le_of_eq en26) rfl (Nat.le_of_ble_eq_true rfl) (fun _ _ z => z.elim) (fun r' S' z => ?_)
          obtain ⟨rfl, rfl⟩ := z
          show WP _ _ _ _ [some (vR 8 (i0)), some (vI (x1)), some (vR 7 (j5))] [] _ _ _
          refine wp_aload_n dX8_goOnWithRepairs_56 rfl ?_
          refine wp_aload_n dX8_goOnWithRepairs_57 rfl ?_
          obtain ⟨r27, m28, n29, n30, hp31, h, en32⟩ := cb_e h
          refine wp_callV (k1 := n29) (k2 := n30) (As := [vR 7 (j5)]) (rest := []) (w8_X8_lookAtEnds hp31) okX8_lookAtEnds ivX8_lookAtEnds rfl (by decide) ml_X8_330 dX8_goOnWithRepairs_58 rfl (by decide) (Nat.le_of_eq en32) rfl (Nat.le_of_ble_eq_true rfl) (fun _ _ z => z.elim) (fun r' S' z => ?_)
          obtain ⟨rfl, rfl⟩ := z
          show WP _ _ _ _ [some (vR 8 (i0)), some (vI (x1)), some (vR 7 (j5))] [] _ _ _
          refine wp_iinc (v := x1 + 1) (L' := [some (vR 8 (i0)), some (vI (x1 + 1)), some (vR 7 (j5))]) dX8_goOnWithRepairs_61 rfl rfl rfl ?_
          refine wp_goto (tgt := 2) dX8_goOnWithRepairs_64 (by decide) ?_
          exact ih h
def f8_X8_goOnWithRepairs (i0 : Nat) (m : CM) : CR (Int32) :=
  l8_X8_goOnWithRepairs_2 FU (i0) (0) m
theorem w8_X8_goOnWithRepairs {r : Int32} {m9 : CM} {i0 : Nat} {m : CM} {n9 : Nat} (h : f8_X8_goOnWithRepairs i0 m = some (r, m9, n9)) : Spec mX8_goOnWithRepairs (39) n9 [vR 8 (i0)] (cM m out rho) (Pc out rho none m9) NX := by
  unfold f8_X8_goOnWithRepairs at h
  refine spec_of (by decide) rfl (by simp [catS, cat1]) (Nat.le_of_ble_eq_true rfl) ?_
  show WP mX8_goOnWithRepairs (39) n9 0 [some (vR 8 (i0)), none, none] [] (cM m out rho) (Pc out rho none m9) NX
  refine wp_iconst (v := 0) dX8_goOnWithRepairs_0 (by decide) ?_
  refine wp_istore_n (L' := [some (vR 8 (i0)), some (vI (0)), none]) dX8_goOnWithRepairs_1 rfl rfl ?_
  exact w8_X8_goOnWithRepairs_2 FU h
def l8_X8_runQueued_35 (K2 : Nat → Int32 → CM → CR (Int32)) : Nat → Nat → Int32 → Nat → Int32 → CM → CR (Int32)
  | 0, _, _, _, _, _ => none
  | n + 1, i0, x1, i2, x3, m =>
  if x3 ≤ 0 then
    K2 (i0) (x1 + 1) m
  else
    od (gR m 522 i2) fun j2 =>
    if (if nI (gL m 54 j2).length = 0 then (1 : Int32) else 0) = 0 then
      od ((gL m 54 j2)[(0 : Int32).toNatClampNeg]?) fun j5 =>
      wr (sL m 54 j2 ((gL m 54 j2).eraseIdx (0 : Int32).toNatClampNeg)) fun m7 =>
      cb (f8_X8_run i0 (j5) m7) fun _ m10 =>
      l8_X8_runQueued_35 K2 n (i0) (x1) (i2) (x3 + (-1)) m10
    else
      K2 (i0) (x1 + 1) m
theorem w8_X8_runQueued_35 {K2 : Nat → Int32 → CM → CR (Int32)} {r : Int32} {m9 : CM} (hK2 : ∀ {i0 : Nat} {x1 : Int32} {l2 : Option sV} {l3 : Option sV} {l4 : Option sV} {m : CM} {n9 : Nat}, K2 i0 x1 m = some (r, m9, n9) → WP mX8_runQueued (8) n9 2 [some (vR 8 (i0)), some (vI (x1)), l2, l3, l4] [] (cM m out rho) (Pc out rho none m9) NX) : ∀ (n : Nat) {i0 : Nat} {x1 : Int32} {i2 : Nat} {x3 : Int32} {l4 : Option sV} {m : CM} {n9 : Nat}, l8_X8_runQueued_35 K2 n i0 x1 i2 x3 m = some (r, m9, n9) → WP mX8_runQueued (8) n9 35 [some (vR 8 (i0)), some (vI (x1)), some (vR 4 (i2)), some (vI (x3)), l4] [] (cM m out rho) (Pc out rho none m9) NX := by
  intro n
  induction n with
  | zero =>
    intro i0 x1 i2 x3 l4 m n9 h
    rw [l8_X8_runQueued_35] at h
    cases h
  | succ n ih =>
    intro i0 x1 i2 x3 l4 m n9 h
    rw [l8_X8_runQueued_35] at h
    refine wp_iload_n dX8_runQueued_35 rfl ?_
    refine wp_if_le (tgt := 83) dX8_runQueued_36 (by decide) (fun c1 => ?_) (fun c1 => ?_)
    · replace h := itp c1 h
      refine wp_iinc (v := x1 + 1) (L' := [some (vR 8 (i0)), some (vI (x1 + 1)), some (vR 4 (i2)), some (vI (x3)), l4]) dX8_runQueued_83 rfl rfl rfl ?_
      refine wp_goto (tgt := 2) dX8_runQueued_86 (by decide) ?_
      exact hK2 h
    · replace h := itn c1 h
      refine wp_aload_n dX8_runQueued_39 rfl ?_
      obtain ⟨j2, ho3, h⟩ := od_e h
      refine cp_getS (y := 10) (f := 522) (t := 54) (by decide) (by decide) rfl rfl fl_X8_343 dX8_runQueued_40 ho3 ?_
      refine cp_isEmpty (c := 54) rfl (by decide) ml_X8_71 dX8_runQueued_43 (Nat.le_of_ble_eq_true rfl) ?_
      refine wp_if_ne (tgt := 83) dX8_runQueued_46 (by decide) (fun c4 => ?_) (fun c4 => ?_)
      · replace h := itn c4 h
        refine wp_iinc (v := x1 + 1) (L' := [some (vR 8 (i0)), some (vI (x1 + 1)), some (vR 4 (i2)), some (vI (x3)), l4]) dX8_runQueued_83 rfl rfl rfl ?_
        refine wp_goto (tgt := 2) dX8_runQueued_86 (by decide) ?_
        exact hK2 h
      · replace h := itp c4 h
        refine wp_aload_n dX8_runQueued_49 rfl ?_
        refine cp_getS (y := 10) (f := 522) (t := 54) (by decide) (by decide) rfl rfl fl_X8_343 dX8_runQueued_50 ho3 ?_
        refine wp_iconst (v := 0) dX8_runQueued_53 (by decide) ?_
        obtain ⟨j5, ho6, h⟩ := od_e h
        refine cp_get (c := 54) (t := 1) rfl rfl (by decide) (by decide) ho6 ml_X8_98 dX8_runQueued_54 (Nat.le_of_ble_eq_true rfl) ?_
        refine cp_cast (c := 1) (by decide) kl_X8_204 dX8_runQueued_57 ?_
        refine wp_astore (L' := [some (vR 8 (i0)), some (vI (x1)), some (vR 4 (i2)), some (vI (x3)), some (vR 1 (j5))]) dX8_runQueued_60 rfl rfl ?_
        refine wp_aload_n dX8_runQueued_62 rfl ?_
        refine cp_getS (y := 10) (f := 522) (t := 54) (by decide) (by decide) rfl rfl fl_X8_343 dX8_runQueued_63 ho3 ?_
        refine wp_iconst (v := 0) dX8_runQueued_66 (by decide) ?_
        obtain ⟨m7, e8, h⟩ := wr_e h
        refine cp_remove (c := 54) (t := 1) e8 rfl rfl (by decide) (by decide) ho6 ml_X8_346 dX8_runQueued_67 (Nat.le_of_ble_eq_true rfl) ?_
        refine wp_pop dX8_runQueued_70 trivial ?_
        refine wp_aload_n dX8_runQueued_71 rfl ?_
        refine wp_aload dX8_runQueued_72 rfl ?_
        obtain ⟨r9, m10, n11, n12, hp13, h, en14⟩ := cb_e h
        refine wp_callV (k1 := n11) (k2 := n12) (As := [vR 1 (j5)]) (rest := []) (w8_X8_run hp13) okX8_run ivX8_run rfl (by decide) ml_X8_349 dX8_runQueued_74 rfl (by decide) (Nat.le_of_eq en14) rfl (Nat.le_of_ble_eq_true rfl) (fun _ _ z => z.elim) (fun r' S' z => ?_)
        obtain ⟨rfl, rfl⟩ := z
        show WP _ _ _ _ [some (vR 8 (i0)), some (vI (x1)), some (vR 4 (i2)), some (vI (x3)), some (vR 1 (j5))] [] _ _ _
        refine wp_iinc (v := x3 + (-1)) (L' := [some (vR 8 (i0)), some (vI (x1)), some (vR 4 (i2)), some (vI (x3 + (-1))), some (vR 1 (j5))]) dX8_runQueued_77 rfl rfl rfl ?_
        refine wp_goto (tgt := 35) dX8_runQueued_80 (by decide) ?_
        exact ih h
def l8_X8_runQueued_2 : Nat → Nat → Int32 → CM → CR (Int32)
  | 0, _, _, _ => none
  | n + 1, i0, x1, m =>
  od (gR m 1031 i0) fun j1 =>
  if (nI (gL m 50 j1).length) ≤ x1 then
    some (0, m, 0)
  else
    if ¬ x1 < 0 then
    od ((gL m 50 j1)[(x1).toNatClampNeg]?) fun j5 =>
    l8_X8_runQueued_35 (l8_X8_runQueued_2 n) FU (i0) (x1) (j5) (((gI m 516 j5) - (gI m 523 j5))) m
    else none
theorem w8_X8_runQueued_2 {r : Int32} {m9 : CM} : ∀ (n : Nat) {i0 : Nat} {x1 : Int32} {l2 : Option sV} {l3 : Option sV} {l4 : Option sV} {m : CM} {n9 : Nat}, l8_X8_runQueued_2 n i0 x1 m = some (r, m9, n9) → WP mX8_runQueued (8) n9 2 [some (vR 8 (i0)), some (vI (x1)), l2, l3, l4] [] (cM m out rho) (Pc out rho none m9) NX := by
  intro n
  induction n with
  | zero =>
    intro i0 x1 l2 l3 l4 m n9 h
    rw [l8_X8_runQueued_2] at h
    cases h
  | succ n ih =>
    intro i0 x1 l2 l3 l4 m n9 h
    rw [l8_X8_runQueued_2] at h
    refine wp_iload_n dX8_runQueued_2 rfl ?_
    refine wp_aload_n dX8_runQueued_3 rfl ?_
    obtain ⟨j1, ho2, h⟩ := od_e h
    refine cp_getS (y := 7) (f := 1031) (t := 50) (by decide) (by decide) rfl rfl fl_X8_39 dX8_runQueued_4 ho2 ?_
    refine cp_size (c := 50) rfl (by decide) ml_X8_82 dX8_runQueued_7 (Nat.le_of_ble_eq_true rfl) ?_
    refine wp_icmp_ge (tgt := 89) dX8_runQueued_10 (by decide) (fun c3 => ?_) (fun c3 => ?_)
    · replace h := itp c3 h
      obtain ⟨q1, q2, q3⟩ := cs_e h
      clear q1
      subst q2
      exact wp_return rfl dX8_runQueued_89 ⟨rfl, rfl⟩
    · replace h := itn c3 h
      refine wp_aload_n dX8_runQueued_13 rfl ?_
      refine cp_getS (y := 7) (f := 1031) (t := 50) (by decide) (by decide) rfl rfl fl_X8_39 dX8_runQueued_14 ho2 ?_
      refine wp_iload_n dX8_runQueued_17 rfl ?_
      obtain ⟨c4, h⟩ := ock h
      obtain ⟨j5, ho6, h⟩ := od_e h
      refine cp_get (c := 50) (t := 4) rfl rfl (by decide) c4 ho6 ml_X8_98 dX8_runQueued_18 (Nat.le_of_ble_eq_true rfl) ?_
      refine cp_cast (c := 4) (by decide) kl_X8_86 dX8_runQueued_21 ?_
      refine wp_astore_n (L' := [some (vR 8 (i0)), some (vI (x1)), some (vR 4 (j5)), l3, l4]) dX8_runQueued_24 rfl rfl ?_
      refine wp_aload_n dX8_runQueued_25 rfl ?_
      refine cp_getI (y := 4) (f := 516) (by decide) (by decide) rfl rfl fl_X8_337 dX8_runQueued_26 ?_
      refine wp_aload_n dX8_runQueued_29 rfl ?_
      refine cp_getI (y := 11) (f := 523) (by decide) (by decide) rfl rfl fl_X8_340 dX8_runQueued_30 ?_
      refine wp_isub dX8_runQueued_33 ?_
      refine wp_istore_n (L' := [some (vR 8 (i0)), some (vI (x1)), some (vR 4 (j5)), some (vI (((gI m 516 j5) - (gI m 523 j5)))), l4]) dX8_runQueued_34 rfl rfl ?_
      exact w8_X8_runQueued_35 ih FU h
def f8_X8_runQueued (i0 : Nat) (m : CM) : CR (Int32) :=
  l8_X8_runQueued_2 FU (i0) (0) m
theorem w8_X8_runQueued {r : Int32} {m9 : CM} {i0 : Nat} {m : CM} {n9 : Nat} (h : f8_X8_runQueued i0 m = some (r, m9, n9)) : Spec mX8_runQueued (8) n9 [vR 8 (i0)] (cM m out rho) (Pc out rho none m9) NX := by
  unfold f8_X8_runQueued at h
  refine spec_of (by decide) rfl (by simp [catS, cat1]) (Nat.le_of_ble_eq_true rfl) ?_
  show WP mX8_runQueued (8) n9 0 [some (vR 8 (i0)), none, none, none, none] [] (cM m out rho) (Pc out rho none m9) NX
  refine wp_iconst (v := 0) dX8_runQueued_0 (by decide) ?_
  refine wp_istore_n (L' := [some (vR 8 (i0)), some (vI (0)), none, none, none]) dX8_runQueued_1 rfl rfl ?_
  exact w8_X8_runQueued_2 FU h
end S8
