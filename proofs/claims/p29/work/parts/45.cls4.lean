section S8
variable {out : Int64} {rho : RH}
def f8_X1_isKnown (i0 : Nat) (x1 : Int32) (m : CM) : CR (Int32) :=
  if x1 < (gI m 136 i0) then
    some (0, m, 0)
  else
    some (1, m, 0)
theorem w8_X1_isKnown {r : Int32} {m9 : CM} {i0 : Nat} {x1 : Int32} {m : CM} {n9 : Nat} (h : f8_X1_isKnown i0 x1 m = some (r, m9, n9)) : Spec mX1_isKnown (0) n9 [vR 1 (i0), vI (x1)] (cM m out rho) (Pc out rho (some (vI r)) m9) NX := by
  unfold f8_X1_isKnown at h
  refine spec_of (by decide) rfl (by simp [catS, cat1]) (Nat.le_of_ble_eq_true rfl) ?_
  show WP mX1_isKnown (0) n9 0 [some (vR 1 (i0)), some (vI (x1))] [] (cM m out rho) (Pc out rho (some (vI r)) m9) NX
  refine wp_aload_n dX1_isKnown_0 rfl ?_
  refine cp_getI (y := 8) (f := 136) (by decide) (by decide) rfl rfl fl_X1_29 dX1_isKnown_1 ?_
  refine wp_iload_n dX1_isKnown_4 rfl ?_
  refine wp_icmp_gt (tgt := 12) dX1_isKnown_5 (by decide) (fun c1 => ?_) (fun c1 => ?_)
  · replace h := itp c1 h
    refine wp_iconst (v := 0) dX1_isKnown_12 (by decide) ?_
    obtain ⟨q1, q2, q3⟩ := cs_e h
    subst q1
    subst q2
    exact wp_zreturn rfl (by decide) dX1_isKnown_13 ⟨rfl, rfl⟩
  · replace h := itn c1 h
    refine wp_iconst (v := 1) dX1_isKnown_8 (by decide) ?_
    refine wp_goto (tgt := 13) dX1_isKnown_9 (by decide) ?_
    obtain ⟨q1, q2, q3⟩ := cs_e h
    subst q1
    subst q2
    exact wp_zreturn rfl (by decide) dX1_isKnown_13 ⟨rfl, rfl⟩
def f8_X0_count (i0 : Nat) (x1 : Int32) (x2 : Int32) (m : CM) : CR (Int32) :=
  if (gI m 0 i0) = 1 then
    some (0, m, 0)
  else
    if x1 = 0 then
      wr (sI m 1 i0 (((gI m 1 i0) + 1))) fun m3 =>
      if 3 ≤ (gI m3 1 i0) then
        wr (sI m3 0 i0 (1)) fun m6 =>
        wr (sI m6 2 i0 (x2)) fun m8 =>
        some (0, m8, 0)
      else
        if (gI m3 0 i0) = 2 then
          wr (sI m3 0 i0 (1)) fun m11 =>
          wr (sI m11 2 i0 (x2)) fun m13 =>
          some (0, m13, 0)
        else
          some (0, m3, 0)
    else
      wr (sI m 0 i0 (0)) fun m15 =>
      wr (sI m15 1 i0 (0)) fun m17 =>
      some (0, m17, 0)
theorem w8_X0_count {r : Int32} {m9 : CM} {i0 : Nat} {x1 : Int32} {x2 : Int32} {m : CM} {n9 : Nat} (h : f8_X0_count i0 x1 x2 m = some (r, m9, n9)) : Spec mX0_count (0) n9 [vR 0 (i0), vI (x1), vI (x2)] (cM m out rho) (Pc out rho none m9) NX := by
  unfold f8_X0_count at h
  refine spec_of (by decide) rfl (by simp [catS, cat1]) (Nat.le_of_ble_eq_true rfl) ?_
  show WP mX0_count (0) n9 0 [some (vR 0 (i0)), some (vI (x1)), some (vI (x2))] [] (cM m out rho) (Pc out rho none m9) NX
  refine wp_aload_n dX0_count_0 rfl ?_
  refine cp_getI (y := 0) (f := 0) (by decide) (by decide) rfl rfl fl_X0_9 dX0_count_1 ?_
  refine wp_iconst (v := 1) dX0_count_4 (by decide) ?_
  refine wp_icmp_ne (tgt := 9) dX0_count_5 (by decide) (fun c1 => ?_) (fun c1 => ?_)
  · replace h := itn c1 h
    refine wp_iload_n dX0_count_9 rfl ?_
    refine wp_if_eq (tgt := 24) dX0_count_10 (by decide) (fun c2 => ?_) (fun c2 => ?_)
    · replace h := itp c2 h
      refine wp_aload_n dX0_count_24 rfl ?_
      refine wp_dup dX0_count_25 trivial ?_
      refine cp_getI (y := 1) (f := 1) (by decide) (by decide) rfl rfl fl_X0_15 dX0_count_26 ?_
      refine wp_iconst (v := 1) dX0_count_29 (by decide) ?_
      refine wp_iadd dX0_count_30 ?_
      obtain ⟨m3, e4, h⟩ := wr_e h
      refine cp_putI (y := 1) (f := 1) e4 (by decide) (by decide) rfl rfl (Or.inl rfl) fl_X0_15 dX0_count_31 rfl ?_
      refine wp_aload_n dX0_count_34 rfl ?_
      refine cp_getI (y := 1) (f := 1) (by decide) (by decide) rfl rfl fl_X0_15 dX0_count_35 ?_
      refine wp_iconst (v := 3) dX0_count_38 (by decide) ?_
      refine wp_icmp_ge (tgt := 50) dX0_count_39 (by decide) (fun c5 => ?_) (fun c5 => ?_)
      · replace h := itp c5 h
        refine wp_aload_n dX0_count_50 rfl ?_
        refine wp_iconst (v := 1) dX0_count_51 (by decide) ?_
        obtain ⟨m6, e7, h⟩ := wr_e h
        refine cp_putI (y := 0) (f := 0) e7 (by decide) (by decide) rfl rfl (Or.inl rfl) fl_X0_9 dX0_count_52 rfl ?_
        refine wp_aload_n dX0_count_55 rfl ?_
        refine wp_iload_n dX0_count_56 rfl ?_
        obtain ⟨m8, e9, h⟩ := wr_e h
        refine cp_putI (y := 2) (f := 2) e9 (by decide) (by decide) rfl rfl (Or.inl rfl) fl_X0_18 dX0_count_57 rfl ?_
        obtain ⟨q1, q2, q3⟩ := cs_e h
        clear q1
        subst q2
        exact wp_return rfl dX0_count_60 ⟨rfl, rfl⟩
      · replace h := itn c5 h
        refine wp_aload_n dX0_count_42 rfl ?_
        refine cp_getI (y := 0) (f := 0) (by decide) (by decide) rfl rfl fl_X0_9 dX0_count_43 ?_
        refine wp_iconst (v := 2) dX0_count_46 (by decide) ?_
        refine wp_icmp_ne (tgt := 60) dX0_count_47 (by decide) (fun c10 => ?_) (fun c10 => ?_)
        · replace h := itn c10 h
          obtain ⟨q1, q2, q3⟩ := cs_e h
          clear q1
          subst q2
          exact wp_return rfl dX0_count_60 ⟨rfl, rfl⟩
        · replace h := itp c10 h
          refine wp_aload_n dX0_count_50 rfl ?_
          refine wp_iconst (v := 1) dX0_count_51 (by decide) ?_
          obtain ⟨m11, e12, h⟩ := wr_e h
          refine cp_putI (y := 0) (f := 0) e12 (by decide) (by decide) rfl rfl (Or.inl rfl) fl_X0_9 dX0_count_52 rfl ?_
          refine wp_aload_n dX0_count_55 rfl ?_
          refine wp_iload_n dX0_count_56 rfl ?_
          obtain ⟨m13, e14, h⟩ := wr_e h
          refine cp_putI (y := 2) (f := 2) e14 (by decide) (by decide) rfl rfl (Or.inl rfl) fl_X0_18 dX0_count_57 rfl ?_
          obtain ⟨q1, q2, q3⟩ := cs_e h
          clear q1
          subst q2
          exact wp_return rfl dX0_count_60 ⟨rfl, rfl⟩
    · replace h := itn c2 h
      refine wp_aload_n dX0_count_13 rfl ?_
      refine wp_iconst (v := 0) dX0_count_14 (by decide) ?_
      obtain ⟨m15, e16, h⟩ := wr_e h
      refine cp_putI (y := 0) (f := 0) e16 (by decide) (by decide) rfl rfl (Or.inl rfl) fl_X0_9 dX0_count_15 rfl ?_
      refine wp_aload_n dX0_count_18 rfl ?_
      refine wp_iconst (v := 0) dX0_count_19 (by decide) ?_
      obtain ⟨m17, e18, h⟩ := wr_e h
      refine cp_putI (y := 1) (f := 1) e18 (by decide) (by decide) rfl rfl (Or.inl rfl) fl_X0_15 dX0_count_20 rfl ?_
      obtain ⟨q1, q2, q3⟩ := cs_e h
      clear q1
      subst q2
      exact wp_return rfl dX0_count_23 ⟨rfl, rfl⟩
  · replace h := itp c1 h
    obtain ⟨q1, q2, q3⟩ := cs_e h
    clear q1
    subst q2
    exact wp_return rfl dX0_count_8 ⟨rfl, rfl⟩
def f8_X3_judge (i0 : Nat) (x1 : Int32) (x2 : Int32) (m : CM) : CR (Int32) :=
  if (gI m 384 i0) = 0 then
    some (0, m, 0)
  else
    od (gR m 386 i0) fun j2 =>
    if vq (x1) 2 then
    wr (sA m 35 j2 (x1).toNatClampNeg (((gA m 35 j2 (x1).toNatClampNeg) + 1))) fun m5 =>
    if x2 = 0 then
      od (gR m5 387 i0) fun j8 =>
      wr (sA m5 36 j8 (x1).toNatClampNeg (((gA m5 36 j8 (x1).toNatClampNeg) + 1))) fun m10 =>
      od (gR m10 387 i0) fun j12 =>
      od (gR m10 386 i0) fun j14 =>
      if ((gA m10 36 j12 (1 : Int32).toNatClampNeg) * (gA m10 35 j14 (0 : Int32).toNatClampNeg)) ≤ ((2 * (gA m10 36 j12 (0 : Int32).toNatClampNeg)) * (gA m10 35 j14 (1 : Int32).toNatClampNeg)) then
        if (gA m10 35 j14 (1 : Int32).toNatClampNeg) < 5 then
          some (0, m10, 0)
        else
          if (gA m10 36 j12 (1 : Int32).toNatClampNeg) < 2 then
            some (0, m10, 0)
          else
            some (0, m10, 0)
      else
        if (gA m10 35 j14 (1 : Int32).toNatClampNeg) < 5 then
          some (0, m10, 0)
        else
          if (gA m10 36 j12 (1 : Int32).toNatClampNeg) < 2 then
            some (0, m10, 0)
          else
            wr (sI m10 384 i0 (0)) fun m21 =>
            some (0, m21, 0)
    else
      od (gR m5 387 i0) fun j23 =>
      od (gR m5 386 i0) fun j25 =>
      if ((gA m5 36 j23 (1 : Int32).toNatClampNeg) * (gA m5 35 j25 (0 : Int32).toNatClampNeg)) ≤ ((2 * (gA m5 36 j23 (0 : Int32).toNatClampNeg)) * (gA m5 35 j25 (1 : Int32).toNatClampNeg)) then
        if (gA m5 35 j25 (1 : Int32).toNatClampNeg) < 5 then
          some (0, m5, 0)
        else
          if (gA m5 36 j23 (1 : Int32).toNatClampNeg) < 2 then
            some (0, m5, 0)
          else
            some (0, m5, 0)
      else
        if (gA m5 35 j25 (1 : Int32).toNatClampNeg) < 5 then
          some (0, m5, 0)
        else
          if (gA m5 36 j23 (1 : Int32).toNatClampNeg) < 2 then
            some (0, m5, 0)
          else
            wr (sI m5 384 i0 (0)) fun m32 =>
            some (0, m32, 0)
    else none
theorem w8_X3_judge {r : Int32} {m9 : CM} {i0 : Nat} {x1 : Int32} {x2 : Int32} {m : CM} {n9 : Nat} (h : f8_X3_judge i0 x1 x2 m = some (r, m9, n9)) : Spec mX3_judge (0) n9 [vR 3 (i0), vI (x1), vI (x2)] (cM m out rho) (Pc out rho none m9) NX := by
  unfold f8_X3_judge at h
  refine spec_of (by decide) rfl (by simp [catS, cat1]) (Nat.le_of_ble_eq_true rfl) ?_
  show WP mX3_judge (0) n9 0 [some (vR 3 (i0)), some (vI (x1)), some (vI (x2)), none] [] (cM m out rho) (Pc out rho none m9) NX
  refine wp_aload_n dX3_judge_0 rfl ?_
  refine cp_getI (y := 0) (f := 384) (by decide) (by decide) rfl rfl fl_X3_18 dX3_judge_1 ?_
  refine wp_if_ne (tgt := 8) dX3_judge_4 (by decide) (fun c1 => ?_) (fun c1 => ?_)
  · replace h := itn c1 h
    refine wp_aload_n dX3_judge_8 rfl ?_
    obtain ⟨j2, ho3, h⟩ := od_e h
    refine cp_getS (y := 2) (f := 386) (t := 35) (by decide) (by decide) rfl rfl fl_X3_9 dX3_judge_9 ho3 ?_
    refine wp_iload_n dX3_judge_12 rfl ?_
    refine wp_dup2 dX3_judge_13 trivial trivial ?_
    obtain ⟨c4, h⟩ := ock h
    refine cp_iald (c := 35) rfl (by decide) (show vp_in (x1) (len 35) from c4) dX3_judge_14 ?_
    refine wp_iconst (v := 1) dX3_judge_15 (by decide) ?_
    refine wp_iadd dX3_judge_16 ?_
    obtain ⟨m5, e6, h⟩ := wr_e h
    refine cp_iast (c := 35) e6 rfl (by decide) (show vp_in (x1) (len 35) from c4) dX3_judge_17 ?_
    refine wp_iload_n dX3_judge_18 rfl ?_
    refine wp_if_ne (tgt := 32) dX3_judge_19 (by decide) (fun c7 => ?_) (fun c7 => ?_)
    · replace h := itn c7 h
      refine wp_aload_n dX3_judge_32 rfl ?_
      obtain ⟨j23, ho24, h⟩ := od_e h
      refine cp_getS (y := 3) (f := 387) (t := 36) (by decide) (by decide) rfl rfl fl_X3_15 dX3_judge_33 ho24 ?_
      refine wp_iconst (v := 1) dX3_judge_36 (by decide) ?_
      refine cp_iald (c := 36) rfl (by decide) (show vp_in (1) (len 36) from (by decide : vq (1) 2)) dX3_judge_37 ?_
      refine wp_aload_n dX3_judge_38 rfl ?_
      obtain ⟨j25, ho26, h⟩ := od_e h
      refine cp_getS (y := 2) (f := 386) (t := 35) (by decide) (by decide) rfl rfl fl_X3_9 dX3_judge_39 ho26 ?_
      refine wp_iconst (v := 0) dX3_judge_42 (by decide) ?_
      refine cp_iald (c := 35) rfl (by decide) (show vp_in (0) (len 35) from (by decide : vq (0) 2)) dX3_judge_43 ?_
      refine wp_imul dX3_judge_44 ?_
      refine wp_iconst (v := 2) dX3_judge_45 (by decide) ?_
      refine wp_aload_n dX3_judge_46 rfl ?_
      refine cp_getS (y := 3) (f := 387) (t := 36) (by decide) (by decide) rfl rfl fl_X3_15 dX3_judge_47 ho24 ?_
      refine wp_iconst (v := 0) dX3_judge_50 (by decide) ?_
      refine cp_iald (c := 36) rfl (by decide) (show vp_in (0) (len 36) from (by decide : vq (0) 2)) dX3_judge_51 ?_
      refine wp_imul dX3_judge_52 ?_
      refine wp_aload_n dX3_judge_53 rfl ?_
      refine cp_getS (y := 2) (f := 386) (t := 35) (by decide) (by decide) rfl rfl fl_X3_9 dX3_judge_54 ho26 ?_
      refine wp_iconst (v := 1) dX3_judge_57 (by decide) ?_
      refine cp_iald (c := 35) rfl (by decide) (show vp_in (1) (len 35) from (by decide : vq (1) 2)) dX3_judge_58 ?_
      refine wp_imul dX3_judge_59 ?_
      refine wp_icmp_le (tgt := 67) dX3_judge_60 (by decide) (fun c27 => ?_) (fun c27 => ?_)
      · replace h := itp c27 h
        refine wp_iconst (v := 0) dX3_judge_67 (by decide) ?_
        refine wp_istore_n (L' := [some (vR 3 (i0)), some (vI (x1)), some (vI (x2)), some (vI (0))]) dX3_judge_68 rfl rfl ?_
        refine wp_aload_n dX3_judge_69 rfl ?_
        refine cp_getS (y := 2) (f := 386) (t := 35) (by decide) (by decide) rfl rfl fl_X3_9 dX3_judge_70 ho26 ?_
        refine wp_iconst (v := 1) dX3_judge_73 (by decide) ?_
        refine cp_iald (c := 35) rfl (by decide) (show vp_in (1) (len 35) from (by decide : vq (1) 2)) dX3_judge_74 ?_
        refine wp_iconst (v := 5) dX3_judge_75 (by decide) ?_
        refine wp_icmp_lt (tgt := 98) dX3_judge_76 (by decide) (fun c28 => ?_) (fun c28 => ?_)
        · replace h := itp c28 h
          obtain ⟨q1, q2, q3⟩ := cs_e h
          clear q1
          subst q2
          exact wp_return rfl dX3_judge_98 ⟨rfl, rfl⟩
        · replace h := itn c28 h
          refine wp_aload_n dX3_judge_79 rfl ?_
          refine cp_getS (y := 3) (f := 387) (t := 36) (by decide) (by decide) rfl rfl fl_X3_15 dX3_judge_80 ho24 ?_
          refine wp_iconst (v := 1) dX3_judge_83 (by decide) ?_
          refine cp_iald (c := 36) rfl (by decide) (show vp_in (1) (len 36) from (by decide : vq (1) 2)) dX3_judge_84 ?_
          refine wp_iconst (v := 2) dX3_judge_85 (by decide) ?_
          refine wp_icmp_lt (tgt := 98) dX3_judge_86 (by decide) (fun c29 => ?_) (fun c29 => ?_)
          · replace h := itp c29 h
            obtain ⟨q1, q2, q3⟩ := cs_e h
            clear q1
            subst q2
            exact wp_return rfl dX3_judge_98 ⟨rfl, rfl⟩
          · replace h := itn c29 h
            refine wp_iload_n dX3_judge_89 rfl ?_
            refine wp_if_eq (tgt := 98) dX3_judge_90 (by decide) (fun _ => ?_) (fun z => absurd (by decide) z)
            obtain ⟨q1, q2, q3⟩ := cs_e h
            clear q1
            subst q2
            exact wp_return rfl dX3_judge_98 ⟨rfl, rfl⟩
      · replace h := itn c27 h
        refine wp_iconst (v := 1) dX3_judge_63 (by decide) ?_
        refine wp_goto (tgt := 68) dX3_judge_64 (by decide) ?_
        refine wp_istore_n (L' := [some (vR 3 (i0)), some (vI (x1)), some (vI (x2)), some (vI (1))]) dX3_judge_68 rfl rfl ?_
        refine wp_aload_n dX3_judge_69 rfl ?_
        refine cp_getS (y := 2) (f := 386) (t := 35) (by decide) (by decide) rfl rfl fl_X3_9 dX3_judge_70 ho26 ?_
        refine wp_iconst (v := 1) dX3_judge_73 (by decide) ?_
        refine cp_iald (c := 35) rfl (by decide) (show vp_in (1) (len 35) from (by decide : vq (1) 2)) dX3_judge_74 ?_
        refine wp_iconst (v := 5) dX3_judge_75 (by decide) ?_
        refine wp_icmp_lt (tgt := 98) dX3_judge_76 (by decide) (fun c30 => ?_) (fun c30 => ?_)
        · replace h := itp c30 h
          obtain ⟨q1, q2, q3⟩ := cs_e h
          clear q1
          subst q2
          exact wp_return rfl dX3_judge_98 ⟨rfl, rfl⟩
        · replace h := itn c30 h
          refine wp_aload_n dX3_judge_79 rfl ?_
          refine cp_getS (y := 3) (f := 387) (t := 36) (by decide) (by decide) rfl rfl fl_X3_15 dX3_judge_80 ho24 ?_
          refine wp_iconst (v := 1) dX3_judge_83 (by decide) ?_
          refine cp_iald (c := 36) rfl (by decide) (show vp_in (1) (len 36) from (by decide : vq (1) 2)) dX3_judge_84 ?_
          refine wp_iconst (v := 2) dX3_judge_85 (by decide) ?_
          refine wp_icmp_lt (tgt := 98) dX3_judge_86 (by decide) (fun c31 => ?_) (fun c31 => ?_)
          · replace h := itp c31 h
            obtain ⟨q1, q2, q3⟩ := cs_e h
            clear q1
            subst q2
            exact wp_return rfl dX3_judge_98 ⟨rfl, rfl⟩
          · replace h := itn c31 h
            refine wp_iload_n dX3_judge_89 rfl ?_
            refine wp_if_eq (tgt := 98) dX3_judge_90 (by decide) (fun z => absurd z (by decide)) (fun _ => ?_)
            refine wp_aload_n dX3_judge_93 rfl ?_
            refine wp_iconst (v := 0) dX3_judge_94 (by decide) ?_
            obtain ⟨m32, e33, h⟩ := wr_e h
            refine cp_putI (y := 0) (f := 384) e33 (by decide) (by decide) rfl rfl (Or.inl rfl) fl_X3_18 dX3_judge_95 rfl ?_
            obtain ⟨q1, q2, q3⟩ := cs_e h
            clear q1
            subst q2
            exact wp_return rfl dX3_judge_98 ⟨rfl, rfl⟩
    · replace h := itp c7 h
      refine wp_aload_n dX3_judge_22 rfl ?_
      obtain ⟨j8, ho9, h⟩ := od_e h
      refine cp_getS (y := 3) (f := 387) (t := 36) (by decide) (by decide) rfl rfl fl_X3_15 dX3_judge_23 ho9 ?_
      refine wp_iload_n dX3_judge_26 rfl ?_
      refine wp_dup2 dX3_judge_27 trivial trivial ?_
      refine cp_iald (c := 36) rfl (by decide) (show vp_in (x1) (len 36) from c4) dX3_judge_28 ?_
      refine wp_iconst (v := 1) dX3_judge_29 (by decide) ?_
      refine wp_iadd dX3_judge_30 ?_
      obtain ⟨m10, e11, h⟩ := wr_e h
      refine cp_iast (c := 36) e11 rfl (by decide) (show vp_in (x1) (len 36) from c4) dX3_judge_31 ?_
      refine wp_aload_n dX3_judge_32 rfl ?_
      obtain ⟨j12, ho13, h⟩ := od_e h
      refine cp_getS (y := 3) (f := 387) (t := 36) (by decide) (by decide) rfl rfl fl_X3_15 dX3_judge_33 ho13 ?_
      refine wp_iconst (v := 1) dX3_judge_36 (by decide) ?_
      refine cp_iald (c := 36) rfl (by decide) (show vp_in (1) (len 36) from (by decide : vq (1) 2)) dX3_judge_37 ?_
      refine wp_aload_n dX3_judge_38 rfl ?_
      obtain ⟨j14, ho15, h⟩ := od_e h
      refine cp_getS (y := 2) (f := 386) (t := 35) (by decide) (by decide) rfl rfl fl_X3_9 dX3_judge_39 ho15 ?_
      refine wp_iconst (v := 0) dX3_judge_42 (by decide) ?_
      refine cp_iald (c := 35) rfl (by decide) (show vp_in (0) (len 35) from (by decide : vq (0) 2)) dX3_judge_43 ?_
      refine wp_imul dX3_judge_44 ?_
      refine wp_iconst (v := 2) dX3_judge_45 (by decide) ?_
      refine wp_aload_n dX3_judge_46 rfl ?_
      refine cp_getS (y := 3) (f := 387) (t := 36) (by decide) (by decide) rfl rfl fl_X3_15 dX3_judge_47 ho13 ?_
      refine wp_iconst (v := 0) dX3_judge_50 (by decide) ?_
      refine cp_iald (c := 36) rfl (by decide) (show vp_in (0) (len 36) from (by decide : vq (0) 2)) dX3_judge_51 ?_
      refine wp_imul dX3_judge_52 ?_
      refine wp_aload_n dX3_judge_53 rfl ?_
      refine cp_getS (y := 2) (f := 386) (t := 35) (by decide) (by decide) rfl rfl fl_X3_9 dX3_judge_54 ho15 ?_
      refine wp_iconst (v := 1) dX3_judge_57 (by decide) ?_
      refine cp_iald (c := 35) rfl (by decide) (show vp_in (1) (len 35) from (by decide : vq (1) 2)) dX3_judge_58 ?_
      refine wp_imul dX3_judge_59 ?_
      refine wp_icmp_le (tgt := 67) dX3_judge_60 (by decide) (fun c16 => ?_) (fun c16 => ?_)
      · replace h := itp c16 h
        refine wp_iconst (v := 0) dX3_judge_67 (by decide) ?_
        refine wp_istore_n (L' := [some (vR 3 (i0)), some (vI (x1)), some (vI (x2)), some (vI (0))]) dX3_judge_68 rfl rfl ?_
        refine wp_aload_n dX3_judge_69 rfl ?_
        refine cp_getS (y := 2) (f := 386) (t := 35) (by decide) (by decide) rfl rfl fl_X3_9 dX3_judge_70 ho15 ?_
        refine wp_iconst (v := 1) dX3_judge_73 (by decide) ?_
        refine cp_iald (c := 35) rfl (by decide) (show vp_in (1) (len 35) from (by decide : vq (1) 2)) dX3_judge_74 ?_
        refine wp_iconst (v := 5) dX3_judge_75 (by decide) ?_
        refine wp_icmp_lt (tgt := 98) dX3_judge_76 (by decide) (fun c17 => ?_) (fun c17 => ?_)
        · replace h := itp c17 h
          obtain ⟨q1, q2, q3⟩ := cs_e h
          clear q1
          subst q2
          exact wp_return rfl dX3_judge_98 ⟨rfl, rfl⟩
        · replace h := itn c17 h
          refine wp_aload_n dX3_judge_79 rfl ?_
          refine cp_getS (y := 3) (f := 387) (t := 36) (by decide) (by decide) rfl rfl fl_X3_15 dX3_judge_80 ho13 ?_
          refine wp_iconst (v := 1) dX3_judge_83 (by decide) ?_
          refine cp_iald (c := 36) rfl (by decide) (show vp_in (1) (len 36) from (by decide : vq (1) 2)) dX3_judge_84 ?_
          refine wp_iconst (v := 2) dX3_judge_85 (by decide) ?_
          refine wp_icmp_lt (tgt := 98) dX3_judge_86 (by decide) (fun c18 => ?_) (fun c18 => ?_)
          · replace h := itp c18 h
            obtain ⟨q1, q2, q3⟩ := cs_e h
            clear q1
            subst q2
            exact wp_return rfl dX3_judge_98 ⟨rfl, rfl⟩
          · replace h := itn c18 h
            refine wp_iload_n dX3_judge_89 rfl ?_
            refine wp_if_eq (tgt := 98) dX3_judge_90 (by decide) (fun _ => ?_) (fun z => absurd (by decide) z)
            obtain ⟨q1, q2, q3⟩ := cs_e h
            clear q1
            subst q2
            exact wp_return rfl dX3_judge_98 ⟨rfl, rfl⟩
      · replace h := itn c16 h
        refine wp_iconst (v := 1) dX3_judge_63 (by decide) ?_
        refine wp_goto (tgt := 68) dX3_judge_64 (by decide) ?_
        refine wp_istore_n (L' := [some (vR 3 (i0)), some (vI (x1)), some (vI (x2)), some (vI (1))]) dX3_judge_68 rfl rfl ?_
        refine wp_aload_n dX3_judge_69 rfl ?_
        refine cp_getS (y := 2) (f := 386) (t := 35) (by decide) (by decide) rfl rfl fl_X3_9 dX3_judge_70 ho15 ?_
        refine wp_iconst (v := 1) dX3_judge_73 (by decide) ?_
        refine cp_iald (c := 35) rfl (by decide) (show vp_in (1) (len 35) from (by decide : vq (1) 2)) dX3_judge_74 ?_
        refine wp_iconst (v := 5) dX3_judge_75 (by decide) ?_
        refine wp_icmp_lt (tgt := 98) dX3_judge_76 (by decide) (fun c19 => ?_) (fun c19 => ?_)
        · replace h := itp c19 h
          obtain ⟨q1, q2, q3⟩ := cs_e h
          clear q1
          subst q2
          exact wp_return rfl dX3_judge_98 ⟨rfl, rfl⟩
        · replace h := itn c19 h
          refine wp_aload_n dX3_judge_79 rfl ?_
          refine cp_getS (y := 3) (f := 387) (t := 36) (by decide) (by decide) rfl rfl fl_X3_15 dX3_judge_80 ho13 ?_
          refine wp_iconst (v := 1) dX3_judge_83 (by decide) ?_
          refine cp_iald (c := 36) rfl (by decide) (show vp_in (1) (len 36) from (by decide : vq (1) 2)) dX3_judge_84 ?_
          refine wp_iconst (v := 2) dX3_judge_85 (by decide) ?_
          refine wp_icmp_lt (tgt := 98) dX3_judge_86 (by decide) (fun c20 => ?_) (fun c20 => ?_)
          · replace h := itp c20 h
            obtain ⟨q1, q2, q3⟩ := cs_e h
            clear q1
            subst q2
            exact wp_return rfl dX3_judge_98 ⟨rfl, rfl⟩
          · replace h := itn c20 h
            refine wp_iload_n dX3_judge_89 rfl ?_
            refine wp_if_eq (tgt := 98) dX3_judge_90 (by decide) (fun z => absurd z (by decide)) (fun _ => ?_)
            refine wp_aload_n dX3_judge_93 rfl ?_
            refine wp_iconst (v := 0) dX3_judge_94 (by decide) ?_
            obtain ⟨m21, e22, h⟩ := wr_e h
            refine cp_putI (y := 0) (f := 384) e22 (by decide) (by decide) rfl rfl (Or.inl rfl) fl_X3_18 dX3_judge_95 rfl ?_
            obtain ⟨q1, q2, q3⟩ := cs_e h
            clear q1
            subst q2
            exact wp_return rfl dX3_judge_98 ⟨rfl, rfl⟩
  · replace h := itp c1 h
    obtain ⟨q1, q2, q3⟩ := cs_e h
    clear q1
    subst q2
    exact wp_return rfl dX3_judge_7 ⟨rfl, rfl⟩
def l8_X4_release_29 : Nat → Nat → Nat → Int32 → CM → CR (Int32)
  | 0, _, _, _, _ => none
  | n + 1, i0, i1, x2, m =>
  od (gR m 522 i0) fun j1 =>
  if (nI (gL m 54 j1).length) ≤ x2 then
    some (0, m, 0)
  else
    if ¬ x2 < 0 then
    od ((gL m 54 j1)[(x2).toNatClampNeg]?) fun j5 =>
    if j5 = i1 then
      wr (sL m 54 j1 ((gL m 54 j1).eraseIdx (x2).toNatClampNeg)) fun m8 =>
      some (0, m8, 0)
    else
      l8_X4_release_29 n (i0) (i1) (x2 + 1) m
    else none
theorem w8_X4_release_29 {r : Int32} {m9 : CM} : ∀ (n : Nat) {i0 : Nat} {i1 : Nat} {x2 : Int32} {m : CM} {n9 : Nat}, l8_X4_release_29 n i0 i1 x2 m = some (r, m9, n9) → WP mX4_release (8) n9 29 [some (vR 4 (i0)), some (vR 1 (i1)), some (vI (x2))] [] (cM m out rho) (Pc out rho none m9) NX := by
  intro n
  induction n with
  | zero =>
    intro i0 i1 x2  m n9 h
    rw [l8_X4_release_29] at h
    cases h
  | succ n ih =>
    intro i0 i1 x2  m n9 h
    rw [l8_X4_release_29] at h
    refine wp_iload_n dX4_release_29 rfl ?_
    refine wp_aload_n dX4_release_30 rfl ?_
    obtain ⟨j1, ho2, h⟩ := od_e h
    refine cp_getS (y := 10) (f := 522) (t := 54) (by decide) (by decide) rfl rfl fl_X4_27 dX4_release_31 ho2 ?_
    refine cp_size (c := 54) rfl (by decide) ml_X4_60 dX4_release_34 (Nat.le_of_ble_eq_true rfl) ?_
    refine wp_icmp_ge (tgt := 68) dX4_release_37 (by decide) (fun c3 => ?_) (fun c3 => ?_)
    · replace h := itp c3 h
      obtain ⟨q1, q2, q3⟩ := cs_e h
      clear q1
      subst q2
      exact wp_return rfl dX4_release_68 ⟨rfl, rfl⟩
    · replace h := itn c3 h
      refine wp_aload_n dX4_release_40 rfl ?_
      refine cp_getS (y := 10) (f := 522) (t := 54) (by decide) (by decide) rfl rfl fl_X4_27 dX4_release_41 ho2 ?_
      refine wp_iload_n dX4_release_44 rfl ?_
      obtain ⟨c4, h⟩ := ock h
      obtain ⟨j5, ho6, h⟩ := od_e h
      refine cp_get (c := 54) (t := 1) rfl rfl (by decide) c4 ho6 ml_X4_73 dX4_release_45 (Nat.le_of_ble_eq_true rfl) ?_
      refine wp_aload_n dX4_release_48 rfl ?_
      refine cp_acmp_ne (c := 1) (tgt := 62) dX4_release_49 (by decide) (by decide) (fun c7 => ?_) (fun c7 => ?_)
      · replace h := itn c7 h
        refine wp_iinc (v := x2 + 1) (L' := [some (vR 4 (i0)), some (vR 1 (i1)), some (vI (x2 + 1))]) dX4_release_62 rfl rfl rfl ?_
        refine wp_goto (tgt := 29) dX4_release_65 (by decide) ?_
        exact ih h
      · replace h := itp c7 h
        refine wp_aload_n dX4_release_52 rfl ?_
        refine cp_getS (y := 10) (f := 522) (t := 54) (by decide) (by decide) rfl rfl fl_X4_27 dX4_release_53 ho2 ?_
        refine wp_iload_n dX4_release_56 rfl ?_
        obtain ⟨m8, e9, h⟩ := wr_e h
        refine cp_remove (c := 54) (t := 1) e9 rfl rfl (by decide) c4 ho6 ml_X4_77 dX4_release_57 (Nat.le_of_ble_eq_true rfl) ?_
        refine wp_pop dX4_release_60 trivial ?_
        obtain ⟨q1, q2, q3⟩ := cs_e h
        clear q1
        subst q2
        exact wp_return rfl dX4_release_61 ⟨rfl, rfl⟩
def f8_X4_release (i0 : Nat) (i1 : Nat) (m : CM) : CR (Int32) :=
  if (gI m 133 i1) = 1 then
    wr (sI m 523 i0 (((gI m 523 i0) - 1))) fun m2 =>
    some (0, m2, 0)
  else
    if (gI m 133 i1) = 2 then
      wr (sI m 523 i0 (((gI m 523 i0) - 1))) fun m5 =>
      some (0, m5, 0)
    else
      l8_X4_release_29 FU (i0) (i1) (0) m
theorem w8_X4_release {r : Int32} {m9 : CM} {i0 : Nat} {i1 : Nat} {m : CM} {n9 : Nat} (h : f8_X4_release i0 i1 m = some (r, m9, n9)) : Spec mX4_release (8) n9 [vR 4 (i0), vR 1 (i1)] (cM m out rho) (Pc out rho none m9) NX := by
  unfold f8_X4_release at h
  refine spec_of (by decide) rfl (by simp [catS, cat1]) (Nat.le_of_ble_eq_true rfl) ?_
  show WP mX4_release (8) n9 0 [some (vR 4 (i0)), some (vR 1 (i1)), none] [] (cM m out rho) (Pc out rho none m9) NX
  refine wp_aload_n dX4_release_0 rfl ?_
  refine cp_getI (y := 5) (f := 133) (by decide) (by decide) rfl rfl fl_X4_70 dX4_release_1 ?_
  refine wp_iconst (v := 1) dX4_release_4 (by decide) ?_
  refine wp_icmp_eq (tgt := 16) dX4_release_5 (by decide) (fun c1 => ?_) (fun c1 => ?_)
  · replace h := itp c1 h
    refine wp_aload_n dX4_release_16 rfl ?_
    refine wp_dup dX4_release_17 trivial ?_
    refine cp_getI (y := 11) (f := 523) (by decide) (by decide) rfl rfl fl_X4_57 dX4_release_18 ?_
    refine wp_iconst (v := 1) dX4_release_21 (by decide) ?_
    refine wp_isub dX4_release_22 ?_
    obtain ⟨m2, e3, h⟩ := wr_e h
    refine cp_putI (y := 11) (f := 523) e3 (by decide) (by decide) rfl rfl (Or.inl rfl) fl_X4_57 dX4_release_23 rfl ?_
    obtain ⟨q1, q2, q3⟩ := cs_e h
    clear q1
    subst q2
    exact wp_return rfl dX4_release_26 ⟨rfl, rfl⟩
  · replace h := itn c1 h
    refine wp_aload_n dX4_release_8 rfl ?_
    refine cp_getI (y := 5) (f := 133) (by decide) (by decide) rfl rfl fl_X4_70 dX4_release_9 ?_
    refine wp_iconst (v := 2) dX4_release_12 (by decide) ?_
    refine wp_icmp_ne (tgt := 27) dX4_release_13 (by decide) (fun c4 => ?_) (fun c4 => ?_)
    · replace h := itn c4 h
      refine wp_iconst (v := 0) dX4_release_27 (by decide) ?_
      refine wp_istore_n (L' := [some (vR 4 (i0)), some (vR 1 (i1)), some (vI (0))]) dX4_release_28 rfl rfl ?_
      exact w8_X4_release_29 FU h
    · replace h := itp c4 h
      refine wp_aload_n dX4_release_16 rfl ?_
      refine wp_dup dX4_release_17 trivial ?_
      refine cp_getI (y := 11) (f := 523) (by decide) (by decide) rfl rfl fl_X4_57 dX4_release_18 ?_
      refine wp_iconst (v := 1) dX4_release_21 (by decide) ?_
      refine wp_isub dX4_release_22 ?_
      obtain ⟨m5, e6, h⟩ := wr_e h
      refine cp_putI (y := 11) (f := 523) e6 (by decide) (by decide) rfl rfl (Or.inl rfl) fl_X4_57 dX4_release_23 rfl ?_
      obtain ⟨q1, q2, q3⟩ := cs_e h
      clear q1
      subst q2
      exact wp_return rfl dX4_release_26 ⟨rfl, rfl⟩
def f8_X1_lastStep (i0 : Nat) (m : CM) : CR (Option Nat) :=
  od (gR m 132 i0) fun j1 =>
  if (if nI (gL m 56 j1).length = 0 then (1 : Int32) else 0) = 0 then
    if ¬ ((nI (gL m 56 j1).length) - 1) < 0 then
    od ((gL m 56 j1)[(((nI (gL m 56 j1).length) - 1)).toNatClampNeg]?) fun j5 =>
    some (some (j5), m, 0)
    else none
  else
    some (none, m, 0)
theorem w8_X1_lastStep {r : Option Nat} {m9 : CM} {i0 : Nat} {m : CM} {n9 : Nat} (h : f8_X1_lastStep i0 m = some (r, m9, n9)) : Spec mX1_lastStep (8) n9 [vR 1 (i0)] (cM m out rho) (Pc out rho (some (vO 7 r)) m9) NX := by
  unfold f8_X1_lastStep at h
  refine spec_of (by decide) rfl (by simp [catS, cat1]) (Nat.le_of_ble_eq_true rfl) ?_
  show WP mX1_lastStep (8) n9 0 [some (vR 1 (i0))] [] (cM m out rho) (Pc out rho (some (vO 7 r)) m9) NX
  refine wp_aload_n dX1_lastStep_0 rfl ?_
  obtain ⟨j1, ho2, h⟩ := od_e h
  refine cp_getS (y := 4) (f := 132) (t := 56) (by decide) (by decide) rfl rfl fl_X1_12 dX1_lastStep_1 ho2 ?_
  refine cp_isEmpty (c := 56) rfl (by decide) ml_X1_46 dX1_lastStep_4 (Nat.le_of_ble_eq_true rfl) ?_
  refine wp_if_eq (tgt := 14) dX1_lastStep_7 (by decide) (fun c3 => ?_) (fun c3 => ?_)
  · replace h := itp c3 h
    refine wp_aload_n dX1_lastStep_14 rfl ?_
    refine cp_getS (y := 4) (f := 132) (t := 56) (by decide) (by decide) rfl rfl fl_X1_12 dX1_lastStep_15 ho2 ?_
    refine wp_aload_n dX1_lastStep_18 rfl ?_
    refine cp_getS (y := 4) (f := 132) (t := 56) (by decide) (by decide) rfl rfl fl_X1_12 dX1_lastStep_19 ho2 ?_
    refine cp_size (c := 56) rfl (by decide) ml_X1_50 dX1_lastStep_22 (Nat.le_of_ble_eq_true rfl) ?_
    refine wp_iconst (v := 1) dX1_lastStep_25 (by decide) ?_
    refine wp_isub dX1_lastStep_26 ?_
    obtain ⟨c4, h⟩ := ock h
    obtain ⟨j5, ho6, h⟩ := od_e h
    refine cp_get (c := 56) (t := 7) rfl rfl (by decide) c4 ho6 ml_X1_54 dX1_lastStep_27 (Nat.le_of_ble_eq_true rfl) ?_
    refine cp_cast (c := 7) (by decide) kl_X1_58 dX1_lastStep_30 ?_
    obtain ⟨q1, q2, q3⟩ := cs_e h
    subst q1
    subst q2
    exact wp_areturn rfl dX1_lastStep_33 ⟨rfl, rfl⟩
  · replace h := itn c3 h
    refine wp_null dX1_lastStep_10 ?_
    refine wp_goto (tgt := 33) dX1_lastStep_11 (by decide) ?_
    obtain ⟨q1, q2, q3⟩ := cs_e h
    subst q1
    subst q2
    exact wp_areturn rfl dX1_lastStep_33 ⟨rfl, rfl⟩
def l8_X8_beginRepairs_10 : Nat → Nat → Nat → Int32 → CM → CR (Int32)
  | 0, _, _, _, _ => none
  | n + 1, i0, i1, x2, m =>
  if x2 < 0 then
    some (0, m, 0)
  else
    od (gR m 132 i1) fun j2 =>
    if ¬ x2 < 0 then
    od ((gL m 56 j2)[(x2).toNatClampNeg]?) fun j5 =>
    if (gI m 899 j5) = (-1) then
      l8_X8_beginRepairs_10 n (i0) (i1) (x2 + (-1)) m
    else
      if (gI m 910 j5) = 0 then
        l8_X8_beginRepairs_10 n (i0) (i1) (x2 + (-1)) m
      else
        od (gR m 1034 i0) fun j9 =>
        if 100 ≤ (nI (gL m 53 j9).length) then
          l8_X8_beginRepairs_10 n (i0) (i1) (x2 + (-1)) m
        else
          if gV m 7 (4 * (440 + (gL m 53 0).length)) = false then
          cg 1 (
          wr (sN m 7 (4 * (440 + (gL m 53 0).length))) fun m15 =>
          od (gR m15 129 i1) fun j17 =>
          cb (f8_X7_init (4 * (440 + (gL m 53 0).length)) ((gI m15 897 j17)) ((gI m15 899 j5)) (0) m15) fun _ m20 =>
          od (gR m20 1034 i0) fun j25 =>
          wr (sI m20 903 (4 * (440 + (gL m 53 0).length)) ((nI (gL m20 53 j25).length))) fun m27 =>
          od (gR m27 1034 i0) fun j29 =>
          if (gL m27 53 j29).length ≤ 450 then
          cg 1 (
          wr (sL m27 53 j29 (gL m27 53 j29 ++ [(4 * (440 + (gL m 53 0).length))])) fun m34 =>
          l8_X8_beginRepairs_10 n (i0) (i1) (x2 + (-1)) m34)
          else none)
          else none
    else none
theorem w8_X8_beginRepairs_10 {r : Int32} {m9 : CM} : ∀ (n : Nat) {i0 : Nat} {i1 : Nat} {x2 : Int32} {l3 : Option sV} {l4 : Option sV} {m : CM} {n9 : Nat}, l8_X8_beginRepairs_10 n i0 i1 x2 m = some (r, m9, n9) → WP mX8_beginRepairs (9) n9 10 [some (vR 8 (i0)), some (vR 1 (i1)), some (vI (x2)), l3, l4] [] (cM m out rho) (Pc out rho none m9) NX := by
  intro n
  induction n with
  | zero =>
    intro i0 i1 x2 l3 l4 m n9 h
    rw [l8_X8_beginRepairs_10] at h
    cases h
  | succ n ih =>
    intro i0 i1 x2 l3 l4 m n9 h
    rw [l8_X8_beginRepairs_10] at h
    refine wp_iload_n dX8_beginRepairs_10 rfl ?_
    refine wp_if_lt (tgt := 102) dX8_beginRepairs_11 (by decide) (fun c1 => ?_) (fun c1 => ?_)
    · replace h := itp c1 h
      obtain ⟨q1, q2, q3⟩ := cs_e h
      clear q1
      subst q2
      exact wp_return rfl dX8_beginRepairs_102 ⟨rfl, rfl⟩
    · replace h := itn c1 h
      refine wp_aload_n dX8_beginRepairs_14 rfl ?_
      obtain ⟨j2, ho3, h⟩ := od_e h
      refine cp_getS (y := 4) (f := 132) (t := 56) (by decide) (by decide) rfl rfl fl_X8_224 dX8_beginRepairs_15 ho3 ?_
      refine wp_iload_n dX8_beginRepairs_18 rfl ?_
      obtain ⟨c4, h⟩ := ock h
      obtain ⟨j5, ho6, h⟩ := od_e h
      refine cp_get (c := 56) (t := 7) rfl rfl (by decide) c4 ho6 ml_X8_98 dX8_beginRepairs_19 (Nat.le_of_ble_eq_true rfl) ?_
      refine cp_cast (c := 7) (by decide) kl_X8_132 dX8_beginRepairs_22 ?_
      refine wp_astore_n (L' := [some (vR 8 (i0)), some (vR 1 (i1)), some (vI (x2)), some (vR 7 (j5)), l4]) dX8_beginRepairs_25 rfl rfl ?_
      refine wp_aload_n dX8_beginRepairs_26 rfl ?_
      refine cp_getI (y := 3) (f := 899) (by decide) (by decide) rfl rfl fl_X8_317 dX8_beginRepairs_27 ?_
      refine wp_iconst (v := (-1)) dX8_beginRepairs_30 (by decide) ?_
      refine wp_icmp_eq (tgt := 96) dX8_beginRepairs_31 (by decide) (fun c7 => ?_) (fun c7 => ?_)
      · replace h := itp c7 h
        refine wp_iinc (v := x2 + (-1)) (L' := [some (vR 8 (i0)), some (vR 1 (i1)), some (vI (x2 + (-1))), some (vR 7 (j5)), l4]) dX8_beginRepairs_96 rfl rfl rfl ?_
        refine wp_goto (tgt := 10) dX8_beginRepairs_99 (by decide) ?_
        exact ih h
      · replace h := itn c7 h
        refine wp_aload_n dX8_beginRepairs_34 rfl ?_
        refine cp_getI (y := 14) (f := 910) (by decide) (by decide) rfl rfl fl_X8_458 dX8_beginRepairs_35 ?_
        refine wp_if_eq (tgt := 96) dX8_beginRepairs_38 (by decide) (fun c8 => ?_) (fun c8 => ?_)
        · replace h := itp c8 h
          refine wp_iinc (v := x2 + (-1)) (L' := [some (vR 8 (i0)), some (vR 1 (i1)), some (vI (x2 + (-1))), some (vR 7 (j5)), l4]) dX8_beginRepairs_96 rfl rfl rfl ?_
          refine wp_goto (tgt := 10) dX8_beginRepairs_99 (by decide) ?_
          exact ih h
        · replace h := itn c8 h
          refine wp_aload_n dX8_beginRepairs_41 rfl ?_
          obtain ⟨j9, ho10, h⟩ := od_e h
          refine cp_getS (y := 10) (f := 1034) (t := 53) (by decide) (by decide) rfl rfl fl_X8_49 dX8_beginRepairs_42 ho10 ?_
          refine cp_size (c := 53) rfl (by decide) ml_X8_82 dX8_beginRepairs_45 (Nat.le_of_ble_eq_true rfl) ?_
          refine wp_bipush (v := 100) dX8_beginRepairs_48 (by decide) ?_
          refine wp_icmp_ge (tgt := 96) dX8_beginRepairs_50 (by decide) (fun c11 => ?_) (fun c11 => ?_)
          · replace h := itp c11 h
            refine wp_iinc (v := x2 + (-1)) (L' := [some (vR 8 (i0)), some (vR 1 (i1)), some (vI (x2 + (-1))), some (vR 7 (j5)), l4]) dX8_beginRepairs_96 rfl rfl rfl ?_
            refine wp_goto (tgt := 10) dX8_beginRepairs_99 (by decide) ?_
            exact ih h
          · replace h := itn c11 h
            obtain ⟨c12, h⟩ := ock h
            obtain ⟨n13, h, en14⟩ := cg_e h
            rw [← en14]
            obtain ⟨m15, e16, h⟩ := wr_e h
            refine cp_new (c := 7) (i := (4 * (440 + (gL m 53 0).length))) e16 (by decide) c12 kl_X8_132 it_X7 in_X7 dX8_beginRepairs_53 ?_
            refine wp_dup dX8_beginRepairs_56 trivial ?_
            refine wp_aload_n dX8_beginRepairs_57 rfl ?_
            obtain ⟨j17, ho18, h⟩ := od_e h
            refine cp_getS (y := 1) (f := 129) (t := 7) (by decide) (by decide) rfl rfl fl_X8_206 dX8_beginRepairs_58 ho18 ?_
            refine cp_getI (y := 1) (f := 897) (by decide) (by decide) rfl rfl fl_X8_210 dX8_beginRepairs_61 ?_
            refine wp_aload_n dX8_beginRepairs_64 rfl ?_
            refine cp_getI (y := 3) (f := 899) (by decide) (by decide) rfl rfl fl_X8_317 dX8_beginRepairs_65 ?_
            refine wp_iconst (v := 0) dX8_beginRepairs_68 (by decide) ?_
            obtain ⟨r19, m20, n21, n22, hp23, h, en24⟩ := cb_e h
            refine wp_callI (k1 := n21) (k2 := n22) (As := [vI ((gI m15 897 j17)), vI ((gI m15 899 j5)), vI (0)]) (rest := [vR 7 ((4 * (440 + (gL m 53 0).length)))]) (w8_X7_init hp23) okX7_init rfl rfl im_X7_init ml_X8_134 dX8_beginRepairs_69 (by decide) (Nat.le_of_eq en24) rfl (Nat.le_of_ble_eq_true rfl) (fun r' S' z => ?_)
            obtain ⟨rfl, rfl⟩ := z
            show WP _ _ _ _ [some (vR 8 (i0)), some (vR 1 (i1)), some (vI (x2)), some (vR 7 (j5)), l4] [vR 7 ((4 * (440 + (gL m 53 0).length)))] _ _ _
            refine wp_astore (L' := [some (vR 8 (i0)), some (vR 1 (i1)), some (vI (x2)), some (vR 7 (j5)), some (vR 7 ((4 * (440 + (gL m 53 0).length))))]) dX8_beginRepairs_72 rfl rfl ?_
            refine wp_aload dX8_beginRepairs_74 rfl ?_
            refine wp_aload_n dX8_beginRepairs_76 rfl ?_
            obtain ⟨j25, ho26, h⟩ := od_e h
            refine cp_getS (y := 10) (f := 1034) (t := 53) (by decide) (by decide) rfl rfl fl_X8_49 dX8_beginRepairs_77 ho26 ?_
            refine cp_size (c := 53) rfl (by decide) ml_X8_82 dX8_beginRepairs_80 (Nat.le_of_ble_eq_true rfl) ?_
            obtain ⟨m27, e28, h⟩ := wr_e h
            refine cp_putI (y := 7) (f := 903) e28 (by decide) (by decide) rfl rfl (Or.inl rfl) fl_X8_227 dX8_beginRepairs_83 rfl ?_
            refine wp_aload_n dX8_beginRepairs_86 rfl ?_
            obtain ⟨j29, ho30, h⟩ := od_e h
            refine cp_getS (y := 10) (f := 1034) (t := 53) (by decide) (by decide) rfl rfl fl_X8_49 dX8_beginRepairs_87 ho30 ?_
            refine wp_aload dX8_beginRepairs_90 rfl ?_
            obtain ⟨c31, h⟩ := ock h
            obtain ⟨n32, h, en33⟩ := cg_e h
            rw [← en33]
            obtain ⟨m34, e35, h⟩ := wr_e h
            refine cp_add (c := 53) (t := 7) e35 rfl rfl (by decide) c31 ml_X8_91 dX8_beginRepairs_92 (Nat.le_of_ble_eq_true rfl) ?_
            refine wp_pop dX8_beginRepairs_95 trivial ?_
            refine wp_iinc (v := x2 + (-1)) (L' := [some (vR 8 (i0)), some (vR 1 (i1)), some (vI (x2 + (-1))), some (vR 7 (j5)), some (vR 7 ((4 * (440 + (gL m 53 0).length))))]) dX8_beginRepairs_96 rfl rfl rfl ?_
            refine wp_goto (tgt := 10) dX8_beginRepairs_99 (by decide) ?_
            exact ih h
def f8_X8_beginRepairs (i0 : Nat) (i1 : Nat) (m : CM) : CR (Int32) :=
  od (gR m 132 i1) fun j1 =>
  l8_X8_beginRepairs_10 FU (i0) (i1) (((nI (gL m 56 j1).length) - 1)) m
theorem w8_X8_beginRepairs {r : Int32} {m9 : CM} {i0 : Nat} {i1 : Nat} {m : CM} {n9 : Nat} (h : f8_X8_beginRepairs i0 i1 m = some (r, m9, n9)) : Spec mX8_beginRepairs (9) n9 [vR 8 (i0), vR 1 (i1)] (cM m out rho) (Pc out rho none m9) NX := by
  unfold f8_X8_beginRepairs at h
  refine spec_of (by decide) rfl (by simp [catS, cat1]) (Nat.le_of_ble_eq_true rfl) ?_
  show WP mX8_beginRepairs (9) n9 0 [some (vR 8 (i0)), some (vR 1 (i1)), none, none, none] [] (cM m out rho) (Pc out rho none m9) NX
  refine wp_aload_n dX8_beginRepairs_0 rfl ?_
  obtain ⟨j1, ho2, h⟩ := od_e h
  refine cp_getS (y := 4) (f := 132) (t := 56) (by decide) (by decide) rfl rfl fl_X8_224 dX8_beginRepairs_1 ho2 ?_
  refine cp_size (c := 56) rfl (by decide) ml_X8_82 dX8_beginRepairs_4 (Nat.le_of_ble_eq_true rfl) ?_
  refine wp_iconst (v := 1) dX8_beginRepairs_7 (by decide) ?_
  refine wp_isub dX8_beginRepairs_8 ?_
  refine wp_istore_n (L' := [some (vR 8 (i0)), some (vR 1 (i1)), some (vI (((nI (gL m 56 j1).length) - 1))), none, none]) dX8_beginRepairs_9 rfl rfl ?_
  exact w8_X8_beginRepairs_10 FU h
def f8_X1_hasEnded (i0 : Nat) (m : CM) : CR (Int32) :=
  if (gI m 133 i0) < 3 then
    some (0, m, 0)
  else
    some (1, m, 0)
theorem w8_X1_hasEnded {r : Int32} {m9 : CM} {i0 : Nat} {m : CM} {n9 : Nat} (h : f8_X1_hasEnded i0 m = some (r, m9, n9)) : Spec mX1_hasEnded (0) n9 [vR 1 (i0)] (cM m out rho) (Pc out rho (some (vI r)) m9) NX := by
  unfold f8_X1_hasEnded at h
  refine spec_of (by decide) rfl (by simp [catS, cat1]) (Nat.le_of_ble_eq_true rfl) ?_
  show WP mX1_hasEnded (0) n9 0 [some (vR 1 (i0))] [] (cM m out rho) (Pc out rho (some (vI r)) m9) NX
  refine wp_aload_n dX1_hasEnded_0 rfl ?_
  refine cp_getI (y := 5) (f := 133) (by decide) (by decide) rfl rfl fl_X1_18 dX1_hasEnded_1 ?_
  refine wp_iconst (v := 3) dX1_hasEnded_4 (by decide) ?_
  refine wp_icmp_lt (tgt := 12) dX1_hasEnded_5 (by decide) (fun c1 => ?_) (fun c1 => ?_)
  · replace h := itp c1 h
    refine wp_iconst (v := 0) dX1_hasEnded_12 (by decide) ?_
    obtain ⟨q1, q2, q3⟩ := cs_e h
    subst q1
    subst q2
    exact wp_zreturn rfl (by decide) dX1_hasEnded_13 ⟨rfl, rfl⟩
  · replace h := itn c1 h
    refine wp_iconst (v := 1) dX1_hasEnded_8 (by decide) ?_
    refine wp_goto (tgt := 13) dX1_hasEnded_9 (by decide) ?_
    obtain ⟨q1, q2, q3⟩ := cs_e h
    subst q1
    subst q2
    exact wp_zreturn rfl (by decide) dX1_hasEnded_13 ⟨rfl, rfl⟩
def l8_X8_close_17 (E : Nat → Nat → Int32 → Int32 → CM → CR Int32) : Nat → Nat → Nat → Int32 → Int32 → CM → CR (Int32)
  | 0, _, _, _, _, _ => none
  | n + 1, i0, i1, x2, x3, m =>
  od (gR m 905 i1) fun j1 =>
  if (nI (gL m 55 j1).length) ≤ x3 then
    some (0, m, 0)
  else
    if ¬ x3 < 0 then
    od ((gL m 55 j1)[(x3).toNatClampNeg]?) fun j5 =>
    cb (f8_X1_hasEnded j5 m) fun r7 m8 =>
    if r7 = 0 then
      cb (E i0 (j5) (7) (x2) m8) fun _ m15 =>
      l8_X8_close_17 E n (i0) (i1) (x2) (x3 + 1) m15
    else
      l8_X8_close_17 E n (i0) (i1) (x2) (x3 + 1) m8
    else none
theorem w8_X8_close_17 {E : Nat → Nat → Int32 → Int32 → CM → CR Int32} {dE : Nat} (hdE : 8 ≤ dE) (hE : ∀ {i0 i1 : Nat} {x2 x3 : Int32} {m m9 : CM} {r : Int32} {n9 : Nat}, E i0 i1 x2 x3 m = some (r, m9, n9) → Spec mX8_end dE n9 [vR 8 i0, vR 1 i1, vI x2, vI x3] (cM m out rho) (Pc out rho none m9) NX) {r : Int32} {m9 : CM} : ∀ (n : Nat) {i0 : Nat} {i1 : Nat} {x2 : Int32} {x3 : Int32} {l4 : Option sV} {m : CM} {n9 : Nat}, l8_X8_close_17 E n i0 i1 x2 x3 m = some (r, m9, n9) → WP mX8_close (dE + 1) n9 17 [some (vR 8 (i0)), some (vR 7 (i1)), some (vI (x2)), some (vI (x3)), l4] [] (cM m out rho) (Pc out rho none m9) NX := by
  intro n
  induction n with
  | zero =>
    intro i0 i1 x2 x3 l4 m n9 h
    rw [l8_X8_close_17] at h
    cases h
  | succ n ih =>
    intro i0 i1 x2 x3 l4 m n9 h
    rw [l8_X8_close_17] at h
    refine wp_iload_n dX8_close_17 rfl ?_
    refine wp_aload_n dX8_close_18 rfl ?_
    obtain ⟨j1, ho2, h⟩ := od_e h
    refine cp_getS (y := 9) (f := 905) (t := 55) (by decide) (by decide) rfl rfl fl_X8_377 dX8_close_19 ho2 ?_
    refine cp_size (c := 55) rfl (by omega) ml_X8_82 dX8_close_22 (Nat.le_of_ble_eq_true rfl) ?_
    refine wp_icmp_ge (tgt := 64) dX8_close_25 (by decide) (fun c3 => ?_) (fun c3 => ?_)
    · replace h := itp c3 h
      obtain ⟨q1, q2, q3⟩ := cs_e h
      clear q1
      subst q2
      exact wp_return rfl dX8_close_64 ⟨rfl, rfl⟩
    · replace h := itn c3 h
      refine wp_aload_n dX8_close_28 rfl ?_
      refine cp_getS (y := 9) (f := 905) (t := 55) (by decide) (by decide) rfl rfl fl_X8_377 dX8_close_29 ho2 ?_
      refine wp_iload_n dX8_close_32 rfl ?_
      obtain ⟨c4, h⟩ := ock h
      obtain ⟨j5, ho6, h⟩ := od_e h
      refine cp_get (c := 55) (t := 1) rfl rfl (by omega) c4 ho6 ml_X8_98 dX8_close_33 (Nat.le_of_ble_eq_true rfl) ?_
      refine cp_cast (c := 1) (by decide) kl_X8_204 dX8_close_36 ?_
      refine wp_astore (L' := [some (vR 8 (i0)), some (vR 7 (i1)), some (vI (x2)), some (vI (x3)), some (vR 1 (j5))]) dX8_close_39 rfl rfl ?_
      refine wp_aload dX8_close_41 rfl ?_
      obtain ⟨r7, m8, n9, n10, hp11, h, en12⟩ := cb_e h
      refine wp_callV (k1 := n9) (k2 := n10) (As := []) (rest := []) (w8_X1_hasEnded hp11) okX1_hasEnded ivX1_hasEnded rfl (by decide) ml_X8_282 dX8_close_43 rfl (by omega) (Nat.le_of_eq en12) rfl (Nat.le_of_ble_eq_true rfl) (fun _ _ z => z.elim) (fun r' S' z => ?_)
      obtain ⟨rfl, rfl⟩ := z
      show WP _ _ _ _ [some (vR 8 (i0)), some (vR 7 (i1)), some (vI (x2)), some (vI (x3)), some (vR 1 (j5))] [vI (r7)] _ _ _
      refine wp_if_ne (tgt := 58) dX8_close_46 (by decide) (fun c13 => ?_) (fun c13 => ?_)
      · replace h := itn c13 h
        refine wp_iinc (v := x3 + 1) (L' := [some (vR 8 (i0)), some (vR 7 (i1)), some (vI (x2)), some (vI (x3 + 1)), some (vR 1 (j5))]) dX8_close_58 rfl rfl rfl ?_
        refine wp_goto (tgt := 17) dX8_close_61 (by decide) ?_
        exact ih h
      · replace h := itp c13 h
        refine wp_aload_n dX8_close_49 rfl ?_
        refine wp_aload dX8_close_50 rfl ?_
        refine wp_bipush (v := 7) dX8_close_52 (by decide) ?_
        refine wp_iload_n dX8_close_54 rfl ?_
        obtain ⟨r14, m15, n16, n17, hp18, h, en19⟩ := cb_e h
        refine wp_callV (k1 := n16) (k2 := n17) (As := [vR 1 (j5), vI (7), vI (x2)]) (rest := []) (hE hp18) okX8_end ivX8_end rfl (by decide) ml_X8_285 dX8_close_55 rfl (by omega) (Nat.le_of_eq en19) rfl (Nat.le_of_ble_eq_true rfl) (fun _ _ z => z.elim) (fun r' S' z => ?_)
        obtain ⟨rfl, rfl⟩ := z
        show WP _ _ _ _ [some (vR 8 (i0)), some (vR 7 (i1)), some (vI (x2)), some (vI (x3)), some (vR 1 (j5))] [] _ _ _
        refine wp_iinc (v := x3 + 1) (L' := [some (vR 8 (i0)), some (vR 7 (i1)), some (vI (x2)), some (vI (x3 + 1)), some (vR 1 (j5))]) dX8_close_58 rfl rfl rfl ?_
        refine wp_goto (tgt := 17) dX8_close_61 (by decide) ?_
        exact ih h
def f8_X8_close (E : Nat → Nat → Int32 → Int32 → CM → CR Int32) (i0 : Nat) (i1 : Nat) (x2 : Int32) (m : CM) : CR (Int32) :=
  if (gI m 911 i1) = 8 then
    wr (sI m 911 i1 (7)) fun m2 =>
    l8_X8_close_17 E FU (i0) (i1) (x2) (0) m2
  else
    l8_X8_close_17 E FU (i0) (i1) (x2) (0) m
theorem w8_X8_close {E : Nat → Nat → Int32 → Int32 → CM → CR Int32} {dE : Nat} (hdE : 8 ≤ dE) (hE : ∀ {i0 i1 : Nat} {x2 x3 : Int32} {m m9 : CM} {r : Int32} {n9 : Nat}, E i0 i1 x2 x3 m = some (r, m9, n9) → Spec mX8_end dE n9 [vR 8 i0, vR 1 i1, vI x2, vI x3] (cM m out rho) (Pc out rho none m9) NX) {r : Int32} {m9 : CM} {i0 : Nat} {i1 : Nat} {x2 : Int32} {m : CM} {n9 : Nat} (h : f8_X8_close E i0 i1 x2 m = some (r, m9, n9)) : Spec mX8_close (dE + 1) n9 [vR 8 (i0), vR 7 (i1), vI (x2)] (cM m out rho) (Pc out rho none m9) NX := by
  unfold f8_X8_close at h
  refine spec_of (by decide) rfl (by simp [catS, cat1]) (Nat.le_of_ble_eq_true rfl) ?_
  show WP mX8_close (dE + 1) n9 0 [some (vR 8 (i0)), some (vR 7 (i1)), some (vI (x2)), none, none] [] (cM m out rho) (Pc out rho none m9) NX
  refine wp_aload_n dX8_close_0 rfl ?_
  refine cp_getI (y := 15) (f := 911) (by decide) (by decide) rfl rfl fl_X8_249 dX8_close_1 ?_
  refine wp_bipush (v := 8) dX8_close_4 (by decide) ?_
  refine wp_icmp_ne (tgt := 15) dX8_close_6 (by decide) (fun c1 => ?_) (fun c1 => ?_)
  · replace h := itn c1 h
    refine wp_iconst (v := 0) dX8_close_15 (by decide) ?_
    refine wp_istore_n (L' := [some (vR 8 (i0)), some (vR 7 (i1)), some (vI (x2)), some (vI (0)), none]) dX8_close_16 rfl rfl ?_
    exact w8_X8_close_17 hdE hE FU h
  · replace h := itp c1 h
    refine wp_aload_n dX8_close_9 rfl ?_
    refine wp_bipush (v := 7) dX8_close_10 (by decide) ?_
    obtain ⟨m2, e3, h⟩ := wr_e h
    refine cp_putI (y := 15) (f := 911) e3 (by decide) (by decide) rfl rfl (Or.inl rfl) fl_X8_249 dX8_close_12 rfl ?_
    refine wp_iconst (v := 0) dX8_close_15 (by decide) ?_
    refine wp_istore_n (L' := [some (vR 8 (i0)), some (vR 7 (i1)), some (vI (x2)), some (vI (0)), none]) dX8_close_16 rfl rfl ?_
    exact w8_X8_close_17 hdE hE FU h
def f8_X8_end : Nat → Nat → Nat → Int32 → Int32 → CM → CR (Int32)
  | 0, _, _, _, _, _ => none
  | fe + 1, i0, i1, x2, x3, m =>
  if x3 ≤ 6 then
    od (gR m 130 i1) fun j2 =>
    cb (f8_X4_release j2 (i1) m) fun _ m5 =>
    wr (sI m5 133 i1 (x2)) fun m10 =>
    cb (f8_X1_learnEnd i1 ((gI m10 1024 i0)) m10) fun _ m13 =>
    cb (f8_X1_lastStep i1 m13) fun r18 m19 =>
    if r18 = none then
      if x2 = 3 then
        some (0, m19, 0)
      else
        cb (f8_X8_beginRepairs i0 (i1) m19) fun _ m27 =>
        some (0, m27, 0)
    else
      od (r18) fun j32 =>
      cb (f8_X8_close (f8_X8_end fe) i0 (j32) ((x3 + 1)) m19) fun _ m35 =>
      if x2 = 3 then
        some (0, m35, 0)
      else
        cb (f8_X8_beginRepairs i0 (i1) m35) fun _ m42 =>
        some (0, m42, 0)
  else
    some (0, m, 0)
theorem w8_X8_end {r : Int32} {m9 : CM} : ∀ (n : Nat) {i0 : Nat} {i1 : Nat} {x2 : Int32} {x3 : Int32} {m : CM} {n9 : Nat}, f8_X8_end n i0 i1 x2 x3 m = some (r, m9, n9) → Spec mX8_end (20 + 2 * n) n9 [vR 8 (i0), vR 1 (i1), vI (x2), vI (x3)] (cM m out rho) (Pc out rho none m9) NX := by
  intro n
  induction n generalizing r m9 with
  | zero =>
    intro i0 i1 x2 x3 m n9 h
    rw [f8_X8_end] at h
    cases h
  | succ fe ih =>
    intro i0 i1 x2 x3 m n9 h
    rw [f8_X8_end] at h
    rw [show 20 + 2 * (fe + 1) = 22 + 2 * fe by omega]
    refine spec_of (by decide) rfl (by simp [catS, cat1]) (Nat.le_of_ble_eq_true rfl) ?_
    show WP mX8_end (22 + 2 * fe) n9 0 [some (vR 8 (i0)), some (vR 1 (i1)), some (vI (x2)), some (vI (x3)), none] [] (cM m out rho) (Pc out rho none m9) NX
    refine wp_iload_n dX8_end_0 rfl ?_
    refine wp_bipush (v := 6) dX8_end_1 (by decide) ?_
    refine wp_icmp_le (tgt := 7) dX8_end_3 (by decide) (fun c1 => ?_) (fun c1 => ?_)
    · replace h := itp c1 h
      refine wp_aload_n dX8_end_7 rfl ?_
      obtain ⟨j2, ho3, h⟩ := od_e h
      refine cp_getS (y := 2) (f := 130) (t := 4) (by decide) (by decide) rfl rfl fl_X8_213 dX8_end_8 ho3 ?_
      refine wp_aload_n dX8_end_11 rfl ?_
      obtain ⟨r4, m5, n6, n7, hp8, h, en9⟩ := cb_e h
      refine wp_callV (k1 := n6) (k2 := n7) (As := [vR 1 (i1)]) (rest := []) (w8_X4_release hp8) okX4_release ivX4_release rfl (by decide) ml_X8_464 dX8_end_12 rfl (by omega) (Nat.le_of_eq en9) rfl (Nat.le_of_ble_eq_true rfl) (fun _ _ z => z.elim) (fun r' S' z => ?_)
      obtain ⟨rfl, rfl⟩ := z
      show WP _ _ _ _ [some (vR 8 (i0)), some (vR 1 (i1)), some (vI (x2)), some (vI (x3)), none] [] _ _ _
      refine wp_aload_n dX8_end_15 rfl ?_
      refine wp_iload_n dX8_end_16 rfl ?_
      obtain ⟨m10, e11, h⟩ := wr_e h
      refine cp_putI (y := 5) (f := 133) e11 (by decide) (by decide) rfl rfl (Or.inl rfl) fl_X8_217 dX8_end_17 rfl ?_
      refine wp_aload_n dX8_end_20 rfl ?_
      refine wp_aload_n dX8_end_21 rfl ?_
      refine cp_getI (y := 0) (f := 1024) (by decide) (by decide) rfl rfl fl_X8_140 dX8_end_22 ?_
      obtain ⟨r12, m13, n14, n15, hp16, h, en17⟩ := cb_e h
      refine wp_callV (k1 := n14) (k2 := n15) (As := [vI ((gI m10 1024 i0))]) (rest := []) (w8_X1_learnEnd hp16) okX1_learnEnd ivX1_learnEnd rfl (by decide) ml_X8_455 dX8_end_25 rfl (by omega) (Nat.le_of_eq en17) rfl (Nat.le_of_ble_eq_true rfl) (fun _ _ z => z.elim) (fun r' S' z => ?_)
      obtain ⟨rfl, rfl⟩ := z
      show WP _ _ _ _ [some (vR 8 (i0)), some (vR 1 (i1)), some (vI (x2)), some (vI (x3)), none] [] _ _ _
      refine wp_aload_n dX8_end_28 rfl ?_
      obtain ⟨r18, m19, n20, n21, hp22, h, en23⟩ := cb_e h
      refine wp_callV (k1 := n20) (k2 := n21) (As := []) (rest := []) (w8_X1_lastStep hp22) okX1_lastStep ivX1_lastStep rfl (by decide) ml_X8_292 dX8_end_29 rfl (by omega) (Nat.le_of_eq en23) rfl (Nat.le_of_ble_eq_true rfl) (fun _ _ z => z.elim) (fun r' S' z => ?_)
      obtain ⟨rfl, rfl⟩ := z
      show WP _ _ _ _ [some (vR 8 (i0)), some (vR 1 (i1)), some (vI (x2)), some (vI (x3)), none] [vO 7 (r18)] _ _ _
      refine wp_astore (L' := [some (vR 8 (i0)), some (vR 1 (i1)), some (vI (x2)), some (vI (x3)), some (vO 7 (r18))]) dX8_end_32 rfl rfl ?_
      refine wp_aload dX8_end_34 rfl ?_
      refine cp_ifnull (o := r18) (tgt := 48) dX8_end_36 (by decide) (fun c24 => ?_) (fun c24 => ?_)
      · replace h := itp c24 h
        refine wp_iload_n dX8_end_48 rfl ?_
        refine wp_iconst (v := 3) dX8_end_49 (by decide) ?_
        refine wp_icmp_eq (tgt := 58) dX8_end_50 (by decide) (fun c25 => ?_) (fun c25 => ?_)
        · replace h := itp c25 h
          obtain ⟨q1, q2, q3⟩ := cs_e h
          clear q1
          subst q2
          exact wp_return rfl dX8_end_58 ⟨rfl, rfl⟩
        · replace h := itn c25 h
          refine wp_aload_n dX8_end_53 rfl ?_
          refine wp_aload_n dX8_end_54 rfl ?_
          obtain ⟨r26, m27, n28, n29, hp30, h, en31⟩ := cb_e h
          refine wp_callV (k1 := n28) (k2 := n29) (As := [vR 1 (i1)]) (rest := []) (w8_X8_beginRepairs hp30) okX8_beginRepairs ivX8_beginRepairs rfl (by decide) ml_X8_467 dX8_end_55 rfl (by omega) (Nat.le_of_eq en31) rfl (Nat.le_of_ble_eq_true rfl) (fun _ _ z => z.elim) (fun r' S' z => ?_)
          obtain ⟨rfl, rfl⟩ := z
          show WP _ _ _ _ [some (vR 8 (i0)), some (vR 1 (i1)), some (vI (x2)), some (vI (x3)), some (vO 7 (r18))] [] _ _ _
          obtain ⟨q1, q2, q3⟩ := cs_e h
          clear q1
          subst q2
          exact wp_return rfl dX8_end_58 ⟨rfl, rfl⟩
      · replace h := itn c24 h
        refine wp_aload_n dX8_end_39 rfl ?_
        refine wp_aload dX8_end_40 rfl ?_
        refine wp_iload_n dX8_end_42 rfl ?_
        refine wp_iconst (v := 1) dX8_end_43 (by decide) ?_
        refine wp_iadd dX8_end_44 ?_
        obtain ⟨j32, ho33, h⟩ := od_e h
        rw [ho33]
        show WP _ _ _ _ [some (vR 8 (i0)), some (vR 1 (i1)), some (vI (x2)), some (vI (x3)), some (vR 7 (j32))] [vI ((x3 + 1)), vR 7 (j32), vR 8 (i0)] _ _ _
        obtain ⟨r34, m35, n36, n37, hp38, h, en39⟩ := cb_e h
        refine wp_callV (k1 := n36) (k2 := n37) (As := [vR 7 (j32), vI ((x3 + 1))]) (rest := []) (w8_X8_close (by omega) (fun h => ih h) hp38) okX8_close ivX8_close rfl (by decide) ml_X8_356 dX8_end_45 rfl (by omega) (Nat.le_of_eq en39) rfl (Nat.le_of_ble_eq_true rfl) (fun _ _ z => z.elim) (fun r' S' z => ?_)
        obtain ⟨rfl, rfl⟩ := z
        show WP _ _ _ _ [some (vR 8 (i0)), some (vR 1 (i1)), some (vI (x2)), some (vI (x3)), some (vR 7 (j32))] [] _ _ _
        refine wp_iload_n dX8_end_48 rfl ?_
        refine wp_iconst (v := 3) dX8_end_49 (by decide) ?_
        refine wp_icmp_eq (tgt := 58) dX8_end_50 (by decide) (fun c40 => ?_) (fun c40 => ?_)
        · replace h := itp c40 h
          obtain ⟨q1, q2, q3⟩ := cs_e h
          clear q1
          subst q2
          exact wp_return rfl dX8_end_58 ⟨rfl, rfl⟩
        · replace h := itn c40 h
          refine wp_aload_n dX8_end_53 rfl ?_
          refine wp_aload_n dX8_end_54 rfl ?_
          obtain ⟨r41, m42, n43, n44, hp45, h, en46⟩ := cb_e h
          refine wp_callV (k1 := n43) (k2 := n44) (As := [vR 1 (i1)]) (rest := []) (w8_X8_beginRepairs hp45) okX8_beginRepairs ivX8_beginRepairs rfl (by decide) ml_X8_467 dX8_end_55 rfl (by omega) (Nat.le_of_eq en46) rfl (Nat.le_of_ble_eq_true rfl) (fun _ _ z => z.elim) (fun r' S' z => ?_)
          obtain ⟨rfl, rfl⟩ := z
          show WP _ _ _ _ [some (vR 8 (i0)), some (vR 1 (i1)), some (vI (x2)), some (vI (x3)), some (vR 7 (j32))] [] _ _ _
          obtain ⟨q1, q2, q3⟩ := cs_e h
          clear q1
          subst q2
          exact wp_return rfl dX8_end_58 ⟨rfl, rfl⟩
    · replace h := itn c1 h
      obtain ⟨q1, q2, q3⟩ := cs_e h
      clear q1
      subst q2
      exact wp_return rfl dX8_end_6 ⟨rfl, rfl⟩
def l8_X8_lookAtEnds_2 : Nat → Nat → Nat → Int32 → CM → CR (Int32)
  | 0, _, _, _, _ => none
  | n + 1, i0, i1, x2, m =>
  od (gR m 905 i1) fun j1 =>
  if (nI (gL m 55 j1).length) ≤ x2 then
    some (0, m, 0)
  else
    if (gI m 911 i1) = 8 then
      if ¬ x2 < 0 then
      od ((gL m 55 j1)[(x2).toNatClampNeg]?) fun j6 =>
      if (gI m 137 j6) = 0 then
        cb (f8_X1_isKnown j6 ((gI m 1024 i0)) m) fun r9 m10 =>
        if r9 = 0 then
          l8_X8_lookAtEnds_2 n (i0) (i1) (x2 + 1) m10
        else
          wr (sI m10 137 j6 (1)) fun m16 =>
          wr (sI m16 909 i1 ((gI m16 135 j6))) fun m18 =>
          if (gI m18 135 j6) = 3 then
            od (gR m18 130 j6) fun j21 =>
            od (gR m18 520 j21) fun j23 =>
            if vq ((gI m18 896 i1)) 7 then
            od (gO m18 43 j23 ((gI m18 896 i1)).toNatClampNeg) fun j26 =>
            cb (f8_X0_count j26 (1) ((gI m18 1024 i0)) m18) fun _ m29 =>
            od (gR m29 1029 i0) fun j34 =>
            if vq ((gI m29 897 i1)) 6 then
            od (gO m29 41 j34 ((gI m29 897 i1)).toNatClampNeg) fun j37 =>
            od (gR m29 773 j37) fun j39 =>
            od (gR m29 130 j6) fun j41 =>
            cb (f8_X3_judge j39 ((gI m29 518 j41)) (1) m29) fun _ m44 =>
            wr (sI m44 911 i1 (3)) fun m49 =>
            cb (f8_X8_close (f8_X8_end 8) i0 (i1) (0) m49) fun _ m52 =>
            l8_X8_lookAtEnds_2 n (i0) (i1) (x2 + 1) m52
            else none
            else none
          else
            od (gR m18 130 j6) fun j57 =>
            od (gR m18 520 j57) fun j59 =>
            if vq ((gI m18 896 i1)) 7 then
            od (gO m18 43 j59 ((gI m18 896 i1)).toNatClampNeg) fun j62 =>
            cb (f8_X0_count j62 (0) ((gI m18 1024 i0)) m18) fun _ m65 =>
            od (gR m65 1029 i0) fun j70 =>
            if vq ((gI m65 897 i1)) 6 then
            od (gO m65 41 j70 ((gI m65 897 i1)).toNatClampNeg) fun j73 =>
            od (gR m65 773 j73) fun j75 =>
            od (gR m65 130 j6) fun j77 =>
            cb (f8_X3_judge j75 ((gI m65 518 j77)) (0) m65) fun _ m80 =>
            l8_X8_lookAtEnds_2 n (i0) (i1) (x2 + 1) m80
            else none
            else none
      else
        l8_X8_lookAtEnds_2 n (i0) (i1) (x2 + 1) m
      else none
    else
      some (0, m, 0)
theorem w8_X8_lookAtEnds_2 {r : Int32} {m9 : CM} : ∀ (n : Nat) {i0 : Nat} {i1 : Nat} {x2 : Int32} {l3 : Option sV} {l4 : Option sV} {m : CM} {n9 : Nat}, l8_X8_lookAtEnds_2 n i0 i1 x2 m = some (r, m9, n9) → WP mX8_lookAtEnds (38) n9 2 [some (vR 8 (i0)), some (vR 7 (i1)), some (vI (x2)), l3, l4] [] (cM m out rho) (Pc out rho none m9) NX := by
  intro n
  induction n with
  | zero =>
    intro i0 i1 x2 l3 l4 m n9 h
    rw [l8_X8_lookAtEnds_2] at h
    cases h
  | succ n ih =>
    intro i0 i1 x2 l3 l4 m n9 h
    rw [l8_X8_lookAtEnds_2] at h
    refine wp_iload_n dX8_lookAtEnds_2 rfl ?_
    refine wp_aload_n dX8_lookAtEnds_3 rfl ?_
    obtain ⟨j1, ho2, h⟩ := od_e h
    refine cp_getS (y := 9) (f := 905) (t := 55) (by decide) (by decide) rfl rfl fl_X8_377 dX8_lookAtEnds_4 ho2 ?_
    refine cp_size (c := 55) rfl (by decide) ml_X8_82 dX8_lookAtEnds_7 (Nat.le_of_ble_eq_true rfl) ?_
    refine wp_icmp_ge (tgt := 150) dX8_lookAtEnds_10 (by decide) (fun c3 => ?_) (fun c3 => ?_)
    · replace h := itp c3 h
      obtain ⟨q1, q2, q3⟩ := cs_e h
      clear q1
      subst q2
      exact wp_return rfl dX8_lookAtEnds_150 ⟨rfl, rfl⟩
    · replace h := itn c3 h
      refine wp_aload_n dX8_lookAtEnds_13 rfl ?_
      refine cp_getI (y := 15) (f := 911) (by decide) (by decide) rfl rfl fl_X8_249 dX8_lookAtEnds_14 ?_
      refine wp_bipush (v := 8) dX8_lookAtEnds_17 (by decide) ?_
      refine wp_icmp_ne (tgt := 150) dX8_lookAtEnds_19 (by decide) (fun c4 => ?_) (fun c4 => ?_)
      · replace h := itn c4 h
        obtain ⟨q1, q2, q3⟩ := cs_e h
        clear q1
        subst q2
        exact wp_return rfl dX8_lookAtEnds_150 ⟨rfl, rfl⟩
      · replace h := itp c4 h
        refine wp_aload_n dX8_lookAtEnds_22 rfl ?_
        refine cp_getS (y := 9) (f := 905) (t := 55) (by decide) (by decide) rfl rfl fl_X8_377 dX8_lookAtEnds_23 ho2 ?_
        refine wp_iload_n dX8_lookAtEnds_26 rfl ?_
        obtain ⟨c5, h⟩ := ock h
        obtain ⟨j6, ho7, h⟩ := od_e h
        refine cp_get (c := 55) (t := 1) rfl rfl (by decide) c5 ho7 ml_X8_98 dX8_lookAtEnds_27 (Nat.le_of_ble_eq_true rfl) ?_
        refine cp_cast (c := 1) (by decide) kl_X8_204 dX8_lookAtEnds_30 ?_
        refine wp_astore_n (L' := [some (vR 8 (i0)), some (vR 7 (i1)), some (vI (x2)), some (vR 1 (j6)), l4]) dX8_lookAtEnds_33 rfl rfl ?_
        refine wp_aload_n dX8_lookAtEnds_34 rfl ?_
        refine cp_getI (y := 9) (f := 137) (by decide) (by decide) rfl rfl fl_X8_380 dX8_lookAtEnds_35 ?_
        refine wp_if_ne (tgt := 144) dX8_lookAtEnds_38 (by decide) (fun c8 => ?_) (fun c8 => ?_)
        · replace h := itn c8 h
          refine wp_iinc (v := x2 + 1) (L' := [some (vR 8 (i0)), some (vR 7 (i1)), some (vI (x2 + 1)), some (vR 1 (j6)), l4]) dX8_lookAtEnds_144 rfl rfl rfl ?_
          refine wp_goto (tgt := 2) dX8_lookAtEnds_147 (by decide) ?_
          exact ih h
        · replace h := itp c8 h
          refine wp_aload_n dX8_lookAtEnds_41 rfl ?_
          refine wp_aload_n dX8_lookAtEnds_42 rfl ?_
          refine cp_getI (y := 0) (f := 1024) (by decide) (by decide) rfl rfl fl_X8_140 dX8_lookAtEnds_43 ?_
          obtain ⟨r9, m10, n11, n12, hp13, h, en14⟩ := cb_e h
          refine wp_callV (k1 := n11) (k2 := n12) (As := [vI ((gI m 1024 i0))]) (rest := []) (w8_X1_isKnown hp13) okX1_isKnown ivX1_isKnown rfl (by decide) ml_X8_383 dX8_lookAtEnds_46 rfl (by decide) (Nat.le_of_eq en14) rfl (Nat.le_of_ble_eq_true rfl) (fun _ _ z => z.elim) (fun r' S' z => ?_)
          obtain ⟨rfl, rfl⟩ := z
          show WP _ _ _ _ [some (vR 8 (i0)), some (vR 7 (i1)), some (vI (x2)), some (vR 1 (j6)), l4] [vI (r9)] _ _ _
          refine wp_if_ne (tgt := 55) dX8_lookAtEnds_49 (by decide) (fun c15 => ?_) (fun c15 => ?_)
          · replace h := itn c15 h
            refine wp_aload_n dX8_lookAtEnds_55 rfl ?_
            refine wp_iconst (v := 1) dX8_lookAtEnds_56 (by decide) ?_
            obtain ⟨m16, e17, h⟩ := wr_e h
            refine cp_putB (y := 9) (f := 137) e17 (by decide) (by decide) rfl rfl (Or.inl rfl) fl_X8_380 dX8_lookAtEnds_57 rfl (by decide) ?_
            refine wp_aload_n dX8_lookAtEnds_60 rfl ?_
            refine wp_aload_n dX8_lookAtEnds_61 rfl ?_
            refine cp_getI (y := 7) (f := 135) (by decide) (by decide) rfl rfl fl_X8_386 dX8_lookAtEnds_62 ?_
            obtain ⟨m18, e19, h⟩ := wr_e h
            refine cp_putI (y := 13) (f := 909) e19 (by decide) (by decide) rfl rfl (Or.inl rfl) fl_X8_363 dX8_lookAtEnds_65 rfl ?_
            refine wp_aload_n dX8_lookAtEnds_68 rfl ?_
            refine cp_getI (y := 7) (f := 135) (by decide) (by decide) rfl rfl fl_X8_386 dX8_lookAtEnds_69 ?_
            refine wp_iconst (v := 3) dX8_lookAtEnds_72 (by decide) ?_
            refine wp_icmp_ne (tgt := 80) dX8_lookAtEnds_73 (by decide) (fun c20 => ?_) (fun c20 => ?_)
            · replace h := itn c20 h
              refine wp_iconst (v := 0) dX8_lookAtEnds_80 (by decide) ?_
              refine wp_istore (L' := [some (vR 8 (i0)), some (vR 7 (i1)), some (vI (x2)), some (vR 1 (j6)), some (vI (0))]) dX8_lookAtEnds_81 rfl rfl ?_
              refine wp_aload_n dX8_lookAtEnds_83 rfl ?_
              obtain ⟨j57, ho58, h⟩ := od_e h
              refine cp_getS (y := 2) (f := 130) (t := 4) (by decide) (by decide) rfl rfl fl_X8_213 dX8_lookAtEnds_84 ho58 ?_
              obtain ⟨j59, ho60, h⟩ := od_e h
              refine cp_getS (y := 8) (f := 520) (t := 43) (by decide) (by decide) rfl rfl fl_X8_233 dX8_lookAtEnds_87 ho60 ?_
              refine wp_aload_n dX8_lookAtEnds_90 rfl ?_
              refine cp_getI (y := 0) (f := 896) (by decide) (by decide) rfl rfl fl_X8_273 dX8_lookAtEnds_91 ?_
              obtain ⟨c61, h⟩ := ock h
              obtain ⟨j62, ho63, h⟩ := od_e h
              refine cp_aald (c := 43) (t := 0) rfl (by decide) rfl (show vp_in ((gI m18 896 i1)) (len 43) from c61) dX8_lookAtEnds_94 ho63 ?_
              refine wp_iload dX8_lookAtEnds_95 rfl ?_
              refine wp_aload_n dX8_lookAtEnds_97 rfl ?_
              refine cp_getI (y := 0) (f := 1024) (by decide) (by decide) rfl rfl fl_X8_140 dX8_lookAtEnds_98 ?_
              obtain ⟨r64, m65, n66, n67, hp68, h, en69⟩ := cb_e h
              refine wp_callV (k1 := n66) (k2 := n67) (As := [vI (0), vI ((gI m18 1024 i0))]) (rest := []) (w8_X0_count hp68) okX0_count ivX0_count rfl (by decide) ml_X8_389 dX8_lookAtEnds_101 rfl (by decide) (Nat.le_of_eq en69) rfl (Nat.le_of_ble_eq_true rfl) (fun _ _ z => z.elim) (fun r' S' z => ?_)
              obtain ⟨rfl, rfl⟩ := z
              show WP _ _ _ _ [some (vR 8 (i0)), some (vR 7 (i1)), some (vI (x2)), some (vR 1 (j6)), some (vI (0))] [] _ _ _
              refine wp_aload_n dX8_lookAtEnds_104 rfl ?_
              obtain ⟨j70, ho71, h⟩ := od_e h
              refine cp_getS (y := 5) (f := 1029) (t := 41) (by decide) (by decide) rfl rfl fl_X8_26 dX8_lookAtEnds_105 ho71 ?_
              refine wp_aload_n dX8_lookAtEnds_108 rfl ?_
              refine cp_getI (y := 1) (f := 897) (by decide) (by decide) rfl rfl fl_X8_210 dX8_lookAtEnds_109 ?_
              obtain ⟨c72, h⟩ := ock h
              obtain ⟨j73, ho74, h⟩ := od_e h
              refine cp_aald (c := 41) (t := 6) rfl (by decide) rfl (show vp_in ((gI m65 897 i1)) (len 41) from c72) dX8_lookAtEnds_112 ho74 ?_
              obtain ⟨j75, ho76, h⟩ := od_e h
              refine cp_getS (y := 5) (f := 773) (t := 3) (by decide) (by decide) rfl rfl fl_X8_119 dX8_lookAtEnds_113 ho76 ?_
              refine wp_aload_n dX8_lookAtEnds_116 rfl ?_
              obtain ⟨j77, ho78, h⟩ := od_e h
              refine cp_getS (y := 2) (f := 130) (t := 4) (by decide) (by decide) rfl rfl fl_X8_213 dX8_lookAtEnds_117 ho78 ?_
              refine cp_getI (y := 6) (f := 518) (by decide) (by decide) rfl rfl fl_X8_393 dX8_lookAtEnds_120 ?_
              refine wp_iload dX8_lookAtEnds_123 rfl ?_
              obtain ⟨r79, m80, n81, n82, hp83, h, en84⟩ := cb_e h
              refine wp_callV (k1 := n81) (k2 := n82) (As := [vI ((gI m65 518 j77)), vI (0)]) (rest := []) (w8_X3_judge hp83) okX3_judge ivX3_judge rfl (by decide) ml_X8_396 dX8_lookAtEnds_125 rfl (by decide) (Nat.le_of_eq en84) rfl (Nat.le_of_ble_eq_true rfl) (fun _ _ z => z.elim) (fun r' S' z => ?_)
              obtain ⟨rfl, rfl⟩ := z
              show WP _ _ _ _ [some (vR 8 (i0)), some (vR 7 (i1)), some (vI (x2)), some (vR 1 (j6)), some (vI (0))] [] _ _ _
              refine wp_iload dX8_lookAtEnds_128 rfl ?_
              refine wp_if_eq (tgt := 144) dX8_lookAtEnds_130 (by decide) (fun _ => ?_) (fun z => absurd (by decide) z)
              refine wp_iinc (v := x2 + 1) (L' := [some (vR 8 (i0)), some (vR 7 (i1)), some (vI (x2 + 1)), some (vR 1 (j6)), some (vI (0))]) dX8_lookAtEnds_144 rfl rfl rfl ?_
              refine wp_goto (tgt := 2) dX8_lookAtEnds_147 (by decide) ?_
              exact ih h
            · replace h := itp c20 h
              refine wp_iconst (v := 1) dX8_lookAtEnds_76 (by decide) ?_
              refine wp_goto (tgt := 81) dX8_lookAtEnds_77 (by decide) ?_
              refine wp_istore (L' := [some (vR 8 (i0)), some (vR 7 (i1)), some (vI (x2)), some (vR 1 (j6)), some (vI (1))]) dX8_lookAtEnds_81 rfl rfl ?_
              refine wp_aload_n dX8_lookAtEnds_83 rfl ?_
              obtain ⟨j21, ho22, h⟩ := od_e h
              refine cp_getS (y := 2) (f := 130) (t := 4) (by decide) (by decide) rfl rfl fl_X8_213 dX8_lookAtEnds_84 ho22 ?_
              obtain ⟨j23, ho24, h⟩ := od_e h
              refine cp_getS (y := 8) (f := 520) (t := 43) (by decide) (by decide) rfl rfl fl_X8_233 dX8_lookAtEnds_87 ho24 ?_
              refine wp_aload_n dX8_lookAtEnds_90 rfl ?_
              refine cp_getI (y := 0) (f := 896) (by decide) (by decide) rfl rfl fl_X8_273 dX8_lookAtEnds_91 ?_
              obtain ⟨c25, h⟩ := ock h
              obtain ⟨j26, ho27, h⟩ := od_e h
              refine cp_aald (c := 43) (t := 0) rfl (by decide) rfl (show vp_in ((gI m18 896 i1)) (len 43) from c25) dX8_lookAtEnds_94 ho27 ?_
              refine wp_iload dX8_lookAtEnds_95 rfl ?_
              refine wp_aload_n dX8_lookAtEnds_97 rfl ?_
              refine cp_getI (y := 0) (f := 1024) (by decide) (by decide) rfl rfl fl_X8_140 dX8_lookAtEnds_98 ?_
              obtain ⟨r28, m29, n30, n31, hp32, h, en33⟩ := cb_e h
              refine wp_callV (k1 := n30) (k2 := n31) (As := [vI (1), vI ((gI m18 1024 i0))]) (rest := []) (w8_X0_count hp32) okX0_count ivX0_count rfl (by decide) ml_X8_389 dX8_lookAtEnds_101 rfl (by decide) (Nat.le_of_eq en33) rfl (Nat.le_of_ble_eq_true rfl) (fun _ _ z => z.elim) (fun r' S' z => ?_)
              obtain ⟨rfl, rfl⟩ := z
              show WP _ _ _ _ [some (vR 8 (i0)), some (vR 7 (i1)), some (vI (x2)), some (vR 1 (j6)), some (vI (1))] [] _ _ _
              refine wp_aload_n dX8_lookAtEnds_104 rfl ?_
              obtain ⟨j34, ho35, h⟩ := od_e h
              refine cp_getS (y := 5) (f := 1029) (t := 41) (by decide) (by decide) rfl rfl fl_X8_26 dX8_lookAtEnds_105 ho35 ?_
              refine wp_aload_n dX8_lookAtEnds_108 rfl ?_
              refine cp_getI (y := 1) (f := 897) (by decide) (by decide) rfl rfl fl_X8_210 dX8_lookAtEnds_109 ?_
              obtain ⟨c36, h⟩ := ock h
              obtain ⟨j37, ho38, h⟩ := od_e h
              refine cp_aald (c := 41) (t := 6) rfl (by decide) rfl (show vp_in ((gI m29 897 i1)) (len 41) from c36) dX8_lookAtEnds_112 ho38 ?_
              obtain ⟨j39, ho40, h⟩ := od_e h
              refine cp_getS (y := 5) (f := 773) (t := 3) (by decide) (by decide) rfl rfl fl_X8_119 dX8_lookAtEnds_113 ho40 ?_
              refine wp_aload_n dX8_lookAtEnds_116 rfl ?_
              obtain ⟨j41, ho42, h⟩ := od_e h
              refine cp_getS (y := 2) (f := 130) (t := 4) (by decide) (by decide) rfl rfl fl_X8_213 dX8_lookAtEnds_117 ho42 ?_
              refine cp_getI (y := 6) (f := 518) (by decide) (by decide) rfl rfl fl_X8_393 dX8_lookAtEnds_120 ?_
              refine wp_iload dX8_lookAtEnds_123 rfl ?_
              obtain ⟨r43, m44, n45, n46, hp47, h, en48⟩ := cb_e h
              refine wp_callV (k1 := n45) (k2 := n46) (As := [vI ((gI m29 518 j41)), vI (1)]) (rest := []) (w8_X3_judge hp47) okX3_judge ivX3_judge rfl (by decide) ml_X8_396 dX8_lookAtEnds_125 rfl (by decide) (Nat.le_of_eq en48) rfl (Nat.le_of_ble_eq_true rfl) (fun _ _ z => z.elim) (fun r' S' z => ?_)
              obtain ⟨rfl, rfl⟩ := z
              show WP _ _ _ _ [some (vR 8 (i0)), some (vR 7 (i1)), some (vI (x2)), some (vR 1 (j6)), some (vI (1))] [] _ _ _
              refine wp_iload dX8_lookAtEnds_128 rfl ?_
              refine wp_if_eq (tgt := 144) dX8_lookAtEnds_130 (by decide) (fun z => absurd z (by decide)) (fun _ => ?_)
              refine wp_aload_n dX8_lookAtEnds_133 rfl ?_
              refine wp_iconst (v := 3) dX8_lookAtEnds_134 (by decide) ?_
              obtain ⟨m49, e50, h⟩ := wr_e h
              refine cp_putI (y := 15) (f := 911) e50 (by decide) (by decide) rfl rfl (Or.inl rfl) fl_X8_249 dX8_lookAtEnds_135 rfl ?_
              refine wp_aload_n dX8_lookAtEnds_138 rfl ?_
              refine wp_aload_n dX8_lookAtEnds_139 rfl ?_
              refine wp_iconst (v := 0) dX8_lookAtEnds_140 (by decide) ?_
              obtain ⟨r51, m52, n53, n54, hp55, h, en56⟩ := cb_e h
              refine wp_callV (k1 := n53) (k2 := n54) (As := [vR 7 (i1), vI (0)]) (rest := []) (w8_X8_close (by decide) (fun h => w8_X8_end 8 h) hp55) okX8_close ivX8_close rfl (by decide) ml_X8_356 dX8_lookAtEnds_141 rfl (by decide) (Nat.le_of_eq en56) rfl (Nat.le_of_ble_eq_true rfl) (fun _ _ z => z.elim) (fun r' S' z => ?_)
              obtain ⟨rfl, rfl⟩ := z
              show WP _ _ _ _ [some (vR 8 (i0)), some (vR 7 (i1)), some (vI (x2)), some (vR 1 (j6)), some (vI (1))] [] _ _ _
              refine wp_iinc (v := x2 + 1) (L' := [some (vR 8 (i0)), some (vR 7 (i1)), some (vI (x2 + 1)), some (vR 1 (j6)), some (vI (1))]) dX8_lookAtEnds_144 rfl rfl rfl ?_
              refine wp_goto (tgt := 2) dX8_lookAtEnds_147 (by decide) ?_
              exact ih h
          · replace h := itp c15 h
            refine wp_goto (tgt := 144) dX8_lookAtEnds_52 (by decide) ?_
            refine wp_iinc (v := x2 + 1) (L' := [some (vR 8 (i0)), some (vR 7 (i1)), some (vI (x2 + 1)), some (vR 1 (j6)), l4]) dX8_lookAtEnds_144 rfl rfl rfl ?_
            refine wp_goto (tgt := 2) dX8_lookAtEnds_147 (by decide) ?_
            exact ih h
def f8_X8_lookAtEnds (i0 : Nat) (i1 : Nat) (m : CM) : CR (Int32) :=
  l8_X8_lookAtEnds_2 FU (i0) (i1) (0) m
theorem w8_X8_lookAtEnds {r : Int32} {m9 : CM} {i0 : Nat} {i1 : Nat} {m : CM} {n9 : Nat} (h : f8_X8_lookAtEnds i0 i1 m = some (r, m9, n9)) : Spec mX8_lookAtEnds (38) n9 [vR 8 (i0), vR 7 (i1)] (cM m out rho) (Pc out rho none m9) NX := by
  unfold f8_X8_lookAtEnds at h
  refine spec_of (by decide) rfl (by simp [catS, cat1]) (Nat.le_of_ble_eq_true rfl) ?_
  show WP mX8_lookAtEnds (38) n9 0 [some (vR 8 (i0)), some (vR 7 (i1)), none, none, none] [] (cM m out rho) (Pc out rho none m9) NX
  refine wp_iconst (v := 0) dX8_lookAtEnds_0 (by decide) ?_
  refine wp_istore_n (L' := [some (vR 8 (i0)), some (vR 7 (i1)), some (vI (0)), none, none]) dX8_lookAtEnds_1 rfl rfl ?_
  exact w8_X8_lookAtEnds_2 FU h
end S8
