section S8
variable {out : Int64} {rho : RH}
def l8_X7_hasTryOut_2 : Nat → Nat → Int32 → Int32 → CM → CR (Int32)
  | 0, _, _, _, _ => none
  | n + 1, i0, x1, x2, m =>
  od (gR m 905 i0) fun j1 =>
  if (nI (gL m 55 j1).length) ≤ x2 then
    some (0, m, 0)
  else
    if ¬ x2 < 0 then
    od ((gL m 55 j1)[(x2).toNatClampNeg]?) fun j5 =>
    cb (f8_X1_isKnown j5 (x1) m) fun r7 m8 =>
    if r7 = 0 then
      some (1, m8, 0)
    else
      l8_X7_hasTryOut_2 n (i0) (x1) (x2 + 1) m8
    else none
theorem w8_X7_hasTryOut_2 {r : Int32} {m9 : CM} : ∀ (n : Nat) {i0 : Nat} {x1 : Int32} {x2 : Int32} {m : CM} {n9 : Nat}, l8_X7_hasTryOut_2 n i0 x1 x2 m = some (r, m9, n9) → WP mX7_hasTryOut (8) n9 2 [some (vR 7 (i0)), some (vI (x1)), some (vI (x2))] [] (cM m out rho) (Pc out rho (some (vI r)) m9) NX := by
  intro n
  induction n with
  | zero =>
    intro i0 x1 x2  m n9 h
    rw [l8_X7_hasTryOut_2] at h
    cases h
  | succ n ih =>
    intro i0 x1 x2  m n9 h
    rw [l8_X7_hasTryOut_2] at h
    refine wp_iload_n dX7_hasTryOut_2 rfl ?_
    refine wp_aload_n dX7_hasTryOut_3 rfl ?_
    obtain ⟨j1, ho2, h⟩ := od_e h
    refine cp_getS (y := 9) (f := 905) (t := 55) (by decide) (by decide) rfl rfl fl_X7_28 dX7_hasTryOut_4 ho2 ?_
    refine cp_size (c := 55) rfl (by decide) ml_X7_48 dX7_hasTryOut_7 (Nat.le_of_ble_eq_true rfl) ?_
    refine wp_icmp_ge (tgt := 39) dX7_hasTryOut_10 (by decide) (fun c3 => ?_) (fun c3 => ?_)
    · replace h := itp c3 h
      refine wp_iconst (v := 0) dX7_hasTryOut_39 (by decide) ?_
      obtain ⟨q1, q2, q3⟩ := cs_e h
      subst q1
      subst q2
      exact wp_zreturn rfl (by decide) dX7_hasTryOut_40 ⟨rfl, rfl⟩
    · replace h := itn c3 h
      refine wp_aload_n dX7_hasTryOut_13 rfl ?_
      refine cp_getS (y := 9) (f := 905) (t := 55) (by decide) (by decide) rfl rfl fl_X7_28 dX7_hasTryOut_14 ho2 ?_
      refine wp_iload_n dX7_hasTryOut_17 rfl ?_
      obtain ⟨c4, h⟩ := ock h
      obtain ⟨j5, ho6, h⟩ := od_e h
      refine cp_get (c := 55) (t := 1) rfl rfl (by decide) c4 ho6 ml_X7_52 dX7_hasTryOut_18 (Nat.le_of_ble_eq_true rfl) ?_
      refine cp_cast (c := 1) (by decide) kl_X7_56 dX7_hasTryOut_21 ?_
      refine wp_iload_n dX7_hasTryOut_24 rfl ?_
      obtain ⟨r7, m8, n9, n10, hp11, h, en12⟩ := cb_e h
      refine wp_callV (k1 := n9) (k2 := n10) (As := [vI (x1)]) (rest := []) (w8_X1_isKnown hp11) okX1_isKnown ivX1_isKnown rfl (by decide) ml_X7_58 dX7_hasTryOut_25 rfl (by decide) (Nat.le_of_eq en12) rfl (Nat.le_of_ble_eq_true rfl) (fun _ _ z => z.elim) (fun r' S' z => ?_)
      obtain ⟨rfl, rfl⟩ := z
      show WP _ _ _ _ [some (vR 7 (i0)), some (vI (x1)), some (vI (x2))] [vI (r7)] _ _ _
      refine wp_if_ne (tgt := 33) dX7_hasTryOut_28 (by decide) (fun c13 => ?_) (fun c13 => ?_)
      · replace h := itn c13 h
        refine wp_iinc (v := x2 + 1) (L' := [some (vR 7 (i0)), some (vI (x1)), some (vI (x2 + 1))]) dX7_hasTryOut_33 rfl rfl rfl ?_
        refine wp_goto (tgt := 2) dX7_hasTryOut_36 (by decide) ?_
        exact ih h
      · replace h := itp c13 h
        refine wp_iconst (v := 1) dX7_hasTryOut_31 (by decide) ?_
        obtain ⟨q1, q2, q3⟩ := cs_e h
        subst q1
        subst q2
        exact wp_zreturn rfl (by decide) dX7_hasTryOut_32 ⟨rfl, rfl⟩
def f8_X7_hasTryOut (i0 : Nat) (x1 : Int32) (m : CM) : CR (Int32) :=
  l8_X7_hasTryOut_2 FU (i0) (x1) (0) m
theorem w8_X7_hasTryOut {r : Int32} {m9 : CM} {i0 : Nat} {x1 : Int32} {m : CM} {n9 : Nat} (h : f8_X7_hasTryOut i0 x1 m = some (r, m9, n9)) : Spec mX7_hasTryOut (8) n9 [vR 7 (i0), vI (x1)] (cM m out rho) (Pc out rho (some (vI r)) m9) NX := by
  unfold f8_X7_hasTryOut at h
  refine spec_of (by decide) rfl (by simp [catS, cat1]) (Nat.le_of_ble_eq_true rfl) ?_
  show WP mX7_hasTryOut (8) n9 0 [some (vR 7 (i0)), some (vI (x1)), none] [] (cM m out rho) (Pc out rho (some (vI r)) m9) NX
  refine wp_iconst (v := 0) dX7_hasTryOut_0 (by decide) ?_
  refine wp_istore_n (L' := [some (vR 7 (i0)), some (vI (x1)), some (vI (0))]) dX7_hasTryOut_1 rfl rfl ?_
  exact w8_X7_hasTryOut_2 FU h
def f8_X8_canPay (i0 : Nat) (i1 : Nat) (m : CM) : CR (Int32) :=
  od (gR m 1030 i0) fun j1 =>
  if vq ((gI m 896 i1)) 7 then
  od (gO m 42 j1 ((gI m 896 i1)).toNatClampNeg) fun j4 =>
  if (gI m 256 j4) < 100 then
    some (0, m, 0)
  else
    some (1, m, 0)
  else none
theorem w8_X8_canPay {r : Int32} {m9 : CM} {i0 : Nat} {i1 : Nat} {m : CM} {n9 : Nat} (h : f8_X8_canPay i0 i1 m = some (r, m9, n9)) : Spec mX8_canPay (0) n9 [vR 8 (i0), vR 7 (i1)] (cM m out rho) (Pc out rho (some (vI r)) m9) NX := by
  unfold f8_X8_canPay at h
  refine spec_of (by decide) rfl (by simp [catS, cat1]) (Nat.le_of_ble_eq_true rfl) ?_
  show WP mX8_canPay (0) n9 0 [some (vR 8 (i0)), some (vR 7 (i1))] [] (cM m out rho) (Pc out rho (some (vI r)) m9) NX
  refine wp_aload_n dX8_canPay_0 rfl ?_
  obtain ⟨j1, ho2, h⟩ := od_e h
  refine cp_getS (y := 6) (f := 1030) (t := 42) (by decide) (by decide) rfl rfl fl_X8_32 dX8_canPay_1 ho2 ?_
  refine wp_aload_n dX8_canPay_4 rfl ?_
  refine cp_getI (y := 0) (f := 896) (by decide) (by decide) rfl rfl fl_X8_273 dX8_canPay_5 ?_
  obtain ⟨c3, h⟩ := ock h
  obtain ⟨j4, ho5, h⟩ := od_e h
  refine cp_aald (c := 42) (t := 2) rfl (by decide) rfl (show vp_in ((gI m 896 i1)) (len 42) from c3) dX8_canPay_8 ho5 ?_
  refine cp_getI (y := 0) (f := 256) (by decide) (by decide) rfl rfl fl_X8_230 dX8_canPay_9 ?_
  refine wp_bipush (v := 100) dX8_canPay_12 (by decide) ?_
  refine wp_icmp_lt (tgt := 21) dX8_canPay_14 (by decide) (fun c6 => ?_) (fun c6 => ?_)
  · replace h := itp c6 h
    refine wp_iconst (v := 0) dX8_canPay_21 (by decide) ?_
    obtain ⟨q1, q2, q3⟩ := cs_e h
    subst q1
    subst q2
    exact wp_zreturn rfl (by decide) dX8_canPay_22 ⟨rfl, rfl⟩
  · replace h := itn c6 h
    refine wp_iconst (v := 1) dX8_canPay_17 (by decide) ?_
    refine wp_goto (tgt := 22) dX8_canPay_18 (by decide) ?_
    obtain ⟨q1, q2, q3⟩ := cs_e h
    subst q1
    subst q2
    exact wp_zreturn rfl (by decide) dX8_canPay_22 ⟨rfl, rfl⟩
def f8_X8_isHedgeDue (i0 : Nat) (i1 : Nat) (m : CM) : CR (Int32) :=
  cb (f8_X8_policyOf i0 (i1) (2) m) fun r1 m2 =>
  if (gI m2 911 i1) = 8 then
    if (gI m2 898 i1) = 0 then
      some (0, m2, 0)
    else
      if r1 ≤ 0 then
        some (0, m2, 0)
      else
        if (gI m2 906 i1) = 1 then
          if ((gI m2 1024 i0) - (gI m2 908 i1)) < r1 then
            some (0, m2, 0)
          else
            cb (f8_X8_canPay i0 (i1) m2) fun r12 m13 =>
            if r12 = 0 then
              some (0, m13, 0)
            else
              some (1, m13, 0)
        else
          some (0, m2, 0)
  else
    some (0, m2, 0)
theorem w8_X8_isHedgeDue {r : Int32} {m9 : CM} {i0 : Nat} {i1 : Nat} {m : CM} {n9 : Nat} (h : f8_X8_isHedgeDue i0 i1 m = some (r, m9, n9)) : Spec mX8_isHedgeDue (2) n9 [vR 8 (i0), vR 7 (i1)] (cM m out rho) (Pc out rho (some (vI r)) m9) NX := by
  unfold f8_X8_isHedgeDue at h
  refine spec_of (by decide) rfl (by simp [catS, cat1]) (Nat.le_of_ble_eq_true rfl) ?_
  show WP mX8_isHedgeDue (2) n9 0 [some (vR 8 (i0)), some (vR 7 (i1)), none] [] (cM m out rho) (Pc out rho (some (vI r)) m9) NX
  refine wp_aload_n dX8_isHedgeDue_0 rfl ?_
  refine wp_aload_n dX8_isHedgeDue_1 rfl ?_
  refine wp_iconst (v := 2) dX8_isHedgeDue_2 (by decide) ?_
  obtain ⟨r1, m2, n3, n4, hp5, h, en6⟩ := cb_e h
  refine wp_callV (k1 := n3) (k2 := n4) (As := [vR 7 (i1), vI (2)]) (rest := []) (w8_X8_policyOf hp5) okX8_policyOf ivX8_policyOf rfl (by decide) ml_X8_359 dX8_isHedgeDue_3 rfl (by decide) (Nat.le_of_eq en6) rfl (Nat.le_of_ble_eq_true rfl) (fun _ _ z => z.elim) (fun r' S' z => ?_)
  obtain ⟨rfl, rfl⟩ := z
  show WP _ _ _ _ [some (vR 8 (i0)), some (vR 7 (i1)), none] [vI (r1)] _ _ _
  refine wp_istore_n (L' := [some (vR 8 (i0)), some (vR 7 (i1)), some (vI (r1))]) dX8_isHedgeDue_6 rfl rfl ?_
  refine wp_aload_n dX8_isHedgeDue_7 rfl ?_
  refine cp_getI (y := 15) (f := 911) (by decide) (by decide) rfl rfl fl_X8_249 dX8_isHedgeDue_8 ?_
  refine wp_bipush (v := 8) dX8_isHedgeDue_11 (by decide) ?_
  refine wp_icmp_ne (tgt := 60) dX8_isHedgeDue_13 (by decide) (fun c7 => ?_) (fun c7 => ?_)
  · replace h := itn c7 h
    refine wp_iconst (v := 0) dX8_isHedgeDue_60 (by decide) ?_
    obtain ⟨q1, q2, q3⟩ := cs_e h
    subst q1
    subst q2
    exact wp_zreturn rfl (by decide) dX8_isHedgeDue_61 ⟨rfl, rfl⟩
  · replace h := itp c7 h
    refine wp_aload_n dX8_isHedgeDue_16 rfl ?_
    refine cp_getI (y := 2) (f := 898) (by decide) (by decide) rfl rfl fl_X8_366 dX8_isHedgeDue_17 ?_
    refine wp_if_eq (tgt := 60) dX8_isHedgeDue_20 (by decide) (fun c8 => ?_) (fun c8 => ?_)
    · replace h := itp c8 h
      refine wp_iconst (v := 0) dX8_isHedgeDue_60 (by decide) ?_
      obtain ⟨q1, q2, q3⟩ := cs_e h
      subst q1
      subst q2
      exact wp_zreturn rfl (by decide) dX8_isHedgeDue_61 ⟨rfl, rfl⟩
    · replace h := itn c8 h
      refine wp_iload_n dX8_isHedgeDue_23 rfl ?_
      refine wp_if_le (tgt := 60) dX8_isHedgeDue_24 (by decide) (fun c9 => ?_) (fun c9 => ?_)
      · replace h := itp c9 h
        refine wp_iconst (v := 0) dX8_isHedgeDue_60 (by decide) ?_
        obtain ⟨q1, q2, q3⟩ := cs_e h
        subst q1
        subst q2
        exact wp_zreturn rfl (by decide) dX8_isHedgeDue_61 ⟨rfl, rfl⟩
      · replace h := itn c9 h
        refine wp_aload_n dX8_isHedgeDue_27 rfl ?_
        refine cp_getI (y := 10) (f := 906) (by decide) (by decide) rfl rfl fl_X8_400 dX8_isHedgeDue_28 ?_
        refine wp_iconst (v := 1) dX8_isHedgeDue_31 (by decide) ?_
        refine wp_icmp_ne (tgt := 60) dX8_isHedgeDue_32 (by decide) (fun c10 => ?_) (fun c10 => ?_)
        · replace h := itn c10 h
          refine wp_iconst (v := 0) dX8_isHedgeDue_60 (by decide) ?_
          obtain ⟨q1, q2, q3⟩ := cs_e h
          subst q1
          subst q2
          exact wp_zreturn rfl (by decide) dX8_isHedgeDue_61 ⟨rfl, rfl⟩
        · replace h := itp c10 h
          refine wp_aload_n dX8_isHedgeDue_35 rfl ?_
          refine cp_getI (y := 0) (f := 1024) (by decide) (by decide) rfl rfl fl_X8_140 dX8_isHedgeDue_36 ?_
          refine wp_aload_n dX8_isHedgeDue_39 rfl ?_
          refine cp_getI (y := 12) (f := 908) (by decide) (by decide) rfl rfl fl_X8_403 dX8_isHedgeDue_40 ?_
          refine wp_isub dX8_isHedgeDue_43 ?_
          refine wp_iload_n dX8_isHedgeDue_44 rfl ?_
          refine wp_icmp_lt (tgt := 60) dX8_isHedgeDue_45 (by decide) (fun c11 => ?_) (fun c11 => ?_)
          · replace h := itp c11 h
            refine wp_iconst (v := 0) dX8_isHedgeDue_60 (by decide) ?_
            obtain ⟨q1, q2, q3⟩ := cs_e h
            subst q1
            subst q2
            exact wp_zreturn rfl (by decide) dX8_isHedgeDue_61 ⟨rfl, rfl⟩
          · replace h := itn c11 h
            refine wp_aload_n dX8_isHedgeDue_48 rfl ?_
            refine wp_aload_n dX8_isHedgeDue_49 rfl ?_
            obtain ⟨r12, m13, n14, n15, hp16, h, en17⟩ := cb_e h
            refine wp_callV (k1 := n14) (k2 := n15) (As := [vR 7 (i1)]) (rest := []) (w8_X8_canPay hp16) okX8_canPay ivX8_canPay rfl (by decide) ml_X8_371 dX8_isHedgeDue_50 rfl (by decide) (Nat.le_of_eq en17) rfl (Nat.le_of_ble_eq_true rfl) (fun _ _ z => z.elim) (fun r' S' z => ?_)
            obtain ⟨rfl, rfl⟩ := z
            show WP _ _ _ _ [some (vR 8 (i0)), some (vR 7 (i1)), some (vI (r1))] [vI (r12)] _ _ _
            refine wp_if_eq (tgt := 60) dX8_isHedgeDue_53 (by decide) (fun c18 => ?_) (fun c18 => ?_)
            · replace h := itp c18 h
              refine wp_iconst (v := 0) dX8_isHedgeDue_60 (by decide) ?_
              obtain ⟨q1, q2, q3⟩ := cs_e h
              subst q1
              subst q2
              exact wp_zreturn rfl (by decide) dX8_isHedgeDue_61 ⟨rfl, rfl⟩
            · replace h := itn c18 h
              refine wp_iconst (v := 1) dX8_isHedgeDue_56 (by decide) ?_
              refine wp_goto (tgt := 61) dX8_isHedgeDue_57 (by decide) ?_
              obtain ⟨q1, q2, q3⟩ := cs_e h
              subst q1
              subst q2
              exact wp_zreturn rfl (by decide) dX8_isHedgeDue_61 ⟨rfl, rfl⟩
def l8_X8_goOn_14 : Nat → Nat → Nat → Int32 → Int32 → CM → CR (Int32)
  | 0, _, _, _, _, _ => none
  | n + 1, i0, i1, x2, x3, m =>
  if x2 < x3 then
    cb (f8_X8_isHedgeDue i0 (i1) m) fun r2 m3 =>
    if r2 = 0 then
      some (0, m3, 0)
    else
      cb (f8_X8_tryOnce i0 (i1) (1) m3) fun _ m10 =>
      cb (f8_X8_lookAtEnds i0 (i1) m10) fun _ m16 =>
      some (0, m16, 0)
  else
    if (gI m 911 i1) = 8 then
      cb (f8_X7_hasTryOut i1 ((gI m 1024 i0)) m) fun r22 m23 =>
      if r22 = 0 then
        if (gI m23 909 i1) = 6 then
          if x2 ≤ (gI m23 907 i1) then
            wr (sI m23 911 i1 (4)) fun m31 =>
            l8_X8_goOn_14 n (i0) (i1) (x2) (x3 + 1) m31
          else
            cb (f8_X8_canPay i0 (i1) m23) fun r33 m34 =>
            if r33 = 0 then
              wr (sI m34 911 i1 (4)) fun m40 =>
              l8_X8_goOn_14 n (i0) (i1) (x2) (x3 + 1) m40
            else
              wr (sI m34 907 i1 (((gI m34 907 i1) + 1))) fun m42 =>
              cb (f8_X8_tryOnce i0 (i1) (1) m42) fun _ m45 =>
              cb (f8_X8_lookAtEnds i0 (i1) m45) fun _ m51 =>
              l8_X8_goOn_14 n (i0) (i1) (x2) (x3 + 1) m51
        else
          if (gI m23 898 i1) = 0 then
            if x2 ≤ (gI m23 907 i1) then
              wr (sI m23 911 i1 (4)) fun m58 =>
              l8_X8_goOn_14 n (i0) (i1) (x2) (x3 + 1) m58
            else
              wr (sI m23 911 i1 (4)) fun m60 =>
              l8_X8_goOn_14 n (i0) (i1) (x2) (x3 + 1) m60
          else
            if x2 ≤ (gI m23 907 i1) then
              wr (sI m23 911 i1 (4)) fun m63 =>
              l8_X8_goOn_14 n (i0) (i1) (x2) (x3 + 1) m63
            else
              cb (f8_X8_canPay i0 (i1) m23) fun r65 m66 =>
              if r65 = 0 then
                wr (sI m66 911 i1 (4)) fun m72 =>
                l8_X8_goOn_14 n (i0) (i1) (x2) (x3 + 1) m72
              else
                wr (sI m66 907 i1 (((gI m66 907 i1) + 1))) fun m74 =>
                cb (f8_X8_tryOnce i0 (i1) (1) m74) fun _ m77 =>
                cb (f8_X8_lookAtEnds i0 (i1) m77) fun _ m83 =>
                l8_X8_goOn_14 n (i0) (i1) (x2) (x3 + 1) m83
      else
        cb (f8_X8_isHedgeDue i0 (i1) m23) fun r88 m89 =>
        if r88 = 0 then
          some (0, m89, 0)
        else
          cb (f8_X8_tryOnce i0 (i1) (1) m89) fun _ m96 =>
          cb (f8_X8_lookAtEnds i0 (i1) m96) fun _ m102 =>
          some (0, m102, 0)
    else
      cb (f8_X8_isHedgeDue i0 (i1) m) fun r107 m108 =>
      if r107 = 0 then
        some (0, m108, 0)
      else
        cb (f8_X8_tryOnce i0 (i1) (1) m108) fun _ m115 =>
        cb (f8_X8_lookAtEnds i0 (i1) m115) fun _ m121 =>
        some (0, m121, 0)
theorem w8_X8_goOn_14 {r : Int32} {m9 : CM} : ∀ (n : Nat) {i0 : Nat} {i1 : Nat} {x2 : Int32} {x3 : Int32} {l4 : Option sV} {m : CM} {n9 : Nat}, l8_X8_goOn_14 n i0 i1 x2 x3 m = some (r, m9, n9) → WP mX8_goOn (39) n9 14 [some (vR 8 (i0)), some (vR 7 (i1)), some (vI (x2)), some (vI (x3)), l4] [] (cM m out rho) (Pc out rho none m9) NX := by
  intro n
  induction n with
  | zero =>
    intro i0 i1 x2 x3 l4 m n9 h
    rw [l8_X8_goOn_14] at h
    cases h
  | succ n ih =>
    intro i0 i1 x2 x3 l4 m n9 h
    rw [l8_X8_goOn_14] at h
    refine wp_iload_n dX8_goOn_14 rfl ?_
    refine wp_iload_n dX8_goOn_15 rfl ?_
    refine wp_icmp_gt (tgt := 118) dX8_goOn_16 (by decide) (fun c1 => ?_) (fun c1 => ?_)
    · replace h := itp c1 h
      refine wp_aload_n dX8_goOn_118 rfl ?_
      refine wp_aload_n dX8_goOn_119 rfl ?_
      obtain ⟨r2, m3, n4, n5, hp6, h, en7⟩ := cb_e h
      refine wp_callV (k1 := n4) (k2 := n5) (As := [vR 7 (i1)]) (rest := []) (w8_X8_isHedgeDue hp6) okX8_isHedgeDue ivX8_isHedgeDue rfl (by decide) ml_X8_374 dX8_goOn_120 rfl (by decide) (Nat.le_of_eq en7) rfl (Nat.le_of_ble_eq_true rfl) (fun _ _ z => z.elim) (fun r' S' z => ?_)
      obtain ⟨rfl, rfl⟩ := z
      show WP _ _ _ _ [some (vR 8 (i0)), some (vR 7 (i1)), some (vI (x2)), some (vI (x3)), l4] [vI (r2)] _ _ _
      refine wp_if_eq (tgt := 137) dX8_goOn_123 (by decide) (fun c8 => ?_) (fun c8 => ?_)
      · replace h := itp c8 h
        obtain ⟨q1, q2, q3⟩ := cs_e h
        clear q1
        subst q2
        exact wp_return rfl dX8_goOn_137 ⟨rfl, rfl⟩
      · replace h := itn c8 h
        refine wp_aload_n dX8_goOn_126 rfl ?_
        refine wp_aload_n dX8_goOn_127 rfl ?_
        refine wp_iconst (v := 1) dX8_goOn_128 (by decide) ?_
        obtain ⟨r9, m10, n11, n12, hp13, h, en14⟩ := cb_e h
        refine wp_callV (k1 := n11) (k2 := n12) (As := [vR 7 (i1), vI (1)]) (rest := []) (w8_X8_tryOnce hp13) okX8_tryOnce ivX8_tryOnce rfl (by decide) ml_X8_151 dX8_goOn_129 rfl (by decide) (Nat.le_of_eq en14) rfl (Nat.le_of_ble_eq_true rfl) (fun _ _ z => z.elim) (fun r' S' z => ?_)
        obtain ⟨rfl, rfl⟩ := z
        show WP _ _ _ _ [some (vR 8 (i0)), some (vR 7 (i1)), some (vI (x2)), some (vI (x3)), l4] [] _ _ _
        refine wp_aload_n dX8_goOn_132 rfl ?_
        refine wp_aload_n dX8_goOn_133 rfl ?_
        obtain ⟨r15, m16, n17, n18, hp19, h, en20⟩ := cb_e h
        refine wp_callV (k1 := n17) (k2 := n18) (As := [vR 7 (i1)]) (rest := []) (w8_X8_lookAtEnds hp19) okX8_lookAtEnds ivX8_lookAtEnds rfl (by decide) ml_X8_330 dX8_goOn_134 rfl (by decide) (Nat.le_of_eq en20) rfl (Nat.le_of_ble_eq_true rfl) (fun _ _ z => z.elim) (fun r' S' z => ?_)
        obtain ⟨rfl, rfl⟩ := z
        show WP _ _ _ _ [some (vR 8 (i0)), some (vR 7 (i1)), some (vI (x2)), some (vI (x3)), l4] [] _ _ _
        obtain ⟨q1, q2, q3⟩ := cs_e h
        clear q1
        subst q2
        exact wp_return rfl dX8_goOn_137 ⟨rfl, rfl⟩
    · replace h := itn c1 h
      refine wp_aload_n dX8_goOn_19 rfl ?_
      refine cp_getI (y := 15) (f := 911) (by decide) (by decide) rfl rfl fl_X8_249 dX8_goOn_20 ?_
      refine wp_bipush (v := 8) dX8_goOn_23 (by decide) ?_
      refine wp_icmp_ne (tgt := 118) dX8_goOn_25 (by decide) (fun c21 => ?_) (fun c21 => ?_)
      · replace h := itn c21 h
        refine wp_aload_n dX8_goOn_118 rfl ?_
        refine wp_aload_n dX8_goOn_119 rfl ?_
        obtain ⟨r107, m108, n109, n110, hp111, h, en112⟩ := cb_e h
        refine wp_callV (k1 := n109) (k2 := n110) (As := [vR 7 (i1)]) (rest := []) (w8_X8_isHedgeDue hp111) okX8_isHedgeDue ivX8_isHedgeDue rfl (by decide) ml_X8_374 dX8_goOn_120 rfl (by decide) (Nat.le_of_eq en112) rfl (Nat.le_of_ble_eq_true rfl) (fun _ _ z => z.elim) (fun r' S' z => ?_)
        obtain ⟨rfl, rfl⟩ := z
        show WP _ _ _ _ [some (vR 8 (i0)), some (vR 7 (i1)), some (vI (x2)), some (vI (x3)), l4] [vI (r107)] _ _ _
        refine wp_if_eq (tgt := 137) dX8_goOn_123 (by decide) (fun c113 => ?_) (fun c113 => ?_)
        · replace h := itp c113 h
          obtain ⟨q1, q2, q3⟩ := cs_e h
          clear q1
          subst q2
          exact wp_return rfl dX8_goOn_137 ⟨rfl, rfl⟩
        · replace h := itn c113 h
          refine wp_aload_n dX8_goOn_126 rfl ?_
          refine wp_aload_n dX8_goOn_127 rfl ?_
          refine wp_iconst (v := 1) dX8_goOn_128 (by decide) ?_
          obtain ⟨r114, m115, n116, n117, hp118, h, en119⟩ := cb_e h
          refine wp_callV (k1 := n116) (k2 := n117) (As := [vR 7 (i1), vI (1)]) (rest := []) (w8_X8_tryOnce hp118) okX8_tryOnce ivX8_tryOnce rfl (by decide) ml_X8_151 dX8_goOn_129 rfl (by decide) (Nat.le_of_eq en119) rfl (Nat.le_of_ble_eq_true rfl) (fun _ _ z => z.elim) (fun r' S' z => ?_)
          obtain ⟨rfl, rfl⟩ := z
          show WP _ _ _ _ [some (vR 8 (i0)), some (vR 7 (i1)), some (vI (x2)), some (vI (x3)), l4] [] _ _ _
          refine wp_aload_n dX8_goOn_132 rfl ?_
          refine wp_aload_n dX8_goOn_133 rfl ?_
          obtain ⟨r120, m121, n122, n123, hp124, h, en125⟩ := cb_e h
          refine wp_callV (k1 := n122) (k2 := n123) (As := [vR 7 (i1)]) (rest := []) (w8_X8_lookAtEnds hp124) okX8_lookAtEnds ivX8_lookAtEnds rfl (by decide) ml_X8_330 dX8_goOn_134 rfl (by decide) (Nat.le_of_eq en125) rfl (Nat.le_of_ble_eq_true rfl) (fun _ _ z => z.elim) (fun r' S' z => ?_)
          obtain ⟨rfl, rfl⟩ := z
          show WP _ _ _ _ [some (vR 8 (i0)), some (vR 7 (i1)), some (vI (x2)), some (vI (x3)), l4] [] _ _ _
          obtain ⟨q1, q2, q3⟩ := cs_e h
          clear q1
          subst q2
          exact wp_return rfl dX8_goOn_137 ⟨rfl, rfl⟩
      · replace h := itp c21 h
        refine wp_aload_n dX8_goOn_28 rfl ?_
        refine wp_aload_n dX8_goOn_29 rfl ?_
        refine cp_getI (y := 0) (f := 1024) (by decide) (by decide) rfl rfl fl_X8_140 dX8_goOn_30 ?_
        obtain ⟨r22, m23, n24, n25, hp26, h, en27⟩ := cb_e h
        refine wp_callV (k1 := n24) (k2 := n25) (As := [vI ((gI m 1024 i0))]) (rest := []) (w8_X7_hasTryOut hp26) okX7_hasTryOut ivX7_hasTryOut rfl (by decide) ml_X8_333 dX8_goOn_33 rfl (by decide) (Nat.le_of_eq en27) rfl (Nat.le_of_ble_eq_true rfl) (fun _ _ z => z.elim) (fun r' S' z => ?_)
        obtain ⟨rfl, rfl⟩ := z
        show WP _ _ _ _ [some (vR 8 (i0)), some (vR 7 (i1)), some (vI (x2)), some (vI (x3)), l4] [vI (r22)] _ _ _
        refine wp_if_ne (tgt := 118) dX8_goOn_36 (by decide) (fun c28 => ?_) (fun c28 => ?_)
        · replace h := itn c28 h
          refine wp_aload_n dX8_goOn_118 rfl ?_
          refine wp_aload_n dX8_goOn_119 rfl ?_
          obtain ⟨r88, m89, n90, n91, hp92, h, en93⟩ := cb_e h
          refine wp_callV (k1 := n90) (k2 := n91) (As := [vR 7 (i1)]) (rest := []) (w8_X8_isHedgeDue hp92) okX8_isHedgeDue ivX8_isHedgeDue rfl (by decide) ml_X8_374 dX8_goOn_120 rfl (by decide) (Nat.le_of_eq en93) rfl (Nat.le_of_ble_eq_true rfl) (fun _ _ z => z.elim) (fun r' S' z => ?_)
          obtain ⟨rfl, rfl⟩ := z
          show WP _ _ _ _ [some (vR 8 (i0)), some (vR 7 (i1)), some (vI (x2)), some (vI (x3)), l4] [vI (r88)] _ _ _
          refine wp_if_eq (tgt := 137) dX8_goOn_123 (by decide) (fun c94 => ?_) (fun c94 => ?_)
          · replace h := itp c94 h
            obtain ⟨q1, q2, q3⟩ := cs_e h
            clear q1
            subst q2
            exact wp_return rfl dX8_goOn_137 ⟨rfl, rfl⟩
          · replace h := itn c94 h
            refine wp_aload_n dX8_goOn_126 rfl ?_
            refine wp_aload_n dX8_goOn_127 rfl ?_
            refine wp_iconst (v := 1) dX8_goOn_128 (by decide) ?_
            obtain ⟨r95, m96, n97, n98, hp99, h, en100⟩ := cb_e h
            refine wp_callV (k1 := n97) (k2 := n98) (As := [vR 7 (i1), vI (1)]) (rest := []) (w8_X8_tryOnce hp99) okX8_tryOnce ivX8_tryOnce rfl (by decide) ml_X8_151 dX8_goOn_129 rfl (by decide) (Nat.le_of_eq en100) rfl (Nat.le_of_ble_eq_true rfl) (fun _ _ z => z.elim) (fun r' S' z => ?_)
            obtain ⟨rfl, rfl⟩ := z
            show WP _ _ _ _ [some (vR 8 (i0)), some (vR 7 (i1)), some (vI (x2)), some (vI (x3)), l4] [] _ _ _
            refine wp_aload_n dX8_goOn_132 rfl ?_
            refine wp_aload_n dX8_goOn_133 rfl ?_
            obtain ⟨r101, m102, n103, n104, hp105, h, en106⟩ := cb_e h
            refine wp_callV (k1 := n103) (k2 := n104) (As := [vR 7 (i1)]) (rest := []) (w8_X8_lookAtEnds hp105) okX8_lookAtEnds ivX8_lookAtEnds rfl (by decide) ml_X8_330 dX8_goOn_134 rfl (by decide) (Nat.le_of_eq en106) rfl (Nat.le_of_ble_eq_true rfl) (fun _ _ z => z.elim) (fun r' S' z => ?_)
            obtain ⟨rfl, rfl⟩ := z
            show WP _ _ _ _ [some (vR 8 (i0)), some (vR 7 (i1)), some (vI (x2)), some (vI (x3)), l4] [] _ _ _
            obtain ⟨q1, q2, q3⟩ := cs_e h
            clear q1
            subst q2
            exact wp_return rfl dX8_goOn_137 ⟨rfl, rfl⟩
        · replace h := itp c28 h
          refine wp_aload_n dX8_goOn_39 rfl ?_
          refine cp_getI (y := 13) (f := 909) (by decide) (by decide) rfl rfl fl_X8_363 dX8_goOn_40 ?_
          refine wp_bipush (v := 6) dX8_goOn_43 (by decide) ?_
          refine wp_icmp_eq (tgt := 55) dX8_goOn_45 (by decide) (fun c29 => ?_) (fun c29 => ?_)
          · replace h := itp c29 h
            refine wp_iconst (v := 1) dX8_goOn_55 (by decide) ?_
            refine wp_goto (tgt := 60) dX8_goOn_56 (by decide) ?_
            refine wp_istore (L' := [some (vR 8 (i0)), some (vR 7 (i1)), some (vI (x2)), some (vI (x3)), some (vI (1))]) dX8_goOn_60 rfl rfl ?_
            refine wp_aload_n dX8_goOn_62 rfl ?_
            refine cp_getI (y := 11) (f := 907) (by decide) (by decide) rfl rfl fl_X8_368 dX8_goOn_63 ?_
            refine wp_iload_n dX8_goOn_66 rfl ?_
            refine wp_icmp_ge (tgt := 107) dX8_goOn_67 (by decide) (fun c30 => ?_) (fun c30 => ?_)
            · replace h := itp c30 h
              refine wp_aload_n dX8_goOn_107 rfl ?_
              refine wp_iconst (v := 4) dX8_goOn_108 (by decide) ?_
              obtain ⟨m31, e32, h⟩ := wr_e h
              refine cp_putI (y := 15) (f := 911) e32 (by decide) (by decide) rfl rfl (Or.inl rfl) fl_X8_249 dX8_goOn_109 rfl ?_
              refine wp_iinc (v := x3 + 1) (L' := [some (vR 8 (i0)), some (vR 7 (i1)), some (vI (x2)), some (vI (x3 + 1)), some (vI (1))]) dX8_goOn_112 rfl rfl rfl ?_
              refine wp_goto (tgt := 14) dX8_goOn_115 (by decide) ?_
              exact ih h
            · replace h := itn c30 h
              refine wp_iload dX8_goOn_70 rfl ?_
              refine wp_if_eq (tgt := 107) dX8_goOn_72 (by decide) (fun z => absurd z (by decide)) (fun _ => ?_)
              refine wp_aload_n dX8_goOn_75 rfl ?_
              refine wp_aload_n dX8_goOn_76 rfl ?_
              obtain ⟨r33, m34, n35, n36, hp37, h, en38⟩ := cb_e h
              refine wp_callV (k1 := n35) (k2 := n36) (As := [vR 7 (i1)]) (rest := []) (w8_X8_canPay hp37) okX8_canPay ivX8_canPay rfl (by decide) ml_X8_371 dX8_goOn_77 rfl (by decide) (Nat.le_of_eq en38) rfl (Nat.le_of_ble_eq_true rfl) (fun _ _ z => z.elim) (fun r' S' z => ?_)
              obtain ⟨rfl, rfl⟩ := z
              show WP _ _ _ _ [some (vR 8 (i0)), some (vR 7 (i1)), some (vI (x2)), some (vI (x3)), some (vI (1))] [vI (r33)] _ _ _
              refine wp_if_eq (tgt := 107) dX8_goOn_80 (by decide) (fun c39 => ?_) (fun c39 => ?_)
              · replace h := itp c39 h
                refine wp_aload_n dX8_goOn_107 rfl ?_
                refine wp_iconst (v := 4) dX8_goOn_108 (by decide) ?_
                obtain ⟨m40, e41, h⟩ := wr_e h
                refine cp_putI (y := 15) (f := 911) e41 (by decide) (by decide) rfl rfl (Or.inl rfl) fl_X8_249 dX8_goOn_109 rfl ?_
                refine wp_iinc (v := x3 + 1) (L' := [some (vR 8 (i0)), some (vR 7 (i1)), some (vI (x2)), some (vI (x3 + 1)), some (vI (1))]) dX8_goOn_112 rfl rfl rfl ?_
                refine wp_goto (tgt := 14) dX8_goOn_115 (by decide) ?_
                exact ih h
              · replace h := itn c39 h
                refine wp_aload_n dX8_goOn_83 rfl ?_
                refine wp_dup dX8_goOn_84 trivial ?_
                refine cp_getI (y := 11) (f := 907) (by decide) (by decide) rfl rfl fl_X8_368 dX8_goOn_85 ?_
                refine wp_iconst (v := 1) dX8_goOn_88 (by decide) ?_
                refine wp_iadd dX8_goOn_89 ?_
                obtain ⟨m42, e43, h⟩ := wr_e h
                refine cp_putI (y := 11) (f := 907) e43 (by decide) (by decide) rfl rfl (Or.inl rfl) fl_X8_368 dX8_goOn_90 rfl ?_
                refine wp_aload_n dX8_goOn_93 rfl ?_
                refine wp_aload_n dX8_goOn_94 rfl ?_
                refine wp_iconst (v := 1) dX8_goOn_95 (by decide) ?_
                obtain ⟨r44, m45, n46, n47, hp48, h, en49⟩ := cb_e h
                refine wp_callV (k1 := n46) (k2 := n47) (As := [vR 7 (i1), vI (1)]) (rest := []) (w8_X8_tryOnce hp48) okX8_tryOnce ivX8_tryOnce rfl (by decide) ml_X8_151 dX8_goOn_96 rfl (by decide) (Nat.le_of_eq en49) rfl (Nat.le_of_ble_eq_true rfl) (fun _ _ z => z.elim) (fun r' S' z => ?_)
                obtain ⟨rfl, rfl⟩ := z
                show WP _ _ _ _ [some (vR 8 (i0)), some (vR 7 (i1)), some (vI (x2)), some (vI (x3)), some (vI (1))] [] _ _ _
                refine wp_aload_n dX8_goOn_99 rfl ?_
                refine wp_aload_n dX8_goOn_100 rfl ?_
                obtain ⟨r50, m51, n52, n53, hp54, h, en55⟩ := cb_e h
                refine wp_callV (k1 := n52) (k2 := n53) (As := [vR 7 (i1)]) (rest := []) (w8_X8_lookAtEnds hp54) okX8_lookAtEnds ivX8_lookAtEnds rfl (by decide) ml_X8_330 dX8_goOn_101 rfl (by decide) (Nat.le_of_eq en55) rfl (Nat.le_of_ble_eq_true rfl) (fun _ _ z => z.elim) (fun r' S' z => ?_)
                obtain ⟨rfl, rfl⟩ := z
                show WP _ _ _ _ [some (vR 8 (i0)), some (vR 7 (i1)), some (vI (x2)), some (vI (x3)), some (vI (1))] [] _ _ _
                refine wp_goto (tgt := 112) dX8_goOn_104 (by decide) ?_
                refine wp_iinc (v := x3 + 1) (L' := [some (vR 8 (i0)), some (vR 7 (i1)), some (vI (x2)), some (vI (x3 + 1)), some (vI (1))]) dX8_goOn_112 rfl rfl rfl ?_
                refine wp_goto (tgt := 14) dX8_goOn_115 (by decide) ?_
                exact ih h
          · replace h := itn c29 h
            refine wp_aload_n dX8_goOn_48 rfl ?_
            refine cp_getI (y := 2) (f := 898) (by decide) (by decide) rfl rfl fl_X8_366 dX8_goOn_49 ?_
            refine wp_if_eq (tgt := 59) dX8_goOn_52 (by decide) (fun c56 => ?_) (fun c56 => ?_)
            · replace h := itp c56 h
              refine wp_iconst (v := 0) dX8_goOn_59 (by decide) ?_
              refine wp_istore (L' := [some (vR 8 (i0)), some (vR 7 (i1)), some (vI (x2)), some (vI (x3)), some (vI (0))]) dX8_goOn_60 rfl rfl ?_
              refine wp_aload_n dX8_goOn_62 rfl ?_
              refine cp_getI (y := 11) (f := 907) (by decide) (by decide) rfl rfl fl_X8_368 dX8_goOn_63 ?_
              refine wp_iload_n dX8_goOn_66 rfl ?_
              refine wp_icmp_ge (tgt := 107) dX8_goOn_67 (by decide) (fun c57 => ?_) (fun c57 => ?_)
              · replace h := itp c57 h
                refine wp_aload_n dX8_goOn_107 rfl ?_
                refine wp_iconst (v := 4) dX8_goOn_108 (by decide) ?_
                obtain ⟨m58, e59, h⟩ := wr_e h
                refine cp_putI (y := 15) (f := 911) e59 (by decide) (by decide) rfl rfl (Or.inl rfl) fl_X8_249 dX8_goOn_109 rfl ?_
                refine wp_iinc (v := x3 + 1) (L' := [some (vR 8 (i0)), some (vR 7 (i1)), some (vI (x2)), some (vI (x3 + 1)), some (vI (0))]) dX8_goOn_112 rfl rfl rfl ?_
                refine wp_goto (tgt := 14) dX8_goOn_115 (by decide) ?_
                exact ih h
              · replace h := itn c57 h
                refine wp_iload dX8_goOn_70 rfl ?_
                refine wp_if_eq (tgt := 107) dX8_goOn_72 (by decide) (fun _ => ?_) (fun z => absurd (by decide) z)
                refine wp_aload_n dX8_goOn_107 rfl ?_
                refine wp_iconst (v := 4) dX8_goOn_108 (by decide) ?_
                obtain ⟨m60, e61, h⟩ := wr_e h
                refine cp_putI (y := 15) (f := 911) e61 (by decide) (by decide) rfl rfl (Or.inl rfl) fl_X8_249 dX8_goOn_109 rfl ?_
                refine wp_iinc (v := x3 + 1) (L' := [some (vR 8 (i0)), some (vR 7 (i1)), some (vI (x2)), some (vI (x3 + 1)), some (vI (0))]) dX8_goOn_112 rfl rfl rfl ?_
                refine wp_goto (tgt := 14) dX8_goOn_115 (by decide) ?_
                exact ih h
            · replace h := itn c56 h
              refine wp_iconst (v := 1) dX8_goOn_55 (by decide) ?_
              refine wp_goto (tgt := 60) dX8_goOn_56 (by decide) ?_
              refine wp_istore (L' := [some (vR 8 (i0)), some (vR 7 (i1)), some (vI (x2)), some (vI (x3)), some (vI (1))]) dX8_goOn_60 rfl rfl ?_
              refine wp_aload_n dX8_goOn_62 rfl ?_
              refine cp_getI (y := 11) (f := 907) (by decide) (by decide) rfl rfl fl_X8_368 dX8_goOn_63 ?_
              refine wp_iload_n dX8_goOn_66 rfl ?_
              refine wp_icmp_ge (tgt := 107) dX8_goOn_67 (by decide) (fun c62 => ?_) (fun c62 => ?_)
              · replace h := itp c62 h
                refine wp_aload_n dX8_goOn_107 rfl ?_
                refine wp_iconst (v := 4) dX8_goOn_108 (by decide) ?_
                obtain ⟨m63, e64, h⟩ := wr_e h
                refine cp_putI (y := 15) (f := 911) e64 (by decide) (by decide) rfl rfl (Or.inl rfl) fl_X8_249 dX8_goOn_109 rfl ?_
                refine wp_iinc (v := x3 + 1) (L' := [some (vR 8 (i0)), some (vR 7 (i1)), some (vI (x2)), some (vI (x3 + 1)), some (vI (1))]) dX8_goOn_112 rfl rfl rfl ?_
                refine wp_goto (tgt := 14) dX8_goOn_115 (by decide) ?_
                exact ih h
              · replace h := itn c62 h
                refine wp_iload dX8_goOn_70 rfl ?_
                refine wp_if_eq (tgt := 107) dX8_goOn_72 (by decide) (fun z => absurd z (by decide)) (fun _ => ?_)
                refine wp_aload_n dX8_goOn_75 rfl ?_
                refine wp_aload_n dX8_goOn_76 rfl ?_
                obtain ⟨r65, m66, n67, n68, hp69, h, en70⟩ := cb_e h
                refine wp_callV (k1 := n67) (k2 := n68) (As := [vR 7 (i1)]) (rest := []) (w8_X8_canPay hp69) okX8_canPay ivX8_canPay rfl (by decide) ml_X8_371 dX8_goOn_77 rfl (by decide) (Nat.le_of_eq en70) rfl (Nat.le_of_ble_eq_true rfl) (fun _ _ z => z.elim) (fun r' S' z => ?_)
                obtain ⟨rfl, rfl⟩ := z
                show WP _ _ _ _ [some (vR 8 (i0)), some (vR 7 (i1)), some (vI (x2)), some (vI (x3)), some (vI (1))] [vI (r65)] _ _ _
                refine wp_if_eq (tgt := 107) dX8_goOn_80 (by decide) (fun c71 => ?_) (fun c71 => ?_)
                · replace h := itp c71 h
                  refine wp_aload_n dX8_goOn_107 rfl ?_
                  refine wp_iconst (v := 4) dX8_goOn_108 (by decide) ?_
                  obtain ⟨m72, e73, h⟩ := wr_e h
                  refine cp_putI (y := 15) (f := 911) e73 (by decide) (by decide) rfl rfl (Or.inl rfl) fl_X8_249 dX8_goOn_109 rfl ?_
                  refine wp_iinc (v := x3 + 1) (L' := [some (vR 8 (i0)), some (vR 7 (i1)), some (vI (x2)), some (vI (x3 + 1)), some (vI (1))]) dX8_goOn_112 rfl rfl rfl ?_
                  refine wp_goto (tgt := 14) dX8_goOn_115 (by decide) ?_
                  exact ih h
                · replace h := itn c71 h
                  refine wp_aload_n dX8_goOn_83 rfl ?_
                  refine wp_dup dX8_goOn_84 trivial ?_
                  refine cp_getI (y := 11) (f := 907) (by decide) (by decide) rfl rfl fl_X8_368 dX8_goOn_85 ?_
                  refine wp_iconst (v := 1) dX8_goOn_88 (by decide) ?_
                  refine wp_iadd dX8_goOn_89 ?_
                  obtain ⟨m74, e75, h⟩ := wr_e h
                  refine cp_putI (y := 11) (f := 907) e75 (by decide) (by decide) rfl rfl (Or.inl rfl) fl_X8_368 dX8_goOn_90 rfl ?_
                  refine wp_aload_n dX8_goOn_93 rfl ?_
                  refine wp_aload_n dX8_goOn_94 rfl ?_
                  refine wp_iconst (v := 1) dX8_goOn_95 (by decide) ?_
                  obtain ⟨r76, m77, n78, n79, hp80, h, en81⟩ := cb_e h
                  refine wp_callV (k1 := n78) (k2 := n79) (As := [vR 7 (i1), vI (1)]) (rest := []) (w8_X8_tryOnce hp80) okX8_tryOnce ivX8_tryOnce rfl (by decide) ml_X8_151 dX8_goOn_96 rfl (by decide) (Nat.le_of_eq en81) rfl (Nat.le_of_ble_eq_true rfl) (fun _ _ z => z.elim) (fun r' S' z => ?_)
                  obtain ⟨rfl, rfl⟩ := z
                  show WP _ _ _ _ [some (vR 8 (i0)), some (vR 7 (i1)), some (vI (x2)), some (vI (x3)), some (vI (1))] [] _ _ _
                  refine wp_aload_n dX8_goOn_99 rfl ?_
                  refine wp_aload_n dX8_goOn_100 rfl ?_
                  obtain ⟨r82, m83, n84, n85, hp86, h, en87⟩ := cb_e h
                  refine wp_callV (k1 := n84) (k2 := n85) (As := [vR 7 (i1)]) (rest := []) (w8_X8_lookAtEnds hp86) okX8_lookAtEnds ivX8_lookAtEnds rfl (by decide) ml_X8_330 dX8_goOn_101 rfl (by decide) (Nat.le_of_eq en87) rfl (Nat.le_of_ble_eq_true rfl) (fun _ _ z => z.elim) (fun r' S' z => ?_)
                  obtain ⟨rfl, rfl⟩ := z
                  show WP _ _ _ _ [some (vR 8 (i0)), some (vR 7 (i1)), some (vI (x2)), some (vI (x3)), some (vI (1))] [] _ _ _
                  refine wp_goto (tgt := 112) dX8_goOn_104 (by decide) ?_
                  refine wp_iinc (v := x3 + 1) (L' := [some (vR 8 (i0)), some (vR 7 (i1)), some (vI (x2)), some (vI (x3 + 1)), some (vI (1))]) dX8_goOn_112 rfl rfl rfl ?_
                  refine wp_goto (tgt := 14) dX8_goOn_115 (by decide) ?_
                  exact ih h
def f8_X8_goOn (i0 : Nat) (i1 : Nat) (m : CM) : CR (Int32) :=
  cb (f8_X8_lookAtEnds i0 (i1) m) fun _ m2 =>
  cb (f8_X8_policyOf i0 (i1) (1) m2) fun r7 m8 =>
  l8_X8_goOn_14 FU (i0) (i1) (r7) (0) m8
theorem w8_X8_goOn {r : Int32} {m9 : CM} {i0 : Nat} {i1 : Nat} {m : CM} {n9 : Nat} (h : f8_X8_goOn i0 i1 m = some (r, m9, n9)) : Spec mX8_goOn (39) n9 [vR 8 (i0), vR 7 (i1)] (cM m out rho) (Pc out rho none m9) NX := by
  unfold f8_X8_goOn at h
  refine spec_of (by decide) rfl (by simp [catS, cat1]) (Nat.le_of_ble_eq_true rfl) ?_
  show WP mX8_goOn (39) n9 0 [some (vR 8 (i0)), some (vR 7 (i1)), none, none, none] [] (cM m out rho) (Pc out rho none m9) NX
  refine wp_aload_n dX8_goOn_0 rfl ?_
  refine wp_aload_n dX8_goOn_1 rfl ?_
  obtain ⟨r1, m2, n3, n4, hp5, h, en6⟩ := cb_e h
  refine wp_callV (k1 := n3) (k2 := n4) (As := [vR 7 (i1)]) (rest := []) (w8_X8_lookAtEnds hp5) okX8_lookAtEnds ivX8_lookAtEnds rfl (by decide) ml_X8_330 dX8_goOn_2 rfl (by decide) (Nat.le_of_eq en6) rfl (Nat.le_of_ble_eq_true rfl) (fun _ _ z => z.elim) (fun r' S' z => ?_)
  obtain ⟨rfl, rfl⟩ := z
  show WP _ _ _ _ [some (vR 8 (i0)), some (vR 7 (i1)), none, none, none] [] _ _ _
  refine wp_aload_n dX8_goOn_5 rfl ?_
  refine wp_aload_n dX8_goOn_6 rfl ?_
  refine wp_iconst (v := 1) dX8_goOn_7 (by decide) ?_
  obtain ⟨r7, m8, n9, n10, hp11, h, en12⟩ := cb_e h
  refine wp_callV (k1 := n9) (k2 := n10) (As := [vR 7 (i1), vI (1)]) (rest := []) (w8_X8_policyOf hp11) okX8_policyOf ivX8_policyOf rfl (by decide) ml_X8_359 dX8_goOn_8 rfl (by decide) (Nat.le_of_eq en12) rfl (Nat.le_of_ble_eq_true rfl) (fun _ _ z => z.elim) (fun r' S' z => ?_)
  obtain ⟨rfl, rfl⟩ := z
  show WP _ _ _ _ [some (vR 8 (i0)), some (vR 7 (i1)), none, none, none] [vI (r7)] _ _ _
  refine wp_istore_n (L' := [some (vR 8 (i0)), some (vR 7 (i1)), some (vI (r7)), none, none]) dX8_goOn_11 rfl rfl ?_
  refine wp_iconst (v := 0) dX8_goOn_12 (by decide) ?_
  refine wp_istore_n (L' := [some (vR 8 (i0)), some (vR 7 (i1)), some (vI (r7)), some (vI (0)), none]) dX8_goOn_13 rfl rfl ?_
  exact w8_X8_goOn_14 FU h
def f8_X8_endRequest (i0 : Nat) (i1 : Nat) (x2 : Int32) (m : CM) : CR (Int32) :=
  wr (sI m 642 i1 (x2)) fun m1 =>
  wr (sI m1 643 i1 ((gI m1 1024 i0))) fun m3 =>
  if ((gI m3 1024 i0) - (gI m3 641 i1)) ≤ (gI m3 1027 i0) then
    cb (f8_X8_isKeptByHead i0 (i1) m3) fun r6 m7 =>
    if r6 = 0 then
      if x2 = 3 then
        wr (sI m7 644 i1 (0)) fun m14 =>
        od (gR m14 640 i1) fun j16 =>
        cb (f8_X8_close (f8_X8_end 8) i0 (j16) (0) m14) fun _ m19 =>
        some (0, m19, 0)
      else
        wr (sI m7 644 i1 (1)) fun m24 =>
        od (gR m24 640 i1) fun j26 =>
        cb (f8_X8_close (f8_X8_end 8) i0 (j26) (0) m24) fun _ m29 =>
        some (0, m29, 0)
    else
      wr (sI m7 644 i1 (1)) fun m34 =>
      od (gR m34 640 i1) fun j36 =>
      cb (f8_X8_close (f8_X8_end 8) i0 (j36) (0) m34) fun _ m39 =>
      some (0, m39, 0)
  else
    cb (f8_X8_isKeptByHead i0 (i1) m3) fun r44 m45 =>
    if r44 = 0 then
      if x2 = 3 then
        wr (sI m45 644 i1 (1)) fun m52 =>
        od (gR m52 640 i1) fun j54 =>
        cb (f8_X8_close (f8_X8_end 8) i0 (j54) (0) m52) fun _ m57 =>
        some (0, m57, 0)
      else
        wr (sI m45 644 i1 (1)) fun m62 =>
        od (gR m62 640 i1) fun j64 =>
        cb (f8_X8_close (f8_X8_end 8) i0 (j64) (0) m62) fun _ m67 =>
        some (0, m67, 0)
    else
      wr (sI m45 644 i1 (1)) fun m72 =>
      od (gR m72 640 i1) fun j74 =>
      cb (f8_X8_close (f8_X8_end 8) i0 (j74) (0) m72) fun _ m77 =>
      some (0, m77, 0)
theorem w8_X8_endRequest {r : Int32} {m9 : CM} {i0 : Nat} {i1 : Nat} {x2 : Int32} {m : CM} {n9 : Nat} (h : f8_X8_endRequest i0 i1 x2 m = some (r, m9, n9)) : Spec mX8_endRequest (38) n9 [vR 8 (i0), vR 5 (i1), vI (x2)] (cM m out rho) (Pc out rho none m9) NX := by
  unfold f8_X8_endRequest at h
  refine spec_of (by decide) rfl (by simp [catS, cat1]) (Nat.le_of_ble_eq_true rfl) ?_
  show WP mX8_endRequest (38) n9 0 [some (vR 8 (i0)), some (vR 5 (i1)), some (vI (x2)), none] [] (cM m out rho) (Pc out rho none m9) NX
  refine wp_aload_n dX8_endRequest_0 rfl ?_
  refine wp_iload_n dX8_endRequest_1 rfl ?_
  obtain ⟨m1, e2, h⟩ := wr_e h
  refine cp_putI (y := 2) (f := 642) e2 (by decide) (by decide) rfl rfl (Or.inl rfl) fl_X8_187 dX8_endRequest_2 rfl ?_
  refine wp_aload_n dX8_endRequest_5 rfl ?_
  refine wp_aload_n dX8_endRequest_6 rfl ?_
  refine cp_getI (y := 0) (f := 1024) (by decide) (by decide) rfl rfl fl_X8_140 dX8_endRequest_7 ?_
  obtain ⟨m3, e4, h⟩ := wr_e h
  refine cp_putI (y := 3) (f := 643) e4 (by decide) (by decide) rfl rfl (Or.inl rfl) fl_X8_190 dX8_endRequest_10 rfl ?_
  refine wp_aload_n dX8_endRequest_13 rfl ?_
  refine cp_getI (y := 0) (f := 1024) (by decide) (by decide) rfl rfl fl_X8_140 dX8_endRequest_14 ?_
  refine wp_aload_n dX8_endRequest_17 rfl ?_
  refine cp_getI (y := 1) (f := 641) (by decide) (by decide) rfl rfl fl_X8_193 dX8_endRequest_18 ?_
  refine wp_isub dX8_endRequest_21 ?_
  refine wp_aload_n dX8_endRequest_22 rfl ?_
  refine cp_getI (y := 3) (f := 1027) (by decide) (by decide) rfl rfl fl_X8_16 dX8_endRequest_23 ?_
  refine wp_icmp_le (tgt := 33) dX8_endRequest_26 (by decide) (fun c5 => ?_) (fun c5 => ?_)
  · replace h := itp c5 h
    refine wp_iconst (v := 0) dX8_endRequest_33 (by decide) ?_
    refine wp_istore_n (L' := [some (vR 8 (i0)), some (vR 5 (i1)), some (vI (x2)), some (vI (0))]) dX8_endRequest_34 rfl rfl ?_
    refine wp_aload_n dX8_endRequest_35 rfl ?_
    refine wp_aload_n dX8_endRequest_36 rfl ?_
    refine wp_aload_n dX8_endRequest_37 rfl ?_
    obtain ⟨r6, m7, n8, n9, hp10, h, en11⟩ := cb_e h
    refine wp_callV (k1 := n8) (k2 := n9) (As := [vR 5 (i1)]) (rest := [vR 5 (i1)]) (w8_X8_isKeptByHead hp10) okX8_isKeptByHead ivX8_isKeptByHead rfl (by decide) ml_X8_196 dX8_endRequest_38 rfl (by decide) (Nat.le_of_eq en11) rfl (Nat.le_of_ble_eq_true rfl) (fun _ _ z => z.elim) (fun r' S' z => ?_)
    obtain ⟨rfl, rfl⟩ := z
    show WP _ _ _ _ [some (vR 8 (i0)), some (vR 5 (i1)), some (vI (x2)), some (vI (0))] [vI (r6), vR 5 (i1)] _ _ _
    refine wp_if_ne (tgt := 53) dX8_endRequest_41 (by decide) (fun c12 => ?_) (fun c12 => ?_)
    · replace h := itn c12 h
      refine wp_iconst (v := 1) dX8_endRequest_53 (by decide) ?_
      refine wp_goto (tgt := 58) dX8_endRequest_54 (by decide) ?_
      obtain ⟨m34, e35, h⟩ := wr_e h
      refine cp_putB (y := 4) (f := 644) e35 (by decide) (by decide) rfl rfl (Or.inl rfl) fl_X8_200 dX8_endRequest_58 rfl (by decide) ?_
      refine wp_aload_n dX8_endRequest_61 rfl ?_
      refine wp_aload_n dX8_endRequest_62 rfl ?_
      obtain ⟨j36, ho37, h⟩ := od_e h
      refine cp_getS (y := 0) (f := 640) (t := 7) (by decide) (by decide) rfl rfl fl_X8_323 dX8_endRequest_63 ho37 ?_
      refine wp_iconst (v := 0) dX8_endRequest_66 (by decide) ?_
      obtain ⟨r38, m39, n40, n41, hp42, h, en43⟩ := cb_e h
      refine wp_callV (k1 := n40) (k2 := n41) (As := [vR 7 (j36), vI (0)]) (rest := []) (w8_X8_close (by decide) (fun h => w8_X8_end 8 h) hp42) okX8_close ivX8_close rfl (by decide) ml_X8_356 dX8_endRequest_67 rfl (by decide) (Nat.le_of_eq en43) rfl (Nat.le_of_ble_eq_true rfl) (fun _ _ z => z.elim) (fun r' S' z => ?_)
      obtain ⟨rfl, rfl⟩ := z
      show WP _ _ _ _ [some (vR 8 (i0)), some (vR 5 (i1)), some (vI (x2)), some (vI (0))] [] _ _ _
      obtain ⟨q1, q2, q3⟩ := cs_e h
      clear q1
      subst q2
      exact wp_return rfl dX8_endRequest_70 ⟨rfl, rfl⟩
    · replace h := itp c12 h
      refine wp_iload_n dX8_endRequest_44 rfl ?_
      refine wp_iconst (v := 3) dX8_endRequest_45 (by decide) ?_
      refine wp_icmp_ne (tgt := 53) dX8_endRequest_46 (by decide) (fun c13 => ?_) (fun c13 => ?_)
      · replace h := itn c13 h
        refine wp_iconst (v := 1) dX8_endRequest_53 (by decide) ?_
        refine wp_goto (tgt := 58) dX8_endRequest_54 (by decide) ?_
        obtain ⟨m24, e25, h⟩ := wr_e h
        refine cp_putB (y := 4) (f := 644) e25 (by decide) (by decide) rfl rfl (Or.inl rfl) fl_X8_200 dX8_endRequest_58 rfl (by decide) ?_
        refine wp_aload_n dX8_endRequest_61 rfl ?_
        refine wp_aload_n dX8_endRequest_62 rfl ?_
        obtain ⟨j26, ho27, h⟩ := od_e h
        refine cp_getS (y := 0) (f := 640) (t := 7) (by decide) (by decide) rfl rfl fl_X8_323 dX8_endRequest_63 ho27 ?_
        refine wp_iconst (v := 0) dX8_endRequest_66 (by decide) ?_
        obtain ⟨r28, m29, n30, n31, hp32, h, en33⟩ := cb_e h
        refine wp_callV (k1 := n30) (k2 := n31) (As := [vR 7 (j26), vI (0)]) (rest := []) (w8_X8_close (by decide) (fun h => w8_X8_end 8 h) hp32) okX8_close ivX8_close rfl (by decide) ml_X8_356 dX8_endRequest_67 rfl (by decide) (Nat.le_of_eq en33) rfl (Nat.le_of_ble_eq_true rfl) (fun _ _ z => z.elim) (fun r' S' z => ?_)
        obtain ⟨rfl, rfl⟩ := z
        show WP _ _ _ _ [some (vR 8 (i0)), some (vR 5 (i1)), some (vI (x2)), some (vI (0))] [] _ _ _
        obtain ⟨q1, q2, q3⟩ := cs_e h
        clear q1
        subst q2
        exact wp_return rfl dX8_endRequest_70 ⟨rfl, rfl⟩
      · replace h := itp c13 h
        refine wp_iload_n dX8_endRequest_49 rfl ?_
        refine wp_if_eq (tgt := 57) dX8_endRequest_50 (by decide) (fun _ => ?_) (fun z => absurd (by decide) z)
        refine wp_iconst (v := 0) dX8_endRequest_57 (by decide) ?_
        obtain ⟨m14, e15, h⟩ := wr_e h
        refine cp_putB (y := 4) (f := 644) e15 (by decide) (by decide) rfl rfl (Or.inl rfl) fl_X8_200 dX8_endRequest_58 rfl (by decide) ?_
        refine wp_aload_n dX8_endRequest_61 rfl ?_
        refine wp_aload_n dX8_endRequest_62 rfl ?_
        obtain ⟨j16, ho17, h⟩ := od_e h
        refine cp_getS (y := 0) (f := 640) (t := 7) (by decide) (by decide) rfl rfl fl_X8_323 dX8_endRequest_63 ho17 ?_
        refine wp_iconst (v := 0) dX8_endRequest_66 (by decide) ?_
        obtain ⟨r18, m19, n20, n21, hp22, h, en23⟩ := cb_e h
        refine wp_callV (k1 := n20) (k2 := n21) (As := [vR 7 (j16), vI (0)]) (rest := []) (w8_X8_close (by decide) (fun h => w8_X8_end 8 h) hp22) okX8_close ivX8_close rfl (by decide) ml_X8_356 dX8_endRequest_67 rfl (by decide) (Nat.le_of_eq en23) rfl (Nat.le_of_ble_eq_true rfl) (fun _ _ z => z.elim) (fun r' S' z => ?_)
        obtain ⟨rfl, rfl⟩ := z
        show WP _ _ _ _ [some (vR 8 (i0)), some (vR 5 (i1)), some (vI (x2)), some (vI (0))] [] _ _ _
        obtain ⟨q1, q2, q3⟩ := cs_e h
        clear q1
        subst q2
        exact wp_return rfl dX8_endRequest_70 ⟨rfl, rfl⟩
  · replace h := itn c5 h
    refine wp_iconst (v := 1) dX8_endRequest_29 (by decide) ?_
    refine wp_goto (tgt := 34) dX8_endRequest_30 (by decide) ?_
    refine wp_istore_n (L' := [some (vR 8 (i0)), some (vR 5 (i1)), some (vI (x2)), some (vI (1))]) dX8_endRequest_34 rfl rfl ?_
    refine wp_aload_n dX8_endRequest_35 rfl ?_
    refine wp_aload_n dX8_endRequest_36 rfl ?_
    refine wp_aload_n dX8_endRequest_37 rfl ?_
    obtain ⟨r44, m45, n46, n47, hp48, h, en49⟩ := cb_e h
    refine wp_callV (k1 := n46) (k2 := n47) (As := [vR 5 (i1)]) (rest := [vR 5 (i1)]) (w8_X8_isKeptByHead hp48) okX8_isKeptByHead ivX8_isKeptByHead rfl (by decide) ml_X8_196 dX8_endRequest_38 rfl (by decide) (Nat.le_of_eq en49) rfl (Nat.le_of_ble_eq_true rfl) (fun _ _ z => z.elim) (fun r' S' z => ?_)
    obtain ⟨rfl, rfl⟩ := z
    show WP _ _ _ _ [some (vR 8 (i0)), some (vR 5 (i1)), some (vI (x2)), some (vI (1))] [vI (r44), vR 5 (i1)] _ _ _
    refine wp_if_ne (tgt := 53) dX8_endRequest_41 (by decide) (fun c50 => ?_) (fun c50 => ?_)
    · replace h := itn c50 h
      refine wp_iconst (v := 1) dX8_endRequest_53 (by decide) ?_
      refine wp_goto (tgt := 58) dX8_endRequest_54 (by decide) ?_
      obtain ⟨m72, e73, h⟩ := wr_e h
      refine cp_putB (y := 4) (f := 644) e73 (by decide) (by decide) rfl rfl (Or.inl rfl) fl_X8_200 dX8_endRequest_58 rfl (by decide) ?_
      refine wp_aload_n dX8_endRequest_61 rfl ?_
      refine wp_aload_n dX8_endRequest_62 rfl ?_
      obtain ⟨j74, ho75, h⟩ := od_e h
      refine cp_getS (y := 0) (f := 640) (t := 7) (by decide) (by decide) rfl rfl fl_X8_323 dX8_endRequest_63 ho75 ?_
      refine wp_iconst (v := 0) dX8_endRequest_66 (by decide) ?_
      obtain ⟨r76, m77, n78, n79, hp80, h, en81⟩ := cb_e h
      refine wp_callV (k1 := n78) (k2 := n79) (As := [vR 7 (j74), vI (0)]) (rest := []) (w8_X8_close (by decide) (fun h => w8_X8_end 8 h) hp80) okX8_close ivX8_close rfl (by decide) ml_X8_356 dX8_endRequest_67 rfl (by decide) (Nat.le_of_eq en81) rfl (Nat.le_of_ble_eq_true rfl) (fun _ _ z => z.elim) (fun r' S' z => ?_)
      obtain ⟨rfl, rfl⟩ := z
      show WP _ _ _ _ [some (vR 8 (i0)), some (vR 5 (i1)), some (vI (x2)), some (vI (1))] [] _ _ _
      obtain ⟨q1, q2, q3⟩ := cs_e h
      clear q1
      subst q2
      exact wp_return rfl dX8_endRequest_70 ⟨rfl, rfl⟩
    · replace h := itp c50 h
      refine wp_iload_n dX8_endRequest_44 rfl ?_
      refine wp_iconst (v := 3) dX8_endRequest_45 (by decide) ?_
      refine wp_icmp_ne (tgt := 53) dX8_endRequest_46 (by decide) (fun c51 => ?_) (fun c51 => ?_)
      · replace h := itn c51 h
        refine wp_iconst (v := 1) dX8_endRequest_53 (by decide) ?_
        refine wp_goto (tgt := 58) dX8_endRequest_54 (by decide) ?_
        obtain ⟨m62, e63, h⟩ := wr_e h
        refine cp_putB (y := 4) (f := 644) e63 (by decide) (by decide) rfl rfl (Or.inl rfl) fl_X8_200 dX8_endRequest_58 rfl (by decide) ?_
        refine wp_aload_n dX8_endRequest_61 rfl ?_
        refine wp_aload_n dX8_endRequest_62 rfl ?_
        obtain ⟨j64, ho65, h⟩ := od_e h
        refine cp_getS (y := 0) (f := 640) (t := 7) (by decide) (by decide) rfl rfl fl_X8_323 dX8_endRequest_63 ho65 ?_
        refine wp_iconst (v := 0) dX8_endRequest_66 (by decide) ?_
        obtain ⟨r66, m67, n68, n69, hp70, h, en71⟩ := cb_e h
        refine wp_callV (k1 := n68) (k2 := n69) (As := [vR 7 (j64), vI (0)]) (rest := []) (w8_X8_close (by decide) (fun h => w8_X8_end 8 h) hp70) okX8_close ivX8_close rfl (by decide) ml_X8_356 dX8_endRequest_67 rfl (by decide) (Nat.le_of_eq en71) rfl (Nat.le_of_ble_eq_true rfl) (fun _ _ z => z.elim) (fun r' S' z => ?_)
        obtain ⟨rfl, rfl⟩ := z
        show WP _ _ _ _ [some (vR 8 (i0)), some (vR 5 (i1)), some (vI (x2)), some (vI (1))] [] _ _ _
        obtain ⟨q1, q2, q3⟩ := cs_e h
        clear q1
        subst q2
        exact wp_return rfl dX8_endRequest_70 ⟨rfl, rfl⟩
      · replace h := itp c51 h
        refine wp_iload_n dX8_endRequest_49 rfl ?_
        refine wp_if_eq (tgt := 57) dX8_endRequest_50 (by decide) (fun z => absurd z (by decide)) (fun _ => ?_)
        refine wp_iconst (v := 1) dX8_endRequest_53 (by decide) ?_
        refine wp_goto (tgt := 58) dX8_endRequest_54 (by decide) ?_
        obtain ⟨m52, e53, h⟩ := wr_e h
        refine cp_putB (y := 4) (f := 644) e53 (by decide) (by decide) rfl rfl (Or.inl rfl) fl_X8_200 dX8_endRequest_58 rfl (by decide) ?_
        refine wp_aload_n dX8_endRequest_61 rfl ?_
        refine wp_aload_n dX8_endRequest_62 rfl ?_
        obtain ⟨j54, ho55, h⟩ := od_e h
        refine cp_getS (y := 0) (f := 640) (t := 7) (by decide) (by decide) rfl rfl fl_X8_323 dX8_endRequest_63 ho55 ?_
        refine wp_iconst (v := 0) dX8_endRequest_66 (by decide) ?_
        obtain ⟨r56, m57, n58, n59, hp60, h, en61⟩ := cb_e h
        refine wp_callV (k1 := n58) (k2 := n59) (As := [vR 7 (j54), vI (0)]) (rest := []) (w8_X8_close (by decide) (fun h => w8_X8_end 8 h) hp60) okX8_close ivX8_close rfl (by decide) ml_X8_356 dX8_endRequest_67 rfl (by decide) (Nat.le_of_eq en61) rfl (Nat.le_of_ble_eq_true rfl) (fun _ _ z => z.elim) (fun r' S' z => ?_)
        obtain ⟨rfl, rfl⟩ := z
        show WP _ _ _ _ [some (vR 8 (i0)), some (vR 5 (i1)), some (vI (x2)), some (vI (1))] [] _ _ _
        obtain ⟨q1, q2, q3⟩ := cs_e h
        clear q1
        subst q2
        exact wp_return rfl dX8_endRequest_70 ⟨rfl, rfl⟩
def f8_X8_endIfOver (i0 : Nat) (i1 : Nat) (m : CM) : CR (Int32) :=
  od (gR m 640 i1) fun j1 =>
  if (gI m 911 j1) = 8 then
    some (0, m, 0)
  else
    cb (f8_X8_endRequest i0 (i1) ((gI m 911 j1)) m) fun _ m5 =>
    some (0, m5, 0)
theorem w8_X8_endIfOver {r : Int32} {m9 : CM} {i0 : Nat} {i1 : Nat} {m : CM} {n9 : Nat} (h : f8_X8_endIfOver i0 i1 m = some (r, m9, n9)) : Spec mX8_endIfOver (39) n9 [vR 8 (i0), vR 5 (i1)] (cM m out rho) (Pc out rho none m9) NX := by
  unfold f8_X8_endIfOver at h
  refine spec_of (by decide) rfl (by simp [catS, cat1]) (Nat.le_of_ble_eq_true rfl) ?_
  show WP mX8_endIfOver (39) n9 0 [some (vR 8 (i0)), some (vR 5 (i1))] [] (cM m out rho) (Pc out rho none m9) NX
  refine wp_aload_n dX8_endIfOver_0 rfl ?_
  obtain ⟨j1, ho2, h⟩ := od_e h
  refine cp_getS (y := 0) (f := 640) (t := 7) (by decide) (by decide) rfl rfl fl_X8_323 dX8_endIfOver_1 ho2 ?_
  refine cp_getI (y := 15) (f := 911) (by decide) (by decide) rfl rfl fl_X8_249 dX8_endIfOver_4 ?_
  refine wp_bipush (v := 8) dX8_endIfOver_7 (by decide) ?_
  refine wp_icmp_eq (tgt := 24) dX8_endIfOver_9 (by decide) (fun c3 => ?_) (fun c3 => ?_)
  · replace h := itp c3 h
    obtain ⟨q1, q2, q3⟩ := cs_e h
    clear q1
    subst q2
    exact wp_return rfl dX8_endIfOver_24 ⟨rfl, rfl⟩
  · replace h := itn c3 h
    refine wp_aload_n dX8_endIfOver_12 rfl ?_
    refine wp_aload_n dX8_endIfOver_13 rfl ?_
    refine wp_aload_n dX8_endIfOver_14 rfl ?_
    refine cp_getS (y := 0) (f := 640) (t := 7) (by decide) (by decide) rfl rfl fl_X8_323 dX8_endIfOver_15 ho2 ?_
    refine cp_getI (y := 15) (f := 911) (by decide) (by decide) rfl rfl fl_X8_249 dX8_endIfOver_18 ?_
    obtain ⟨r4, m5, n6, n7, hp8, h, en9⟩ := cb_e h
    refine wp_callV (k1 := n6) (k2 := n7) (As := [vR 5 (i1), vI ((gI m 911 j1))]) (rest := []) (w8_X8_endRequest hp8) okX8_endRequest ivX8_endRequest rfl (by decide) ml_X8_326 dX8_endIfOver_21 rfl (by decide) (Nat.le_of_eq en9) rfl (Nat.le_of_ble_eq_true rfl) (fun _ _ z => z.elim) (fun r' S' z => ?_)
    obtain ⟨rfl, rfl⟩ := z
    show WP _ _ _ _ [some (vR 8 (i0)), some (vR 5 (i1))] [] _ _ _
    obtain ⟨q1, q2, q3⟩ := cs_e h
    clear q1
    subst q2
    exact wp_return rfl dX8_endIfOver_24 ⟨rfl, rfl⟩
def f8_X8_request (i0 : Nat) (x1 : Int32) (x2 : Int32) (x3 : Int32) (m : CM) : CR (Int32 ⊕ Nat) :=
  cb (f8_X8_isWithin (x1) (0) (5) m) fun r1 m2 =>
  if r1 = 0 then some (.inr 0, m2, 1) else
  cb (f8_X8_isWithin (x3) (1) (200) m2) fun r8 m9 =>
  if r8 = 0 then some (.inr 1, m9, 1) else
  od (gR m9 1032 i0) fun j15 =>
  if 40 ≤ (nI (gL m9 51 j15).length) then
    some (.inr 2, m9, 1)
  else
    if gV m9 7 (4 * (400 + (gL m9 51 0).length)) = false then
    cg 1 (
    wr (sN m9 7 (4 * (400 + (gL m9 51 0).length))) fun m21 =>
    cb (f8_X7_init (4 * (400 + (gL m9 51 0).length)) (6) (x1) (x2) m21) fun _ m24 =>
    od (gR m24 1032 i0) fun j29 =>
    wr (sI m24 902 (4 * (400 + (gL m9 51 0).length)) ((nI (gL m24 51 j29).length))) fun m31 =>
    wr (sI m31 901 (4 * (400 + (gL m9 51 0).length)) (((gI m31 1024 i0) + x3))) fun m33 =>
    if gV m33 5 ((gL m33 51 0).length) = false then
    cg 1 (
    wr (sN m33 5 ((gL m33 51 0).length)) fun m38 =>
    cb (f8_X5_init ((gL m33 51 0).length) ((4 * (400 + (gL m9 51 0).length))) ((gI m38 1024 i0)) m38) fun _ m41 =>
    od (gR m41 1032 i0) fun j46 =>
    if (gL m41 51 j46).length ≤ 450 then
    cg 1 (
    wr (sL m41 51 j46 (gL m41 51 j46 ++ [((gL m33 51 0).length)])) fun m51 =>
    cb (f8_X8_tryOnce i0 ((4 * (400 + (gL m9 51 0).length))) (0) m51) fun _ m54 =>
    cb (f8_X8_goOn i0 ((4 * (400 + (gL m9 51 0).length))) m54) fun _ m60 =>
    cb (f8_X8_endIfOver i0 (((gL m33 51 0).length)) m60) fun _ m66 =>
    some (.inl ((gI m66 902 (4 * (400 + (gL m9 51 0).length)))), m66, 0))
    else none)
    else none)
    else none
theorem w8_X8_request {r : Int32 ⊕ Nat} {m9 : CM} {i0 : Nat} {x1 : Int32} {x2 : Int32} {x3 : Int32} {m : CM} {n9 : Nat} (h : f8_X8_request i0 x1 x2 x3 m = some (r, m9, n9)) : Spec mX8_request (40) n9 [vR 8 (i0), vI (x1), vI (x2), vI (x3)] (cM m out rho) (PcE out rho r false m9) (XcE out rho r m9) := by
  unfold f8_X8_request at h
  refine spec_of (by decide) rfl (by simp [catS, cat1]) (Nat.le_of_ble_eq_true rfl) ?_
  show WP mX8_request (40) n9 0 [some (vR 8 (i0)), some (vI (x1)), some (vI (x2)), some (vI (x3)), none, none] [] (cM m out rho) (PcE out rho r false m9) (XcE out rho r m9)
  refine wp_iload_n dX8_request_0 rfl ?_
  refine wp_iconst (v := 0) dX8_request_1 (by decide) ?_
  refine wp_iconst (v := 5) dX8_request_2 (by decide) ?_
  obtain ⟨r1, m2, n3, n4, hp5, h, en6⟩ := cb_e h
  refine wp_callS (k1 := n3) (k2 := n4) (As := [vI (x1), vI (0), vI (5)]) (rest := []) (w8_X8_isWithin hp5) okX8_isWithin sm_X8_isWithin rfl ml_X8_54 dX8_request_3 rfl (by decide) (Nat.le_of_eq en6) rfl (Nat.le_of_ble_eq_true rfl) (fun _ _ z => z.elim) (fun r' S' z => ?_)
  obtain ⟨rfl, rfl⟩ := z
  show WP _ _ _ _ [some (vR 8 (i0)), some (vI (x1)), some (vI (x2)), some (vI (x3)), none, none] [vI (r1)] _ _ _
  by_cases c7 : r1 = 0
  · replace h := itp c7 h
    obtain ⟨q1, q2, q3⟩ := cs_e h
    subst q1
    subst q2
    subst q3
    exact wp_callS (k1 := 1) (k2 := 0) (As := [vI (r1)]) (rest := []) (w8_mustExist0 c7) okX8_mustExist sm_X8_mustExist rfl ml_X8_58 dX8_request_6 rfl (by decide) (Nat.le_refl _) rfl (Nat.le_of_ble_eq_true rfl) (fun E S' z => ⟨⟨0, rfl, by decide, z.1⟩, z.2⟩) (fun r' S' z => z.elim)
  replace h := itn c7 h
  refine wp_callS (k1 := 0) (k2 := _) (As := [vI (r1)]) (rest := []) (w8_mustExist1 c7) okX8_mustExist sm_X8_mustExist rfl ml_X8_58 dX8_request_6 rfl (by decide) (Nat.le_of_eq (Nat.zero_add _)) rfl (Nat.le_of_ble_eq_true rfl) (fun _ _ z => z.elim) (fun r' S' z => ?_)
  obtain ⟨rfl, rfl⟩ := z
  show WP _ _ _ _ [some (vR 8 (i0)), some (vI (x1)), some (vI (x2)), some (vI (x3)), none, none] [] _ _ _
  refine wp_iload_n dX8_request_9 rfl ?_
  refine wp_iconst (v := 1) dX8_request_10 (by decide) ?_
  refine wp_sipush (v := 200) dX8_request_11 (by decide) ?_
  obtain ⟨r8, m9, n10, n11, hp12, h, en13⟩ := cb_e h
  refine wp_callS (k1 := n10) (k2 := n11) (As := [vI (x3), vI (1), vI (200)]) (rest := []) (w8_X8_isWithin hp12) okX8_isWithin sm_X8_isWithin rfl ml_X8_54 dX8_request_14 rfl (by decide) (Nat.le_of_eq en13) rfl (Nat.le_of_ble_eq_true rfl) (fun _ _ z => z.elim) (fun r' S' z => ?_)
  obtain ⟨rfl, rfl⟩ := z
  show WP _ _ _ _ [some (vR 8 (i0)), some (vI (x1)), some (vI (x2)), some (vI (x3)), none, none] [vI (r8)] _ _ _
  by_cases c14 : r8 = 0
  · replace h := itp c14 h
    obtain ⟨q1, q2, q3⟩ := cs_e h
    subst q1
    subst q2
    subst q3
    exact wp_callS (k1 := 1) (k2 := 0) (As := [vI (r8)]) (rest := []) (w8_mustFit0 c14) okX8_mustFit sm_X8_mustFit rfl ml_X8_62 dX8_request_17 rfl (by decide) (Nat.le_refl _) rfl (Nat.le_of_ble_eq_true rfl) (fun E S' z => ⟨⟨1, rfl, by decide, z.1⟩, z.2⟩) (fun r' S' z => z.elim)
  replace h := itn c14 h
  refine wp_callS (k1 := 0) (k2 := _) (As := [vI (r8)]) (rest := []) (w8_mustFit1 c14) okX8_mustFit sm_X8_mustFit rfl ml_X8_62 dX8_request_17 rfl (by decide) (Nat.le_of_eq (Nat.zero_add _)) rfl (Nat.le_of_ble_eq_true rfl) (fun _ _ z => z.elim) (fun r' S' z => ?_)
  obtain ⟨rfl, rfl⟩ := z
  show WP _ _ _ _ [some (vR 8 (i0)), some (vI (x1)), some (vI (x2)), some (vI (x3)), none, none] [] _ _ _
  refine wp_aload_n dX8_request_20 rfl ?_
  obtain ⟨j15, ho16, h⟩ := od_e h
  refine cp_getS (y := 8) (f := 1032) (t := 51) (by decide) (by decide) rfl rfl fl_X8_43 dX8_request_21 ho16 ?_
  refine cp_size (c := 51) rfl (by decide) ml_X8_82 dX8_request_24 (Nat.le_of_ble_eq_true rfl) ?_
  refine wp_bipush (v := 40) dX8_request_27 (by decide) ?_
  refine wp_icmp_ge (tgt := 36) dX8_request_29 (by decide) (fun c17 => ?_) (fun c17 => ?_)
  · replace h := itp c17 h
    refine wp_iconst (v := 0) dX8_request_36 (by decide) ?_
    obtain ⟨q1, q2, q3⟩ := cs_e h
    subst q1
    subst q2
    subst q3
    exact wp_callS (k1 := 1) (k2 := 0) (As := [vI (0)]) (rest := []) (w8_mustBeAllowed0 rfl) okX8_mustBeAllowed sm_X8_mustBeAllowed rfl ml_X8_75 dX8_request_37 rfl (by decide) (Nat.le_refl _) rfl (Nat.le_of_ble_eq_true rfl) (fun E S' z => ⟨⟨2, rfl, by decide, z.1⟩, z.2⟩) (fun r' S' z => z.elim)
  · replace h := itn c17 h
    refine wp_iconst (v := 1) dX8_request_32 (by decide) ?_
    refine wp_goto (tgt := 37) dX8_request_33 (by decide) ?_
    refine wp_callS (k1 := 0) (k2 := _) (As := [vI (1)]) (rest := []) (w8_mustBeAllowed1 (by decide)) okX8_mustBeAllowed sm_X8_mustBeAllowed rfl ml_X8_75 dX8_request_37 rfl (by decide) (Nat.le_of_eq (Nat.zero_add _)) rfl (Nat.le_of_ble_eq_true rfl) (fun _ _ z => z.elim) (fun r' S' z => ?_)
    obtain ⟨rfl, rfl⟩ := z
    show WP _ _ _ _ [some (vR 8 (i0)), some (vI (x1)), some (vI (x2)), some (vI (x3)), none, none] [] _ _ _
    obtain ⟨c18, h⟩ := ock h
    obtain ⟨n19, h, en20⟩ := cg_e h
    rw [← en20]
    obtain ⟨m21, e22, h⟩ := wr_e h
    refine cp_new (c := 7) (i := (4 * (400 + (gL m9 51 0).length))) e22 (by decide) c18 kl_X8_132 it_X7 in_X7 dX8_request_40 ?_
    refine wp_dup dX8_request_43 trivial ?_
    refine wp_bipush (v := 6) dX8_request_44 (by decide) ?_
    refine wp_iload_n dX8_request_46 rfl ?_
    refine wp_iload_n dX8_request_47 rfl ?_
    obtain ⟨r23, m24, n25, n26, hp27, h, en28⟩ := cb_e h
    refine wp_callI (k1 := n25) (k2 := n26) (As := [vI (6), vI (x1), vI (x2)]) (rest := [vR 7 ((4 * (400 + (gL m9 51 0).length)))]) (w8_X7_init hp27) okX7_init rfl rfl im_X7_init ml_X8_134 dX8_request_48 (by decide) (Nat.le_of_eq en28) rfl (Nat.le_of_ble_eq_true rfl) (fun r' S' z => ?_)
    obtain ⟨rfl, rfl⟩ := z
    show WP _ _ _ _ [some (vR 8 (i0)), some (vI (x1)), some (vI (x2)), some (vI (x3)), none, none] [vR 7 ((4 * (400 + (gL m9 51 0).length)))] _ _ _
    refine wp_astore (L' := [some (vR 8 (i0)), some (vI (x1)), some (vI (x2)), some (vI (x3)), some (vR 7 ((4 * (400 + (gL m9 51 0).length)))), none]) dX8_request_51 rfl rfl ?_
    refine wp_aload dX8_request_53 rfl ?_
    refine wp_aload_n dX8_request_55 rfl ?_
    obtain ⟨j29, ho30, h⟩ := od_e h
    refine cp_getS (y := 8) (f := 1032) (t := 51) (by decide) (by decide) rfl rfl fl_X8_43 dX8_request_56 ho30 ?_
    refine cp_size (c := 51) rfl (by decide) ml_X8_82 dX8_request_59 (Nat.le_of_ble_eq_true rfl) ?_
    obtain ⟨m31, e32, h⟩ := wr_e h
    refine cp_putI (y := 6) (f := 902) e32 (by decide) (by decide) rfl rfl (Or.inl rfl) fl_X8_137 dX8_request_62 rfl ?_
    refine wp_aload dX8_request_65 rfl ?_
    refine wp_aload_n dX8_request_67 rfl ?_
    refine cp_getI (y := 0) (f := 1024) (by decide) (by decide) rfl rfl fl_X8_140 dX8_request_68 ?_
    refine wp_iload_n dX8_request_71 rfl ?_
    refine wp_iadd dX8_request_72 ?_
    obtain ⟨m33, e34, h⟩ := wr_e h
    refine cp_putI (y := 5) (f := 901) e34 (by decide) (by decide) rfl rfl (Or.inl rfl) fl_X8_143 dX8_request_73 rfl ?_
    obtain ⟨c35, h⟩ := ock h
    obtain ⟨n36, h, en37⟩ := cg_e h
    rw [← en37]
    obtain ⟨m38, e39, h⟩ := wr_e h
    refine cp_new (c := 5) (i := (gL m33 51 0).length) e39 (by decide) c35 kl_X8_146 it_X5 in_X5 dX8_request_76 ?_
    refine wp_dup dX8_request_79 trivial ?_
    refine wp_aload dX8_request_80 rfl ?_
    refine wp_aload_n dX8_request_82 rfl ?_
    refine cp_getI (y := 0) (f := 1024) (by decide) (by decide) rfl rfl fl_X8_140 dX8_request_83 ?_
    obtain ⟨r40, m41, n42, n43, hp44, h, en45⟩ := cb_e h
    refine wp_callI (k1 := n42) (k2 := n43) (As := [vR 7 ((4 * (400 + (gL m9 51 0).length))), vI ((gI m38 1024 i0))]) (rest := [vR 5 (((gL m33 51 0).length))]) (w8_X5_init hp44) okX5_init rfl rfl im_X5_init ml_X8_148 dX8_request_86 (by decide) (Nat.le_of_eq en45) rfl (Nat.le_of_ble_eq_true rfl) (fun r' S' z => ?_)
    obtain ⟨rfl, rfl⟩ := z
    show WP _ _ _ _ [some (vR 8 (i0)), some (vI (x1)), some (vI (x2)), some (vI (x3)), some (vR 7 ((4 * (400 + (gL m9 51 0).length)))), none] [vR 5 (((gL m33 51 0).length))] _ _ _
    refine wp_astore (L' := [some (vR 8 (i0)), some (vI (x1)), some (vI (x2)), some (vI (x3)), some (vR 7 ((4 * (400 + (gL m9 51 0).length)))), some (vR 5 (((gL m33 51 0).length)))]) dX8_request_89 rfl rfl ?_
    refine wp_aload_n dX8_request_91 rfl ?_
    obtain ⟨j46, ho47, h⟩ := od_e h
    refine cp_getS (y := 8) (f := 1032) (t := 51) (by decide) (by decide) rfl rfl fl_X8_43 dX8_request_92 ho47 ?_
    refine wp_aload dX8_request_95 rfl ?_
    obtain ⟨c48, h⟩ := ock h
    obtain ⟨n49, h, en50⟩ := cg_e h
    rw [← en50]
    obtain ⟨m51, e52, h⟩ := wr_e h
    refine cp_add (c := 51) (t := 5) e52 rfl rfl (by decide) c48 ml_X8_91 dX8_request_97 (Nat.le_of_ble_eq_true rfl) ?_
    refine wp_pop dX8_request_100 trivial ?_
    refine wp_aload_n dX8_request_101 rfl ?_
    refine wp_aload dX8_request_102 rfl ?_
    refine wp_iconst (v := 0) dX8_request_104 (by decide) ?_
    obtain ⟨r53, m54, n55, n56, hp57, h, en58⟩ := cb_e h
    refine wp_callV (k1 := n55) (k2 := n56) (As := [vR 7 ((4 * (400 + (gL m9 51 0).length))), vI (0)]) (rest := []) (w8_X8_tryOnce hp57) okX8_tryOnce ivX8_tryOnce rfl (by decide) ml_X8_151 dX8_request_105 rfl (by decide) (Nat.le_of_eq en58) rfl (Nat.le_of_ble_eq_true rfl) (fun _ _ z => z.elim) (fun r' S' z => ?_)
    obtain ⟨rfl, rfl⟩ := z
    show WP _ _ _ _ [some (vR 8 (i0)), some (vI (x1)), some (vI (x2)), some (vI (x3)), some (vR 7 ((4 * (400 + (gL m9 51 0).length)))), some (vR 5 (((gL m33 51 0).length)))] [] _ _ _
    refine wp_aload_n dX8_request_108 rfl ?_
    refine wp_aload dX8_request_109 rfl ?_
    obtain ⟨r59, m60, n61, n62, hp63, h, en64⟩ := cb_e h
    refine wp_callV (k1 := n61) (k2 := n62) (As := [vR 7 ((4 * (400 + (gL m9 51 0).length)))]) (rest := []) (w8_X8_goOn hp63) okX8_goOn ivX8_goOn rfl (by decide) ml_X8_155 dX8_request_111 rfl (by decide) (Nat.le_of_eq en64) rfl (Nat.le_of_ble_eq_true rfl) (fun _ _ z => z.elim) (fun r' S' z => ?_)
    obtain ⟨rfl, rfl⟩ := z
    show WP _ _ _ _ [some (vR 8 (i0)), some (vI (x1)), some (vI (x2)), some (vI (x3)), some (vR 7 ((4 * (400 + (gL m9 51 0).length)))), some (vR 5 (((gL m33 51 0).length)))] [] _ _ _
    refine wp_aload_n dX8_request_114 rfl ?_
    refine wp_aload dX8_request_115 rfl ?_
    obtain ⟨r65, m66, n67, n68, hp69, h, en70⟩ := cb_e h
    refine wp_callV (k1 := n67) (k2 := n68) (As := [vR 5 (((gL m33 51 0).length))]) (rest := []) (w8_X8_endIfOver hp69) okX8_endIfOver ivX8_endIfOver rfl (by decide) ml_X8_159 dX8_request_117 rfl (by decide) (Nat.le_of_eq en70) rfl (Nat.le_of_ble_eq_true rfl) (fun _ _ z => z.elim) (fun r' S' z => ?_)
    obtain ⟨rfl, rfl⟩ := z
    show WP _ _ _ _ [some (vR 8 (i0)), some (vI (x1)), some (vI (x2)), some (vI (x3)), some (vR 7 ((4 * (400 + (gL m9 51 0).length)))), some (vR 5 (((gL m33 51 0).length)))] [] _ _ _
    refine wp_aload dX8_request_120 rfl ?_
    refine cp_getI (y := 6) (f := 902) (by decide) (by decide) rfl rfl fl_X8_137 dX8_request_122 ?_
    obtain ⟨q1, q2, q3⟩ := cs_e h
    subst q1
    subst q2
    exact wp_ireturn rfl dX8_request_125 ⟨⟨_, rfl, rfl⟩, rfl⟩
def f8_X0_rest (i0 : Nat) (x1 : Int32) (m : CM) : CR (Int32) :=
  if (gI m 0 i0) = 1 then
    if (x1 - (gI m 2 i0)) < 10 then
      some (0, m, 0)
    else
      wr (sI m 0 i0 (2)) fun m3 =>
      some (0, m3, 0)
  else
    some (0, m, 0)
theorem w8_X0_rest {r : Int32} {m9 : CM} {i0 : Nat} {x1 : Int32} {m : CM} {n9 : Nat} (h : f8_X0_rest i0 x1 m = some (r, m9, n9)) : Spec mX0_rest (0) n9 [vR 0 (i0), vI (x1)] (cM m out rho) (Pc out rho none m9) NX := by
  unfold f8_X0_rest at h
  refine spec_of (by decide) rfl (by simp [catS, cat1]) (Nat.le_of_ble_eq_true rfl) ?_
  show WP mX0_rest (0) n9 0 [some (vR 0 (i0)), some (vI (x1))] [] (cM m out rho) (Pc out rho none m9) NX
  refine wp_aload_n dX0_rest_0 rfl ?_
  refine cp_getI (y := 0) (f := 0) (by decide) (by decide) rfl rfl fl_X0_9 dX0_rest_1 ?_
  refine wp_iconst (v := 1) dX0_rest_4 (by decide) ?_
  refine wp_icmp_ne (tgt := 24) dX0_rest_5 (by decide) (fun c1 => ?_) (fun c1 => ?_)
  · replace h := itn c1 h
    obtain ⟨q1, q2, q3⟩ := cs_e h
    clear q1
    subst q2
    exact wp_return rfl dX0_rest_24 ⟨rfl, rfl⟩
  · replace h := itp c1 h
    refine wp_iload_n dX0_rest_8 rfl ?_
    refine wp_aload_n dX0_rest_9 rfl ?_
    refine cp_getI (y := 2) (f := 2) (by decide) (by decide) rfl rfl fl_X0_18 dX0_rest_10 ?_
    refine wp_isub dX0_rest_13 ?_
    refine wp_bipush (v := 10) dX0_rest_14 (by decide) ?_
    refine wp_icmp_lt (tgt := 24) dX0_rest_16 (by decide) (fun c2 => ?_) (fun c2 => ?_)
    · replace h := itp c2 h
      obtain ⟨q1, q2, q3⟩ := cs_e h
      clear q1
      subst q2
      exact wp_return rfl dX0_rest_24 ⟨rfl, rfl⟩
    · replace h := itn c2 h
      refine wp_aload_n dX0_rest_19 rfl ?_
      refine wp_iconst (v := 2) dX0_rest_20 (by decide) ?_
      obtain ⟨m3, e4, h⟩ := wr_e h
      refine cp_putI (y := 0) (f := 0) e4 (by decide) (by decide) rfl rfl (Or.inl rfl) fl_X0_9 dX0_rest_21 rfl ?_
      obtain ⟨q1, q2, q3⟩ := cs_e h
      clear q1
      subst q2
      exact wp_return rfl dX0_rest_24 ⟨rfl, rfl⟩
def l8_X8_halfOpenBreakers_30 (K2 : Nat → Int32 → CM → CR (Int32)) : Nat → Nat → Int32 → Nat → Int32 → CM → CR (Int32)
  | 0, _, _, _, _, _ => none
  | n + 1, i0, x1, i2, x3, m =>
  if 7 ≤ x3 then
    K2 (i0) (x1 + 1) m
  else
    if vq (x3) 7 then
    od (gO m 43 i2 (x3).toNatClampNeg) fun j3 =>
    cb (f8_X0_rest j3 ((gI m 1024 i0)) m) fun _ m6 =>
    l8_X8_halfOpenBreakers_30 K2 n (i0) (x1) (i2) (x3 + 1) m6
    else none
theorem w8_X8_halfOpenBreakers_30 {K2 : Nat → Int32 → CM → CR (Int32)} {r : Int32} {m9 : CM} (hK2 : ∀ {i0 : Nat} {x1 : Int32} {l2 : Option sV} {l3 : Option sV} {m : CM} {n9 : Nat}, K2 i0 x1 m = some (r, m9, n9) → WP mX8_halfOpenBreakers (8) n9 2 [some (vR 8 (i0)), some (vI (x1)), l2, l3] [] (cM m out rho) (Pc out rho none m9) NX) : ∀ (n : Nat) {i0 : Nat} {x1 : Int32} {i2 : Nat} {x3 : Int32} {m : CM} {n9 : Nat}, l8_X8_halfOpenBreakers_30 K2 n i0 x1 i2 x3 m = some (r, m9, n9) → WP mX8_halfOpenBreakers (8) n9 30 [some (vR 8 (i0)), some (vI (x1)), some (vR 43 (i2)), some (vI (x3))] [] (cM m out rho) (Pc out rho none m9) NX := by
  intro n
  induction n with
  | zero =>
    intro i0 x1 i2 x3  m n9 h
    rw [l8_X8_halfOpenBreakers_30] at h
    cases h
  | succ n ih =>
    intro i0 x1 i2 x3  m n9 h
    rw [l8_X8_halfOpenBreakers_30] at h
    refine wp_iload_n dX8_halfOpenBreakers_30 rfl ?_
    refine wp_aload_n dX8_halfOpenBreakers_31 rfl ?_
    refine cp_rlen (c := 43) rfl (by decide) dX8_halfOpenBreakers_32 ?_
    show WP _ _ _ _ [some (vR 8 (i0)), some (vI (x1)), some (vR 43 (i2)), some (vI (x3))] [vI (7), vI (x3)] _ _ _
    refine wp_icmp_ge (tgt := 52) dX8_halfOpenBreakers_33 (by decide) (fun c1 => ?_) (fun c1 => ?_)
    · replace h := itp c1 h
      refine wp_iinc (v := x1 + 1) (L' := [some (vR 8 (i0)), some (vI (x1 + 1)), some (vR 43 (i2)), some (vI (x3))]) dX8_halfOpenBreakers_52 rfl rfl rfl ?_
      refine wp_goto (tgt := 2) dX8_halfOpenBreakers_55 (by decide) ?_
      exact hK2 h
    · replace h := itn c1 h
      refine wp_aload_n dX8_halfOpenBreakers_36 rfl ?_
      refine wp_iload_n dX8_halfOpenBreakers_37 rfl ?_
      obtain ⟨c2, h⟩ := ock h
      obtain ⟨j3, ho4, h⟩ := od_e h
      refine cp_aald (c := 43) (t := 0) rfl (by decide) rfl (show vp_in (x3) (len 43) from c2) dX8_halfOpenBreakers_38 ho4 ?_
      refine wp_aload_n dX8_halfOpenBreakers_39 rfl ?_
      refine cp_getI (y := 0) (f := 1024) (by decide) (by decide) rfl rfl fl_X8_140 dX8_halfOpenBreakers_40 ?_
      obtain ⟨r5, m6, n7, n8, hp9, h, en10⟩ := cb_e h
      refine wp_callV (k1 := n7) (k2 := n8) (As := [vI ((gI m 1024 i0))]) (rest := []) (w8_X0_rest hp9) okX0_rest ivX0_rest rfl (by decide) ml_X8_279 dX8_halfOpenBreakers_43 rfl (by decide) (Nat.le_of_eq en10) rfl (Nat.le_of_ble_eq_true rfl) (fun _ _ z => z.elim) (fun r' S' z => ?_)
      obtain ⟨rfl, rfl⟩ := z
      show WP _ _ _ _ [some (vR 8 (i0)), some (vI (x1)), some (vR 43 (i2)), some (vI (x3))] [] _ _ _
      refine wp_iinc (v := x3 + 1) (L' := [some (vR 8 (i0)), some (vI (x1)), some (vR 43 (i2)), some (vI (x3 + 1))]) dX8_halfOpenBreakers_46 rfl rfl rfl ?_
      refine wp_goto (tgt := 30) dX8_halfOpenBreakers_49 (by decide) ?_
      exact ih h
def l8_X8_halfOpenBreakers_2 : Nat → Nat → Int32 → CM → CR (Int32)
  | 0, _, _, _ => none
  | n + 1, i0, x1, m =>
  od (gR m 1031 i0) fun j1 =>
  if (nI (gL m 50 j1).length) ≤ x1 then
    some (0, m, 0)
  else
    if ¬ x1 < 0 then
    od ((gL m 50 j1)[(x1).toNatClampNeg]?) fun j5 =>
    od (gR m 520 j5) fun j7 =>
    l8_X8_halfOpenBreakers_30 (l8_X8_halfOpenBreakers_2 n) FU (i0) (x1) (j7) (0) m
    else none
theorem w8_X8_halfOpenBreakers_2 {r : Int32} {m9 : CM} : ∀ (n : Nat) {i0 : Nat} {x1 : Int32} {l2 : Option sV} {l3 : Option sV} {m : CM} {n9 : Nat}, l8_X8_halfOpenBreakers_2 n i0 x1 m = some (r, m9, n9) → WP mX8_halfOpenBreakers (8) n9 2 [some (vR 8 (i0)), some (vI (x1)), l2, l3] [] (cM m out rho) (Pc out rho none m9) NX := by
  intro n
  induction n with
  | zero =>
    intro i0 x1 l2 l3 m n9 h
    rw [l8_X8_halfOpenBreakers_2] at h
    cases h
  | succ n ih =>
    intro i0 x1 l2 l3 m n9 h
    rw [l8_X8_halfOpenBreakers_2] at h
    refine wp_iload_n dX8_halfOpenBreakers_2 rfl ?_
    refine wp_aload_n dX8_halfOpenBreakers_3 rfl ?_
    obtain ⟨j1, ho2, h⟩ := od_e h
    refine cp_getS (y := 7) (f := 1031) (t := 50) (by decide) (by decide) rfl rfl fl_X8_39 dX8_halfOpenBreakers_4 ho2 ?_
    refine cp_size (c := 50) rfl (by decide) ml_X8_82 dX8_halfOpenBreakers_7 (Nat.le_of_ble_eq_true rfl) ?_
    refine wp_icmp_ge (tgt := 58) dX8_halfOpenBreakers_10 (by decide) (fun c3 => ?_) (fun c3 => ?_)
    · replace h := itp c3 h
      obtain ⟨q1, q2, q3⟩ := cs_e h
      clear q1
      subst q2
      exact wp_return rfl dX8_halfOpenBreakers_58 ⟨rfl, rfl⟩
    · replace h := itn c3 h
      refine wp_aload_n dX8_halfOpenBreakers_13 rfl ?_
      refine cp_getS (y := 7) (f := 1031) (t := 50) (by decide) (by decide) rfl rfl fl_X8_39 dX8_halfOpenBreakers_14 ho2 ?_
      refine wp_iload_n dX8_halfOpenBreakers_17 rfl ?_
      obtain ⟨c4, h⟩ := ock h
      obtain ⟨j5, ho6, h⟩ := od_e h
      refine cp_get (c := 50) (t := 4) rfl rfl (by decide) c4 ho6 ml_X8_98 dX8_halfOpenBreakers_18 (Nat.le_of_ble_eq_true rfl) ?_
      refine cp_cast (c := 4) (by decide) kl_X8_86 dX8_halfOpenBreakers_21 ?_
      obtain ⟨j7, ho8, h⟩ := od_e h
      refine cp_getS (y := 8) (f := 520) (t := 43) (by decide) (by decide) rfl rfl fl_X8_233 dX8_halfOpenBreakers_24 ho8 ?_
      refine wp_astore_n (L' := [some (vR 8 (i0)), some (vI (x1)), some (vR 43 (j7)), l3]) dX8_halfOpenBreakers_27 rfl rfl ?_
      refine wp_iconst (v := 0) dX8_halfOpenBreakers_28 (by decide) ?_
      refine wp_istore_n (L' := [some (vR 8 (i0)), some (vI (x1)), some (vR 43 (j7)), some (vI (0))]) dX8_halfOpenBreakers_29 rfl rfl ?_
      exact w8_X8_halfOpenBreakers_30 ih FU h
def f8_X8_halfOpenBreakers (i0 : Nat) (m : CM) : CR (Int32) :=
  l8_X8_halfOpenBreakers_2 FU (i0) (0) m
theorem w8_X8_halfOpenBreakers {r : Int32} {m9 : CM} {i0 : Nat} {m : CM} {n9 : Nat} (h : f8_X8_halfOpenBreakers i0 m = some (r, m9, n9)) : Spec mX8_halfOpenBreakers (8) n9 [vR 8 (i0)] (cM m out rho) (Pc out rho none m9) NX := by
  unfold f8_X8_halfOpenBreakers at h
  refine spec_of (by decide) rfl (by simp [catS, cat1]) (Nat.le_of_ble_eq_true rfl) ?_
  show WP mX8_halfOpenBreakers (8) n9 0 [some (vR 8 (i0)), none, none, none] [] (cM m out rho) (Pc out rho none m9) NX
  refine wp_iconst (v := 0) dX8_halfOpenBreakers_0 (by decide) ?_
  refine wp_istore_n (L' := [some (vR 8 (i0)), some (vI (0)), none, none]) dX8_halfOpenBreakers_1 rfl rfl ?_
  exact w8_X8_halfOpenBreakers_2 FU h
end S8
