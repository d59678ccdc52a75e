section S8
variable {out : Int64} {rho : RH}
def l8_X8_runQueued_35 (K2 : Nat → Int32 → CM → CR (Int32)) : Nat → Nat → Int32 → Nat → Int32 → CM → CR (Int32)
  | 0, _, _, _, _, _ => none
  | n + 1, i0, x1, i2, x3, m =>
  if x3 ≤ 0 then
    K2 (i0) (x1 + 1) m
  else
    od (gR m 522 i2) fun j2 =>
    if (if nI (gL m 54 j2).length = 0 then (1 : Int32) else 0) = 0 then
      od ((gL m 54 j2)[(0 : Int32).toNatClampNeg]?) fun j5 =>
      wr (sL m 54 j2 ((gL m 54 j2).eraseIdx (0 : Int32).toNatClampNeg)) fun m7 =>
      cb (f8_X8_run i0 (j5) m7) fun _ m10 =>
      l8_X8_runQueued_35 K2 n (i0) (x1) (i2) (x3 + (-1)) m10
    else
      K2 (i0) (x1 + 1) m
theorem w8_X8_runQueued_35 {K2 : Nat → Int32 → CM → CR (Int32)} {r : Int32} {m9 : CM} (hK2 : ∀ {i0 : Nat} {x1 : Int32} {l2 : Option sV} {l3 : Option sV} {l4 : Option sV} {m : CM} {n9 : Nat}, K2 i0 x1 m = some (r, m9, n9) → WP mX8_runQueued (8) n9 2 [some (vR 8 (i0)), some (vI (x1)), l2, l3, l4] [] (cM m out rho) (Pc out rho none m9) NX) : ∀ (n : Nat) {i0 : Nat} {x1 : Int32} {i2 : Nat} {x3 : Int32} {l4 : Option sV} {m : CM} {n9 : Nat}, l8_X8_runQueued_35 K2 n i0 x1 i2 x3 m = some (r, m9, n9) → WP mX8_runQueued (8) n9 35 [some (vR 8 (i0)), some (vI (x1)), some (vR 4 (i2)), some (vI (x3)), l4] [] (cM m out rho) (Pc out rho none m9) NX := by
  intro n
  induction n with
  | zero =>
    intro i0 x1 i2 x3 l4 m n9 h
    rw [l8_X8_runQueued_35] at h
    cases h
  | succ n ih =>
    intro i0 x1 i2 x3 l4 m n9 h
    rw [l8_X8_runQueued_35] at h
    refine wp_iload_n dX8_runQueued_35 rfl ?_
    refine wp_if_le (tgt := 83) dX8_runQueued_36 (by decide) (fun c1 => ?_) (fun c1 => ?_)
    · replace h := itp c1 h
      refine wp_iinc (v := x1 + 1) (L' := [some (vR 8 (i0)), some (vI (x1 + 1)), some (vR 4 (i2)), some (vI (x3)), l4]) dX8_runQueued_83 rfl rfl rfl ?_
      refine wp_goto (tgt := 2) dX8_runQueued_86 (by decide) ?_
      exact hK2 h
    · replace h := itn c1 h
      refine wp_aload_n dX8_runQueued_39 rfl ?_
      obtain ⟨j2, ho3, h⟩ := od_e h
      refine cp_getS (y := 10) (f := 522) (t := 54) (by decide) (by decide) rfl rfl fl_X8_343 dX8_runQueued_40 ho3 ?_
      refine cp_isEmpty (c := 54) rfl (by decide) ml_X8_71 dX8_runQueued_43 (Nat.le_of_ble_eq_true rfl) ?_
      refine wp_if_ne (tgt := 83) dX8_runQueued_46 (by decide) (fun c4 => ?_) (fun c4 => ?_)
      · replace h := itn c4 h
        refine wp_iinc (v := x1 + 1) (L' := [some (vR 8 (i0)), some (vI (x1 + 1)), some (vR 4 (i2)), some (vI (x3)), l4]) dX8_runQueued_83 rfl rfl rfl ?_
        refine wp_goto (tgt := 2) dX8_runQueued_86 (by decide) ?_
        exact hK2 h
      · replace h := itp c4 h
        refine wp_aload_n dX8_runQueued_49 rfl ?_
        refine cp_getS (y := 10) (f := 522) (t := 54) (by decide) (by decide) rfl rfl fl_X8_343 dX8_runQueued_50 ho3 ?_
        refine wp_iconst (v := 0) dX8_runQueued_53 (by decide) ?_
        obtain ⟨j5, ho6, h⟩ := od_e h
        refine cp_get (c := 54) (t := 1) rfl rfl (by decide) (by decide) ho6 ml_X8_98 dX8_runQueued_54 (Nat.le_of_ble_eq_true rfl) ?_
        refine cp_cast (c := 1) (by decide) kl_X8_204 dX8_runQueued_57 ?_
        refine wp_astore (L' := [some (vR 8 (i0)), some (vI (x1)), some (vR 4 (i2)), some (vI (x3)), some (vR 1 (j5))]) dX8_runQueued_60 rfl rfl ?_
        refine wp_aload_n dX8_runQueued_62 rfl ?_
        refine cp_getS (y := 10) (f := 522) (t := 54) (by decide) (by decide) rfl rfl fl_X8_343 dX8_runQueued_63 ho3 ?_
        refine wp_iconst (v := 0) dX8_runQueued_66 (by decide) ?_
        obtain ⟨m7, e8, h⟩ := wr_e h
        refine cp_remove (c := 54) (t := 1) e8 rfl rfl (by decide) (by decide) ho6 ml_X8_346 dX8_runQueued_67 (Nat.le_of_ble_eq_true rfl) ?_
        refine wp_pop dX8_runQueued_70 trivial ?_
        refine wp_aload_n dX8_runQueued_71 rfl ?_
        refine wp_aload dX8_runQueued_72 rfl ?_
        obtain ⟨r9, m10, n11, n12, hp13, h, en14⟩ := cb_e h
        refine wp_callV (k1 := n11) (k2 := n12) (As := [vR 1 (j5)]) (rest := []) (w8_X8_run hp13) okX8_run ivX8_run rfl (by decide) ml_X8_349 dX8_runQueued_74 rfl (by decide) (Nat.le_of_eq en14) rfl (Nat.le_of_ble_eq_true rfl) (fun _ _ z => z.elim) (fun r' S' z => ?_)
        obtain ⟨rfl, rfl⟩ := z
        show WP _ _ _ _ [some (vR 8 (i0)), some (vI (x1)), some (vR 4 (i2)), some (vI (x3)), some (vR 1 (j5))] [] _ _ _
        refine wp_iinc (v := x3 + (-1)) (L' := [some (vR 8 (i0)), some (vI (x1)), some (vR 4 (i2)), some (vI (x3 + (-1))), some (vR 1 (j5))]) dX8_runQueued_77 rfl rfl rfl ?_
        refine wp_goto (tgt := 35) dX8_runQueued_80 (by decide) ?_
        exact ih h
def l8_X8_runQueued_2 : Nat → Nat → Int32 → CM → CR (Int32)
  | 0, _, _, _ => none
  | n + 1, i0, x1, m =>
  od (gR m 1031 i0) fun j1 =>
  if (nI (gL m 50 j1).length) ≤ x1 then
    some (0, m, 0)
  else
    if ¬ x1 < 0 then
    od ((gL m 50 j1)[(x1).toNatClampNeg]?) fun j5 =>
    l8_X8_runQueued_35 (l8_X8_runQueued_2 n) FU (i0) (x1) (j5) (((gI m 516 j5) - (gI m 523 j5))) m
    else none
theorem w8_X8_runQueued_2 {r : Int32} {m9 : CM} : ∀ (n : Nat) {i0 : Nat} {x1 : Int32} {l2 : Option sV} {l3 : Option sV} {l4 : Option sV} {m : CM} {n9 : Nat}, l8_X8_runQueued_2 n i0 x1 m = some (r, m9, n9) → WP mX8_runQueued (8) n9 2 [some (vR 8 (i0)), some (vI (x1)), l2, l3, l4] [] (cM m out rho) (Pc out rho none m9) NX := by
  intro n
  induction n with
  | zero =>
    intro i0 x1 l2 l3 l4 m n9 h
    rw [l8_X8_runQueued_2] at h
    cases h
  | succ n ih =>
    intro i0 x1 l2 l3 l4 m n9 h
    rw [l8_X8_runQueued_2] at h
    refine wp_iload_n dX8_runQueued_2 rfl ?_
    refine wp_aload_n dX8_runQueued_3 rfl ?_
    obtain ⟨j1, ho2, h⟩ := od_e h
    refine cp_getS (y := 7) (f := 1031) (t := 50) (by decide) (by decide) rfl rfl fl_X8_39 dX8_runQueued_4 ho2 ?_
    refine cp_size (c := 50) rfl (by decide) ml_X8_82 dX8_runQueued_7 (Nat.le_of_ble_eq_true rfl) ?_
    refine wp_icmp_ge (tgt := 89) dX8_runQueued_10 (by decide) (fun c3 => ?_) (fun c3 => ?_)
    · replace h := itp c3 h
      obtain ⟨q1, q2, q3⟩ := cs_e h
      clear q1
      subst q2
      exact wp_return rfl dX8_runQueued_89 ⟨rfl, rfl⟩
    · replace h := itn c3 h
      refine wp_aload_n dX8_runQueued_13 rfl ?_
      refine cp_getS (y := 7) (f := 1031) (t := 50) (by decide) (by decide) rfl rfl fl_X8_39 dX8_runQueued_14 ho2 ?_
      refine wp_iload_n dX8_runQueued_17 rfl ?_
      obtain ⟨c4, h⟩ := ock h
      obtain ⟨j5, ho6, h⟩ := od_e h
      refine cp_get (c := 50) (t := 4) rfl rfl (by decide) c4 ho6 ml_X8_98 dX8_runQueued_18 (Nat.le_of_ble_eq_true rfl) ?_
      refine cp_cast (c := 4) (by decide) kl_X8_86 dX8_runQueued_21 ?_
      refine wp_astore_n (L' := [some (vR 8 (i0)), some (vI (x1)), some (vR 4 (j5)), l3, l4]) dX8_runQueued_24 rfl rfl ?_
      refine wp_aload_n dX8_runQueued_25 rfl ?_
      refine cp_getI (y := 4) (f := 516) (by decide) (by decide) rfl rfl fl_X8_337 dX8_runQueued_26 ?_
      refine wp_aload_n dX8_runQueued_29 rfl ?_
      refine cp_getI (y := 11) (f := 523) (by decide) (by decide) rfl rfl fl_X8_340 dX8_runQueued_30 ?_
      refine wp_isub dX8_runQueued_33 ?_
      refine wp_istore_n (L' := [some (vR 8 (i0)), some (vI (x1)), some (vR 4 (j5)), some (vI (((gI m 516 j5) - (gI m 523 j5)))), l4]) dX8_runQueued_34 rfl rfl ?_
      exact w8_X8_runQueued_35 ih FU h
def f8_X8_runQueued (i0 : Nat) (m : CM) : CR (Int32) :=
  l8_X8_runQueued_2 FU (i0) (0) m
theorem w8_X8_runQueued {r : Int32} {m9 : CM} {i0 : Nat} {m : CM} {n9 : Nat} (h : f8_X8_runQueued i0 m = some (r, m9, n9)) : Spec mX8_runQueued (8) n9 [vR 8 (i0)] (cM m out rho) (Pc out rho none m9) NX := by
  unfold f8_X8_runQueued at h
  refine spec_of (by decide) rfl (by simp [catS, cat1]) (Nat.le_of_ble_eq_true rfl) ?_
  show WP mX8_runQueued (8) n9 0 [some (vR 8 (i0)), none, none, none, none] [] (cM m out rho) (Pc out rho none m9) NX
  refine wp_iconst (v := 0) dX8_runQueued_0 (by decide) ?_
  refine wp_istore_n (L' := [some (vR 8 (i0)), some (vI (0)), none, none, none]) dX8_runQueued_1 rfl rfl ?_
  exact w8_X8_runQueued_2 FU h
def f8_X4_loadNow (i0 : Nat) (m : CM) : CR (Int32) :=
  od (gR m 522 i0) fun j1 =>
  some (((gI m 523 i0) + (nI (gL m 54 j1).length)), m, 0)
theorem w8_X4_loadNow {r : Int32} {m9 : CM} {i0 : Nat} {m : CM} {n9 : Nat} (h : f8_X4_loadNow i0 m = some (r, m9, n9)) : Spec mX4_loadNow (8) n9 [vR 4 (i0)] (cM m out rho) (Pc out rho (some (vI r)) m9) NX := by
  unfold f8_X4_loadNow at h
  refine spec_of (by decide) rfl (by simp [catS, cat1]) (Nat.le_of_ble_eq_true rfl) ?_
  show WP mX4_loadNow (8) n9 0 [some (vR 4 (i0))] [] (cM m out rho) (Pc out rho (some (vI r)) m9) NX
  refine wp_aload_n dX4_loadNow_0 rfl ?_
  refine cp_getI (y := 11) (f := 523) (by decide) (by decide) rfl rfl fl_X4_57 dX4_loadNow_1 ?_
  refine wp_aload_n dX4_loadNow_4 rfl ?_
  obtain ⟨j1, ho2, h⟩ := od_e h
  refine cp_getS (y := 10) (f := 522) (t := 54) (by decide) (by decide) rfl rfl fl_X4_27 dX4_loadNow_5 ho2 ?_
  refine cp_size (c := 54) rfl (by decide) ml_X4_60 dX4_loadNow_8 (Nat.le_of_ble_eq_true rfl) ?_
  refine wp_iadd dX4_loadNow_11 ?_
  obtain ⟨q1, q2, q3⟩ := cs_e h
  subst q1
  subst q2
  exact wp_ireturn rfl dX4_loadNow_12 ⟨rfl, rfl⟩
def l8_X4_tellLoad_10 : Nat → Nat → Int32 → CM → CR (Int32)
  | 0, _, _, _ => none
  | n + 1, i0, x1, m =>
  if 7 ≤ x1 then
    some (0, m, 0)
  else
    od (gR m 521 i0) fun j2 =>
    if vq (x1) 7 then
    wr (sA m 31 j2 (x1).toNatClampNeg (0)) fun m5 =>
    l8_X4_tellLoad_10 n (i0) (x1 + 1) m5
    else none
theorem w8_X4_tellLoad_10 {r : Int32} {m9 : CM} : ∀ (n : Nat) {i0 : Nat} {x1 : Int32} {m : CM} {n9 : Nat}, l8_X4_tellLoad_10 n i0 x1 m = some (r, m9, n9) → WP mX4_tellLoad (9) n9 10 [some (vR 4 (i0)), some (vI (x1))] [] (cM m out rho) (Pc out rho none m9) NX := by
  intro n
  induction n with
  | zero =>
    intro i0 x1  m n9 h
    rw [l8_X4_tellLoad_10] at h
    cases h
  | succ n ih =>
    intro i0 x1  m n9 h
    rw [l8_X4_tellLoad_10] at h
    refine wp_iload_n dX4_tellLoad_10 rfl ?_
    refine wp_bipush (v := 7) dX4_tellLoad_11 (by decide) ?_
    refine wp_icmp_ge (tgt := 29) dX4_tellLoad_13 (by decide) (fun c1 => ?_) (fun c1 => ?_)
    · replace h := itp c1 h
      obtain ⟨q1, q2, q3⟩ := cs_e h
      clear q1
      subst q2
      exact wp_return rfl dX4_tellLoad_29 ⟨rfl, rfl⟩
    · replace h := itn c1 h
      refine wp_aload_n dX4_tellLoad_16 rfl ?_
      obtain ⟨j2, ho3, h⟩ := od_e h
      refine cp_getS (y := 9) (f := 521) (t := 31) (by decide) (by decide) rfl rfl fl_X4_21 dX4_tellLoad_17 ho3 ?_
      refine wp_iload_n dX4_tellLoad_20 rfl ?_
      refine wp_iconst (v := 0) dX4_tellLoad_21 (by decide) ?_
      obtain ⟨c4, h⟩ := ock h
      obtain ⟨m5, e6, h⟩ := wr_e h
      refine cp_iast (c := 31) e6 rfl (by decide) (show vp_in (x1) (len 31) from c4) dX4_tellLoad_22 ?_
      refine wp_iinc (v := x1 + 1) (L' := [some (vR 4 (i0)), some (vI (x1 + 1))]) dX4_tellLoad_23 rfl rfl rfl ?_
      refine wp_goto (tgt := 10) dX4_tellLoad_26 (by decide) ?_
      exact ih h
def f8_X4_tellLoad (i0 : Nat) (m : CM) : CR (Int32) :=
  cb (f8_X4_loadNow i0 m) fun r1 m2 =>
  wr (sI m2 524 i0 (r1)) fun m7 =>
  l8_X4_tellLoad_10 FU (i0) (0) m7
theorem w8_X4_tellLoad {r : Int32} {m9 : CM} {i0 : Nat} {m : CM} {n9 : Nat} (h : f8_X4_tellLoad i0 m = some (r, m9, n9)) : Spec mX4_tellLoad (9) n9 [vR 4 (i0)] (cM m out rho) (Pc out rho none m9) NX := by
  unfold f8_X4_tellLoad at h
  refine spec_of (by decide) rfl (by simp [catS, cat1]) (Nat.le_of_ble_eq_true rfl) ?_
  show WP mX4_tellLoad (9) n9 0 [some (vR 4 (i0)), none] [] (cM m out rho) (Pc out rho none m9) NX
  refine wp_aload_n dX4_tellLoad_0 rfl ?_
  refine wp_aload_n dX4_tellLoad_1 rfl ?_
  obtain ⟨r1, m2, n3, n4, hp5, h, en6⟩ := cb_e h
  refine wp_callV (k1 := n3) (k2 := n4) (As := []) (rest := [vR 4 (i0)]) (w8_X4_loadNow hp5) okX4_loadNow ivX4_loadNow rfl (by decide) ml_X4_64 dX4_tellLoad_2 rfl (by decide) (Nat.le_of_eq en6) rfl (Nat.le_of_ble_eq_true rfl) (fun _ _ z => z.elim) (fun r' S' z => ?_)
  obtain ⟨rfl, rfl⟩ := z
  show WP _ _ _ _ [some (vR 4 (i0)), none] [vI (r1), vR 4 (i0)] _ _ _
  obtain ⟨m7, e8, h⟩ := wr_e h
  refine cp_putI (y := 12) (f := 524) e8 (by decide) (by decide) rfl rfl (Or.inl rfl) fl_X4_67 dX4_tellLoad_5 rfl ?_
  refine wp_iconst (v := 0) dX4_tellLoad_8 (by decide) ?_
  refine wp_istore_n (L' := [some (vR 4 (i0)), some (vI (0))]) dX4_tellLoad_9 rfl rfl ?_
  exact w8_X4_tellLoad_10 FU h
def l8_X8_tellLoads_2 : Nat → Nat → Int32 → CM → CR (Int32)
  | 0, _, _, _ => none
  | n + 1, i0, x1, m =>
  od (gR m 1031 i0) fun j1 =>
  if (nI (gL m 50 j1).length) ≤ x1 then
    some (0, m, 0)
  else
    if ¬ x1 < 0 then
    od ((gL m 50 j1)[(x1).toNatClampNeg]?) fun j5 =>
    cb (f8_X4_tellLoad j5 m) fun _ m8 =>
    l8_X8_tellLoads_2 n (i0) (x1 + 1) m8
    else none
theorem w8_X8_tellLoads_2 {r : Int32} {m9 : CM} : ∀ (n : Nat) {i0 : Nat} {x1 : Int32} {m : CM} {n9 : Nat}, l8_X8_tellLoads_2 n i0 x1 m = some (r, m9, n9) → WP mX8_tellLoads (10) n9 2 [some (vR 8 (i0)), some (vI (x1))] [] (cM m out rho) (Pc out rho none m9) NX := by
  intro n
  induction n with
  | zero =>
    intro i0 x1  m n9 h
    rw [l8_X8_tellLoads_2] at h
    cases h
  | succ n ih =>
    intro i0 x1  m n9 h
    rw [l8_X8_tellLoads_2] at h
    refine wp_iload_n dX8_tellLoads_2 rfl ?_
    refine wp_aload_n dX8_tellLoads_3 rfl ?_
    obtain ⟨j1, ho2, h⟩ := od_e h
    refine cp_getS (y := 7) (f := 1031) (t := 50) (by decide) (by decide) rfl rfl fl_X8_39 dX8_tellLoads_4 ho2 ?_
    refine cp_size (c := 50) rfl (by decide) ml_X8_82 dX8_tellLoads_7 (Nat.le_of_ble_eq_true rfl) ?_
    refine wp_icmp_ge (tgt := 33) dX8_tellLoads_10 (by decide) (fun c3 => ?_) (fun c3 => ?_)
    · replace h := itp c3 h
      obtain ⟨q1, q2, q3⟩ := cs_e h
      clear q1
      subst q2
      exact wp_return rfl dX8_tellLoads_33 ⟨rfl, rfl⟩
    · replace h := itn c3 h
      refine wp_aload_n dX8_tellLoads_13 rfl ?_
      refine cp_getS (y := 7) (f := 1031) (t := 50) (by decide) (by decide) rfl rfl fl_X8_39 dX8_tellLoads_14 ho2 ?_
      refine wp_iload_n dX8_tellLoads_17 rfl ?_
      obtain ⟨c4, h⟩ := ock h
      obtain ⟨j5, ho6, h⟩ := od_e h
      refine cp_get (c := 50) (t := 4) rfl rfl (by decide) c4 ho6 ml_X8_98 dX8_tellLoads_18 (Nat.le_of_ble_eq_true rfl) ?_
      refine cp_cast (c := 4) (by decide) kl_X8_86 dX8_tellLoads_21 ?_
      obtain ⟨r7, m8, n9, n10, hp11, h, en12⟩ := cb_e h
      refine wp_callV (k1 := n9) (k2 := n10) (As := []) (rest := []) (w8_X4_tellLoad hp11) okX4_tellLoad ivX4_tellLoad rfl (by decide) ml_X8_353 dX8_tellLoads_24 rfl (by decide) (Nat.le_of_eq en12) rfl (Nat.le_of_ble_eq_true rfl) (fun _ _ z => z.elim) (fun r' S' z => ?_)
      obtain ⟨rfl, rfl⟩ := z
      show WP _ _ _ _ [some (vR 8 (i0)), some (vI (x1))] [] _ _ _
      refine wp_iinc (v := x1 + 1) (L' := [some (vR 8 (i0)), some (vI (x1 + 1))]) dX8_tellLoads_27 rfl rfl rfl ?_
      refine wp_goto (tgt := 2) dX8_tellLoads_30 (by decide) ?_
      exact ih h
def f8_X8_tellLoads (i0 : Nat) (m : CM) : CR (Int32) :=
  l8_X8_tellLoads_2 FU (i0) (0) m
theorem w8_X8_tellLoads {r : Int32} {m9 : CM} {i0 : Nat} {m : CM} {n9 : Nat} (h : f8_X8_tellLoads i0 m = some (r, m9, n9)) : Spec mX8_tellLoads (10) n9 [vR 8 (i0)] (cM m out rho) (Pc out rho none m9) NX := by
  unfold f8_X8_tellLoads at h
  refine spec_of (by decide) rfl (by simp [catS, cat1]) (Nat.le_of_ble_eq_true rfl) ?_
  show WP mX8_tellLoads (10) n9 0 [some (vR 8 (i0)), none] [] (cM m out rho) (Pc out rho none m9) NX
  refine wp_iconst (v := 0) dX8_tellLoads_0 (by decide) ?_
  refine wp_istore_n (L' := [some (vR 8 (i0)), some (vI (0))]) dX8_tellLoads_1 rfl rfl ?_
  exact w8_X8_tellLoads_2 FU h
def l8_X8_pass_32 : Nat → Nat → Int32 → Int32 → CM → CR (Int32 ⊕ Nat)
  | 0, _, _, _, _ => none
  | n + 1, i0, x1, x2, m =>
  if x1 ≤ x2 then
    some (.inl ((gI m 1024 i0)), m, 0)
  else
    wr (sI m 1024 i0 (((gI m 1024 i0) + 1))) fun m2 =>
    cb (f8_X8_halfOpenBreakers i0 m2) fun _ m5 =>
    cb (f8_X8_endLateCalls i0 m5) fun _ m11 =>
    cb (f8_X8_endWork i0 m11) fun _ m17 =>
    cb (f8_X8_goOnWithCalls i0 m17) fun _ m23 =>
    cb (f8_X8_goOnWithRequests i0 m23) fun _ m29 =>
    cb (f8_X8_goOnWithRepairs i0 m29) fun _ m35 =>
    cb (f8_X8_runQueued i0 m35) fun _ m41 =>
    if ((gI m41 1024 i0) - (gI m41 1024 i0) / 5 * 5) = 0 then
      cb (f8_X8_tellLoads i0 m41) fun _ m48 =>
      l8_X8_pass_32 n (i0) (x1) (x2 + 1) m48
    else
      l8_X8_pass_32 n (i0) (x1) (x2 + 1) m41
theorem w8_X8_pass_32 {r : Int32 ⊕ Nat} {m9 : CM} : ∀ (n : Nat) {i0 : Nat} {x1 : Int32} {x2 : Int32} {m : CM} {n9 : Nat}, l8_X8_pass_32 n i0 x1 x2 m = some (r, m9, n9) → WP mX8_pass (41) n9 32 [some (vR 8 (i0)), some (vI (x1)), some (vI (x2))] [] (cM m out rho) (PcE out rho r false m9) (XcE out rho r m9) := by
  intro n
  induction n with
  | zero =>
    intro i0 x1 x2  m n9 h
    rw [l8_X8_pass_32] at h
    cases h
  | succ n ih =>
    intro i0 x1 x2  m n9 h
    rw [l8_X8_pass_32] at h
    refine wp_iload_n dX8_pass_32 rfl ?_
    refine wp_iload_n dX8_pass_33 rfl ?_
    refine wp_icmp_ge (tgt := 94) dX8_pass_34 (by decide) (fun c1 => ?_) (fun c1 => ?_)
    · replace h := itp c1 h
      refine wp_aload_n dX8_pass_94 rfl ?_
      refine cp_getI (y := 0) (f := 1024) (by decide) (by decide) rfl rfl fl_X8_140 dX8_pass_95 ?_
      obtain ⟨q1, q2, q3⟩ := cs_e h
      subst q1
      subst q2
      exact wp_ireturn rfl dX8_pass_98 ⟨⟨_, rfl, rfl⟩, rfl⟩
    · replace h := itn c1 h
      refine wp_aload_n dX8_pass_37 rfl ?_
      refine wp_dup dX8_pass_38 trivial ?_
      refine cp_getI (y := 0) (f := 1024) (by decide) (by decide) rfl rfl fl_X8_140 dX8_pass_39 ?_
      refine wp_iconst (v := 1) dX8_pass_42 (by decide) ?_
      refine wp_iadd dX8_pass_43 ?_
      obtain ⟨m2, e3, h⟩ := wr_e h
      refine cp_putI (y := 0) (f := 1024) e3 (by decide) (by decide) rfl rfl (Or.inl rfl) fl_X8_140 dX8_pass_44 rfl ?_
      refine wp_aload_n dX8_pass_47 rfl ?_
      obtain ⟨r4, m5, n6, n7, hp8, h, en9⟩ := cb_e h
      refine wp_callV (k1 := n6) (k2 := n7) (As := []) (rest := []) (w8_X8_halfOpenBreakers hp8) okX8_halfOpenBreakers ivX8_halfOpenBreakers rfl (by decide) ml_X8_163 dX8_pass_48 rfl (by decide) (Nat.le_of_eq en9) rfl (Nat.le_of_ble_eq_true rfl) (fun _ _ z => z.elim) (fun r' S' z => ?_)
      obtain ⟨rfl, rfl⟩ := z
      show WP _ _ _ _ [some (vR 8 (i0)), some (vI (x1)), some (vI (x2))] [] _ _ _
      refine wp_aload_n dX8_pass_51 rfl ?_
      obtain ⟨r10, m11, n12, n13, hp14, h, en15⟩ := cb_e h
      refine wp_callV (k1 := n12) (k2 := n13) (As := []) (rest := []) (w8_X8_endLateCalls hp14) okX8_endLateCalls ivX8_endLateCalls rfl (by decide) ml_X8_166 dX8_pass_52 rfl (by decide) (Nat.le_of_eq en15) rfl (Nat.le_of_ble_eq_true rfl) (fun _ _ z => z.elim) (fun r' S' z => ?_)
      obtain ⟨rfl, rfl⟩ := z
      show WP _ _ _ _ [some (vR 8 (i0)), some (vI (x1)), some (vI (x2))] [] _ _ _
      refine wp_aload_n dX8_pass_55 rfl ?_
      obtain ⟨r16, m17, n18, n19, hp20, h, en21⟩ := cb_e h
      refine wp_callV (k1 := n18) (k2 := n19) (As := []) (rest := []) (w8_X8_endWork hp20) okX8_endWork ivX8_endWork rfl (by decide) ml_X8_169 dX8_pass_56 rfl (by decide) (Nat.le_of_eq en21) rfl (Nat.le_of_ble_eq_true rfl) (fun _ _ z => z.elim) (fun r' S' z => ?_)
      obtain ⟨rfl, rfl⟩ := z
      show WP _ _ _ _ [some (vR 8 (i0)), some (vI (x1)), some (vI (x2))] [] _ _ _
      refine wp_aload_n dX8_pass_59 rfl ?_
      obtain ⟨r22, m23, n24, n25, hp26, h, en27⟩ := cb_e h
      refine wp_callV (k1 := n24) (k2 := n25) (As := []) (rest := []) (w8_X8_goOnWithCalls hp26) okX8_goOnWithCalls ivX8_goOnWithCalls rfl (by decide) ml_X8_172 dX8_pass_60 rfl (by decide) (Nat.le_of_eq en27) rfl (Nat.le_of_ble_eq_true rfl) (fun _ _ z => z.elim) (fun r' S' z => ?_)
      obtain ⟨rfl, rfl⟩ := z
      show WP _ _ _ _ [some (vR 8 (i0)), some (vI (x1)), some (vI (x2))] [] _ _ _
      refine wp_aload_n dX8_pass_63 rfl ?_
      obtain ⟨r28, m29, n30, n31, hp32, h, en33⟩ := cb_e h
      refine wp_callV (k1 := n30) (k2 := n31) (As := []) (rest := []) (w8_X8_goOnWithRequests hp32) okX8_goOnWithRequests ivX8_goOnWithRequests rfl (by decide) ml_X8_175 dX8_pass_64 rfl (by decide) (Nat.le_of_eq en33) rfl (Nat.le_of_ble_eq_true rfl) (fun _ _ z => z.elim) (fun r' S' z => ?_)
      obtain ⟨rfl, rfl⟩ := z
      show WP _ _ _ _ [some (vR 8 (i0)), some (vI (x1)), some (vI (x2))] [] _ _ _
      refine wp_aload_n dX8_pass_67 rfl ?_
      obtain ⟨r34, m35, n36, n37, hp38, h, en39⟩ := cb_e h
      refine wp_callV (k1 := n36) (k2 := n37) (As := []) (rest := []) (w8_X8_goOnWithRepairs hp38) okX8_goOnWithRepairs ivX8_goOnWithRepairs rfl (by decide) ml_X8_178 dX8_pass_68 rfl (by decide) (Nat.le_of_eq en39) rfl (Nat.le_of_ble_eq_true rfl) (fun _ _ z => z.elim) (fun r' S' z => ?_)
      obtain ⟨rfl, rfl⟩ := z
      show WP _ _ _ _ [some (vR 8 (i0)), some (vI (x1)), some (vI (x2))] [] _ _ _
      refine wp_aload_n dX8_pass_71 rfl ?_
      obtain ⟨r40, m41, n42, n43, hp44, h, en45⟩ := cb_e h
      refine wp_callV (k1 := n42) (k2 := n43) (As := []) (rest := []) (w8_X8_runQueued hp44) okX8_runQueued ivX8_runQueued rfl (by decide) ml_X8_181 dX8_pass_72 rfl (by decide) (Nat.le_of_eq en45) rfl (Nat.le_of_ble_eq_true rfl) (fun _ _ z => z.elim) (fun r' S' z => ?_)
      obtain ⟨rfl, rfl⟩ := z
      show WP _ _ _ _ [some (vR 8 (i0)), some (vI (x1)), some (vI (x2))] [] _ _ _
      refine wp_aload_n dX8_pass_75 rfl ?_
      refine cp_getI (y := 0) (f := 1024) (by decide) (by decide) rfl rfl fl_X8_140 dX8_pass_76 ?_
      refine wp_iconst (v := 5) dX8_pass_79 (by decide) ?_
      refine wp_irem dX8_pass_80 (by decide) ?_
      refine wp_if_ne (tgt := 88) dX8_pass_81 (by decide) (fun c46 => ?_) (fun c46 => ?_)
      · replace h := itn c46 h
        refine wp_iinc (v := x2 + 1) (L' := [some (vR 8 (i0)), some (vI (x1)), some (vI (x2 + 1))]) dX8_pass_88 rfl rfl rfl ?_
        refine wp_goto (tgt := 32) dX8_pass_91 (by decide) ?_
        exact ih h
      · replace h := itp c46 h
        refine wp_aload_n dX8_pass_84 rfl ?_
        obtain ⟨r47, m48, n49, n50, hp51, h, en52⟩ := cb_e h
        refine wp_callV (k1 := n49) (k2 := n50) (As := []) (rest := []) (w8_X8_tellLoads hp51) okX8_tellLoads ivX8_tellLoads rfl (by decide) ml_X8_184 dX8_pass_85 rfl (by decide) (Nat.le_of_eq en52) rfl (Nat.le_of_ble_eq_true rfl) (fun _ _ z => z.elim) (fun r' S' z => ?_)
        obtain ⟨rfl, rfl⟩ := z
        show WP _ _ _ _ [some (vR 8 (i0)), some (vI (x1)), some (vI (x2))] [] _ _ _
        refine wp_iinc (v := x2 + 1) (L' := [some (vR 8 (i0)), some (vI (x1)), some (vI (x2 + 1))]) dX8_pass_88 rfl rfl rfl ?_
        refine wp_goto (tgt := 32) dX8_pass_91 (by decide) ?_
        exact ih h
def f8_X8_pass (i0 : Nat) (x1 : Int32) (m : CM) : CR (Int32 ⊕ Nat) :=
  cb (f8_X8_isWithin (x1) (1) (50) m) fun r1 m2 =>
  if r1 = 0 then some (.inr 1, m2, 1) else
  if 600 < ((gI m2 1024 i0) + x1) then
    some (.inr 2, m2, 1)
  else
    l8_X8_pass_32 FU (i0) (x1) (0) m2
theorem w8_X8_pass {r : Int32 ⊕ Nat} {m9 : CM} {i0 : Nat} {x1 : Int32} {m : CM} {n9 : Nat} (h : f8_X8_pass i0 x1 m = some (r, m9, n9)) : Spec mX8_pass (41) n9 [vR 8 (i0), vI (x1)] (cM m out rho) (PcE out rho r false m9) (XcE out rho r m9) := by
  unfold f8_X8_pass at h
  refine spec_of (by decide) rfl (by simp [catS, cat1]) (Nat.le_of_ble_eq_true rfl) ?_
  show WP mX8_pass (41) n9 0 [some (vR 8 (i0)), some (vI (x1)), none] [] (cM m out rho) (PcE out rho r false m9) (XcE out rho r m9)
  refine wp_iload_n dX8_pass_0 rfl ?_
  refine wp_iconst (v := 1) dX8_pass_1 (by decide) ?_
  refine wp_bipush (v := 50) dX8_pass_2 (by decide) ?_
  obtain ⟨r1, m2, n3, n4, hp5, h, en6⟩ := cb_e h
  refine wp_callS (k1 := n3) (k2 := n4) (As := [vI (x1), vI (1), vI (50)]) (rest := []) (w8_X8_isWithin hp5) okX8_isWithin sm_X8_isWithin rfl ml_X8_54 dX8_pass_4 rfl (by decide) (Nat.le_of_eq en6) rfl (Nat.le_of_ble_eq_true rfl) (fun _ _ z => z.elim) (fun r' S' z => ?_)
  obtain ⟨rfl, rfl⟩ := z
  show WP _ _ _ _ [some (vR 8 (i0)), some (vI (x1)), none] [vI (r1)] _ _ _
  by_cases c7 : r1 = 0
  · replace h := itp c7 h
    obtain ⟨q1, q2, q3⟩ := cs_e h
    subst q1
    subst q2
    subst q3
    exact wp_callS (k1 := 1) (k2 := 0) (As := [vI (r1)]) (rest := []) (w8_mustFit0 c7) okX8_mustFit sm_X8_mustFit rfl ml_X8_62 dX8_pass_7 rfl (by decide) (Nat.le_refl _) rfl (Nat.le_of_ble_eq_true rfl) (fun E S' z => ⟨⟨1, rfl, by decide, z.1⟩, z.2⟩) (fun r' S' z => z.elim)
  replace h := itn c7 h
  refine wp_callS (k1 := 0) (k2 := _) (As := [vI (r1)]) (rest := []) (w8_mustFit1 c7) okX8_mustFit sm_X8_mustFit rfl ml_X8_62 dX8_pass_7 rfl (by decide) (Nat.le_of_eq (Nat.zero_add _)) rfl (Nat.le_of_ble_eq_true rfl) (fun _ _ z => z.elim) (fun r' S' z => ?_)
  obtain ⟨rfl, rfl⟩ := z
  show WP _ _ _ _ [some (vR 8 (i0)), some (vI (x1)), none] [] _ _ _
  refine wp_aload_n dX8_pass_10 rfl ?_
  refine cp_getI (y := 0) (f := 1024) (by decide) (by decide) rfl rfl fl_X8_140 dX8_pass_11 ?_
  refine wp_iload_n dX8_pass_14 rfl ?_
  refine wp_iadd dX8_pass_15 ?_
  refine wp_sipush (v := 600) dX8_pass_16 (by decide) ?_
  refine wp_icmp_gt (tgt := 26) dX8_pass_19 (by decide) (fun c8 => ?_) (fun c8 => ?_)
  · replace h := itp c8 h
    refine wp_iconst (v := 0) dX8_pass_26 (by decide) ?_
    obtain ⟨q1, q2, q3⟩ := cs_e h
    subst q1
    subst q2
    subst q3
    exact wp_callS (k1 := 1) (k2 := 0) (As := [vI (0)]) (rest := []) (w8_mustBeAllowed0 rfl) okX8_mustBeAllowed sm_X8_mustBeAllowed rfl ml_X8_75 dX8_pass_27 rfl (by decide) (Nat.le_refl _) rfl (Nat.le_of_ble_eq_true rfl) (fun E S' z => ⟨⟨2, rfl, by decide, z.1⟩, z.2⟩) (fun r' S' z => z.elim)
  · replace h := itn c8 h
    refine wp_iconst (v := 1) dX8_pass_22 (by decide) ?_
    refine wp_goto (tgt := 27) dX8_pass_23 (by decide) ?_
    refine wp_callS (k1 := 0) (k2 := _) (As := [vI (1)]) (rest := []) (w8_mustBeAllowed1 (by decide)) okX8_mustBeAllowed sm_X8_mustBeAllowed rfl ml_X8_75 dX8_pass_27 rfl (by decide) (Nat.le_of_eq (Nat.zero_add _)) rfl (Nat.le_of_ble_eq_true rfl) (fun _ _ z => z.elim) (fun r' S' z => ?_)
    obtain ⟨rfl, rfl⟩ := z
    show WP _ _ _ _ [some (vR 8 (i0)), some (vI (x1)), none] [] _ _ _
    refine wp_iconst (v := 0) dX8_pass_30 (by decide) ?_
    refine wp_istore_n (L' := [some (vR 8 (i0)), some (vI (x1)), some (vI (0))]) dX8_pass_31 rfl rfl ?_
    exact w8_X8_pass_32 FU h
def f8_X8_requestState (i0 : Nat) (x1 : Int32) (m : CM) : CR (Int32 ⊕ Nat) :=
  od (gR m 1032 i0) fun j1 =>
  cb (f8_X8_isWithin (x1) (0) (((nI (gL m 51 j1).length) - 1)) m) fun r3 m4 =>
  if r3 = 0 then some (.inr 0, m4, 1) else
  od (gR m4 1032 i0) fun j10 =>
  if ¬ x1 < 0 then
  od ((gL m4 51 j10)[(x1).toNatClampNeg]?) fun j13 =>
  some (.inl ((gI m4 642 j13)), m4, 0)
  else none
theorem w8_X8_requestState {r : Int32 ⊕ Nat} {m9 : CM} {i0 : Nat} {x1 : Int32} {m : CM} {n9 : Nat} (h : f8_X8_requestState i0 x1 m = some (r, m9, n9)) : Spec mX8_requestState (9) n9 [vR 8 (i0), vI (x1)] (cM m out rho) (PcE out rho r false m9) (XcE out rho r m9) := by
  unfold f8_X8_requestState at h
  refine spec_of (by decide) rfl (by simp [catS, cat1]) (Nat.le_of_ble_eq_true rfl) ?_
  show WP mX8_requestState (9) n9 0 [some (vR 8 (i0)), some (vI (x1))] [] (cM m out rho) (PcE out rho r false m9) (XcE out rho r m9)
  refine wp_iload_n dX8_requestState_0 rfl ?_
  refine wp_iconst (v := 0) dX8_requestState_1 (by decide) ?_
  refine wp_aload_n dX8_requestState_2 rfl ?_
  obtain ⟨j1, ho2, h⟩ := od_e h
  refine cp_getS (y := 8) (f := 1032) (t := 51) (by decide) (by decide) rfl rfl fl_X8_43 dX8_requestState_3 ho2 ?_
  refine cp_size (c := 51) rfl (by decide) ml_X8_82 dX8_requestState_6 (Nat.le_of_ble_eq_true rfl) ?_
  refine wp_iconst (v := 1) dX8_requestState_9 (by decide) ?_
  refine wp_isub dX8_requestState_10 ?_
  obtain ⟨r3, m4, n5, n6, hp7, h, en8⟩ := cb_e h
  refine wp_callS (k1 := n5) (k2 := n6) (As := [vI (x1), vI (0), vI (((nI (gL m 51 j1).length) - 1))]) (rest := []) (w8_X8_isWithin hp7) okX8_isWithin sm_X8_isWithin rfl ml_X8_54 dX8_requestState_11 rfl (by decide) (Nat.le_of_eq en8) rfl (Nat.le_of_ble_eq_true rfl) (fun _ _ z => z.elim) (fun r' S' z => ?_)
  obtain ⟨rfl, rfl⟩ := z
  show WP _ _ _ _ [some (vR 8 (i0)), some (vI (x1))] [vI (r3)] _ _ _
  by_cases c9 : r3 = 0
  · replace h := itp c9 h
    obtain ⟨q1, q2, q3⟩ := cs_e h
    subst q1
    subst q2
    subst q3
    exact wp_callS (k1 := 1) (k2 := 0) (As := [vI (r3)]) (rest := []) (w8_mustExist0 c9) okX8_mustExist sm_X8_mustExist rfl ml_X8_58 dX8_requestState_14 rfl (by decide) (Nat.le_refl _) rfl (Nat.le_of_ble_eq_true rfl) (fun E S' z => ⟨⟨0, rfl, by decide, z.1⟩, z.2⟩) (fun r' S' z => z.elim)
  replace h := itn c9 h
  refine wp_callS (k1 := 0) (k2 := _) (As := [vI (r3)]) (rest := []) (w8_mustExist1 c9) okX8_mustExist sm_X8_mustExist rfl ml_X8_58 dX8_requestState_14 rfl (by decide) (Nat.le_of_eq (Nat.zero_add _)) rfl (Nat.le_of_ble_eq_true rfl) (fun _ _ z => z.elim) (fun r' S' z => ?_)
  obtain ⟨rfl, rfl⟩ := z
  show WP _ _ _ _ [some (vR 8 (i0)), some (vI (x1))] [] _ _ _
  refine wp_aload_n dX8_requestState_17 rfl ?_
  obtain ⟨j10, ho11, h⟩ := od_e h
  refine cp_getS (y := 8) (f := 1032) (t := 51) (by decide) (by decide) rfl rfl fl_X8_43 dX8_requestState_18 ho11 ?_
  refine wp_iload_n dX8_requestState_21 rfl ?_
  obtain ⟨c12, h⟩ := ock h
  obtain ⟨j13, ho14, h⟩ := od_e h
  refine cp_get (c := 51) (t := 5) rfl rfl (by decide) c12 ho14 ml_X8_98 dX8_requestState_22 (Nat.le_of_ble_eq_true rfl) ?_
  refine cp_cast (c := 5) (by decide) kl_X8_146 dX8_requestState_25 ?_
  refine cp_getI (y := 2) (f := 642) (by decide) (by decide) rfl rfl fl_X8_187 dX8_requestState_28 ?_
  obtain ⟨q1, q2, q3⟩ := cs_e h
  subst q1
  subst q2
  exact wp_ireturn rfl dX8_requestState_31 ⟨⟨_, rfl, rfl⟩, rfl⟩
def f8_X8_requestTicks (i0 : Nat) (x1 : Int32) (m : CM) : CR (Int32 ⊕ Nat) :=
  od (gR m 1032 i0) fun j1 =>
  cb (f8_X8_isWithin (x1) (0) (((nI (gL m 51 j1).length) - 1)) m) fun r3 m4 =>
  if r3 = 0 then some (.inr 0, m4, 1) else
  od (gR m4 1032 i0) fun j10 =>
  if ¬ x1 < 0 then
  od ((gL m4 51 j10)[(x1).toNatClampNeg]?) fun j13 =>
  if (gI m4 642 j13) = 8 then
    some (.inl (((gI m4 1024 i0) - (gI m4 641 j13))), m4, 0)
  else
    some (.inl (((gI m4 643 j13) - (gI m4 641 j13))), m4, 0)
  else none
theorem w8_X8_requestTicks {r : Int32 ⊕ Nat} {m9 : CM} {i0 : Nat} {x1 : Int32} {m : CM} {n9 : Nat} (h : f8_X8_requestTicks i0 x1 m = some (r, m9, n9)) : Spec mX8_requestTicks (9) n9 [vR 8 (i0), vI (x1)] (cM m out rho) (PcE out rho r false m9) (XcE out rho r m9) := by
  unfold f8_X8_requestTicks at h
  refine spec_of (by decide) rfl (by simp [catS, cat1]) (Nat.le_of_ble_eq_true rfl) ?_
  show WP mX8_requestTicks (9) n9 0 [some (vR 8 (i0)), some (vI (x1)), none] [] (cM m out rho) (PcE out rho r false m9) (XcE out rho r m9)
  refine wp_iload_n dX8_requestTicks_0 rfl ?_
  refine wp_iconst (v := 0) dX8_requestTicks_1 (by decide) ?_
  refine wp_aload_n dX8_requestTicks_2 rfl ?_
  obtain ⟨j1, ho2, h⟩ := od_e h
  refine cp_getS (y := 8) (f := 1032) (t := 51) (by decide) (by decide) rfl rfl fl_X8_43 dX8_requestTicks_3 ho2 ?_
  refine cp_size (c := 51) rfl (by decide) ml_X8_82 dX8_requestTicks_6 (Nat.le_of_ble_eq_true rfl) ?_
  refine wp_iconst (v := 1) dX8_requestTicks_9 (by decide) ?_
  refine wp_isub dX8_requestTicks_10 ?_
  obtain ⟨r3, m4, n5, n6, hp7, h, en8⟩ := cb_e h
  refine wp_callS (k1 := n5) (k2 := n6) (As := [vI (x1), vI (0), vI (((nI (gL m 51 j1).length) - 1))]) (rest := []) (w8_X8_isWithin hp7) okX8_isWithin sm_X8_isWithin rfl ml_X8_54 dX8_requestTicks_11 rfl (by decide) (Nat.le_of_eq en8) rfl (Nat.le_of_ble_eq_true rfl) (fun _ _ z => z.elim) (fun r' S' z => ?_)
  obtain ⟨rfl, rfl⟩ := z
  show WP _ _ _ _ [some (vR 8 (i0)), some (vI (x1)), none] [vI (r3)] _ _ _
  by_cases c9 : r3 = 0
  · replace h := itp c9 h
    obtain ⟨q1, q2, q3⟩ := cs_e h
    subst q1
    subst q2
    subst q3
    exact wp_callS (k1 := 1) (k2 := 0) (As := [vI (r3)]) (rest := []) (w8_mustExist0 c9) okX8_mustExist sm_X8_mustExist rfl ml_X8_58 dX8_requestTicks_14 rfl (by decide) (Nat.le_refl _) rfl (Nat.le_of_ble_eq_true rfl) (fun E S' z => ⟨⟨0, rfl, by decide, z.1⟩, z.2⟩) (fun r' S' z => z.elim)
  replace h := itn c9 h
  refine wp_callS (k1 := 0) (k2 := _) (As := [vI (r3)]) (rest := []) (w8_mustExist1 c9) okX8_mustExist sm_X8_mustExist rfl ml_X8_58 dX8_requestTicks_14 rfl (by decide) (Nat.le_of_eq (Nat.zero_add _)) rfl (Nat.le_of_ble_eq_true rfl) (fun _ _ z => z.elim) (fun r' S' z => ?_)
  obtain ⟨rfl, rfl⟩ := z
  show WP _ _ _ _ [some (vR 8 (i0)), some (vI (x1)), none] [] _ _ _
  refine wp_aload_n dX8_requestTicks_17 rfl ?_
  obtain ⟨j10, ho11, h⟩ := od_e h
  refine cp_getS (y := 8) (f := 1032) (t := 51) (by decide) (by decide) rfl rfl fl_X8_43 dX8_requestTicks_18 ho11 ?_
  refine wp_iload_n dX8_requestTicks_21 rfl ?_
  obtain ⟨c12, h⟩ := ock h
  obtain ⟨j13, ho14, h⟩ := od_e h
  refine cp_get (c := 51) (t := 5) rfl rfl (by decide) c12 ho14 ml_X8_98 dX8_requestTicks_22 (Nat.le_of_ble_eq_true rfl) ?_
  refine cp_cast (c := 5) (by decide) kl_X8_146 dX8_requestTicks_25 ?_
  refine wp_astore_n (L' := [some (vR 8 (i0)), some (vI (x1)), some (vR 5 (j13))]) dX8_requestTicks_28 rfl rfl ?_
  refine wp_aload_n dX8_requestTicks_29 rfl ?_
  refine cp_getI (y := 2) (f := 642) (by decide) (by decide) rfl rfl fl_X8_187 dX8_requestTicks_30 ?_
  refine wp_bipush (v := 8) dX8_requestTicks_33 (by decide) ?_
  refine wp_icmp_ne (tgt := 45) dX8_requestTicks_35 (by decide) (fun c15 => ?_) (fun c15 => ?_)
  · replace h := itn c15 h
    refine wp_aload_n dX8_requestTicks_45 rfl ?_
    refine cp_getI (y := 3) (f := 643) (by decide) (by decide) rfl rfl fl_X8_190 dX8_requestTicks_46 ?_
    refine wp_aload_n dX8_requestTicks_49 rfl ?_
    refine cp_getI (y := 1) (f := 641) (by decide) (by decide) rfl rfl fl_X8_193 dX8_requestTicks_50 ?_
    refine wp_isub dX8_requestTicks_53 ?_
    obtain ⟨q1, q2, q3⟩ := cs_e h
    subst q1
    subst q2
    exact wp_ireturn rfl dX8_requestTicks_54 ⟨⟨_, rfl, rfl⟩, rfl⟩
  · replace h := itp c15 h
    refine wp_aload_n dX8_requestTicks_38 rfl ?_
    refine cp_getI (y := 0) (f := 1024) (by decide) (by decide) rfl rfl fl_X8_140 dX8_requestTicks_39 ?_
    refine wp_goto (tgt := 49) dX8_requestTicks_42 (by decide) ?_
    refine wp_aload_n dX8_requestTicks_49 rfl ?_
    refine cp_getI (y := 1) (f := 641) (by decide) (by decide) rfl rfl fl_X8_193 dX8_requestTicks_50 ?_
    refine wp_isub dX8_requestTicks_53 ?_
    obtain ⟨q1, q2, q3⟩ := cs_e h
    subst q1
    subst q2
    exact wp_ireturn rfl dX8_requestTicks_54 ⟨⟨_, rfl, rfl⟩, rfl⟩
def f8_X8_isKept (i0 : Nat) (x1 : Int32) (m : CM) : CR (Int32 ⊕ Nat) :=
  od (gR m 1032 i0) fun j1 =>
  cb (f8_X8_isWithin (x1) (0) (((nI (gL m 51 j1).length) - 1)) m) fun r3 m4 =>
  if r3 = 0 then some (.inr 0, m4, 1) else
  od (gR m4 1032 i0) fun j10 =>
  if ¬ x1 < 0 then
  od ((gL m4 51 j10)[(x1).toNatClampNeg]?) fun j13 =>
  if (gI m4 642 j13) = 8 then
    cb (f8_X8_isKeptByHead i0 (j13) m4) fun r16 m17 =>
    if (r16 = 0 ∨ r16 = 1) then
    some (.inl (r16), m17, 0)
    else none
  else
    if ((gI m4 644 j13) = 0 ∨ (gI m4 644 j13) = 1) then
    some (.inl ((gI m4 644 j13)), m4, 0)
    else none
  else none
theorem w8_X8_isKept {r : Int32 ⊕ Nat} {m9 : CM} {i0 : Nat} {x1 : Int32} {m : CM} {n9 : Nat} (h : f8_X8_isKept i0 x1 m = some (r, m9, n9)) : Spec mX8_isKept (9) n9 [vR 8 (i0), vI (x1)] (cM m out rho) (PcE out rho r false m9) (XcE out rho r m9) := by
  unfold f8_X8_isKept at h
  refine spec_of (by decide) rfl (by simp [catS, cat1]) (Nat.le_of_ble_eq_true rfl) ?_
  show WP mX8_isKept (9) n9 0 [some (vR 8 (i0)), some (vI (x1)), none] [] (cM m out rho) (PcE out rho r false m9) (XcE out rho r m9)
  refine wp_iload_n dX8_isKept_0 rfl ?_
  refine wp_iconst (v := 0) dX8_isKept_1 (by decide) ?_
  refine wp_aload_n dX8_isKept_2 rfl ?_
  obtain ⟨j1, ho2, h⟩ := od_e h
  refine cp_getS (y := 8) (f := 1032) (t := 51) (by decide) (by decide) rfl rfl fl_X8_43 dX8_isKept_3 ho2 ?_
  refine cp_size (c := 51) rfl (by decide) ml_X8_82 dX8_isKept_6 (Nat.le_of_ble_eq_true rfl) ?_
  refine wp_iconst (v := 1) dX8_isKept_9 (by decide) ?_
  refine wp_isub dX8_isKept_10 ?_
  obtain ⟨r3, m4, n5, n6, hp7, h, en8⟩ := cb_e h
  refine wp_callS (k1 := n5) (k2 := n6) (As := [vI (x1), vI (0), vI (((nI (gL m 51 j1).length) - 1))]) (rest := []) (w8_X8_isWithin hp7) okX8_isWithin sm_X8_isWithin rfl ml_X8_54 dX8_isKept_11 rfl (by decide) (Nat.le_of_eq en8) rfl (Nat.le_of_ble_eq_true rfl) (fun _ _ z => z.elim) (fun r' S' z => ?_)
  obtain ⟨rfl, rfl⟩ := z
  show WP _ _ _ _ [some (vR 8 (i0)), some (vI (x1)), none] [vI (r3)] _ _ _
  by_cases c9 : r3 = 0
  · replace h := itp c9 h
    obtain ⟨q1, q2, q3⟩ := cs_e h
    subst q1
    subst q2
    subst q3
    exact wp_callS (k1 := 1) (k2 := 0) (As := [vI (r3)]) (rest := []) (w8_mustExist0 c9) okX8_mustExist sm_X8_mustExist rfl ml_X8_58 dX8_isKept_14 rfl (by decide) (Nat.le_refl _) rfl (Nat.le_of_ble_eq_true rfl) (fun E S' z => ⟨⟨0, rfl, by decide, z.1⟩, z.2⟩) (fun r' S' z => z.elim)
  replace h := itn c9 h
  refine wp_callS (k1 := 0) (k2 := _) (As := [vI (r3)]) (rest := []) (w8_mustExist1 c9) okX8_mustExist sm_X8_mustExist rfl ml_X8_58 dX8_isKept_14 rfl (by decide) (Nat.le_of_eq (Nat.zero_add _)) rfl (Nat.le_of_ble_eq_true rfl) (fun _ _ z => z.elim) (fun r' S' z => ?_)
  obtain ⟨rfl, rfl⟩ := z
  show WP _ _ _ _ [some (vR 8 (i0)), some (vI (x1)), none] [] _ _ _
  refine wp_aload_n dX8_isKept_17 rfl ?_
  obtain ⟨j10, ho11, h⟩ := od_e h
  refine cp_getS (y := 8) (f := 1032) (t := 51) (by decide) (by decide) rfl rfl fl_X8_43 dX8_isKept_18 ho11 ?_
  refine wp_iload_n dX8_isKept_21 rfl ?_
  obtain ⟨c12, h⟩ := ock h
  obtain ⟨j13, ho14, h⟩ := od_e h
  refine cp_get (c := 51) (t := 5) rfl rfl (by decide) c12 ho14 ml_X8_98 dX8_isKept_22 (Nat.le_of_ble_eq_true rfl) ?_
  refine cp_cast (c := 5) (by decide) kl_X8_146 dX8_isKept_25 ?_
  refine wp_astore_n (L' := [some (vR 8 (i0)), some (vI (x1)), some (vR 5 (j13))]) dX8_isKept_28 rfl rfl ?_
  refine wp_aload_n dX8_isKept_29 rfl ?_
  refine cp_getI (y := 2) (f := 642) (by decide) (by decide) rfl rfl fl_X8_187 dX8_isKept_30 ?_
  refine wp_bipush (v := 8) dX8_isKept_33 (by decide) ?_
  refine wp_icmp_ne (tgt := 46) dX8_isKept_35 (by decide) (fun c15 => ?_) (fun c15 => ?_)
  · replace h := itn c15 h
    refine wp_aload_n dX8_isKept_46 rfl ?_
    refine cp_getI (y := 4) (f := 644) (by decide) (by decide) rfl rfl fl_X8_200 dX8_isKept_47 ?_
    obtain ⟨c23, h⟩ := ock h
    obtain ⟨q1, q2, q3⟩ := cs_e h
    subst q1
    subst q2
    exact wp_zreturn rfl c23 dX8_isKept_50 ⟨⟨_, rfl, rfl⟩, rfl⟩
  · replace h := itp c15 h
    refine wp_aload_n dX8_isKept_38 rfl ?_
    refine wp_aload_n dX8_isKept_39 rfl ?_
    obtain ⟨r16, m17, n18, n19, hp20, h, en21⟩ := cb_e h
    refine wp_callV (k1 := n18) (k2 := n19) (As := [vR 5 (j13)]) (rest := []) (w8_X8_isKeptByHead hp20) okX8_isKeptByHead ivX8_isKeptByHead rfl (by decide) ml_X8_196 dX8_isKept_40 rfl (by decide) (Nat.le_of_eq en21) rfl (Nat.le_of_ble_eq_true rfl) (fun _ _ z => z.elim) (fun r' S' z => ?_)
    obtain ⟨rfl, rfl⟩ := z
    show WP _ _ _ _ [some (vR 8 (i0)), some (vI (x1)), some (vR 5 (j13))] [vI (r16)] _ _ _
    refine wp_goto (tgt := 50) dX8_isKept_43 (by decide) ?_
    obtain ⟨c22, h⟩ := ock h
    obtain ⟨q1, q2, q3⟩ := cs_e h
    subst q1
    subst q2
    exact wp_zreturn rfl c22 dX8_isKept_50 ⟨⟨_, rfl, rfl⟩, rfl⟩
def l8_X8_callsOf_21 : Nat → Nat → Int32 → Int32 → Int32 → CM → CR (Int32 ⊕ Nat)
  | 0, _, _, _, _, _ => none
  | n + 1, i0, x1, x2, x3, m =>
  od (gR m 1033 i0) fun j1 =>
  if (nI (gL m 52 j1).length) ≤ x3 then
    some (.inl (x2), m, 0)
  else
    if ¬ x3 < 0 then
    od ((gL m 52 j1)[(x3).toNatClampNeg]?) fun j5 =>
    od (gR m 129 j5) fun j7 =>
    if (gI m 902 j7) = x1 then
      l8_X8_callsOf_21 n (i0) (x1) (x2 + 1) (x3 + 1) m
    else
      l8_X8_callsOf_21 n (i0) (x1) (x2) (x3 + 1) m
    else none
theorem w8_X8_callsOf_21 {r : Int32 ⊕ Nat} {m9 : CM} : ∀ (n : Nat) {i0 : Nat} {x1 : Int32} {x2 : Int32} {x3 : Int32} {m : CM} {n9 : Nat}, l8_X8_callsOf_21 n i0 x1 x2 x3 m = some (r, m9, n9) → WP mX8_callsOf (9) n9 21 [some (vR 8 (i0)), some (vI (x1)), some (vI (x2)), some (vI (x3))] [] (cM m out rho) (PcE out rho r false m9) (XcE out rho r m9) := by
  intro n
  induction n with
  | zero =>
    intro i0 x1 x2 x3  m n9 h
    rw [l8_X8_callsOf_21] at h
    cases h
  | succ n ih =>
    intro i0 x1 x2 x3  m n9 h
    rw [l8_X8_callsOf_21] at h
    refine wp_iload_n dX8_callsOf_21 rfl ?_
    refine wp_aload_n dX8_callsOf_22 rfl ?_
    obtain ⟨j1, ho2, h⟩ := od_e h
    refine cp_getS (y := 9) (f := 1033) (t := 52) (by decide) (by decide) rfl rfl fl_X8_46 dX8_callsOf_23 ho2 ?_
    refine cp_size (c := 52) rfl (by decide) ml_X8_82 dX8_callsOf_26 (Nat.le_of_ble_eq_true rfl) ?_
    refine wp_icmp_ge (tgt := 62) dX8_callsOf_29 (by decide) (fun c3 => ?_) (fun c3 => ?_)
    · replace h := itp c3 h
      refine wp_iload_n dX8_callsOf_62 rfl ?_
      obtain ⟨q1, q2, q3⟩ := cs_e h
      subst q1
      subst q2
      exact wp_ireturn rfl dX8_callsOf_63 ⟨⟨_, rfl, rfl⟩, rfl⟩
    · replace h := itn c3 h
      refine wp_aload_n dX8_callsOf_32 rfl ?_
      refine cp_getS (y := 9) (f := 1033) (t := 52) (by decide) (by decide) rfl rfl fl_X8_46 dX8_callsOf_33 ho2 ?_
      refine wp_iload_n dX8_callsOf_36 rfl ?_
      obtain ⟨c4, h⟩ := ock h
      obtain ⟨j5, ho6, h⟩ := od_e h
      refine cp_get (c := 52) (t := 1) rfl rfl (by decide) c4 ho6 ml_X8_98 dX8_callsOf_37 (Nat.le_of_ble_eq_true rfl) ?_
      refine cp_cast (c := 1) (by decide) kl_X8_204 dX8_callsOf_40 ?_
      obtain ⟨j7, ho8, h⟩ := od_e h
      refine cp_getS (y := 1) (f := 129) (t := 7) (by decide) (by decide) rfl rfl fl_X8_206 dX8_callsOf_43 ho8 ?_
      refine cp_getI (y := 6) (f := 902) (by decide) (by decide) rfl rfl fl_X8_137 dX8_callsOf_46 ?_
      refine wp_iload_n dX8_callsOf_49 rfl ?_
      refine wp_icmp_ne (tgt := 56) dX8_callsOf_50 (by decide) (fun c9 => ?_) (fun c9 => ?_)
      · replace h := itn c9 h
        refine wp_iinc (v := x3 + 1) (L' := [some (vR 8 (i0)), some (vI (x1)), some (vI (x2)), some (vI (x3 + 1))]) dX8_callsOf_56 rfl rfl rfl ?_
        refine wp_goto (tgt := 21) dX8_callsOf_59 (by decide) ?_
        exact ih h
      · replace h := itp c9 h
        refine wp_iinc (v := x2 + 1) (L' := [some (vR 8 (i0)), some (vI (x1)), some (vI (x2 + 1)), some (vI (x3))]) dX8_callsOf_53 rfl rfl rfl ?_
        refine wp_iinc (v := x3 + 1) (L' := [some (vR 8 (i0)), some (vI (x1)), some (vI (x2 + 1)), some (vI (x3 + 1))]) dX8_callsOf_56 rfl rfl rfl ?_
        refine wp_goto (tgt := 21) dX8_callsOf_59 (by decide) ?_
        exact ih h
def f8_X8_callsOf (i0 : Nat) (x1 : Int32) (m : CM) : CR (Int32 ⊕ Nat) :=
  od (gR m 1032 i0) fun j1 =>
  cb (f8_X8_isWithin (x1) (0) (((nI (gL m 51 j1).length) - 1)) m) fun r3 m4 =>
  if r3 = 0 then some (.inr 0, m4, 1) else
  l8_X8_callsOf_21 FU (i0) (x1) (0) (0) m4
theorem w8_X8_callsOf {r : Int32 ⊕ Nat} {m9 : CM} {i0 : Nat} {x1 : Int32} {m : CM} {n9 : Nat} (h : f8_X8_callsOf i0 x1 m = some (r, m9, n9)) : Spec mX8_callsOf (9) n9 [vR 8 (i0), vI (x1)] (cM m out rho) (PcE out rho r false m9) (XcE out rho r m9) := by
  unfold f8_X8_callsOf at h
  refine spec_of (by decide) rfl (by simp [catS, cat1]) (Nat.le_of_ble_eq_true rfl) ?_
  show WP mX8_callsOf (9) n9 0 [some (vR 8 (i0)), some (vI (x1)), none, none] [] (cM m out rho) (PcE out rho r false m9) (XcE out rho r m9)
  refine wp_iload_n dX8_callsOf_0 rfl ?_
  refine wp_iconst (v := 0) dX8_callsOf_1 (by decide) ?_
  refine wp_aload_n dX8_callsOf_2 rfl ?_
  obtain ⟨j1, ho2, h⟩ := od_e h
  refine cp_getS (y := 8) (f := 1032) (t := 51) (by decide) (by decide) rfl rfl fl_X8_43 dX8_callsOf_3 ho2 ?_
  refine cp_size (c := 51) rfl (by decide) ml_X8_82 dX8_callsOf_6 (Nat.le_of_ble_eq_true rfl) ?_
  refine wp_iconst (v := 1) dX8_callsOf_9 (by decide) ?_
  refine wp_isub dX8_callsOf_10 ?_
  obtain ⟨r3, m4, n5, n6, hp7, h, en8⟩ := cb_e h
  refine wp_callS (k1 := n5) (k2 := n6) (As := [vI (x1), vI (0), vI (((nI (gL m 51 j1).length) - 1))]) (rest := []) (w8_X8_isWithin hp7) okX8_isWithin sm_X8_isWithin rfl ml_X8_54 dX8_callsOf_11 rfl (by decide) (Nat.le_of_eq en8) rfl (Nat.le_of_ble_eq_true rfl) (fun _ _ z => z.elim) (fun r' S' z => ?_)
  obtain ⟨rfl, rfl⟩ := z
  show WP _ _ _ _ [some (vR 8 (i0)), some (vI (x1)), none, none] [vI (r3)] _ _ _
  by_cases c9 : r3 = 0
  · replace h := itp c9 h
    obtain ⟨q1, q2, q3⟩ := cs_e h
    subst q1
    subst q2
    subst q3
    exact wp_callS (k1 := 1) (k2 := 0) (As := [vI (r3)]) (rest := []) (w8_mustExist0 c9) okX8_mustExist sm_X8_mustExist rfl ml_X8_58 dX8_callsOf_14 rfl (by decide) (Nat.le_refl _) rfl (Nat.le_of_ble_eq_true rfl) (fun E S' z => ⟨⟨0, rfl, by decide, z.1⟩, z.2⟩) (fun r' S' z => z.elim)
  replace h := itn c9 h
  refine wp_callS (k1 := 0) (k2 := _) (As := [vI (r3)]) (rest := []) (w8_mustExist1 c9) okX8_mustExist sm_X8_mustExist rfl ml_X8_58 dX8_callsOf_14 rfl (by decide) (Nat.le_of_eq (Nat.zero_add _)) rfl (Nat.le_of_ble_eq_true rfl) (fun _ _ z => z.elim) (fun r' S' z => ?_)
  obtain ⟨rfl, rfl⟩ := z
  show WP _ _ _ _ [some (vR 8 (i0)), some (vI (x1)), none, none] [] _ _ _
  refine wp_iconst (v := 0) dX8_callsOf_17 (by decide) ?_
  refine wp_istore_n (L' := [some (vR 8 (i0)), some (vI (x1)), some (vI (0)), none]) dX8_callsOf_18 rfl rfl ?_
  refine wp_iconst (v := 0) dX8_callsOf_19 (by decide) ?_
  refine wp_istore_n (L' := [some (vR 8 (i0)), some (vI (x1)), some (vI (0)), some (vI (0))]) dX8_callsOf_20 rfl rfl ?_
  exact w8_X8_callsOf_21 FU h
def f8_X8_call (i0 : Nat) (x1 : Int32) (x2 : Int32) (m : CM) : CR (Int32 ⊕ Nat) :=
  od (gR m 1033 i0) fun j1 =>
  cb (f8_X8_isWithin (x1) (0) (((nI (gL m 52 j1).length) - 1)) m) fun r3 m4 =>
  if r3 = 0 then some (.inr 0, m4, 1) else
  cb (f8_X8_isWithin (x2) (0) (7) m4) fun r10 m11 =>
  if r10 = 0 then some (.inr 1, m11, 1) else
  od (gR m11 1033 i0) fun j17 =>
  if ¬ x1 < 0 then
  od ((gL m11 52 j17)[(x1).toNatClampNeg]?) fun j20 =>
  if x2 = nI 0 then
    od (gR m11 129 j20) fun j23 =>
    some (.inl ((gI m11 897 j23)), m11, 0)
  else
  if x2 = nI 1 then
    od (gR m11 130 j20) fun j26 =>
    some (.inl ((gI m11 512 j26)), m11, 0)
  else
  if x2 = nI 2 then
    some (.inl ((gI m11 133 j20)), m11, 0)
  else
  if x2 = nI 3 then
    some (.inl ((gI m11 131 j20)), m11, 0)
  else
  if x2 = nI 4 then
    od (gR m11 129 j20) fun j31 =>
    if gR m11 904 j31 = none then
      some (.inl ((-1)), m11, 0)
    else
      od (gR m11 904 j31) fun j34 =>
      some (.inl ((gI m11 128 j34)), m11, 0)
  else
  if x2 = nI 5 then
    od (gR m11 129 j20) fun j37 =>
    some (.inl ((gI m11 902 j37)), m11, 0)
  else
  if x2 = nI 6 then
    od (gR m11 132 j20) fun j40 =>
    some (.inl ((nI (gL m11 56 j40).length)), m11, 0)
  else
  od (gR m11 129 j20) fun j42 =>
  some (.inl ((gI m11 903 j42)), m11, 0)
  else none
theorem w8_X8_call {r : Int32 ⊕ Nat} {m9 : CM} {i0 : Nat} {x1 : Int32} {x2 : Int32} {m : CM} {n9 : Nat} (h : f8_X8_call i0 x1 x2 m = some (r, m9, n9)) : Spec mX8_call (9) n9 [vR 8 (i0), vI (x1), vI (x2)] (cM m out rho) (PcE out rho r false m9) (XcE out rho r m9) := by
  unfold f8_X8_call at h
  refine spec_of (by decide) rfl (by simp [catS, cat1]) (Nat.le_of_ble_eq_true rfl) ?_
  show WP mX8_call (9) n9 0 [some (vR 8 (i0)), some (vI (x1)), some (vI (x2)), none] [] (cM m out rho) (PcE out rho r false m9) (XcE out rho r m9)
  refine wp_iload_n dX8_call_0 rfl ?_
  refine wp_iconst (v := 0) dX8_call_1 (by decide) ?_
  refine wp_aload_n dX8_call_2 rfl ?_
  obtain ⟨j1, ho2, h⟩ := od_e h
  refine cp_getS (y := 9) (f := 1033) (t := 52) (by decide) (by decide) rfl rfl fl_X8_46 dX8_call_3 ho2 ?_
  refine cp_size (c := 52) rfl (by decide) ml_X8_82 dX8_call_6 (Nat.le_of_ble_eq_true rfl) ?_
  refine wp_iconst (v := 1) dX8_call_9 (by decide) ?_
  refine wp_isub dX8_call_10 ?_
  obtain ⟨r3, m4, n5, n6, hp7, h, en8⟩ := cb_e h
  refine wp_callS (k1 := n5) (k2 := n6) (As := [vI (x1), vI (0), vI (((nI (gL m 52 j1).length) - 1))]) (rest := []) (w8_X8_isWithin hp7) okX8_isWithin sm_X8_isWithin rfl ml_X8_54 dX8_call_11 rfl (by decide) (Nat.le_of_eq en8) rfl (Nat.le_of_ble_eq_true rfl) (fun _ _ z => z.elim) (fun r' S' z => ?_)
  obtain ⟨rfl, rfl⟩ := z
  show WP _ _ _ _ [some (vR 8 (i0)), some (vI (x1)), some (vI (x2)), none] [vI (r3)] _ _ _
  by_cases c9 : r3 = 0
  · replace h := itp c9 h
    obtain ⟨q1, q2, q3⟩ := cs_e h
    subst q1
    subst q2
    subst q3
    exact wp_callS (k1 := 1) (k2 := 0) (As := [vI (r3)]) (rest := []) (w8_mustExist0 c9) okX8_mustExist sm_X8_mustExist rfl ml_X8_58 dX8_call_14 rfl (by decide) (Nat.le_refl _) rfl (Nat.le_of_ble_eq_true rfl) (fun E S' z => ⟨⟨0, rfl, by decide, z.1⟩, z.2⟩) (fun r' S' z => z.elim)
  replace h := itn c9 h
  refine wp_callS (k1 := 0) (k2 := _) (As := [vI (r3)]) (rest := []) (w8_mustExist1 c9) okX8_mustExist sm_X8_mustExist rfl ml_X8_58 dX8_call_14 rfl (by decide) (Nat.le_of_eq (Nat.zero_add _)) rfl (Nat.le_of_ble_eq_true rfl) (fun _ _ z => z.elim) (fun r' S' z => ?_)
  obtain ⟨rfl, rfl⟩ := z
  show WP _ _ _ _ [some (vR 8 (i0)), some (vI (x1)), some (vI (x2)), none] [] _ _ _
  refine wp_iload_n dX8_call_17 rfl ?_
  refine wp_iconst (v := 0) dX8_call_18 (by decide) ?_
  refine wp_bipush (v := 7) dX8_call_19 (by decide) ?_
  obtain ⟨r10, m11, n12, n13, hp14, h, en15⟩ := cb_e h
  refine wp_callS (k1 := n12) (k2 := n13) (As := [vI (x2), vI (0), vI (7)]) (rest := []) (w8_X8_isWithin hp14) okX8_isWithin sm_X8_isWithin rfl ml_X8_54 dX8_call_21 rfl (by decide) (Nat.le_of_eq en15) rfl (Nat.le_of_ble_eq_true rfl) (fun _ _ z => z.elim) (fun r' S' z => ?_)
  obtain ⟨rfl, rfl⟩ := z
  show WP _ _ _ _ [some (vR 8 (i0)), some (vI (x1)), some (vI (x2)), none] [vI (r10)] _ _ _
  by_cases c16 : r10 = 0
  · replace h := itp c16 h
    obtain ⟨q1, q2, q3⟩ := cs_e h
    subst q1
    subst q2
    subst q3
    exact wp_callS (k1 := 1) (k2 := 0) (As := [vI (r10)]) (rest := []) (w8_mustFit0 c16) okX8_mustFit sm_X8_mustFit rfl ml_X8_62 dX8_call_24 rfl (by decide) (Nat.le_refl _) rfl (Nat.le_of_ble_eq_true rfl) (fun E S' z => ⟨⟨1, rfl, by decide, z.1⟩, z.2⟩) (fun r' S' z => z.elim)
  replace h := itn c16 h
  refine wp_callS (k1 := 0) (k2 := _) (As := [vI (r10)]) (rest := []) (w8_mustFit1 c16) okX8_mustFit sm_X8_mustFit rfl ml_X8_62 dX8_call_24 rfl (by decide) (Nat.le_of_eq (Nat.zero_add _)) rfl (Nat.le_of_ble_eq_true rfl) (fun _ _ z => z.elim) (fun r' S' z => ?_)
  obtain ⟨rfl, rfl⟩ := z
  show WP _ _ _ _ [some (vR 8 (i0)), some (vI (x1)), some (vI (x2)), none] [] _ _ _
  refine wp_aload_n dX8_call_27 rfl ?_
  obtain ⟨j17, ho18, h⟩ := od_e h
  refine cp_getS (y := 9) (f := 1033) (t := 52) (by decide) (by decide) rfl rfl fl_X8_46 dX8_call_28 ho18 ?_
  refine wp_iload_n dX8_call_31 rfl ?_
  obtain ⟨c19, h⟩ := ock h
  obtain ⟨j20, ho21, h⟩ := od_e h
  refine cp_get (c := 52) (t := 1) rfl rfl (by decide) c19 ho21 ml_X8_98 dX8_call_32 (Nat.le_of_ble_eq_true rfl) ?_
  refine cp_cast (c := 1) (by decide) kl_X8_204 dX8_call_35 ?_
  refine wp_astore_n (L' := [some (vR 8 (i0)), some (vI (x1)), some (vI (x2)), some (vR 1 (j20))]) dX8_call_38 rfl rfl ?_
  refine wp_iload_n dX8_call_39 rfl ?_
  by_cases c22 : x2 = nI 0
  · replace h := itp c22 h
    refine wp_tabAt (tgt := 84) c22 dX8_call_40 (by decide) (by decide) rfl (by decide) ?_
    refine wp_aload_n dX8_call_84 rfl ?_
    obtain ⟨j23, ho24, h⟩ := od_e h
    refine cp_getS (y := 1) (f := 129) (t := 7) (by decide) (by decide) rfl rfl fl_X8_206 dX8_call_85 ho24 ?_
    refine cp_getI (y := 1) (f := 897) (by decide) (by decide) rfl rfl fl_X8_210 dX8_call_88 ?_
    obtain ⟨q1, q2, q3⟩ := cs_e h
    subst q1
    subst q2
    exact wp_ireturn rfl dX8_call_91 ⟨⟨_, rfl, rfl⟩, rfl⟩
  replace h := itn c22 h
  by_cases c25 : x2 = nI 1
  · replace h := itp c25 h
    refine wp_tabAt (tgt := 92) c25 dX8_call_40 (by decide) (by decide) rfl (by decide) ?_
    refine wp_aload_n dX8_call_92 rfl ?_
    obtain ⟨j26, ho27, h⟩ := od_e h
    refine cp_getS (y := 2) (f := 130) (t := 4) (by decide) (by decide) rfl rfl fl_X8_213 dX8_call_93 ho27 ?_
    refine cp_getI (y := 0) (f := 512) (by decide) (by decide) rfl rfl fl_X8_95 dX8_call_96 ?_
    obtain ⟨q1, q2, q3⟩ := cs_e h
    subst q1
    subst q2
    exact wp_ireturn rfl dX8_call_99 ⟨⟨_, rfl, rfl⟩, rfl⟩
  replace h := itn c25 h
  by_cases c28 : x2 = nI 2
  · replace h := itp c28 h
    refine wp_tabAt (tgt := 100) c28 dX8_call_40 (by decide) (by decide) rfl (by decide) ?_
    refine wp_aload_n dX8_call_100 rfl ?_
    refine cp_getI (y := 5) (f := 133) (by decide) (by decide) rfl rfl fl_X8_217 dX8_call_101 ?_
    obtain ⟨q1, q2, q3⟩ := cs_e h
    subst q1
    subst q2
    exact wp_ireturn rfl dX8_call_104 ⟨⟨_, rfl, rfl⟩, rfl⟩
  replace h := itn c28 h
  by_cases c29 : x2 = nI 3
  · replace h := itp c29 h
    refine wp_tabAt (tgt := 105) c29 dX8_call_40 (by decide) (by decide) rfl (by decide) ?_
    refine wp_aload_n dX8_call_105 rfl ?_
    refine cp_getI (y := 3) (f := 131) (by decide) (by decide) rfl rfl fl_X8_218 dX8_call_106 ?_
    obtain ⟨q1, q2, q3⟩ := cs_e h
    subst q1
    subst q2
    exact wp_ireturn rfl dX8_call_109 ⟨⟨_, rfl, rfl⟩, rfl⟩
  replace h := itn c29 h
  by_cases c30 : x2 = nI 4
  · replace h := itp c30 h
    refine wp_tabAt (tgt := 110) c30 dX8_call_40 (by decide) (by decide) rfl (by decide) ?_
    refine wp_aload_n dX8_call_110 rfl ?_
    obtain ⟨j31, ho32, h⟩ := od_e h
    refine cp_getS (y := 1) (f := 129) (t := 7) (by decide) (by decide) rfl rfl fl_X8_206 dX8_call_111 ho32 ?_
    refine cp_getR (y := 8) (f := 904) (t := 1) (by decide) (by decide) rfl rfl fl_X8_219 dX8_call_114 rfl ?_
    refine cp_ifnonnull (o := gR m11 904 j31) (tgt := 124) dX8_call_117 (by decide) (fun c33 => ?_) (fun c33 => ?_)
    · replace h := itn c33 h
      refine wp_aload_n dX8_call_124 rfl ?_
      refine cp_getS (y := 1) (f := 129) (t := 7) (by decide) (by decide) rfl rfl fl_X8_206 dX8_call_125 ho32 ?_
      refine cp_getR (y := 8) (f := 904) (t := 1) (by decide) (by decide) rfl rfl fl_X8_219 dX8_call_128 rfl ?_
      obtain ⟨j34, ho35, h⟩ := od_e h
      rw [ho35]
      show WP _ _ _ _ [some (vR 8 (i0)), some (vI (x1)), some (vI (x2)), some (vR 1 (j20))] [vR 1 (j34)] _ _ _
      refine cp_getI (y := 0) (f := 128) (by decide) (by decide) rfl rfl fl_X8_223 dX8_call_131 ?_
      obtain ⟨q1, q2, q3⟩ := cs_e h
      subst q1
      subst q2
      exact wp_ireturn rfl dX8_call_134 ⟨⟨_, rfl, rfl⟩, rfl⟩
    · replace h := itp c33 h
      refine wp_iconst (v := (-1)) dX8_call_120 (by decide) ?_
      refine wp_goto (tgt := 134) dX8_call_121 (by decide) ?_
      obtain ⟨q1, q2, q3⟩ := cs_e h
      subst q1
      subst q2
      exact wp_ireturn rfl dX8_call_134 ⟨⟨_, rfl, rfl⟩, rfl⟩
  replace h := itn c30 h
  by_cases c36 : x2 = nI 5
  · replace h := itp c36 h
    refine wp_tabAt (tgt := 135) c36 dX8_call_40 (by decide) (by decide) rfl (by decide) ?_
    refine wp_aload_n dX8_call_135 rfl ?_
    obtain ⟨j37, ho38, h⟩ := od_e h
    refine cp_getS (y := 1) (f := 129) (t := 7) (by decide) (by decide) rfl rfl fl_X8_206 dX8_call_136 ho38 ?_
    refine cp_getI (y := 6) (f := 902) (by decide) (by decide) rfl rfl fl_X8_137 dX8_call_139 ?_
    obtain ⟨q1, q2, q3⟩ := cs_e h
    subst q1
    subst q2
    exact wp_ireturn rfl dX8_call_142 ⟨⟨_, rfl, rfl⟩, rfl⟩
  replace h := itn c36 h
  by_cases c39 : x2 = nI 6
  · replace h := itp c39 h
    refine wp_tabAt (tgt := 143) c39 dX8_call_40 (by decide) (by decide) rfl (by decide) ?_
    refine wp_aload_n dX8_call_143 rfl ?_
    obtain ⟨j40, ho41, h⟩ := od_e h
    refine cp_getS (y := 4) (f := 132) (t := 56) (by decide) (by decide) rfl rfl fl_X8_224 dX8_call_144 ho41 ?_
    refine cp_size (c := 56) rfl (by decide) ml_X8_82 dX8_call_147 (Nat.le_of_ble_eq_true rfl) ?_
    obtain ⟨q1, q2, q3⟩ := cs_e h
    subst q1
    subst q2
    exact wp_ireturn rfl dX8_call_150 ⟨⟨_, rfl, rfl⟩, rfl⟩
  replace h := itn c39 h
  refine wp_tableOut (tgt := 151) dX8_call_40 (tab_out (n := 7) (by decide) (fun i hi => by
    have : i = 0 ∨ i = 1 ∨ i = 2 ∨ i = 3 ∨ i = 4 ∨ i = 5 ∨ i = 6 := by omega
    rcases this with rfl | rfl | rfl | rfl | rfl | rfl | rfl
    all_goals assumption)) (by decide) ?_
  refine wp_aload_n dX8_call_151 rfl ?_
  obtain ⟨j42, ho43, h⟩ := od_e h
  refine cp_getS (y := 1) (f := 129) (t := 7) (by decide) (by decide) rfl rfl fl_X8_206 dX8_call_152 ho43 ?_
  refine cp_getI (y := 7) (f := 903) (by decide) (by decide) rfl rfl fl_X8_227 dX8_call_155 ?_
  obtain ⟨q1, q2, q3⟩ := cs_e h
  subst q1
  subst q2
  exact wp_ireturn rfl dX8_call_158 ⟨⟨_, rfl, rfl⟩, rfl⟩
def f8_X8_budget (i0 : Nat) (x1 : Int32) (m : CM) : CR (Int32 ⊕ Nat) :=
  cb (f8_X8_isWithin (x1) (0) (6) m) fun r1 m2 =>
  if r1 = 0 then some (.inr 0, m2, 1) else
  od (gR m2 1030 i0) fun j8 =>
  if vq (x1) 7 then
  od (gO m2 42 j8 (x1).toNatClampNeg) fun j11 =>
  some (.inl ((gI m2 256 j11)), m2, 0)
  else none
theorem w8_X8_budget {r : Int32 ⊕ Nat} {m9 : CM} {i0 : Nat} {x1 : Int32} {m : CM} {n9 : Nat} (h : f8_X8_budget i0 x1 m = some (r, m9, n9)) : Spec mX8_budget (9) n9 [vR 8 (i0), vI (x1)] (cM m out rho) (PcE out rho r false m9) (XcE out rho r m9) := by
  unfold f8_X8_budget at h
  refine spec_of (by decide) rfl (by simp [catS, cat1]) (Nat.le_of_ble_eq_true rfl) ?_
  show WP mX8_budget (9) n9 0 [some (vR 8 (i0)), some (vI (x1))] [] (cM m out rho) (PcE out rho r false m9) (XcE out rho r m9)
  refine wp_iload_n dX8_budget_0 rfl ?_
  refine wp_iconst (v := 0) dX8_budget_1 (by decide) ?_
  refine wp_bipush (v := 6) dX8_budget_2 (by decide) ?_
  obtain ⟨r1, m2, n3, n4, hp5, h, en6⟩ := cb_e h
  refine wp_callS (k1 := n3) (k2 := n4) (As := [vI (x1), vI (0), vI (6)]) (rest := []) (w8_X8_isWithin hp5) okX8_isWithin sm_X8_isWithin rfl ml_X8_54 dX8_budget_4 rfl (by decide) (Nat.le_of_eq en6) rfl (Nat.le_of_ble_eq_true rfl) (fun _ _ z => z.elim) (fun r' S' z => ?_)
  obtain ⟨rfl, rfl⟩ := z
  show WP _ _ _ _ [some (vR 8 (i0)), some (vI (x1))] [vI (r1)] _ _ _
  by_cases c7 : r1 = 0
  · replace h := itp c7 h
    obtain ⟨q1, q2, q3⟩ := cs_e h
    subst q1
    subst q2
    subst q3
    exact wp_callS (k1 := 1) (k2 := 0) (As := [vI (r1)]) (rest := []) (w8_mustExist0 c7) okX8_mustExist sm_X8_mustExist rfl ml_X8_58 dX8_budget_7 rfl (by decide) (Nat.le_refl _) rfl (Nat.le_of_ble_eq_true rfl) (fun E S' z => ⟨⟨0, rfl, by decide, z.1⟩, z.2⟩) (fun r' S' z => z.elim)
  replace h := itn c7 h
  refine wp_callS (k1 := 0) (k2 := _) (As := [vI (r1)]) (rest := []) (w8_mustExist1 c7) okX8_mustExist sm_X8_mustExist rfl ml_X8_58 dX8_budget_7 rfl (by decide) (Nat.le_of_eq (Nat.zero_add _)) rfl (Nat.le_of_ble_eq_true rfl) (fun _ _ z => z.elim) (fun r' S' z => ?_)
  obtain ⟨rfl, rfl⟩ := z
  show WP _ _ _ _ [some (vR 8 (i0)), some (vI (x1))] [] _ _ _
  refine wp_aload_n dX8_budget_10 rfl ?_
  obtain ⟨j8, ho9, h⟩ := od_e h
  refine cp_getS (y := 6) (f := 1030) (t := 42) (by decide) (by decide) rfl rfl fl_X8_32 dX8_budget_11 ho9 ?_
  refine wp_iload_n dX8_budget_14 rfl ?_
  obtain ⟨c10, h⟩ := ock h
  obtain ⟨j11, ho12, h⟩ := od_e h
  refine cp_aald (c := 42) (t := 2) rfl (by decide) rfl (show vp_in (x1) (len 42) from c10) dX8_budget_15 ho12 ?_
  refine cp_getI (y := 0) (f := 256) (by decide) (by decide) rfl rfl fl_X8_230 dX8_budget_16 ?_
  obtain ⟨q1, q2, q3⟩ := cs_e h
  subst q1
  subst q2
  exact wp_ireturn rfl dX8_budget_19 ⟨⟨_, rfl, rfl⟩, rfl⟩
def f8_X8_breaker (i0 : Nat) (x1 : Int32) (x2 : Int32) (m : CM) : CR (Int32 ⊕ Nat) :=
  cb (f8_X8_isWithin (x1) (0) (6) m) fun r1 m2 =>
  if r1 = 0 then
    some (.inr 0, m2, 1)
  else
    od (gR m2 1031 i0) fun j8 =>
    cb (f8_X8_isWithin (x2) (0) (((nI (gL m2 50 j8).length) - 1)) m2) fun r10 m11 =>
    if r10 = 0 then
      some (.inr 0, m11, 1)
    else
      od (gR m11 1031 i0) fun j17 =>
      if ¬ x2 < 0 then
      od ((gL m11 50 j17)[(x2).toNatClampNeg]?) fun j20 =>
      od (gR m11 520 j20) fun j22 =>
      if vq (x1) 7 then
      od (gO m11 43 j22 (x1).toNatClampNeg) fun j25 =>
      some (.inl ((gI m11 0 j25)), m11, 0)
      else none
      else none
theorem w8_X8_breaker {r : Int32 ⊕ Nat} {m9 : CM} {i0 : Nat} {x1 : Int32} {x2 : Int32} {m : CM} {n9 : Nat} (h : f8_X8_breaker i0 x1 x2 m = some (r, m9, n9)) : Spec mX8_breaker (9) n9 [vR 8 (i0), vI (x1), vI (x2)] (cM m out rho) (PcE out rho r false m9) (XcE out rho r m9) := by
  unfold f8_X8_breaker at h
  refine spec_of (by decide) rfl (by simp [catS, cat1]) (Nat.le_of_ble_eq_true rfl) ?_
  show WP mX8_breaker (9) n9 0 [some (vR 8 (i0)), some (vI (x1)), some (vI (x2))] [] (cM m out rho) (PcE out rho r false m9) (XcE out rho r m9)
  refine wp_iload_n dX8_breaker_0 rfl ?_
  refine wp_iconst (v := 0) dX8_breaker_1 (by decide) ?_
  refine wp_bipush (v := 6) dX8_breaker_2 (by decide) ?_
  obtain ⟨r1, m2, n3, n4, hp5, h, en6⟩ := cb_e h
  refine wp_callS (k1 := n3) (k2 := n4) (As := [vI (x1), vI (0), vI (6)]) (rest := []) (w8_X8_isWithin hp5) okX8_isWithin sm_X8_isWithin rfl ml_X8_54 dX8_breaker_4 rfl (by decide) (Nat.le_of_eq en6) rfl (Nat.le_of_ble_eq_true rfl) (fun _ _ z => z.elim) (fun r' S' z => ?_)
  obtain ⟨rfl, rfl⟩ := z
  show WP _ _ _ _ [some (vR 8 (i0)), some (vI (x1)), some (vI (x2))] [vI (r1)] _ _ _
  refine wp_if_eq (tgt := 31) dX8_breaker_7 (by decide) (fun c7 => ?_) (fun c7 => ?_)
  · replace h := itp c7 h
    refine wp_iconst (v := 0) dX8_breaker_31 (by decide) ?_
    obtain ⟨q1, q2, q3⟩ := cs_e h
    subst q1
    subst q2
    subst q3
    exact wp_callS (k1 := 1) (k2 := 0) (As := [vI (0)]) (rest := []) (w8_mustExist0 rfl) okX8_mustExist sm_X8_mustExist rfl ml_X8_58 dX8_breaker_32 rfl (by decide) (Nat.le_refl _) rfl (Nat.le_of_ble_eq_true rfl) (fun E S' z => ⟨⟨0, rfl, by decide, z.1⟩, z.2⟩) (fun r' S' z => z.elim)
  · replace h := itn c7 h
    refine wp_iload_n dX8_breaker_10 rfl ?_
    refine wp_iconst (v := 0) dX8_breaker_11 (by decide) ?_
    refine wp_aload_n dX8_breaker_12 rfl ?_
    obtain ⟨j8, ho9, h⟩ := od_e h
    refine cp_getS (y := 7) (f := 1031) (t := 50) (by decide) (by decide) rfl rfl fl_X8_39 dX8_breaker_13 ho9 ?_
    refine cp_size (c := 50) rfl (by decide) ml_X8_82 dX8_breaker_16 (Nat.le_of_ble_eq_true rfl) ?_
    refine wp_iconst (v := 1) dX8_breaker_19 (by decide) ?_
    refine wp_isub dX8_breaker_20 ?_
    obtain ⟨r10, m11, n12, n13, hp14, h, en15⟩ := cb_e h
    refine wp_callS (k1 := n12) (k2 := n13) (As := [vI (x2), vI (0), vI (((nI (gL m2 50 j8).length) - 1))]) (rest := []) (w8_X8_isWithin hp14) okX8_isWithin sm_X8_isWithin rfl ml_X8_54 dX8_breaker_21 rfl (by decide) (Nat.le_of_eq en15) rfl (Nat.le_of_ble_eq_true rfl) (fun _ _ z => z.elim) (fun r' S' z => ?_)
    obtain ⟨rfl, rfl⟩ := z
    show WP _ _ _ _ [some (vR 8 (i0)), some (vI (x1)), some (vI (x2))] [vI (r10)] _ _ _
    refine wp_if_eq (tgt := 31) dX8_breaker_24 (by decide) (fun c16 => ?_) (fun c16 => ?_)
    · replace h := itp c16 h
      refine wp_iconst (v := 0) dX8_breaker_31 (by decide) ?_
      obtain ⟨q1, q2, q3⟩ := cs_e h
      subst q1
      subst q2
      subst q3
      exact wp_callS (k1 := 1) (k2 := 0) (As := [vI (0)]) (rest := []) (w8_mustExist0 rfl) okX8_mustExist sm_X8_mustExist rfl ml_X8_58 dX8_breaker_32 rfl (by decide) (Nat.le_refl _) rfl (Nat.le_of_ble_eq_true rfl) (fun E S' z => ⟨⟨0, rfl, by decide, z.1⟩, z.2⟩) (fun r' S' z => z.elim)
    · replace h := itn c16 h
      refine wp_iconst (v := 1) dX8_breaker_27 (by decide) ?_
      refine wp_goto (tgt := 32) dX8_breaker_28 (by decide) ?_
      refine wp_callS (k1 := 0) (k2 := _) (As := [vI (1)]) (rest := []) (w8_mustExist1 (by decide)) okX8_mustExist sm_X8_mustExist rfl ml_X8_58 dX8_breaker_32 rfl (by decide) (Nat.le_of_eq (Nat.zero_add _)) rfl (Nat.le_of_ble_eq_true rfl) (fun _ _ z => z.elim) (fun r' S' z => ?_)
      obtain ⟨rfl, rfl⟩ := z
      show WP _ _ _ _ [some (vR 8 (i0)), some (vI (x1)), some (vI (x2))] [] _ _ _
      refine wp_aload_n dX8_breaker_35 rfl ?_
      obtain ⟨j17, ho18, h⟩ := od_e h
      refine cp_getS (y := 7) (f := 1031) (t := 50) (by decide) (by decide) rfl rfl fl_X8_39 dX8_breaker_36 ho18 ?_
      refine wp_iload_n dX8_breaker_39 rfl ?_
      obtain ⟨c19, h⟩ := ock h
      obtain ⟨j20, ho21, h⟩ := od_e h
      refine cp_get (c := 50) (t := 4) rfl rfl (by decide) c19 ho21 ml_X8_98 dX8_breaker_40 (Nat.le_of_ble_eq_true rfl) ?_
      refine cp_cast (c := 4) (by decide) kl_X8_86 dX8_breaker_43 ?_
      obtain ⟨j22, ho23, h⟩ := od_e h
      refine cp_getS (y := 8) (f := 520) (t := 43) (by decide) (by decide) rfl rfl fl_X8_233 dX8_breaker_46 ho23 ?_
      refine wp_iload_n dX8_breaker_49 rfl ?_
      obtain ⟨c24, h⟩ := ock h
      obtain ⟨j25, ho26, h⟩ := od_e h
      refine cp_aald (c := 43) (t := 0) rfl (by decide) rfl (show vp_in (x1) (len 43) from c24) dX8_breaker_50 ho26 ?_
      refine cp_getI (y := 0) (f := 0) (by decide) (by decide) rfl rfl fl_X8_237 dX8_breaker_51 ?_
      obtain ⟨q1, q2, q3⟩ := cs_e h
      subst q1
      subst q2
      exact wp_ireturn rfl dX8_breaker_54 ⟨⟨_, rfl, rfl⟩, rfl⟩
def f8_X8_isShunned (i0 : Nat) (x1 : Int32) (m : CM) : CR (Int32 ⊕ Nat) :=
  od (gR m 1031 i0) fun j1 =>
  cb (f8_X8_isWithin (x1) (0) (((nI (gL m 50 j1).length) - 1)) m) fun r3 m4 =>
  if r3 = 0 then some (.inr 0, m4, 1) else
  od (gR m4 1031 i0) fun j10 =>
  if ¬ x1 < 0 then
  od ((gL m4 50 j10)[(x1).toNatClampNeg]?) fun j13 =>
  cb (f8_X4_openBreakers j13 m4) fun r15 m16 =>
  if r15 < (gI m16 1025 i0) then
    some (.inl (0), m16, 0)
  else
    some (.inl (1), m16, 0)
  else none
theorem w8_X8_isShunned {r : Int32 ⊕ Nat} {m9 : CM} {i0 : Nat} {x1 : Int32} {m : CM} {n9 : Nat} (h : f8_X8_isShunned i0 x1 m = some (r, m9, n9)) : Spec mX8_isShunned (9) n9 [vR 8 (i0), vI (x1)] (cM m out rho) (PcE out rho r false m9) (XcE out rho r m9) := by
  unfold f8_X8_isShunned at h
  refine spec_of (by decide) rfl (by simp [catS, cat1]) (Nat.le_of_ble_eq_true rfl) ?_
  show WP mX8_isShunned (9) n9 0 [some (vR 8 (i0)), some (vI (x1))] [] (cM m out rho) (PcE out rho r false m9) (XcE out rho r m9)
  refine wp_iload_n dX8_isShunned_0 rfl ?_
  refine wp_iconst (v := 0) dX8_isShunned_1 (by decide) ?_
  refine wp_aload_n dX8_isShunned_2 rfl ?_
  obtain ⟨j1, ho2, h⟩ := od_e h
  refine cp_getS (y := 7) (f := 1031) (t := 50) (by decide) (by decide) rfl rfl fl_X8_39 dX8_isShunned_3 ho2 ?_
  refine cp_size (c := 50) rfl (by decide) ml_X8_82 dX8_isShunned_6 (Nat.le_of_ble_eq_true rfl) ?_
  refine wp_iconst (v := 1) dX8_isShunned_9 (by decide) ?_
  refine wp_isub dX8_isShunned_10 ?_
  obtain ⟨r3, m4, n5, n6, hp7, h, en8⟩ := cb_e h
  refine wp_callS (k1 := n5) (k2 := n6) (As := [vI (x1), vI (0), vI (((nI (gL m 50 j1).length) - 1))]) (rest := []) (w8_X8_isWithin hp7) okX8_isWithin sm_X8_isWithin rfl ml_X8_54 dX8_isShunned_11 rfl (by decide) (Nat.le_of_eq en8) rfl (Nat.le_of_ble_eq_true rfl) (fun _ _ z => z.elim) (fun r' S' z => ?_)
  obtain ⟨rfl, rfl⟩ := z
  show WP _ _ _ _ [some (vR 8 (i0)), some (vI (x1))] [vI (r3)] _ _ _
  by_cases c9 : r3 = 0
  · replace h := itp c9 h
    obtain ⟨q1, q2, q3⟩ := cs_e h
    subst q1
    subst q2
    subst q3
    exact wp_callS (k1 := 1) (k2 := 0) (As := [vI (r3)]) (rest := []) (w8_mustExist0 c9) okX8_mustExist sm_X8_mustExist rfl ml_X8_58 dX8_isShunned_14 rfl (by decide) (Nat.le_refl _) rfl (Nat.le_of_ble_eq_true rfl) (fun E S' z => ⟨⟨0, rfl, by decide, z.1⟩, z.2⟩) (fun r' S' z => z.elim)
  replace h := itn c9 h
  refine wp_callS (k1 := 0) (k2 := _) (As := [vI (r3)]) (rest := []) (w8_mustExist1 c9) okX8_mustExist sm_X8_mustExist rfl ml_X8_58 dX8_isShunned_14 rfl (by decide) (Nat.le_of_eq (Nat.zero_add _)) rfl (Nat.le_of_ble_eq_true rfl) (fun _ _ z => z.elim) (fun r' S' z => ?_)
  obtain ⟨rfl, rfl⟩ := z
  show WP _ _ _ _ [some (vR 8 (i0)), some (vI (x1))] [] _ _ _
  refine wp_aload_n dX8_isShunned_17 rfl ?_
  obtain ⟨j10, ho11, h⟩ := od_e h
  refine cp_getS (y := 7) (f := 1031) (t := 50) (by decide) (by decide) rfl rfl fl_X8_39 dX8_isShunned_18 ho11 ?_
  refine wp_iload_n dX8_isShunned_21 rfl ?_
  obtain ⟨c12, h⟩ := ock h
  obtain ⟨j13, ho14, h⟩ := od_e h
  refine cp_get (c := 50) (t := 4) rfl rfl (by decide) c12 ho14 ml_X8_98 dX8_isShunned_22 (Nat.le_of_ble_eq_true rfl) ?_
  refine cp_cast (c := 4) (by decide) kl_X8_86 dX8_isShunned_25 ?_
  obtain ⟨r15, m16, n17, n18, hp19, h, en20⟩ := cb_e h
  refine wp_callV (k1 := n17) (k2 := n18) (As := []) (rest := []) (w8_X4_openBreakers hp19) okX4_openBreakers ivX4_openBreakers rfl (by decide) ml_X8_240 dX8_isShunned_28 rfl (by decide) (Nat.le_of_eq en20) rfl (Nat.le_of_ble_eq_true rfl) (fun _ _ z => z.elim) (fun r' S' z => ?_)
  obtain ⟨rfl, rfl⟩ := z
  show WP _ _ _ _ [some (vR 8 (i0)), some (vI (x1))] [vI (r15)] _ _ _
  refine wp_aload_n dX8_isShunned_31 rfl ?_
  refine cp_getI (y := 1) (f := 1025) (by decide) (by decide) rfl rfl fl_X8_9 dX8_isShunned_32 ?_
  refine wp_icmp_lt (tgt := 42) dX8_isShunned_35 (by decide) (fun c21 => ?_) (fun c21 => ?_)
  · replace h := itp c21 h
    refine wp_iconst (v := 0) dX8_isShunned_42 (by decide) ?_
    obtain ⟨q1, q2, q3⟩ := cs_e h
    subst q1
    subst q2
    exact wp_zreturn rfl (by decide) dX8_isShunned_43 ⟨⟨_, rfl, rfl⟩, rfl⟩
  · replace h := itn c21 h
    refine wp_iconst (v := 1) dX8_isShunned_38 (by decide) ?_
    refine wp_goto (tgt := 43) dX8_isShunned_39 (by decide) ?_
    obtain ⟨q1, q2, q3⟩ := cs_e h
    subst q1
    subst q2
    exact wp_zreturn rfl (by decide) dX8_isShunned_43 ⟨⟨_, rfl, rfl⟩, rfl⟩
def f8_X8_load (i0 : Nat) (x1 : Int32) (x2 : Int32) (m : CM) : CR (Int32 ⊕ Nat) :=
  od (gR m 1031 i0) fun j1 =>
  cb (f8_X8_isWithin (x1) (0) (((nI (gL m 50 j1).length) - 1)) m) fun r3 m4 =>
  if r3 = 0 then some (.inr 0, m4, 1) else
  od (gR m4 1031 i0) fun j10 =>
  if ¬ x1 < 0 then
  od ((gL m4 50 j10)[(x1).toNatClampNeg]?) fun j13 =>
  if x2 = 0 then
    some (.inl ((gI m4 524 j13)), m4, 0)
  else
    cb (f8_X4_loadNow j13 m4) fun r16 m17 =>
    some (.inl (r16), m17, 0)
  else none
theorem w8_X8_load {r : Int32 ⊕ Nat} {m9 : CM} {i0 : Nat} {x1 : Int32} {x2 : Int32} {m : CM} {n9 : Nat} (h : f8_X8_load i0 x1 x2 m = some (r, m9, n9)) : Spec mX8_load (9) n9 [vR 8 (i0), vI (x1), vI (x2)] (cM m out rho) (PcE out rho r false m9) (XcE out rho r m9) := by
  unfold f8_X8_load at h
  refine spec_of (by decide) rfl (by simp [catS, cat1]) (Nat.le_of_ble_eq_true rfl) ?_
  show WP mX8_load (9) n9 0 [some (vR 8 (i0)), some (vI (x1)), some (vI (x2)), none] [] (cM m out rho) (PcE out rho r false m9) (XcE out rho r m9)
  refine wp_iload_n dX8_load_0 rfl ?_
  refine wp_iconst (v := 0) dX8_load_1 (by decide) ?_
  refine wp_aload_n dX8_load_2 rfl ?_
  obtain ⟨j1, ho2, h⟩ := od_e h
  refine cp_getS (y := 7) (f := 1031) (t := 50) (by decide) (by decide) rfl rfl fl_X8_39 dX8_load_3 ho2 ?_
  refine cp_size (c := 50) rfl (by decide) ml_X8_82 dX8_load_6 (Nat.le_of_ble_eq_true rfl) ?_
  refine wp_iconst (v := 1) dX8_load_9 (by decide) ?_
  refine wp_isub dX8_load_10 ?_
  obtain ⟨r3, m4, n5, n6, hp7, h, en8⟩ := cb_e h
  refine wp_callS (k1 := n5) (k2 := n6) (As := [vI (x1), vI (0), vI (((nI (gL m 50 j1).length) - 1))]) (rest := []) (w8_X8_isWithin hp7) okX8_isWithin sm_X8_isWithin rfl ml_X8_54 dX8_load_11 rfl (by decide) (Nat.le_of_eq en8) rfl (Nat.le_of_ble_eq_true rfl) (fun _ _ z => z.elim) (fun r' S' z => ?_)
  obtain ⟨rfl, rfl⟩ := z
  show WP _ _ _ _ [some (vR 8 (i0)), some (vI (x1)), some (vI (x2)), none] [vI (r3)] _ _ _
  by_cases c9 : r3 = 0
  · replace h := itp c9 h
    obtain ⟨q1, q2, q3⟩ := cs_e h
    subst q1
    subst q2
    subst q3
    exact wp_callS (k1 := 1) (k2 := 0) (As := [vI (r3)]) (rest := []) (w8_mustExist0 c9) okX8_mustExist sm_X8_mustExist rfl ml_X8_58 dX8_load_14 rfl (by decide) (Nat.le_refl _) rfl (Nat.le_of_ble_eq_true rfl) (fun E S' z => ⟨⟨0, rfl, by decide, z.1⟩, z.2⟩) (fun r' S' z => z.elim)
  replace h := itn c9 h
  refine wp_callS (k1 := 0) (k2 := _) (As := [vI (r3)]) (rest := []) (w8_mustExist1 c9) okX8_mustExist sm_X8_mustExist rfl ml_X8_58 dX8_load_14 rfl (by decide) (Nat.le_of_eq (Nat.zero_add _)) rfl (Nat.le_of_ble_eq_true rfl) (fun _ _ z => z.elim) (fun r' S' z => ?_)
  obtain ⟨rfl, rfl⟩ := z
  show WP _ _ _ _ [some (vR 8 (i0)), some (vI (x1)), some (vI (x2)), none] [] _ _ _
  refine wp_aload_n dX8_load_17 rfl ?_
  obtain ⟨j10, ho11, h⟩ := od_e h
  refine cp_getS (y := 7) (f := 1031) (t := 50) (by decide) (by decide) rfl rfl fl_X8_39 dX8_load_18 ho11 ?_
  refine wp_iload_n dX8_load_21 rfl ?_
  obtain ⟨c12, h⟩ := ock h
  obtain ⟨j13, ho14, h⟩ := od_e h
  refine cp_get (c := 50) (t := 4) rfl rfl (by decide) c12 ho14 ml_X8_98 dX8_load_22 (Nat.le_of_ble_eq_true rfl) ?_
  refine cp_cast (c := 4) (by decide) kl_X8_86 dX8_load_25 ?_
  refine wp_astore_n (L' := [some (vR 8 (i0)), some (vI (x1)), some (vI (x2)), some (vR 4 (j13))]) dX8_load_28 rfl rfl ?_
  refine wp_iload_n dX8_load_29 rfl ?_
  refine wp_if_eq (tgt := 40) dX8_load_30 (by decide) (fun c15 => ?_) (fun c15 => ?_)
  · replace h := itp c15 h
    refine wp_aload_n dX8_load_40 rfl ?_
    refine cp_getI (y := 12) (f := 524) (by decide) (by decide) rfl rfl fl_X8_246 dX8_load_41 ?_
    obtain ⟨q1, q2, q3⟩ := cs_e h
    subst q1
    subst q2
    exact wp_ireturn rfl dX8_load_44 ⟨⟨_, rfl, rfl⟩, rfl⟩
  · replace h := itn c15 h
    refine wp_aload_n dX8_load_33 rfl ?_
    obtain ⟨r16, m17, n18, n19, hp20, h, en21⟩ := cb_e h
    refine wp_callV (k1 := n18) (k2 := n19) (As := []) (rest := []) (w8_X4_loadNow hp20) okX4_loadNow ivX4_loadNow rfl (by decide) ml_X8_243 dX8_load_34 rfl (by decide) (Nat.le_of_eq en21) rfl (Nat.le_of_ble_eq_true rfl) (fun _ _ z => z.elim) (fun r' S' z => ?_)
    obtain ⟨rfl, rfl⟩ := z
    show WP _ _ _ _ [some (vR 8 (i0)), some (vI (x1)), some (vI (x2)), some (vR 4 (j13))] [vI (r16)] _ _ _
    refine wp_goto (tgt := 44) dX8_load_37 (by decide) ?_
    obtain ⟨q1, q2, q3⟩ := cs_e h
    subst q1
    subst q2
    exact wp_ireturn rfl dX8_load_44 ⟨⟨_, rfl, rfl⟩, rfl⟩
end S8
