section S8
variable {out : Int64} {rho : RH}
def l8_X4_openBreakers_4 : Nat → Nat → Int32 → Int32 → CM → CR (Int32)
  | 0, _, _, _, _ => none
  | n + 1, i0, x1, x2, m =>
  if 7 ≤ x2 then
    some (x1, m, 0)
  else
    od (gR m 520 i0) fun j2 =>
    if vq (x2) 7 then
    od (gO m 43 j2 (x2).toNatClampNeg) fun j5 =>
    if (gI m 0 j5) = 1 then
      l8_X4_openBreakers_4 n (i0) (x1 + 1) (x2 + 1) m
    else
      l8_X4_openBreakers_4 n (i0) (x1) (x2 + 1) m
    else none
theorem w8_X4_openBreakers_4 {r : Int32} {m9 : CM} : ∀ (n : Nat) {i0 : Nat} {x1 : Int32} {x2 : Int32} {m : CM} {n9 : Nat}, l8_X4_openBreakers_4 n i0 x1 x2 m = some (r, m9, n9) → WP mX4_openBreakers (0) n9 4 [some (vR 4 (i0)), some (vI (x1)), some (vI (x2))] [] (cM m out rho) (Pc out rho (some (vI r)) m9) NX := by
  intro n
  induction n with
  | zero =>
    intro i0 x1 x2  m n9 h
    rw [l8_X4_openBreakers_4] at h
    cases h
  | succ n ih =>
    intro i0 x1 x2  m n9 h
    rw [l8_X4_openBreakers_4] at h
    refine wp_iload_n dX4_openBreakers_4 rfl ?_
    refine wp_bipush (v := 7) dX4_openBreakers_5 (by decide) ?_
    refine wp_icmp_ge (tgt := 32) dX4_openBreakers_7 (by decide) (fun c1 => ?_) (fun c1 => ?_)
    · replace h := itp c1 h
      refine wp_iload_n dX4_openBreakers_32 rfl ?_
      obtain ⟨q1, q2, q3⟩ := cs_e h
      subst q1
      subst q2
      exact wp_ireturn rfl dX4_openBreakers_33 ⟨rfl, rfl⟩
    · replace h := itn c1 h
      refine wp_aload_n dX4_openBreakers_10 rfl ?_
      obtain ⟨j2, ho3, h⟩ := od_e h
      refine cp_getS (y := 8) (f := 520) (t := 43) (by decide) (by decide) rfl rfl fl_X4_17 dX4_openBreakers_11 ho3 ?_
      refine wp_iload_n dX4_openBreakers_14 rfl ?_
      obtain ⟨c4, h⟩ := ock h
      obtain ⟨j5, ho6, h⟩ := od_e h
      refine cp_aald (c := 43) (t := 0) rfl (by decide) rfl (show vp_in (x2) (len 43) from c4) dX4_openBreakers_15 ho6 ?_
      refine cp_getI (y := 0) (f := 0) (by decide) (by decide) rfl rfl fl_X4_54 dX4_openBreakers_16 ?_
      refine wp_iconst (v := 1) dX4_openBreakers_19 (by decide) ?_
      refine wp_icmp_ne (tgt := 26) dX4_openBreakers_20 (by decide) (fun c7 => ?_) (fun c7 => ?_)
      · replace h := itn c7 h
        refine wp_iinc (v := x2 + 1) (L' := [some (vR 4 (i0)), some (vI (x1)), some (vI (x2 + 1))]) dX4_openBreakers_26 rfl rfl rfl ?_
        refine wp_goto (tgt := 4) dX4_openBreakers_29 (by decide) ?_
        exact ih h
      · replace h := itp c7 h
        refine wp_iinc (v := x1 + 1) (L' := [some (vR 4 (i0)), some (vI (x1 + 1)), some (vI (x2))]) dX4_openBreakers_23 rfl rfl rfl ?_
        refine wp_iinc (v := x2 + 1) (L' := [some (vR 4 (i0)), some (vI (x1 + 1)), some (vI (x2 + 1))]) dX4_openBreakers_26 rfl rfl rfl ?_
        refine wp_goto (tgt := 4) dX4_openBreakers_29 (by decide) ?_
        exact ih h
def f8_X4_openBreakers (i0 : Nat) (m : CM) : CR (Int32) :=
  l8_X4_openBreakers_4 FU (i0) (0) (0) m
theorem w8_X4_openBreakers {r : Int32} {m9 : CM} {i0 : Nat} {m : CM} {n9 : Nat} (h : f8_X4_openBreakers i0 m = some (r, m9, n9)) : Spec mX4_openBreakers (0) n9 [vR 4 (i0)] (cM m out rho) (Pc out rho (some (vI r)) m9) NX := by
  unfold f8_X4_openBreakers at h
  refine spec_of (by decide) rfl (by simp [catS, cat1]) (Nat.le_of_ble_eq_true rfl) ?_
  show WP mX4_openBreakers (0) n9 0 [some (vR 4 (i0)), none, none] [] (cM m out rho) (Pc out rho (some (vI r)) m9) NX
  refine wp_iconst (v := 0) dX4_openBreakers_0 (by decide) ?_
  refine wp_istore_n (L' := [some (vR 4 (i0)), some (vI (0)), none]) dX4_openBreakers_1 rfl rfl ?_
  refine wp_iconst (v := 0) dX4_openBreakers_2 (by decide) ?_
  refine wp_istore_n (L' := [some (vR 4 (i0)), some (vI (0)), some (vI (0))]) dX4_openBreakers_3 rfl rfl ?_
  exact w8_X4_openBreakers_4 FU h
def f8_X8_isShunned (i0 : Nat) (x1 : Int32) (m : CM) : CR (Int32 ⊕ Nat) :=
  od (gR m 1031 i0) fun j1 =>
  cb (f8_X8_isWithin (x1) (0) (((nI (gL m 50 j1).length) - 1)) m) fun r3 m4 =>
  if r3 = 0 then some (.inr 0, m4, 1) else
  od (gR m4 1031 i0) fun j10 =>
  if ¬ x1 < 0 then
  od ((gL m4 50 j10)[(x1).toNatClampNeg]?) fun j13 =>
  cb (f8_X4_openBreakers j13 m4) fun r15 m16 =>
  if r15 < (gI m16 1025 i0) then
    some (.inl (0), m16, 0)
  else
    some (.inl (1), m16, 0)
  else none
theorem w8_X8_isShunned {r : Int32 ⊕ Nat} {m9 : CM} {i0 : Nat} {x1 : Int32} {m : CM} {n9 : Nat} (h : f8_X8_isShunned i0 x1 m = some (r, m9, n9)) : Spec mX8_isShunned (9) n9 [vR 8 (i0), vI (x1)] (cM m out rho) (PcE out rho r false m9) (XcE out rho r m9) := by
  unfold f8_X8_isShunned at h
  refine spec_of (by decide) rfl (by simp [catS, cat1]) (Nat.le_of_ble_eq_true rfl) ?_
  show WP mX8_isShunned (9) n9 0 [some (vR 8 (i0)), some (vI (x1))] [] (cM m out rho) (PcE out rho r false m9) (XcE out rho r m9)
  refine wp_iload_n dX8_isShunned_0 rfl ?_
  refine wp_iconst (v := 0) dX8_isShunned_1 (by decide) ?_
  refine wp_aload_n dX8_isShunned_2 rfl ?_
  obtain ⟨j1, ho2, h⟩ := od_e h
  refine cp_getS (y := 7) (f := 1031) (t := 50) (by decide) (by decide) rfl rfl fl_X8_39 dX8_isShunned_3 ho2 ?_
  refine cp_size (c := 50) rfl (by decide) ml_X8_82 dX8_isShunned_6 (Nat.le_of_ble_eq_true rfl) ?_
  refine wp_iconst (v := 1) dX8_isShunned_9 (by decide) ?_
  refine wp_isub dX8_isShunned_10 ?_
  obtain ⟨r3, m4, n5, n6, hp7, h, en8⟩ := cb_e h
  refine wp_callS (k1 := n5) (k2 := n6) (As := [vI (x1), vI (0), vI (((nI (gL m 50 j1).length) - 1))]) (rest := []) (w8_X8_isWithin hp7) okX8_isWithin sm_X8_isWithin rfl ml_X8_54 dX8_isShunned_11 rfl (by decide) (Nat.le_of_eq en8) rfl (Nat.le_of_ble_eq_true rfl) (fun _ _ z => z.elim) (fun r' S' z => ?_)
  obtain ⟨rfl, rfl⟩ := z
  show WP _ _ _ _ [some (vR 8 (i0)), some (vI (x1))] [vI (r3)] _ _ _
  by_cases c9 : r3 = 0
  · replace h := itp c9 h
    obtain ⟨q1, q2, q3⟩ := cs_e h
    subst q1
    subst q2
    subst q3
    exact wp_callS (k1 := 1) (k2 := 0) (As := [vI (r3)]) (rest := []) (w8_mustExist0 c9) okX8_mustExist sm_X8_mustExist rfl ml_X8_58 dX8_isShunned_14 rfl (by decide) (Nat.le_refl _) rfl (Nat.le_of_ble_eq_true rfl) (fun E S' z => ⟨⟨0, rfl, by decide, z.1⟩, z.2⟩) (fun r' S' z => z.elim)
  replace h := itn c9 h
  refine wp_callS (k1 := 0) (k2 := _) (As := [vI (r3)]) (rest := []) (w8_mustExist1 c9) okX8_mustExist sm_X8_mustExist rfl ml_X8_58 dX8_isShunned_14 rfl (by decide) (Nat.le_of_eq (Nat.zero_add _)) rfl (Nat.le_of_ble_eq_true rfl) (fun _ _ z => z.elim) (fun r' S' z => ?_)
  obtain ⟨rfl, rfl⟩ := z
  show WP _ _ _ _ [some (vR 8 (i0)), some (vI (x1))] [] _ _ _
  refine wp_aload_n dX8_isShunned_17 rfl ?_
  obtain ⟨j10, ho11, h⟩ := od_e h
  refine cp_getS (y := 7) (f := 1031) (t := 50) (by decide) (by decide) rfl rfl fl_X8_39 dX8_isShunned_18 ho11 ?_
  refine wp_iload_n dX8_isShunned_21 rfl ?_
  obtain ⟨c12, h⟩ := ock h
  obtain ⟨j13, ho14, h⟩ := od_e h
  refine cp_get (c := 50) (t := 4) rfl rfl (by decide) c12 ho14 ml_X8_98 dX8_isShunned_22 (Nat.le_of_ble_eq_true rfl) ?_
  refine cp_cast (c := 4) (by decide) kl_X8_86 dX8_isShunned_25 ?_
  obtain ⟨r15, m16, n17, n18, hp19, h, en20⟩ := cb_e h
  refine wp_callV (k1 := n17) (k2 := n18) (As := []) (rest := []) (w8_X4_openBreakers hp19) okX4_openBreakers ivX4_openBreakers rfl (by decide) ml_X8_240 dX8_isShunned_28 rfl (by decide) (Nat.le_of_eq en20) rfl (Nat.le_of_ble_eq_true rfl) (fun _ _ z => z.elim) (fun r' S' z => ?_)
  obtain ⟨rfl, rfl⟩ := z
  show WP _ _ _ _ [some (vR 8 (i0)), some (vI (x1))] [vI (r15)] _ _ _
  refine wp_aload_n dX8_isShunned_31 rfl ?_
  refine cp_getI (y := 1) (f := 1025) (by decide) (by decide) rfl rfl fl_X8_9 dX8_isShunned_32 ?_
  refine wp_icmp_lt (tgt := 42) dX8_isShunned_35 (by decide) (fun c21 => ?_) (fun c21 => ?_)
  · replace h := itp c21 h
    refine wp_iconst (v := 0) dX8_isShunned_42 (by decide) ?_
    obtain ⟨q1, q2, q3⟩ := cs_e h
    subst q1
    subst q2
    exact wp_zreturn rfl (by decide) dX8_isShunned_43 ⟨⟨_, rfl, rfl⟩, rfl⟩
  · replace h := itn c21 h
    refine wp_iconst (v := 1) dX8_isShunned_38 (by decide) ?_
    refine wp_goto (tgt := 43) dX8_isShunned_39 (by decide) ?_
    obtain ⟨q1, q2, q3⟩ := cs_e h
    subst q1
    subst q2
    exact wp_zreturn rfl (by decide) dX8_isShunned_43 ⟨⟨_, rfl, rfl⟩, rfl⟩
def f8_X8_first (i0 : Nat) (x1 : Int32) (m : CM) : CR (Int32 ⊕ Nat) :=
  cb (f8_X8_isWithin (x1) (0) (6) m) fun r1 m2 =>
  if r1 = 0 then some (.inr 0, m2, 1) else
  od (gR m2 1030 i0) fun j8 =>
  if vq (x1) 7 then
  od (gO m2 42 j8 (x1).toNatClampNeg) fun j11 =>
  some (.inl ((gI m2 258 j11)), m2, 0)
  else none
theorem w8_X8_first {r : Int32 ⊕ Nat} {m9 : CM} {i0 : Nat} {x1 : Int32} {m : CM} {n9 : Nat} (h : f8_X8_first i0 x1 m = some (r, m9, n9)) : Spec mX8_first (9) n9 [vR 8 (i0), vI (x1)] (cM m out rho) (PcE out rho r false m9) (XcE out rho r m9) := by
  unfold f8_X8_first at h
  refine spec_of (by decide) rfl (by simp [catS, cat1]) (Nat.le_of_ble_eq_true rfl) ?_
  show WP mX8_first (9) n9 0 [some (vR 8 (i0)), some (vI (x1))] [] (cM m out rho) (PcE out rho r false m9) (XcE out rho r m9)
  refine wp_iload_n dX8_first_0 rfl ?_
  refine wp_iconst (v := 0) dX8_first_1 (by decide) ?_
  refine wp_bipush (v := 6) dX8_first_2 (by decide) ?_
  obtain ⟨r1, m2, n3, n4, hp5, h, en6⟩ := cb_e h
  refine wp_callS (k1 := n3) (k2 := n4) (As := [vI (x1), vI (0), vI (6)]) (rest := []) (w8_X8_isWithin hp5) okX8_isWithin sm_X8_isWithin rfl ml_X8_54 dX8_first_4 rfl (by decide) (Nat.le_of_eq en6) rfl (Nat.le_of_ble_eq_true rfl) (fun _ _ z => z.elim) (fun r' S' z => ?_)
  obtain ⟨rfl, rfl⟩ := z
  show WP _ _ _ _ [some (vR 8 (i0)), some (vI (x1))] [vI (r1)] _ _ _
  by_cases c7 : r1 = 0
  · replace h := itp c7 h
    obtain ⟨q1, q2, q3⟩ := cs_e h
    subst q1
    subst q2
    subst q3
    exact wp_callS (k1 := 1) (k2 := 0) (As := [vI (r1)]) (rest := []) (w8_mustExist0 c7) okX8_mustExist sm_X8_mustExist rfl ml_X8_58 dX8_first_7 rfl (by decide) (Nat.le_refl _) rfl (Nat.le_of_ble_eq_true rfl) (fun E S' z => ⟨⟨0, rfl, by decide, z.1⟩, z.2⟩) (fun r' S' z => z.elim)
  replace h := itn c7 h
  refine wp_callS (k1 := 0) (k2 := _) (As := [vI (r1)]) (rest := []) (w8_mustExist1 c7) okX8_mustExist sm_X8_mustExist rfl ml_X8_58 dX8_first_7 rfl (by decide) (Nat.le_of_eq (Nat.zero_add _)) rfl (Nat.le_of_ble_eq_true rfl) (fun _ _ z => z.elim) (fun r' S' z => ?_)
  obtain ⟨rfl, rfl⟩ := z
  show WP _ _ _ _ [some (vR 8 (i0)), some (vI (x1))] [] _ _ _
  refine wp_aload_n dX8_first_10 rfl ?_
  obtain ⟨j8, ho9, h⟩ := od_e h
  refine cp_getS (y := 6) (f := 1030) (t := 42) (by decide) (by decide) rfl rfl fl_X8_32 dX8_first_11 ho9 ?_
  refine wp_iload_n dX8_first_14 rfl ?_
  obtain ⟨c10, h⟩ := ock h
  obtain ⟨j11, ho12, h⟩ := od_e h
  refine cp_aald (c := 42) (t := 2) rfl (by decide) rfl (show vp_in (x1) (len 42) from c10) dX8_first_15 ho12 ?_
  refine cp_getI (y := 2) (f := 258) (by decide) (by decide) rfl rfl fl_X8_253 dX8_first_16 ?_
  obtain ⟨q1, q2, q3⟩ := cs_e h
  subst q1
  subst q2
  exact wp_ireturn rfl dX8_first_19 ⟨⟨_, rfl, rfl⟩, rfl⟩
def f8_X8_extra (i0 : Nat) (x1 : Int32) (m : CM) : CR (Int32 ⊕ Nat) :=
  cb (f8_X8_isWithin (x1) (0) (6) m) fun r1 m2 =>
  if r1 = 0 then some (.inr 0, m2, 1) else
  od (gR m2 1030 i0) fun j8 =>
  if vq (x1) 7 then
  od (gO m2 42 j8 (x1).toNatClampNeg) fun j11 =>
  some (.inl ((gI m2 259 j11)), m2, 0)
  else none
theorem w8_X8_extra {r : Int32 ⊕ Nat} {m9 : CM} {i0 : Nat} {x1 : Int32} {m : CM} {n9 : Nat} (h : f8_X8_extra i0 x1 m = some (r, m9, n9)) : Spec mX8_extra (9) n9 [vR 8 (i0), vI (x1)] (cM m out rho) (PcE out rho r false m9) (XcE out rho r m9) := by
  unfold f8_X8_extra at h
  refine spec_of (by decide) rfl (by simp [catS, cat1]) (Nat.le_of_ble_eq_true rfl) ?_
  show WP mX8_extra (9) n9 0 [some (vR 8 (i0)), some (vI (x1))] [] (cM m out rho) (PcE out rho r false m9) (XcE out rho r m9)
  refine wp_iload_n dX8_extra_0 rfl ?_
  refine wp_iconst (v := 0) dX8_extra_1 (by decide) ?_
  refine wp_bipush (v := 6) dX8_extra_2 (by decide) ?_
  obtain ⟨r1, m2, n3, n4, hp5, h, en6⟩ := cb_e h
  refine wp_callS (k1 := n3) (k2 := n4) (As := [vI (x1), vI (0), vI (6)]) (rest := []) (w8_X8_isWithin hp5) okX8_isWithin sm_X8_isWithin rfl ml_X8_54 dX8_extra_4 rfl (by decide) (Nat.le_of_eq en6) rfl (Nat.le_of_ble_eq_true rfl) (fun _ _ z => z.elim) (fun r' S' z => ?_)
  obtain ⟨rfl, rfl⟩ := z
  show WP _ _ _ _ [some (vR 8 (i0)), some (vI (x1))] [vI (r1)] _ _ _
  by_cases c7 : r1 = 0
  · replace h := itp c7 h
    obtain ⟨q1, q2, q3⟩ := cs_e h
    subst q1
    subst q2
    subst q3
    exact wp_callS (k1 := 1) (k2 := 0) (As := [vI (r1)]) (rest := []) (w8_mustExist0 c7) okX8_mustExist sm_X8_mustExist rfl ml_X8_58 dX8_extra_7 rfl (by decide) (Nat.le_refl _) rfl (Nat.le_of_ble_eq_true rfl) (fun E S' z => ⟨⟨0, rfl, by decide, z.1⟩, z.2⟩) (fun r' S' z => z.elim)
  replace h := itn c7 h
  refine wp_callS (k1 := 0) (k2 := _) (As := [vI (r1)]) (rest := []) (w8_mustExist1 c7) okX8_mustExist sm_X8_mustExist rfl ml_X8_58 dX8_extra_7 rfl (by decide) (Nat.le_of_eq (Nat.zero_add _)) rfl (Nat.le_of_ble_eq_true rfl) (fun _ _ z => z.elim) (fun r' S' z => ?_)
  obtain ⟨rfl, rfl⟩ := z
  show WP _ _ _ _ [some (vR 8 (i0)), some (vI (x1))] [] _ _ _
  refine wp_aload_n dX8_extra_10 rfl ?_
  obtain ⟨j8, ho9, h⟩ := od_e h
  refine cp_getS (y := 6) (f := 1030) (t := 42) (by decide) (by decide) rfl rfl fl_X8_32 dX8_extra_11 ho9 ?_
  refine wp_iload_n dX8_extra_14 rfl ?_
  obtain ⟨c10, h⟩ := ock h
  obtain ⟨j11, ho12, h⟩ := od_e h
  refine cp_aald (c := 42) (t := 2) rfl (by decide) rfl (show vp_in (x1) (len 42) from c10) dX8_extra_15 ho12 ?_
  refine cp_getI (y := 3) (f := 259) (by decide) (by decide) rfl rfl fl_X8_250 dX8_extra_16 ?_
  obtain ⟨q1, q2, q3⟩ := cs_e h
  subst q1
  subst q2
  exact wp_ireturn rfl dX8_extra_19 ⟨⟨_, rfl, rfl⟩, rfl⟩
def f8_X8_budget (i0 : Nat) (x1 : Int32) (m : CM) : CR (Int32 ⊕ Nat) :=
  cb (f8_X8_isWithin (x1) (0) (6) m) fun r1 m2 =>
  if r1 = 0 then some (.inr 0, m2, 1) else
  od (gR m2 1030 i0) fun j8 =>
  if vq (x1) 7 then
  od (gO m2 42 j8 (x1).toNatClampNeg) fun j11 =>
  some (.inl ((gI m2 256 j11)), m2, 0)
  else none
theorem w8_X8_budget {r : Int32 ⊕ Nat} {m9 : CM} {i0 : Nat} {x1 : Int32} {m : CM} {n9 : Nat} (h : f8_X8_budget i0 x1 m = some (r, m9, n9)) : Spec mX8_budget (9) n9 [vR 8 (i0), vI (x1)] (cM m out rho) (PcE out rho r false m9) (XcE out rho r m9) := by
  unfold f8_X8_budget at h
  refine spec_of (by decide) rfl (by simp [catS, cat1]) (Nat.le_of_ble_eq_true rfl) ?_
  show WP mX8_budget (9) n9 0 [some (vR 8 (i0)), some (vI (x1))] [] (cM m out rho) (PcE out rho r false m9) (XcE out rho r m9)
  refine wp_iload_n dX8_budget_0 rfl ?_
  refine wp_iconst (v := 0) dX8_budget_1 (by decide) ?_
  refine wp_bipush (v := 6) dX8_budget_2 (by decide) ?_
  obtain ⟨r1, m2, n3, n4, hp5, h, en6⟩ := cb_e h
  refine wp_callS (k1 := n3) (k2 := n4) (As := [vI (x1), vI (0), vI (6)]) (rest := []) (w8_X8_isWithin hp5) okX8_isWithin sm_X8_isWithin rfl ml_X8_54 dX8_budget_4 rfl (by decide) (Nat.le_of_eq en6) rfl (Nat.le_of_ble_eq_true rfl) (fun _ _ z => z.elim) (fun r' S' z => ?_)
  obtain ⟨rfl, rfl⟩ := z
  show WP _ _ _ _ [some (vR 8 (i0)), some (vI (x1))] [vI (r1)] _ _ _
  by_cases c7 : r1 = 0
  · replace h := itp c7 h
    obtain ⟨q1, q2, q3⟩ := cs_e h
    subst q1
    subst q2
    subst q3
    exact wp_callS (k1 := 1) (k2 := 0) (As := [vI (r1)]) (rest := []) (w8_mustExist0 c7) okX8_mustExist sm_X8_mustExist rfl ml_X8_58 dX8_budget_7 rfl (by decide) (Nat.le_refl _) rfl (Nat.le_of_ble_eq_true rfl) (fun E S' z => ⟨⟨0, rfl, by decide, z.1⟩, z.2⟩) (fun r' S' z => z.elim)
  replace h := itn c7 h
  refine wp_callS (k1 := 0) (k2 := _) (As := [vI (r1)]) (rest := []) (w8_mustExist1 c7) okX8_mustExist sm_X8_mustExist rfl ml_X8_58 dX8_budget_7 rfl (by decide) (Nat.le_of_eq (Nat.zero_add _)) rfl (Nat.le_of_ble_eq_true rfl) (fun _ _ z => z.elim) (fun r' S' z => ?_)
  obtain ⟨rfl, rfl⟩ := z
  show WP _ _ _ _ [some (vR 8 (i0)), some (vI (x1))] [] _ _ _
  refine wp_aload_n dX8_budget_10 rfl ?_
  obtain ⟨j8, ho9, h⟩ := od_e h
  refine cp_getS (y := 6) (f := 1030) (t := 42) (by decide) (by decide) rfl rfl fl_X8_32 dX8_budget_11 ho9 ?_
  refine wp_iload_n dX8_budget_14 rfl ?_
  obtain ⟨c10, h⟩ := ock h
  obtain ⟨j11, ho12, h⟩ := od_e h
  refine cp_aald (c := 42) (t := 2) rfl (by decide) rfl (show vp_in (x1) (len 42) from c10) dX8_budget_15 ho12 ?_
  refine cp_getI (y := 0) (f := 256) (by decide) (by decide) rfl rfl fl_X8_230 dX8_budget_16 ?_
  obtain ⟨q1, q2, q3⟩ := cs_e h
  subst q1
  subst q2
  exact wp_ireturn rfl dX8_budget_19 ⟨⟨_, rfl, rfl⟩, rfl⟩
def f8_X6_plan (i0 : Nat) (x1 : Int32) (x2 : Int32) (x3 : Int32) (m : CM) : CR (Int32) :=
  if 4 ≤ (gI m 769 i0) then
    some (0, m, 0)
  else
    od (gR m 770 i0) fun j2 =>
    if vq ((gI m 769 i0)) 4 then
    wr (sA m 32 j2 ((gI m 769 i0)).toNatClampNeg (x1)) fun m5 =>
    od (gR m5 772 i0) fun j7 =>
    if vq ((gI m5 769 i0)) 4 then
    if (x2 = 0 ∨ x2 = 1) then
    wr (sA m5 34 j7 ((gI m5 769 i0)).toNatClampNeg (x2)) fun m11 =>
    od (gR m11 771 i0) fun j13 =>
    if vq ((gI m11 769 i0)) 4 then
    wr (sA m11 33 j13 ((gI m11 769 i0)).toNatClampNeg (x3)) fun m16 =>
    wr (sI m16 769 i0 (((gI m16 769 i0) + 1))) fun m18 =>
    some (0, m18, 0)
    else none
    else none
    else none
    else none
theorem w8_X6_plan {r : Int32} {m9 : CM} {i0 : Nat} {x1 : Int32} {x2 : Int32} {x3 : Int32} {m : CM} {n9 : Nat} (h : f8_X6_plan i0 x1 x2 x3 m = some (r, m9, n9)) : Spec mX6_plan (0) n9 [vR 6 (i0), vI (x1), vI (x2), vI (x3)] (cM m out rho) (Pc out rho none m9) NX := by
  unfold f8_X6_plan at h
  refine spec_of (by decide) rfl (by simp [catS, cat1]) (Nat.le_of_ble_eq_true rfl) ?_
  show WP mX6_plan (0) n9 0 [some (vR 6 (i0)), some (vI (x1)), some (vI (x2)), some (vI (x3))] [] (cM m out rho) (Pc out rho none m9) NX
  refine wp_aload_n dX6_plan_0 rfl ?_
  refine cp_getI (y := 1) (f := 769) (by decide) (by decide) rfl rfl fl_X6_33 dX6_plan_1 ?_
  refine wp_iconst (v := 4) dX6_plan_4 (by decide) ?_
  refine wp_icmp_ge (tgt := 48) dX6_plan_5 (by decide) (fun c1 => ?_) (fun c1 => ?_)
  · replace h := itp c1 h
    obtain ⟨q1, q2, q3⟩ := cs_e h
    clear q1
    subst q2
    exact wp_return rfl dX6_plan_48 ⟨rfl, rfl⟩
  · replace h := itn c1 h
    refine wp_aload_n dX6_plan_8 rfl ?_
    obtain ⟨j2, ho3, h⟩ := od_e h
    refine cp_getS (y := 2) (f := 770) (t := 32) (by decide) (by decide) rfl rfl fl_X6_15 dX6_plan_9 ho3 ?_
    refine wp_aload_n dX6_plan_12 rfl ?_
    refine cp_getI (y := 1) (f := 769) (by decide) (by decide) rfl rfl fl_X6_33 dX6_plan_13 ?_
    refine wp_iload_n dX6_plan_16 rfl ?_
    obtain ⟨c4, h⟩ := ock h
    obtain ⟨m5, e6, h⟩ := wr_e h
    refine cp_iast (c := 32) e6 rfl (by decide) (show vp_in ((gI m 769 i0)) (len 32) from c4) dX6_plan_17 ?_
    refine wp_aload_n dX6_plan_18 rfl ?_
    obtain ⟨j7, ho8, h⟩ := od_e h
    refine cp_getS (y := 4) (f := 772) (t := 34) (by decide) (by decide) rfl rfl fl_X6_22 dX6_plan_19 ho8 ?_
    refine wp_aload_n dX6_plan_22 rfl ?_
    refine cp_getI (y := 1) (f := 769) (by decide) (by decide) rfl rfl fl_X6_33 dX6_plan_23 ?_
    refine wp_iload_n dX6_plan_26 rfl ?_
    obtain ⟨c9, h⟩ := ock h
    obtain ⟨c10, h⟩ := ock h
    obtain ⟨m11, e12, h⟩ := wr_e h
    refine cp_bast (c := 34) e12 rfl (by decide) (show vp_in ((gI m5 769 i0)) (len 34) from c9) c10 dX6_plan_27 ?_
    refine wp_aload_n dX6_plan_28 rfl ?_
    obtain ⟨j13, ho14, h⟩ := od_e h
    refine cp_getS (y := 3) (f := 771) (t := 33) (by decide) (by decide) rfl rfl fl_X6_19 dX6_plan_29 ho14 ?_
    refine wp_aload_n dX6_plan_32 rfl ?_
    refine cp_getI (y := 1) (f := 769) (by decide) (by decide) rfl rfl fl_X6_33 dX6_plan_33 ?_
    refine wp_iload_n dX6_plan_36 rfl ?_
    obtain ⟨c15, h⟩ := ock h
    obtain ⟨m16, e17, h⟩ := wr_e h
    refine cp_iast (c := 33) e17 rfl (by decide) (show vp_in ((gI m11 769 i0)) (len 33) from c15) dX6_plan_37 ?_
    refine wp_aload_n dX6_plan_38 rfl ?_
    refine wp_dup dX6_plan_39 trivial ?_
    refine cp_getI (y := 1) (f := 769) (by decide) (by decide) rfl rfl fl_X6_33 dX6_plan_40 ?_
    refine wp_iconst (v := 1) dX6_plan_43 (by decide) ?_
    refine wp_iadd dX6_plan_44 ?_
    obtain ⟨m18, e19, h⟩ := wr_e h
    refine cp_putI (y := 1) (f := 769) e19 (by decide) (by decide) rfl rfl (Or.inl rfl) fl_X6_33 dX6_plan_45 rfl ?_
    obtain ⟨q1, q2, q3⟩ := cs_e h
    clear q1
    subst q2
    exact wp_return rfl dX6_plan_48 ⟨rfl, rfl⟩
def b8_X8_step_93 (i0 : Nat) (x2 : Int32) (x3 : Int32) (x4 : Int32) (i5 : Nat) (s0 : Int32) (m : CM) : CR (Int32 ⊕ Nat) :=
  if s0 = 0 then some (.inr 2, m, 1) else
  cb (f8_X6_plan i5 (x2) (x3) (x4) m) fun _ m3 =>
  some (.inl ((gI m3 769 i5)), m3, 0)
theorem w8_X8_step_93 {r : Int32 ⊕ Nat} {m9 : CM} {i0 : Nat} {x2 : Int32} {x3 : Int32} {x4 : Int32} {i5 : Nat} {s0 : Int32} {l1 : Option sV} {m : CM} {n9 : Nat} (h : b8_X8_step_93 i0 x2 x3 x4 i5 s0 m = some (r, m9, n9)) : WP mX8_step (9) n9 93 [some (vR 8 (i0)), l1, some (vI (x2)), some (vI (x3)), some (vI (x4)), some (vR 6 (i5))] [vI (s0)] (cM m out rho) (PcE out rho r false m9) (XcE out rho r m9) := by
  unfold b8_X8_step_93 at h
  by_cases c1 : s0 = 0
  · replace h := itp c1 h
    obtain ⟨q1, q2, q3⟩ := cs_e h
    subst q1
    subst q2
    subst q3
    exact wp_callS (k1 := 1) (k2 := 0) (As := [vI (s0)]) (rest := []) (w8_mustBeAllowed0 c1) okX8_mustBeAllowed sm_X8_mustBeAllowed rfl ml_X8_75 dX8_step_93 rfl (by decide) (Nat.le_refl _) rfl (Nat.le_of_ble_eq_true rfl) (fun E S' z => ⟨⟨2, rfl, by decide, z.1⟩, z.2⟩) (fun r' S' z => z.elim)
  replace h := itn c1 h
  refine wp_callS (k1 := 0) (k2 := _) (As := [vI (s0)]) (rest := []) (w8_mustBeAllowed1 c1) okX8_mustBeAllowed sm_X8_mustBeAllowed rfl ml_X8_75 dX8_step_93 rfl (by decide) (Nat.le_of_eq (Nat.zero_add _)) rfl (Nat.le_of_ble_eq_true rfl) (fun _ _ z => z.elim) (fun r' S' z => ?_)
  obtain ⟨rfl, rfl⟩ := z
  show WP _ _ _ _ [some (vR 8 (i0)), l1, some (vI (x2)), some (vI (x3)), some (vI (x4)), some (vR 6 (i5))] [] _ _ _
  refine wp_aload dX8_step_96 rfl ?_
  refine wp_iload_n dX8_step_98 rfl ?_
  refine wp_iload_n dX8_step_99 rfl ?_
  refine wp_iload dX8_step_100 rfl ?_
  obtain ⟨r2, m3, n4, n5, hp6, h, en7⟩ := cb_e h
  refine wp_callV (k1 := n4) (k2 := n5) (As := [vI (x2), vI (x3), vI (x4)]) (rest := []) (w8_X6_plan hp6) okX6_plan ivX6_plan rfl (by decide) ml_X8_78 dX8_step_102 rfl (by decide) (Nat.le_of_eq en7) rfl (Nat.le_of_ble_eq_true rfl) (fun _ _ z => z.elim) (fun r' S' z => ?_)
  obtain ⟨rfl, rfl⟩ := z
  show WP _ _ _ _ [some (vR 8 (i0)), l1, some (vI (x2)), some (vI (x3)), some (vI (x4)), some (vR 6 (i5))] [] _ _ _
  refine wp_aload dX8_step_105 rfl ?_
  refine cp_getI (y := 1) (f := 769) (by decide) (by decide) rfl rfl fl_X8_68 dX8_step_107 ?_
  obtain ⟨q1, q2, q3⟩ := cs_e h
  subst q1
  subst q2
  exact wp_ireturn rfl dX8_step_110 ⟨⟨_, rfl, rfl⟩, rfl⟩
def b8_X8_step_58 (i0 : Nat) (x1 : Int32) (x2 : Int32) (x3 : Int32) (x4 : Int32) (s0 : Int32) (m : CM) : CR (Int32 ⊕ Nat) :=
  if s0 = 0 then some (.inr 1, m, 1) else
  od (gR m 1029 i0) fun j2 =>
  if vq (x1) 6 then
  od (gO m 41 j2 (x1).toNatClampNeg) fun j5 =>
  if 4 ≤ (gI m 769 j5) then
    b8_X8_step_93 (i0) (x2) (x3) (x4) (j5) (0) m
  else
    od (gR m 1032 i0) fun j8 =>
    if (if nI (gL m 51 j8).length = 0 then (1 : Int32) else 0) = 0 then
      b8_X8_step_93 (i0) (x2) (x3) (x4) (j5) (0) m
    else
      b8_X8_step_93 (i0) (x2) (x3) (x4) (j5) (1) m
  else none
theorem w8_X8_step_58 {r : Int32 ⊕ Nat} {m9 : CM} {i0 : Nat} {x1 : Int32} {x2 : Int32} {x3 : Int32} {x4 : Int32} {s0 : Int32} {l5 : Option sV} {m : CM} {n9 : Nat} (h : b8_X8_step_58 i0 x1 x2 x3 x4 s0 m = some (r, m9, n9)) : WP mX8_step (9) n9 58 [some (vR 8 (i0)), some (vI (x1)), some (vI (x2)), some (vI (x3)), some (vI (x4)), l5] [vI (s0)] (cM m out rho) (PcE out rho r false m9) (XcE out rho r m9) := by
  unfold b8_X8_step_58 at h
  by_cases c1 : s0 = 0
  · replace h := itp c1 h
    obtain ⟨q1, q2, q3⟩ := cs_e h
    subst q1
    subst q2
    subst q3
    exact wp_callS (k1 := 1) (k2 := 0) (As := [vI (s0)]) (rest := []) (w8_mustFit0 c1) okX8_mustFit sm_X8_mustFit rfl ml_X8_62 dX8_step_58 rfl (by decide) (Nat.le_refl _) rfl (Nat.le_of_ble_eq_true rfl) (fun E S' z => ⟨⟨1, rfl, by decide, z.1⟩, z.2⟩) (fun r' S' z => z.elim)
  replace h := itn c1 h
  refine wp_callS (k1 := 0) (k2 := _) (As := [vI (s0)]) (rest := []) (w8_mustFit1 c1) okX8_mustFit sm_X8_mustFit rfl ml_X8_62 dX8_step_58 rfl (by decide) (Nat.le_of_eq (Nat.zero_add _)) rfl (Nat.le_of_ble_eq_true rfl) (fun _ _ z => z.elim) (fun r' S' z => ?_)
  obtain ⟨rfl, rfl⟩ := z
  show WP _ _ _ _ [some (vR 8 (i0)), some (vI (x1)), some (vI (x2)), some (vI (x3)), some (vI (x4)), l5] [] _ _ _
  refine wp_aload_n dX8_step_61 rfl ?_
  obtain ⟨j2, ho3, h⟩ := od_e h
  refine cp_getS (y := 5) (f := 1029) (t := 41) (by decide) (by decide) rfl rfl fl_X8_26 dX8_step_62 ho3 ?_
  refine wp_iload_n dX8_step_65 rfl ?_
  obtain ⟨c4, h⟩ := ock h
  obtain ⟨j5, ho6, h⟩ := od_e h
  refine cp_aald (c := 41) (t := 6) rfl (by decide) rfl (show vp_in (x1) (len 41) from c4) dX8_step_66 ho6 ?_
  refine wp_astore (L' := [some (vR 8 (i0)), some (vI (x1)), some (vI (x2)), some (vI (x3)), some (vI (x4)), some (vR 6 (j5))]) dX8_step_67 rfl rfl ?_
  refine wp_aload dX8_step_69 rfl ?_
  refine cp_getI (y := 1) (f := 769) (by decide) (by decide) rfl rfl fl_X8_68 dX8_step_71 ?_
  refine wp_iconst (v := 4) dX8_step_74 (by decide) ?_
  refine wp_icmp_ge (tgt := 92) dX8_step_75 (by decide) (fun c7 => ?_) (fun c7 => ?_)
  · replace h := itp c7 h
    refine wp_iconst (v := 0) dX8_step_92 (by decide) ?_
    exact w8_X8_step_93 h
  · replace h := itn c7 h
    refine wp_aload_n dX8_step_78 rfl ?_
    obtain ⟨j8, ho9, h⟩ := od_e h
    refine cp_getS (y := 8) (f := 1032) (t := 51) (by decide) (by decide) rfl rfl fl_X8_43 dX8_step_79 ho9 ?_
    refine cp_isEmpty (c := 51) rfl (by decide) ml_X8_71 dX8_step_82 (Nat.le_of_ble_eq_true rfl) ?_
    refine wp_if_eq (tgt := 92) dX8_step_85 (by decide) (fun c10 => ?_) (fun c10 => ?_)
    · replace h := itp c10 h
      refine wp_iconst (v := 0) dX8_step_92 (by decide) ?_
      exact w8_X8_step_93 h
    · replace h := itn c10 h
      refine wp_iconst (v := 1) dX8_step_88 (by decide) ?_
      refine wp_goto (tgt := 93) dX8_step_89 (by decide) ?_
      exact w8_X8_step_93 h
def b8_X8_step_33 (i0 : Nat) (x1 : Int32) (x2 : Int32) (x3 : Int32) (x4 : Int32) (s0 : Int32) (m : CM) : CR (Int32 ⊕ Nat) :=
  if s0 = 0 then some (.inr 0, m, 1) else
  if x2 ≤ x1 then
    b8_X8_step_58 (i0) (x1) (x2) (x3) (x4) (0) m
  else
    if x4 = (-1) then
      b8_X8_step_58 (i0) (x1) (x2) (x3) (x4) (1) m
    else
      if x4 ≤ x1 then
        b8_X8_step_58 (i0) (x1) (x2) (x3) (x4) (0) m
      else
        b8_X8_step_58 (i0) (x1) (x2) (x3) (x4) (1) m
theorem w8_X8_step_33 {r : Int32 ⊕ Nat} {m9 : CM} {i0 : Nat} {x1 : Int32} {x2 : Int32} {x3 : Int32} {x4 : Int32} {s0 : Int32} {l5 : Option sV} {m : CM} {n9 : Nat} (h : b8_X8_step_33 i0 x1 x2 x3 x4 s0 m = some (r, m9, n9)) : WP mX8_step (9) n9 33 [some (vR 8 (i0)), some (vI (x1)), some (vI (x2)), some (vI (x3)), some (vI (x4)), l5] [vI (s0)] (cM m out rho) (PcE out rho r false m9) (XcE out rho r m9) := by
  unfold b8_X8_step_33 at h
  by_cases c1 : s0 = 0
  · replace h := itp c1 h
    obtain ⟨q1, q2, q3⟩ := cs_e h
    subst q1
    subst q2
    subst q3
    exact wp_callS (k1 := 1) (k2 := 0) (As := [vI (s0)]) (rest := []) (w8_mustExist0 c1) okX8_mustExist sm_X8_mustExist rfl ml_X8_58 dX8_step_33 rfl (by decide) (Nat.le_refl _) rfl (Nat.le_of_ble_eq_true rfl) (fun E S' z => ⟨⟨0, rfl, by decide, z.1⟩, z.2⟩) (fun r' S' z => z.elim)
  replace h := itn c1 h
  refine wp_callS (k1 := 0) (k2 := _) (As := [vI (s0)]) (rest := []) (w8_mustExist1 c1) okX8_mustExist sm_X8_mustExist rfl ml_X8_58 dX8_step_33 rfl (by decide) (Nat.le_of_eq (Nat.zero_add _)) rfl (Nat.le_of_ble_eq_true rfl) (fun _ _ z => z.elim) (fun r' S' z => ?_)
  obtain ⟨rfl, rfl⟩ := z
  show WP _ _ _ _ [some (vR 8 (i0)), some (vI (x1)), some (vI (x2)), some (vI (x3)), some (vI (x4)), l5] [] _ _ _
  refine wp_iload_n dX8_step_36 rfl ?_
  refine wp_iload_n dX8_step_37 rfl ?_
  refine wp_icmp_le (tgt := 57) dX8_step_38 (by decide) (fun c2 => ?_) (fun c2 => ?_)
  · replace h := itp c2 h
    refine wp_iconst (v := 0) dX8_step_57 (by decide) ?_
    exact w8_X8_step_58 h
  · replace h := itn c2 h
    refine wp_iload dX8_step_41 rfl ?_
    refine wp_iconst (v := (-1)) dX8_step_43 (by decide) ?_
    refine wp_icmp_eq (tgt := 53) dX8_step_44 (by decide) (fun c3 => ?_) (fun c3 => ?_)
    · replace h := itp c3 h
      refine wp_iconst (v := 1) dX8_step_53 (by decide) ?_
      refine wp_goto (tgt := 58) dX8_step_54 (by decide) ?_
      exact w8_X8_step_58 h
    · replace h := itn c3 h
      refine wp_iload dX8_step_47 rfl ?_
      refine wp_iload_n dX8_step_49 rfl ?_
      refine wp_icmp_le (tgt := 57) dX8_step_50 (by decide) (fun c4 => ?_) (fun c4 => ?_)
      · replace h := itp c4 h
        refine wp_iconst (v := 0) dX8_step_57 (by decide) ?_
        exact w8_X8_step_58 h
      · replace h := itn c4 h
        refine wp_iconst (v := 1) dX8_step_53 (by decide) ?_
        refine wp_goto (tgt := 58) dX8_step_54 (by decide) ?_
        exact w8_X8_step_58 h
def f8_X8_step (i0 : Nat) (x1 : Int32) (x2 : Int32) (x3 : Int32) (x4 : Int32) (m : CM) : CR (Int32 ⊕ Nat) :=
  cb (f8_X8_isWithin (x1) (0) (5) m) fun r1 m2 =>
  if r1 = 0 then
    b8_X8_step_33 (i0) (x1) (x2) (x3) (x4) (0) m2
  else
    cb (f8_X8_isWithin (x2) (0) (5) m2) fun r8 m9 =>
    if r8 = 0 then
      b8_X8_step_33 (i0) (x1) (x2) (x3) (x4) (0) m9
    else
      cb (f8_X8_isWithin (x4) ((-1)) (5) m9) fun r15 m16 =>
      if r15 = 0 then
        b8_X8_step_33 (i0) (x1) (x2) (x3) (x4) (0) m16
      else
        b8_X8_step_33 (i0) (x1) (x2) (x3) (x4) (1) m16
theorem w8_X8_step {r : Int32 ⊕ Nat} {m9 : CM} {i0 : Nat} {x1 : Int32} {x2 : Int32} {x3 : Int32} {x4 : Int32} {m : CM} {n9 : Nat} (h : f8_X8_step i0 x1 x2 x3 x4 m = some (r, m9, n9)) : Spec mX8_step (9) n9 [vR 8 (i0), vI (x1), vI (x2), vI (x3), vI (x4)] (cM m out rho) (PcE out rho r false m9) (XcE out rho r m9) := by
  unfold f8_X8_step at h
  refine spec_of (by decide) rfl (by simp [catS, cat1]) (Nat.le_of_ble_eq_true rfl) ?_
  show WP mX8_step (9) n9 0 [some (vR 8 (i0)), some (vI (x1)), some (vI (x2)), some (vI (x3)), some (vI (x4)), none] [] (cM m out rho) (PcE out rho r false m9) (XcE out rho r m9)
  refine wp_iload_n dX8_step_0 rfl ?_
  refine wp_iconst (v := 0) dX8_step_1 (by decide) ?_
  refine wp_iconst (v := 5) dX8_step_2 (by decide) ?_
  obtain ⟨r1, m2, n3, n4, hp5, h, en6⟩ := cb_e h
  refine wp_callS (k1 := n3) (k2 := n4) (As := [vI (x1), vI (0), vI (5)]) (rest := []) (w8_X8_isWithin hp5) okX8_isWithin sm_X8_isWithin rfl ml_X8_54 dX8_step_3 rfl (by decide) (Nat.le_of_eq en6) rfl (Nat.le_of_ble_eq_true rfl) (fun _ _ z => z.elim) (fun r' S' z => ?_)
  obtain ⟨rfl, rfl⟩ := z
  show WP _ _ _ _ [some (vR 8 (i0)), some (vI (x1)), some (vI (x2)), some (vI (x3)), some (vI (x4)), none] [vI (r1)] _ _ _
  refine wp_if_eq (tgt := 32) dX8_step_6 (by decide) (fun c7 => ?_) (fun c7 => ?_)
  · replace h := itp c7 h
    refine wp_iconst (v := 0) dX8_step_32 (by decide) ?_
    exact w8_X8_step_33 h
  · replace h := itn c7 h
    refine wp_iload_n dX8_step_9 rfl ?_
    refine wp_iconst (v := 0) dX8_step_10 (by decide) ?_
    refine wp_iconst (v := 5) dX8_step_11 (by decide) ?_
    obtain ⟨r8, m9, n10, n11, hp12, h, en13⟩ := cb_e h
    refine wp_callS (k1 := n10) (k2 := n11) (As := [vI (x2), vI (0), vI (5)]) (rest := []) (w8_X8_isWithin hp12) okX8_isWithin sm_X8_isWithin rfl ml_X8_54 dX8_step_12 rfl (by decide) (Nat.le_of_eq en13) rfl (Nat.le_of_ble_eq_true rfl) (fun _ _ z => z.elim) (fun r' S' z => ?_)
    obtain ⟨rfl, rfl⟩ := z
    show WP _ _ _ _ [some (vR 8 (i0)), some (vI (x1)), some (vI (x2)), some (vI (x3)), some (vI (x4)), none] [vI (r8)] _ _ _
    refine wp_if_eq (tgt := 32) dX8_step_15 (by decide) (fun c14 => ?_) (fun c14 => ?_)
    · replace h := itp c14 h
      refine wp_iconst (v := 0) dX8_step_32 (by decide) ?_
      exact w8_X8_step_33 h
    · replace h := itn c14 h
      refine wp_iload dX8_step_18 rfl ?_
      refine wp_iconst (v := (-1)) dX8_step_20 (by decide) ?_
      refine wp_iconst (v := 5) dX8_step_21 (by decide) ?_
      obtain ⟨r15, m16, n17, n18, hp19, h, en20⟩ := cb_e h
      refine wp_callS (k1 := n17) (k2 := n18) (As := [vI (x4), vI ((-1)), vI (5)]) (rest := []) (w8_X8_isWithin hp19) okX8_isWithin sm_X8_isWithin rfl ml_X8_54 dX8_step_22 rfl (by decide) (Nat.le_of_eq en20) rfl (Nat.le_of_ble_eq_true rfl) (fun _ _ z => z.elim) (fun r' S' z => ?_)
      obtain ⟨rfl, rfl⟩ := z
      show WP _ _ _ _ [some (vR 8 (i0)), some (vI (x1)), some (vI (x2)), some (vI (x3)), some (vI (x4)), none] [vI (r15)] _ _ _
      refine wp_if_eq (tgt := 32) dX8_step_25 (by decide) (fun c21 => ?_) (fun c21 => ?_)
      · replace h := itp c21 h
        refine wp_iconst (v := 0) dX8_step_32 (by decide) ?_
        exact w8_X8_step_33 h
      · replace h := itn c21 h
        refine wp_iconst (v := 1) dX8_step_28 (by decide) ?_
        refine wp_goto (tgt := 33) dX8_step_29 (by decide) ?_
        exact w8_X8_step_33 h
def f8_X0_init (i0 : Nat) (m : CM) : CR (Int32) :=
  wr (sI m 0 i0 (0)) fun m1 =>
  some (0, m1, 0)
theorem w8_X0_init {r : Int32} {m9 : CM} {i0 : Nat} {m : CM} {n9 : Nat} (h : f8_X0_init i0 m = some (r, m9, n9)) : Spec mX0_init (1) n9 [vR 0 (i0)] (cM m out rho) (Pc out rho none m9) NX := by
  unfold f8_X0_init at h
  refine spec_of (by decide) rfl (by simp [catS, cat1]) (Nat.le_of_ble_eq_true rfl) ?_
  show WP mX0_init (1) n9 0 [some (vR 0 (i0))] [] (cM m out rho) (Pc out rho none m9) NX
  refine wp_aload_n dX0_init_0 rfl ?_
  refine wp_objinit (by decide) ml_X0_3 dX0_init_1 (Nat.le_of_ble_eq_true rfl) ?_
  refine wp_aload_n dX0_init_4 rfl ?_
  refine wp_iconst (v := 0) dX0_init_5 (by decide) ?_
  obtain ⟨m1, e2, h⟩ := wr_e h
  refine cp_putI (y := 0) (f := 0) e2 (by decide) (by decide) rfl rfl (Or.inl rfl) fl_X0_9 dX0_init_6 rfl ?_
  obtain ⟨q1, q2, q3⟩ := cs_e h
  clear q1
  subst q2
  exact wp_return rfl dX0_init_9 ⟨rfl, rfl⟩
def l8_X4_init_81 : Nat → Nat → Int32 → CM → CR (Int32)
  | 0, _, _, _ => none
  | n + 1, i0, x8, m =>
  if 7 ≤ x8 then
    some (0, m, 0)
  else
    od (gR m 520 i0) fun j2 =>
    if gV m 0 (7 * i0 + (x8).toNatClampNeg) = false then
    cg 1 (
    wr (sN m 0 (7 * i0 + (x8).toNatClampNeg)) fun m7 =>
    cb (f8_X0_init (7 * i0 + (x8).toNatClampNeg) m7) fun _ m10 =>
    if vq (x8) 7 then
    wr (sO m10 43 j2 (x8).toNatClampNeg (some (7 * i0 + (x8).toNatClampNeg))) fun m16 =>
    l8_X4_init_81 n (i0) (x8 + 1) m16
    else none)
    else none
theorem w8_X4_init_81 {r : Int32} {m9 : CM} : ∀ (n : Nat) {i0 : Nat} {x8 : Int32} {l1 : Option sV} {l2 : Option sV} {l3 : Option sV} {l4 : Option sV} {l5 : Option sV} {l6 : Option sV} {l7 : Option sV} {m : CM} {n9 : Nat}, l8_X4_init_81 n i0 x8 m = some (r, m9, n9) → WP mX4_init (8) n9 81 [some (vR 4 (i0)), l1, l2, l3, l4, l5, l6, l7, some (vI (x8))] [] (cM m out rho) (Pc out rho none m9) NX := by
  intro n
  induction n with
  | zero =>
    intro i0 x8 l1 l2 l3 l4 l5 l6 l7 m n9 h
    rw [l8_X4_init_81] at h
    cases h
  | succ n ih =>
    intro i0 x8 l1 l2 l3 l4 l5 l6 l7 m n9 h
    rw [l8_X4_init_81] at h
    refine wp_iload dX4_init_81 rfl ?_
    refine wp_bipush (v := 7) dX4_init_83 (by decide) ?_
    refine wp_icmp_ge (tgt := 108) dX4_init_85 (by decide) (fun c1 => ?_) (fun c1 => ?_)
    · replace h := itp c1 h
      obtain ⟨q1, q2, q3⟩ := cs_e h
      clear q1
      subst q2
      exact wp_return rfl dX4_init_108 ⟨rfl, rfl⟩
    · replace h := itn c1 h
      refine wp_aload_n dX4_init_88 rfl ?_
      obtain ⟨j2, ho3, h⟩ := od_e h
      refine cp_getS (y := 8) (f := 520) (t := 43) (by decide) (by decide) rfl rfl fl_X4_17 dX4_init_89 ho3 ?_
      refine wp_iload dX4_init_92 rfl ?_
      obtain ⟨c4, h⟩ := ock h
      obtain ⟨n5, h, en6⟩ := cg_e h
      rw [← en6]
      obtain ⟨m7, e8, h⟩ := wr_e h
      refine cp_new (c := 0) (i := (7 * i0 + (x8).toNatClampNeg)) e8 (by decide) c4 kl_X4_15 it_X0 in_X0 dX4_init_94 ?_
      refine wp_dup dX4_init_97 trivial ?_
      obtain ⟨r9, m10, n11, n12, hp13, h, en14⟩ := cb_e h
      refine wp_callIN (k1 := n11) (k2 := n12) (As := []) (rest := [vR 0 ((7 * i0 + (x8).toNatClampNeg)), vI (x8), vR 43 (j2)]) (w8_X0_init hp13) okX0_init rfl rfl im_X0_init (fun s hk => hk.2.2.2.2.2.2.2.2.1) dX4_init_98 (by decide) (Nat.le_of_eq en14) rfl (Nat.le_of_ble_eq_true rfl) (fun r' S' z => ?_)
      obtain ⟨rfl, rfl⟩ := z
      show WP _ _ _ _ [some (vR 4 (i0)), l1, l2, l3, l4, l5, l6, l7, some (vI (x8))] [vR 0 ((7 * i0 + (x8).toNatClampNeg)), vI (x8), vR 43 (j2)] _ _ _
      obtain ⟨c15, h⟩ := ock h
      obtain ⟨m16, e17, h⟩ := wr_e h
      refine cp_aast (c := 43) (t := 0) e17 rfl (by decide) rfl (show vp_in (x8) (len 43) from c15) dX4_init_101 ?_
      refine wp_iinc (v := x8 + 1) (L' := [some (vR 4 (i0)), l1, l2, l3, l4, l5, l6, l7, some (vI (x8 + 1))]) dX4_init_102 rfl rfl rfl ?_
      refine wp_goto (tgt := 81) dX4_init_105 (by decide) ?_
      exact ih h
def f8_X4_init (i0 : Nat) (x1 : Int32) (x2 : Int32) (x3 : Int32) (x4 : Int32) (x5 : Int32) (x6 : Int32) (x7 : Int32) (m : CM) : CR (Int32) :=
  if gV m 30 i0 = false then
  cg 1 (
  wr (sNA m 30 i0) fun m4 =>
  wr (sR m4 519 i0 (some (i0))) fun m6 =>
  if gV m6 43 i0 = false then
  cg 1 (
  wr (sNO m6 43 i0) fun m11 =>
  wr (sR m11 520 i0 (some (i0))) fun m13 =>
  if gV m13 31 i0 = false then
  cg 1 (
  wr (sNA m13 31 i0) fun m18 =>
  wr (sR m18 521 i0 (some (i0))) fun m20 =>
  if gV m20 54 i0 = false then
  cg 1 (
  wr (sNL m20 54 i0) fun m25 =>
  wr (sR m25 522 i0 (some (i0))) fun m27 =>
  wr (sI m27 512 i0 (x1)) fun m29 =>
  wr (sI m29 513 i0 (x2)) fun m31 =>
  wr (sI m31 514 i0 (x3)) fun m33 =>
  wr (sI m33 515 i0 (x4)) fun m35 =>
  wr (sI m35 516 i0 (x5)) fun m37 =>
  wr (sI m37 517 i0 (x6)) fun m39 =>
  wr (sI m39 518 i0 (x7)) fun m41 =>
  l8_X4_init_81 FU (i0) (0) m41)
  else none)
  else none)
  else none)
  else none
theorem w8_X4_init {r : Int32} {m9 : CM} {i0 : Nat} {x1 : Int32} {x2 : Int32} {x3 : Int32} {x4 : Int32} {x5 : Int32} {x6 : Int32} {x7 : Int32} {m : CM} {n9 : Nat} (h : f8_X4_init i0 x1 x2 x3 x4 x5 x6 x7 m = some (r, m9, n9)) : Spec mX4_init (8) n9 [vR 4 (i0), vI (x1), vI (x2), vI (x3), vI (x4), vI (x5), vI (x6), vI (x7)] (cM m out rho) (Pc out rho none m9) NX := by
  unfold f8_X4_init at h
  refine spec_of (by decide) rfl (by simp [catS, cat1]) (Nat.le_of_ble_eq_true rfl) ?_
  show WP mX4_init (8) n9 0 [some (vR 4 (i0)), some (vI (x1)), some (vI (x2)), some (vI (x3)), some (vI (x4)), some (vI (x5)), some (vI (x6)), some (vI (x7)), none] [] (cM m out rho) (Pc out rho none m9) NX
  refine wp_aload_n dX4_init_0 rfl ?_
  refine wp_objinit (by decide) ml_X4_3 dX4_init_1 (Nat.le_of_ble_eq_true rfl) ?_
  refine wp_aload_n dX4_init_4 rfl ?_
  refine wp_iconst (v := 4) dX4_init_5 (by decide) ?_
  obtain ⟨c1, h⟩ := ock h
  obtain ⟨n2, h, en3⟩ := cg_e h
  rw [← en3]
  obtain ⟨m4, e5, h⟩ := wr_e h
  refine cp_newa (c := 30) (i := i0) (a := .int) e5 (by decide) (by decide) c1 (by decide) (by decide) (by decide) ac_int rfl dX4_init_6 (by decide) ?_
  obtain ⟨m6, e7, h⟩ := wr_e h
  refine cp_putR (y := 7) (f := 519) (t := 30) (o := (some (i0))) e7 (by decide) (by decide) rfl rfl (Or.inr ⟨rfl, rfl⟩) fl_X4_9 dX4_init_8 (fun _ => rfl) rfl (fun _ => rfl) (by decide) ?_
  refine wp_aload_n dX4_init_11 rfl ?_
  refine wp_bipush (v := 7) dX4_init_12 (by decide) ?_
  obtain ⟨c8, h⟩ := ock h
  obtain ⟨n9, h, en10⟩ := cg_e h
  rw [← en10]
  obtain ⟨m11, e12, h⟩ := wr_e h
  refine cp_anew (c := 43) (i := i0) e12 rfl (by decide) c8 (by decide) (by decide) kl_X4_15 (fun s hk => hk.2.2.1) dX4_init_14 ?_
  obtain ⟨m13, e14, h⟩ := wr_e h
  refine cp_putR (y := 8) (f := 520) (t := 43) (o := (some (i0))) e14 (by decide) (by decide) rfl rfl (Or.inr ⟨rfl, rfl⟩) fl_X4_17 dX4_init_17 (fun _ => rfl) rfl (fun _ => rfl) (by decide) ?_
  refine wp_aload_n dX4_init_20 rfl ?_
  refine wp_bipush (v := 7) dX4_init_21 (by decide) ?_
  obtain ⟨c15, h⟩ := ock h
  obtain ⟨n16, h, en17⟩ := cg_e h
  rw [← en17]
  obtain ⟨m18, e19, h⟩ := wr_e h
  refine cp_newa (c := 31) (i := i0) (a := .int) e19 (by decide) (by decide) c15 (by decide) (by decide) (by decide) ac_int rfl dX4_init_23 (by decide) ?_
  obtain ⟨m20, e21, h⟩ := wr_e h
  refine cp_putR (y := 9) (f := 521) (t := 31) (o := (some (i0))) e21 (by decide) (by decide) rfl rfl (Or.inr ⟨rfl, rfl⟩) fl_X4_21 dX4_init_25 (fun _ => rfl) rfl (fun _ => rfl) (by decide) ?_
  refine wp_aload_n dX4_init_28 rfl ?_
  obtain ⟨c22, h⟩ := ock h
  obtain ⟨n23, h, en24⟩ := cg_e h
  rw [← en24]
  obtain ⟨m25, e26, h⟩ := wr_e h
  refine cp_newlist (c := 54) e26 rfl c22 (by decide) kl_X4_24 ml_X4_26 dX4_init_29 dX4_init_32 dX4_init_33 (Nat.le_of_ble_eq_true rfl) ?_
  obtain ⟨m27, e28, h⟩ := wr_e h
  refine cp_putR (y := 10) (f := 522) (t := 54) (o := (some (i0))) e28 (by decide) (by decide) rfl rfl (Or.inr ⟨rfl, rfl⟩) fl_X4_27 dX4_init_36 (fun _ => rfl) rfl (fun _ => rfl) (by decide) ?_
  refine wp_aload_n dX4_init_39 rfl ?_
  refine wp_iload_n dX4_init_40 rfl ?_
  obtain ⟨m29, e30, h⟩ := wr_e h
  refine cp_putI (y := 0) (f := 512) e30 (by decide) (by decide) rfl rfl (Or.inr ⟨rfl, rfl⟩) fl_X4_31 dX4_init_41 rfl ?_
  refine wp_aload_n dX4_init_44 rfl ?_
  refine wp_iload_n dX4_init_45 rfl ?_
  obtain ⟨m31, e32, h⟩ := wr_e h
  refine cp_putI (y := 1) (f := 513) e32 (by decide) (by decide) rfl rfl (Or.inr ⟨rfl, rfl⟩) fl_X4_35 dX4_init_46 rfl ?_
  refine wp_aload_n dX4_init_49 rfl ?_
  refine wp_iload_n dX4_init_50 rfl ?_
  obtain ⟨m33, e34, h⟩ := wr_e h
  refine cp_putI (y := 2) (f := 514) e34 (by decide) (by decide) rfl rfl (Or.inr ⟨rfl, rfl⟩) fl_X4_38 dX4_init_51 rfl ?_
  refine wp_aload_n dX4_init_54 rfl ?_
  refine wp_iload dX4_init_55 rfl ?_
  obtain ⟨m35, e36, h⟩ := wr_e h
  refine cp_putI (y := 3) (f := 515) e36 (by decide) (by decide) rfl rfl (Or.inr ⟨rfl, rfl⟩) fl_X4_41 dX4_init_57 rfl ?_
  refine wp_aload_n dX4_init_60 rfl ?_
  refine wp_iload dX4_init_61 rfl ?_
  obtain ⟨m37, e38, h⟩ := wr_e h
  refine cp_putI (y := 4) (f := 516) e38 (by decide) (by decide) rfl rfl (Or.inr ⟨rfl, rfl⟩) fl_X4_44 dX4_init_63 rfl ?_
  refine wp_aload_n dX4_init_66 rfl ?_
  refine wp_iload dX4_init_67 rfl ?_
  obtain ⟨m39, e40, h⟩ := wr_e h
  refine cp_putI (y := 5) (f := 517) e40 (by decide) (by decide) rfl rfl (Or.inr ⟨rfl, rfl⟩) fl_X4_47 dX4_init_69 rfl ?_
  refine wp_aload_n dX4_init_72 rfl ?_
  refine wp_iload dX4_init_73 rfl ?_
  obtain ⟨m41, e42, h⟩ := wr_e h
  refine cp_putI (y := 6) (f := 518) e42 (by decide) (by decide) rfl rfl (Or.inr ⟨rfl, rfl⟩) fl_X4_50 dX4_init_75 rfl ?_
  refine wp_iconst (v := 0) dX4_init_78 (by decide) ?_
  refine wp_istore (L' := [some (vR 4 (i0)), some (vI (x1)), some (vI (x2)), some (vI (x3)), some (vI (x4)), some (vI (x5)), some (vI (x6)), some (vI (x7)), some (vI (0))]) dX4_init_79 rfl rfl ?_
  exact w8_X4_init_81 FU h
def b8_X8_instance_93 (i0 : Nat) (x1 : Int32) (x2 : Int32) (x3 : Int32) (x4 : Int32) (x5 : Int32) (x6 : Int32) (s0 : Int32) (m : CM) : CR (Int32 ⊕ Nat) :=
  if s0 = 0 then some (.inr 2, m, 1) else
  if gV m 4 ((gL m 50 0).length) = false then
  cg 1 (
  wr (sN m 4 ((gL m 50 0).length)) fun m5 =>
  od (gR m5 1031 i0) fun j7 =>
  cb (f8_X4_init ((gL m 50 0).length) ((nI (gL m5 50 j7).length)) (x1) (x2) (x3) (x4) (x5) (x6) m5) fun _ m10 =>
  od (gR m10 1031 i0) fun j15 =>
  if (gL m10 50 j15).length ≤ 450 then
  cg 1 (
  wr (sL m10 50 j15 (gL m10 50 j15 ++ [((gL m 50 0).length)])) fun m20 =>
  some (.inl ((gI m20 512 ((gL m 50 0).length))), m20, 0))
  else none)
  else none
theorem w8_X8_instance_93 {r : Int32 ⊕ Nat} {m9 : CM} {i0 : Nat} {x1 : Int32} {x2 : Int32} {x3 : Int32} {x4 : Int32} {x5 : Int32} {x6 : Int32} {s0 : Int32} {l7 : Option sV} {m : CM} {n9 : Nat} (h : b8_X8_instance_93 i0 x1 x2 x3 x4 x5 x6 s0 m = some (r, m9, n9)) : WP mX8_instance (9) n9 93 [some (vR 8 (i0)), some (vI (x1)), some (vI (x2)), some (vI (x3)), some (vI (x4)), some (vI (x5)), some (vI (x6)), l7] [vI (s0)] (cM m out rho) (PcE out rho r false m9) (XcE out rho r m9) := by
  unfold b8_X8_instance_93 at h
  by_cases c1 : s0 = 0
  · replace h := itp c1 h
    obtain ⟨q1, q2, q3⟩ := cs_e h
    subst q1
    subst q2
    subst q3
    exact wp_callS (k1 := 1) (k2 := 0) (As := [vI (s0)]) (rest := []) (w8_mustBeAllowed0 c1) okX8_mustBeAllowed sm_X8_mustBeAllowed rfl ml_X8_75 dX8_instance_93 rfl (by decide) (Nat.le_refl _) rfl (Nat.le_of_ble_eq_true rfl) (fun E S' z => ⟨⟨2, rfl, by decide, z.1⟩, z.2⟩) (fun r' S' z => z.elim)
  replace h := itn c1 h
  refine wp_callS (k1 := 0) (k2 := _) (As := [vI (s0)]) (rest := []) (w8_mustBeAllowed1 c1) okX8_mustBeAllowed sm_X8_mustBeAllowed rfl ml_X8_75 dX8_instance_93 rfl (by decide) (Nat.le_of_eq (Nat.zero_add _)) rfl (Nat.le_of_ble_eq_true rfl) (fun _ _ z => z.elim) (fun r' S' z => ?_)
  obtain ⟨rfl, rfl⟩ := z
  show WP _ _ _ _ [some (vR 8 (i0)), some (vI (x1)), some (vI (x2)), some (vI (x3)), some (vI (x4)), some (vI (x5)), some (vI (x6)), l7] [] _ _ _
  obtain ⟨c2, h⟩ := ock h
  obtain ⟨n3, h, en4⟩ := cg_e h
  rw [← en4]
  obtain ⟨m5, e6, h⟩ := wr_e h
  refine cp_new (c := 4) (i := (gL m 50 0).length) e6 (by decide) c2 kl_X8_86 it_X4 in_X4 dX8_instance_96 ?_
  refine wp_dup dX8_instance_99 trivial ?_
  refine wp_aload_n dX8_instance_100 rfl ?_
  obtain ⟨j7, ho8, h⟩ := od_e h
  refine cp_getS (y := 7) (f := 1031) (t := 50) (by decide) (by decide) rfl rfl fl_X8_39 dX8_instance_101 ho8 ?_
  refine cp_size (c := 50) rfl (by decide) ml_X8_82 dX8_instance_104 (Nat.le_of_ble_eq_true rfl) ?_
  refine wp_iload_n dX8_instance_107 rfl ?_
  refine wp_iload_n dX8_instance_108 rfl ?_
  refine wp_iload_n dX8_instance_109 rfl ?_
  refine wp_iload dX8_instance_110 rfl ?_
  refine wp_iload dX8_instance_112 rfl ?_
  refine wp_iload dX8_instance_114 rfl ?_
  obtain ⟨r9, m10, n11, n12, hp13, h, en14⟩ := cb_e h
  refine wp_callI (k1 := n11) (k2 := n12) (As := [vI ((nI (gL m5 50 j7).length)), vI (x1), vI (x2), vI (x3), vI (x4), vI (x5), vI (x6)]) (rest := [vR 4 (((gL m 50 0).length))]) (w8_X4_init hp13) okX4_init rfl rfl im_X4_init ml_X8_88 dX8_instance_116 (by decide) (Nat.le_of_eq en14) rfl (Nat.le_of_ble_eq_true rfl) (fun r' S' z => ?_)
  obtain ⟨rfl, rfl⟩ := z
  show WP _ _ _ _ [some (vR 8 (i0)), some (vI (x1)), some (vI (x2)), some (vI (x3)), some (vI (x4)), some (vI (x5)), some (vI (x6)), l7] [vR 4 (((gL m 50 0).length))] _ _ _
  refine wp_astore (L' := [some (vR 8 (i0)), some (vI (x1)), some (vI (x2)), some (vI (x3)), some (vI (x4)), some (vI (x5)), some (vI (x6)), some (vR 4 (((gL m 50 0).length)))]) dX8_instance_119 rfl rfl ?_
  refine wp_aload_n dX8_instance_121 rfl ?_
  obtain ⟨j15, ho16, h⟩ := od_e h
  refine cp_getS (y := 7) (f := 1031) (t := 50) (by decide) (by decide) rfl rfl fl_X8_39 dX8_instance_122 ho16 ?_
  refine wp_aload dX8_instance_125 rfl ?_
  obtain ⟨c17, h⟩ := ock h
  obtain ⟨n18, h, en19⟩ := cg_e h
  rw [← en19]
  obtain ⟨m20, e21, h⟩ := wr_e h
  refine cp_add (c := 50) (t := 4) e21 rfl rfl (by decide) c17 ml_X8_91 dX8_instance_127 (Nat.le_of_ble_eq_true rfl) ?_
  refine wp_pop dX8_instance_130 trivial ?_
  refine wp_aload dX8_instance_131 rfl ?_
  refine cp_getI (y := 0) (f := 512) (by decide) (by decide) rfl rfl fl_X8_95 dX8_instance_133 ?_
  obtain ⟨q1, q2, q3⟩ := cs_e h
  subst q1
  subst q2
  exact wp_ireturn rfl dX8_instance_136 ⟨⟨_, rfl, rfl⟩, rfl⟩
def b8_X8_instance_73 (i0 : Nat) (x1 : Int32) (x2 : Int32) (x3 : Int32) (x4 : Int32) (x5 : Int32) (x6 : Int32) (s0 : Int32) (m : CM) : CR (Int32 ⊕ Nat) :=
  if s0 = 0 then some (.inr 1, m, 1) else
  od (gR m 1031 i0) fun j2 =>
  if 12 ≤ (nI (gL m 50 j2).length) then
    b8_X8_instance_93 (i0) (x1) (x2) (x3) (x4) (x5) (x6) (0) m
  else
    b8_X8_instance_93 (i0) (x1) (x2) (x3) (x4) (x5) (x6) (1) m
theorem w8_X8_instance_73 {r : Int32 ⊕ Nat} {m9 : CM} {i0 : Nat} {x1 : Int32} {x2 : Int32} {x3 : Int32} {x4 : Int32} {x5 : Int32} {x6 : Int32} {s0 : Int32} {l7 : Option sV} {m : CM} {n9 : Nat} (h : b8_X8_instance_73 i0 x1 x2 x3 x4 x5 x6 s0 m = some (r, m9, n9)) : WP mX8_instance (9) n9 73 [some (vR 8 (i0)), some (vI (x1)), some (vI (x2)), some (vI (x3)), some (vI (x4)), some (vI (x5)), some (vI (x6)), l7] [vI (s0)] (cM m out rho) (PcE out rho r false m9) (XcE out rho r m9) := by
  unfold b8_X8_instance_73 at h
  by_cases c1 : s0 = 0
  · replace h := itp c1 h
    obtain ⟨q1, q2, q3⟩ := cs_e h
    subst q1
    subst q2
    subst q3
    exact wp_callS (k1 := 1) (k2 := 0) (As := [vI (s0)]) (rest := []) (w8_mustFit0 c1) okX8_mustFit sm_X8_mustFit rfl ml_X8_62 dX8_instance_73 rfl (by decide) (Nat.le_refl _) rfl (Nat.le_of_ble_eq_true rfl) (fun E S' z => ⟨⟨1, rfl, by decide, z.1⟩, z.2⟩) (fun r' S' z => z.elim)
  replace h := itn c1 h
  refine wp_callS (k1 := 0) (k2 := _) (As := [vI (s0)]) (rest := []) (w8_mustFit1 c1) okX8_mustFit sm_X8_mustFit rfl ml_X8_62 dX8_instance_73 rfl (by decide) (Nat.le_of_eq (Nat.zero_add _)) rfl (Nat.le_of_ble_eq_true rfl) (fun _ _ z => z.elim) (fun r' S' z => ?_)
  obtain ⟨rfl, rfl⟩ := z
  show WP _ _ _ _ [some (vR 8 (i0)), some (vI (x1)), some (vI (x2)), some (vI (x3)), some (vI (x4)), some (vI (x5)), some (vI (x6)), l7] [] _ _ _
  refine wp_aload_n dX8_instance_76 rfl ?_
  obtain ⟨j2, ho3, h⟩ := od_e h
  refine cp_getS (y := 7) (f := 1031) (t := 50) (by decide) (by decide) rfl rfl fl_X8_39 dX8_instance_77 ho3 ?_
  refine cp_size (c := 50) rfl (by decide) ml_X8_82 dX8_instance_80 (Nat.le_of_ble_eq_true rfl) ?_
  refine wp_bipush (v := 12) dX8_instance_83 (by decide) ?_
  refine wp_icmp_ge (tgt := 92) dX8_instance_85 (by decide) (fun c4 => ?_) (fun c4 => ?_)
  · replace h := itp c4 h
    refine wp_iconst (v := 0) dX8_instance_92 (by decide) ?_
    exact w8_X8_instance_93 h
  · replace h := itn c4 h
    refine wp_iconst (v := 1) dX8_instance_88 (by decide) ?_
    refine wp_goto (tgt := 93) dX8_instance_89 (by decide) ?_
    exact w8_X8_instance_93 h
def b8_X8_instance_44 (i0 : Nat) (x1 : Int32) (x2 : Int32) (x3 : Int32) (x4 : Int32) (x5 : Int32) (x6 : Int32) (s0 : Int32) (m : CM) : CR (Int32 ⊕ Nat) :=
  if s0 = 0 then some (.inr 1, m, 1) else
  cb (f8_X8_isWithin (x5) (0) (9) m) fun r2 m3 =>
  if r2 = 0 then
    b8_X8_instance_73 (i0) (x1) (x2) (x3) (x4) (x5) (x6) (0) m3
  else
    cb (f8_X8_isWithin (x6) (0) (1) m3) fun r9 m10 =>
    if r9 = 0 then
      b8_X8_instance_73 (i0) (x1) (x2) (x3) (x4) (x5) (x6) (0) m10
    else
      b8_X8_instance_73 (i0) (x1) (x2) (x3) (x4) (x5) (x6) (1) m10
theorem w8_X8_instance_44 {r : Int32 ⊕ Nat} {m9 : CM} {i0 : Nat} {x1 : Int32} {x2 : Int32} {x3 : Int32} {x4 : Int32} {x5 : Int32} {x6 : Int32} {s0 : Int32} {l7 : Option sV} {m : CM} {n9 : Nat} (h : b8_X8_instance_44 i0 x1 x2 x3 x4 x5 x6 s0 m = some (r, m9, n9)) : WP mX8_instance (9) n9 44 [some (vR 8 (i0)), some (vI (x1)), some (vI (x2)), some (vI (x3)), some (vI (x4)), some (vI (x5)), some (vI (x6)), l7] [vI (s0)] (cM m out rho) (PcE out rho r false m9) (XcE out rho r m9) := by
  unfold b8_X8_instance_44 at h
  by_cases c1 : s0 = 0
  · replace h := itp c1 h
    obtain ⟨q1, q2, q3⟩ := cs_e h
    subst q1
    subst q2
    subst q3
    exact wp_callS (k1 := 1) (k2 := 0) (As := [vI (s0)]) (rest := []) (w8_mustFit0 c1) okX8_mustFit sm_X8_mustFit rfl ml_X8_62 dX8_instance_44 rfl (by decide) (Nat.le_refl _) rfl (Nat.le_of_ble_eq_true rfl) (fun E S' z => ⟨⟨1, rfl, by decide, z.1⟩, z.2⟩) (fun r' S' z => z.elim)
  replace h := itn c1 h
  refine wp_callS (k1 := 0) (k2 := _) (As := [vI (s0)]) (rest := []) (w8_mustFit1 c1) okX8_mustFit sm_X8_mustFit rfl ml_X8_62 dX8_instance_44 rfl (by decide) (Nat.le_of_eq (Nat.zero_add _)) rfl (Nat.le_of_ble_eq_true rfl) (fun _ _ z => z.elim) (fun r' S' z => ?_)
  obtain ⟨rfl, rfl⟩ := z
  show WP _ _ _ _ [some (vR 8 (i0)), some (vI (x1)), some (vI (x2)), some (vI (x3)), some (vI (x4)), some (vI (x5)), some (vI (x6)), l7] [] _ _ _
  refine wp_iload dX8_instance_47 rfl ?_
  refine wp_iconst (v := 0) dX8_instance_49 (by decide) ?_
  refine wp_bipush (v := 9) dX8_instance_50 (by decide) ?_
  obtain ⟨r2, m3, n4, n5, hp6, h, en7⟩ := cb_e h
  refine wp_callS (k1 := n4) (k2 := n5) (As := [vI (x5), vI (0), vI (9)]) (rest := []) (w8_X8_isWithin hp6) okX8_isWithin sm_X8_isWithin rfl ml_X8_54 dX8_instance_52 rfl (by decide) (Nat.le_of_eq en7) rfl (Nat.le_of_ble_eq_true rfl) (fun _ _ z => z.elim) (fun r' S' z => ?_)
  obtain ⟨rfl, rfl⟩ := z
  show WP _ _ _ _ [some (vR 8 (i0)), some (vI (x1)), some (vI (x2)), some (vI (x3)), some (vI (x4)), some (vI (x5)), some (vI (x6)), l7] [vI (r2)] _ _ _
  refine wp_if_eq (tgt := 72) dX8_instance_55 (by decide) (fun c8 => ?_) (fun c8 => ?_)
  · replace h := itp c8 h
    refine wp_iconst (v := 0) dX8_instance_72 (by decide) ?_
    exact w8_X8_instance_73 h
  · replace h := itn c8 h
    refine wp_iload dX8_instance_58 rfl ?_
    refine wp_iconst (v := 0) dX8_instance_60 (by decide) ?_
    refine wp_iconst (v := 1) dX8_instance_61 (by decide) ?_
    obtain ⟨r9, m10, n11, n12, hp13, h, en14⟩ := cb_e h
    refine wp_callS (k1 := n11) (k2 := n12) (As := [vI (x6), vI (0), vI (1)]) (rest := []) (w8_X8_isWithin hp13) okX8_isWithin sm_X8_isWithin rfl ml_X8_54 dX8_instance_62 rfl (by decide) (Nat.le_of_eq en14) rfl (Nat.le_of_ble_eq_true rfl) (fun _ _ z => z.elim) (fun r' S' z => ?_)
    obtain ⟨rfl, rfl⟩ := z
    show WP _ _ _ _ [some (vR 8 (i0)), some (vI (x1)), some (vI (x2)), some (vI (x3)), some (vI (x4)), some (vI (x5)), some (vI (x6)), l7] [vI (r9)] _ _ _
    refine wp_if_eq (tgt := 72) dX8_instance_65 (by decide) (fun c15 => ?_) (fun c15 => ?_)
    · replace h := itp c15 h
      refine wp_iconst (v := 0) dX8_instance_72 (by decide) ?_
      exact w8_X8_instance_73 h
    · replace h := itn c15 h
      refine wp_iconst (v := 1) dX8_instance_68 (by decide) ?_
      refine wp_goto (tgt := 73) dX8_instance_69 (by decide) ?_
      exact w8_X8_instance_73 h
def f8_X8_instance (i0 : Nat) (x1 : Int32) (x2 : Int32) (x3 : Int32) (x4 : Int32) (x5 : Int32) (x6 : Int32) (m : CM) : CR (Int32 ⊕ Nat) :=
  cb (f8_X8_isWithin (x1) (0) (5) m) fun r1 m2 =>
  if r1 = 0 then some (.inr 0, m2, 1) else
  cb (f8_X8_isWithin (x2) (0) (2) m2) fun r8 m9 =>
  if r8 = 0 then
    b8_X8_instance_44 (i0) (x1) (x2) (x3) (x4) (x5) (x6) (0) m9
  else
    cb (f8_X8_isWithin (x3) (1) (9) m9) fun r15 m16 =>
    if r15 = 0 then
      b8_X8_instance_44 (i0) (x1) (x2) (x3) (x4) (x5) (x6) (0) m16
    else
      cb (f8_X8_isWithin (x4) (1) (9) m16) fun r22 m23 =>
      if r22 = 0 then
        b8_X8_instance_44 (i0) (x1) (x2) (x3) (x4) (x5) (x6) (0) m23
      else
        b8_X8_instance_44 (i0) (x1) (x2) (x3) (x4) (x5) (x6) (1) m23
theorem w8_X8_instance {r : Int32 ⊕ Nat} {m9 : CM} {i0 : Nat} {x1 : Int32} {x2 : Int32} {x3 : Int32} {x4 : Int32} {x5 : Int32} {x6 : Int32} {m : CM} {n9 : Nat} (h : f8_X8_instance i0 x1 x2 x3 x4 x5 x6 m = some (r, m9, n9)) : Spec mX8_instance (9) n9 [vR 8 (i0), vI (x1), vI (x2), vI (x3), vI (x4), vI (x5), vI (x6)] (cM m out rho) (PcE out rho r false m9) (XcE out rho r m9) := by
  unfold f8_X8_instance at h
  refine spec_of (by decide) rfl (by simp [catS, cat1]) (Nat.le_of_ble_eq_true rfl) ?_
  show WP mX8_instance (9) n9 0 [some (vR 8 (i0)), some (vI (x1)), some (vI (x2)), some (vI (x3)), some (vI (x4)), some (vI (x5)), some (vI (x6)), none] [] (cM m out rho) (PcE out rho r false m9) (XcE out rho r m9)
  refine wp_iload_n dX8_instance_0 rfl ?_
  refine wp_iconst (v := 0) dX8_instance_1 (by decide) ?_
  refine wp_iconst (v := 5) dX8_instance_2 (by decide) ?_
  obtain ⟨r1, m2, n3, n4, hp5, h, en6⟩ := cb_e h
  refine wp_callS (k1 := n3) (k2 := n4) (As := [vI (x1), vI (0), vI (5)]) (rest := []) (w8_X8_isWithin hp5) okX8_isWithin sm_X8_isWithin rfl ml_X8_54 dX8_instance_3 rfl (by decide) (Nat.le_of_eq en6) rfl (Nat.le_of_ble_eq_true rfl) (fun _ _ z => z.elim) (fun r' S' z => ?_)
  obtain ⟨rfl, rfl⟩ := z
  show WP _ _ _ _ [some (vR 8 (i0)), some (vI (x1)), some (vI (x2)), some (vI (x3)), some (vI (x4)), some (vI (x5)), some (vI (x6)), none] [vI (r1)] _ _ _
  by_cases c7 : r1 = 0
  · replace h := itp c7 h
    obtain ⟨q1, q2, q3⟩ := cs_e h
    subst q1
    subst q2
    subst q3
    exact wp_callS (k1 := 1) (k2 := 0) (As := [vI (r1)]) (rest := []) (w8_mustExist0 c7) okX8_mustExist sm_X8_mustExist rfl ml_X8_58 dX8_instance_6 rfl (by decide) (Nat.le_refl _) rfl (Nat.le_of_ble_eq_true rfl) (fun E S' z => ⟨⟨0, rfl, by decide, z.1⟩, z.2⟩) (fun r' S' z => z.elim)
  replace h := itn c7 h
  refine wp_callS (k1 := 0) (k2 := _) (As := [vI (r1)]) (rest := []) (w8_mustExist1 c7) okX8_mustExist sm_X8_mustExist rfl ml_X8_58 dX8_instance_6 rfl (by decide) (Nat.le_of_eq (Nat.zero_add _)) rfl (Nat.le_of_ble_eq_true rfl) (fun _ _ z => z.elim) (fun r' S' z => ?_)
  obtain ⟨rfl, rfl⟩ := z
  show WP _ _ _ _ [some (vR 8 (i0)), some (vI (x1)), some (vI (x2)), some (vI (x3)), some (vI (x4)), some (vI (x5)), some (vI (x6)), none] [] _ _ _
  refine wp_iload_n dX8_instance_9 rfl ?_
  refine wp_iconst (v := 0) dX8_instance_10 (by decide) ?_
  refine wp_iconst (v := 2) dX8_instance_11 (by decide) ?_
  obtain ⟨r8, m9, n10, n11, hp12, h, en13⟩ := cb_e h
  refine wp_callS (k1 := n10) (k2 := n11) (As := [vI (x2), vI (0), vI (2)]) (rest := []) (w8_X8_isWithin hp12) okX8_isWithin sm_X8_isWithin rfl ml_X8_54 dX8_instance_12 rfl (by decide) (Nat.le_of_eq en13) rfl (Nat.le_of_ble_eq_true rfl) (fun _ _ z => z.elim) (fun r' S' z => ?_)
  obtain ⟨rfl, rfl⟩ := z
  show WP _ _ _ _ [some (vR 8 (i0)), some (vI (x1)), some (vI (x2)), some (vI (x3)), some (vI (x4)), some (vI (x5)), some (vI (x6)), none] [vI (r8)] _ _ _
  refine wp_if_eq (tgt := 43) dX8_instance_15 (by decide) (fun c14 => ?_) (fun c14 => ?_)
  · replace h := itp c14 h
    refine wp_iconst (v := 0) dX8_instance_43 (by decide) ?_
    exact w8_X8_instance_44 h
  · replace h := itn c14 h
    refine wp_iload_n dX8_instance_18 rfl ?_
    refine wp_iconst (v := 1) dX8_instance_19 (by decide) ?_
    refine wp_bipush (v := 9) dX8_instance_20 (by decide) ?_
    obtain ⟨r15, m16, n17, n18, hp19, h, en20⟩ := cb_e h
    refine wp_callS (k1 := n17) (k2 := n18) (As := [vI (x3), vI (1), vI (9)]) (rest := []) (w8_X8_isWithin hp19) okX8_isWithin sm_X8_isWithin rfl ml_X8_54 dX8_instance_22 rfl (by decide) (Nat.le_of_eq en20) rfl (Nat.le_of_ble_eq_true rfl) (fun _ _ z => z.elim) (fun r' S' z => ?_)
    obtain ⟨rfl, rfl⟩ := z
    show WP _ _ _ _ [some (vR 8 (i0)), some (vI (x1)), some (vI (x2)), some (vI (x3)), some (vI (x4)), some (vI (x5)), some (vI (x6)), none] [vI (r15)] _ _ _
    refine wp_if_eq (tgt := 43) dX8_instance_25 (by decide) (fun c21 => ?_) (fun c21 => ?_)
    · replace h := itp c21 h
      refine wp_iconst (v := 0) dX8_instance_43 (by decide) ?_
      exact w8_X8_instance_44 h
    · replace h := itn c21 h
      refine wp_iload dX8_instance_28 rfl ?_
      refine wp_iconst (v := 1) dX8_instance_30 (by decide) ?_
      refine wp_bipush (v := 9) dX8_instance_31 (by decide) ?_
      obtain ⟨r22, m23, n24, n25, hp26, h, en27⟩ := cb_e h
      refine wp_callS (k1 := n24) (k2 := n25) (As := [vI (x4), vI (1), vI (9)]) (rest := []) (w8_X8_isWithin hp26) okX8_isWithin sm_X8_isWithin rfl ml_X8_54 dX8_instance_33 rfl (by decide) (Nat.le_of_eq en27) rfl (Nat.le_of_ble_eq_true rfl) (fun _ _ z => z.elim) (fun r' S' z => ?_)
      obtain ⟨rfl, rfl⟩ := z
      show WP _ _ _ _ [some (vR 8 (i0)), some (vI (x1)), some (vI (x2)), some (vI (x3)), some (vI (x4)), some (vI (x5)), some (vI (x6)), none] [vI (r22)] _ _ _
      refine wp_if_eq (tgt := 43) dX8_instance_36 (by decide) (fun c28 => ?_) (fun c28 => ?_)
      · replace h := itp c28 h
        refine wp_iconst (v := 0) dX8_instance_43 (by decide) ?_
        exact w8_X8_instance_44 h
      · replace h := itn c28 h
        refine wp_iconst (v := 1) dX8_instance_39 (by decide) ?_
        refine wp_goto (tgt := 44) dX8_instance_40 (by decide) ?_
        exact w8_X8_instance_44 h
def f8_X8_fault (i0 : Nat) (x1 : Int32) (x2 : Int32) (x3 : Int32) (m : CM) : CR (Int32 ⊕ Nat) :=
  od (gR m 1031 i0) fun j1 =>
  cb (f8_X8_isWithin (x1) (0) (((nI (gL m 50 j1).length) - 1)) m) fun r3 m4 =>
  if r3 = 0 then some (.inr 0, m4, 1) else
  cb (f8_X8_isWithin (x2) (0) (3) m4) fun r10 m11 =>
  if r10 = 0 then some (.inr 1, m11, 1) else
  if x2 = 0 then
    cb (f8_X8_isWithin (x3) (0) (50) m11) fun r18 m19 =>
    if r18 = 0 then some (.inr 1, m19, 1) else
    od (gR m19 1031 i0) fun j25 =>
    if ¬ x1 < 0 then
    od ((gL m19 50 j25)[(x1).toNatClampNeg]?) fun j28 =>
    od (gR m19 519 j28) fun j30 =>
    if vq (x2) 4 then
    wr (sA m19 30 j30 (x2).toNatClampNeg (x3)) fun m33 =>
    some (.inl ((gA m19 30 j30 (x2).toNatClampNeg)), m33, 0)
    else none
    else none
  else
    cb (f8_X8_isWithin (x3) (0) (1) m11) fun r35 m36 =>
    if r35 = 0 then some (.inr 1, m36, 1) else
    od (gR m36 1031 i0) fun j42 =>
    if ¬ x1 < 0 then
    od ((gL m36 50 j42)[(x1).toNatClampNeg]?) fun j45 =>
    od (gR m36 519 j45) fun j47 =>
    if vq (x2) 4 then
    wr (sA m36 30 j47 (x2).toNatClampNeg (x3)) fun m50 =>
    some (.inl ((gA m36 30 j47 (x2).toNatClampNeg)), m50, 0)
    else none
    else none
theorem w8_X8_fault {r : Int32 ⊕ Nat} {m9 : CM} {i0 : Nat} {x1 : Int32} {x2 : Int32} {x3 : Int32} {m : CM} {n9 : Nat} (h : f8_X8_fault i0 x1 x2 x3 m = some (r, m9, n9)) : Spec mX8_fault (9) n9 [vR 8 (i0), vI (x1), vI (x2), vI (x3)] (cM m out rho) (PcE out rho r false m9) (XcE out rho r m9) := by
  unfold f8_X8_fault at h
  refine spec_of (by decide) rfl (by simp [catS, cat1]) (Nat.le_of_ble_eq_true rfl) ?_
  show WP mX8_fault (9) n9 0 [some (vR 8 (i0)), some (vI (x1)), some (vI (x2)), some (vI (x3)), none, none] [] (cM m out rho) (PcE out rho r false m9) (XcE out rho r m9)
  refine wp_iload_n dX8_fault_0 rfl ?_
  refine wp_iconst (v := 0) dX8_fault_1 (by decide) ?_
  refine wp_aload_n dX8_fault_2 rfl ?_
  obtain ⟨j1, ho2, h⟩ := od_e h
  refine cp_getS (y := 7) (f := 1031) (t := 50) (by decide) (by decide) rfl rfl fl_X8_39 dX8_fault_3 ho2 ?_
  refine cp_size (c := 50) rfl (by decide) ml_X8_82 dX8_fault_6 (Nat.le_of_ble_eq_true rfl) ?_
  refine wp_iconst (v := 1) dX8_fault_9 (by decide) ?_
  refine wp_isub dX8_fault_10 ?_
  obtain ⟨r3, m4, n5, n6, hp7, h, en8⟩ := cb_e h
  refine wp_callS (k1 := n5) (k2 := n6) (As := [vI (x1), vI (0), vI (((nI (gL m 50 j1).length) - 1))]) (rest := []) (w8_X8_isWithin hp7) okX8_isWithin sm_X8_isWithin rfl ml_X8_54 dX8_fault_11 rfl (by decide) (Nat.le_of_eq en8) rfl (Nat.le_of_ble_eq_true rfl) (fun _ _ z => z.elim) (fun r' S' z => ?_)
  obtain ⟨rfl, rfl⟩ := z
  show WP _ _ _ _ [some (vR 8 (i0)), some (vI (x1)), some (vI (x2)), some (vI (x3)), none, none] [vI (r3)] _ _ _
  by_cases c9 : r3 = 0
  · replace h := itp c9 h
    obtain ⟨q1, q2, q3⟩ := cs_e h
    subst q1
    subst q2
    subst q3
    exact wp_callS (k1 := 1) (k2 := 0) (As := [vI (r3)]) (rest := []) (w8_mustExist0 c9) okX8_mustExist sm_X8_mustExist rfl ml_X8_58 dX8_fault_14 rfl (by decide) (Nat.le_refl _) rfl (Nat.le_of_ble_eq_true rfl) (fun E S' z => ⟨⟨0, rfl, by decide, z.1⟩, z.2⟩) (fun r' S' z => z.elim)
  replace h := itn c9 h
  refine wp_callS (k1 := 0) (k2 := _) (As := [vI (r3)]) (rest := []) (w8_mustExist1 c9) okX8_mustExist sm_X8_mustExist rfl ml_X8_58 dX8_fault_14 rfl (by decide) (Nat.le_of_eq (Nat.zero_add _)) rfl (Nat.le_of_ble_eq_true rfl) (fun _ _ z => z.elim) (fun r' S' z => ?_)
  obtain ⟨rfl, rfl⟩ := z
  show WP _ _ _ _ [some (vR 8 (i0)), some (vI (x1)), some (vI (x2)), some (vI (x3)), none, none] [] _ _ _
  refine wp_iload_n dX8_fault_17 rfl ?_
  refine wp_iconst (v := 0) dX8_fault_18 (by decide) ?_
  refine wp_iconst (v := 3) dX8_fault_19 (by decide) ?_
  obtain ⟨r10, m11, n12, n13, hp14, h, en15⟩ := cb_e h
  refine wp_callS (k1 := n12) (k2 := n13) (As := [vI (x2), vI (0), vI (3)]) (rest := []) (w8_X8_isWithin hp14) okX8_isWithin sm_X8_isWithin rfl ml_X8_54 dX8_fault_20 rfl (by decide) (Nat.le_of_eq en15) rfl (Nat.le_of_ble_eq_true rfl) (fun _ _ z => z.elim) (fun r' S' z => ?_)
  obtain ⟨rfl, rfl⟩ := z
  show WP _ _ _ _ [some (vR 8 (i0)), some (vI (x1)), some (vI (x2)), some (vI (x3)), none, none] [vI (r10)] _ _ _
  by_cases c16 : r10 = 0
  · replace h := itp c16 h
    obtain ⟨q1, q2, q3⟩ := cs_e h
    subst q1
    subst q2
    subst q3
    exact wp_callS (k1 := 1) (k2 := 0) (As := [vI (r10)]) (rest := []) (w8_mustFit0 c16) okX8_mustFit sm_X8_mustFit rfl ml_X8_62 dX8_fault_23 rfl (by decide) (Nat.le_refl _) rfl (Nat.le_of_ble_eq_true rfl) (fun E S' z => ⟨⟨1, rfl, by decide, z.1⟩, z.2⟩) (fun r' S' z => z.elim)
  replace h := itn c16 h
  refine wp_callS (k1 := 0) (k2 := _) (As := [vI (r10)]) (rest := []) (w8_mustFit1 c16) okX8_mustFit sm_X8_mustFit rfl ml_X8_62 dX8_fault_23 rfl (by decide) (Nat.le_of_eq (Nat.zero_add _)) rfl (Nat.le_of_ble_eq_true rfl) (fun _ _ z => z.elim) (fun r' S' z => ?_)
  obtain ⟨rfl, rfl⟩ := z
  show WP _ _ _ _ [some (vR 8 (i0)), some (vI (x1)), some (vI (x2)), some (vI (x3)), none, none] [] _ _ _
  refine wp_iload_n dX8_fault_26 rfl ?_
  refine wp_iconst (v := 0) dX8_fault_27 (by decide) ?_
  refine wp_iload_n dX8_fault_28 rfl ?_
  refine wp_if_ne (tgt := 37) dX8_fault_29 (by decide) (fun c17 => ?_) (fun c17 => ?_)
  · replace h := itn c17 h
    refine wp_iconst (v := 1) dX8_fault_37 (by decide) ?_
    obtain ⟨r35, m36, n37, n38, hp39, h, en40⟩ := cb_e h
    refine wp_callS (k1 := n37) (k2 := n38) (As := [vI (x3), vI (0), vI (1)]) (rest := []) (w8_X8_isWithin hp39) okX8_isWithin sm_X8_isWithin rfl ml_X8_54 dX8_fault_38 rfl (by decide) (Nat.le_of_eq en40) rfl (Nat.le_of_ble_eq_true rfl) (fun _ _ z => z.elim) (fun r' S' z => ?_)
    obtain ⟨rfl, rfl⟩ := z
    show WP _ _ _ _ [some (vR 8 (i0)), some (vI (x1)), some (vI (x2)), some (vI (x3)), none, none] [vI (r35)] _ _ _
    by_cases c41 : r35 = 0
    · replace h := itp c41 h
      obtain ⟨q1, q2, q3⟩ := cs_e h
      subst q1
      subst q2
      subst q3
      exact wp_callS (k1 := 1) (k2 := 0) (As := [vI (r35)]) (rest := []) (w8_mustFit0 c41) okX8_mustFit sm_X8_mustFit rfl ml_X8_62 dX8_fault_41 rfl (by decide) (Nat.le_refl _) rfl (Nat.le_of_ble_eq_true rfl) (fun E S' z => ⟨⟨1, rfl, by decide, z.1⟩, z.2⟩) (fun r' S' z => z.elim)
    replace h := itn c41 h
    refine wp_callS (k1 := 0) (k2 := _) (As := [vI (r35)]) (rest := []) (w8_mustFit1 c41) okX8_mustFit sm_X8_mustFit rfl ml_X8_62 dX8_fault_41 rfl (by decide) (Nat.le_of_eq (Nat.zero_add _)) rfl (Nat.le_of_ble_eq_true rfl) (fun _ _ z => z.elim) (fun r' S' z => ?_)
    obtain ⟨rfl, rfl⟩ := z
    show WP _ _ _ _ [some (vR 8 (i0)), some (vI (x1)), some (vI (x2)), some (vI (x3)), none, none] [] _ _ _
    refine wp_aload_n dX8_fault_44 rfl ?_
    obtain ⟨j42, ho43, h⟩ := od_e h
    refine cp_getS (y := 7) (f := 1031) (t := 50) (by decide) (by decide) rfl rfl fl_X8_39 dX8_fault_45 ho43 ?_
    refine wp_iload_n dX8_fault_48 rfl ?_
    obtain ⟨c44, h⟩ := ock h
    obtain ⟨j45, ho46, h⟩ := od_e h
    refine cp_get (c := 50) (t := 4) rfl rfl (by decide) c44 ho46 ml_X8_98 dX8_fault_49 (Nat.le_of_ble_eq_true rfl) ?_
    refine cp_cast (c := 4) (by decide) kl_X8_86 dX8_fault_52 ?_
    obtain ⟨j47, ho48, h⟩ := od_e h
    refine cp_getS (y := 7) (f := 519) (t := 30) (by decide) (by decide) rfl rfl fl_X8_102 dX8_fault_55 ho48 ?_
    refine wp_astore (L' := [some (vR 8 (i0)), some (vI (x1)), some (vI (x2)), some (vI (x3)), some (vR 30 (j47)), none]) dX8_fault_58 rfl rfl ?_
    refine wp_aload dX8_fault_60 rfl ?_
    refine wp_iload_n dX8_fault_62 rfl ?_
    obtain ⟨c49, h⟩ := ock h
    refine cp_iald (c := 30) rfl (by decide) (show vp_in (x2) (len 30) from c49) dX8_fault_63 ?_
    refine wp_istore (L' := [some (vR 8 (i0)), some (vI (x1)), some (vI (x2)), some (vI (x3)), some (vR 30 (j47)), some (vI ((gA m36 30 j47 (x2).toNatClampNeg)))]) dX8_fault_64 rfl rfl ?_
    refine wp_aload dX8_fault_66 rfl ?_
    refine wp_iload_n dX8_fault_68 rfl ?_
    refine wp_iload_n dX8_fault_69 rfl ?_
    obtain ⟨m50, e51, h⟩ := wr_e h
    refine cp_iast (c := 30) e51 rfl (by decide) (show vp_in (x2) (len 30) from c49) dX8_fault_70 ?_
    refine wp_iload dX8_fault_71 rfl ?_
    obtain ⟨q1, q2, q3⟩ := cs_e h
    subst q1
    subst q2
    exact wp_ireturn rfl dX8_fault_73 ⟨⟨_, rfl, rfl⟩, rfl⟩
  · replace h := itp c17 h
    refine wp_bipush (v := 50) dX8_fault_32 (by decide) ?_
    refine wp_goto (tgt := 38) dX8_fault_34 (by decide) ?_
    obtain ⟨r18, m19, n20, n21, hp22, h, en23⟩ := cb_e h
    refine wp_callS (k1 := n20) (k2 := n21) (As := [vI (x3), vI (0), vI (50)]) (rest := []) (w8_X8_isWithin hp22) okX8_isWithin sm_X8_isWithin rfl ml_X8_54 dX8_fault_38 rfl (by decide) (Nat.le_of_eq en23) rfl (Nat.le_of_ble_eq_true rfl) (fun _ _ z => z.elim) (fun r' S' z => ?_)
    obtain ⟨rfl, rfl⟩ := z
    show WP _ _ _ _ [some (vR 8 (i0)), some (vI (x1)), some (vI (x2)), some (vI (x3)), none, none] [vI (r18)] _ _ _
    by_cases c24 : r18 = 0
    · replace h := itp c24 h
      obtain ⟨q1, q2, q3⟩ := cs_e h
      subst q1
      subst q2
      subst q3
      exact wp_callS (k1 := 1) (k2 := 0) (As := [vI (r18)]) (rest := []) (w8_mustFit0 c24) okX8_mustFit sm_X8_mustFit rfl ml_X8_62 dX8_fault_41 rfl (by decide) (Nat.le_refl _) rfl (Nat.le_of_ble_eq_true rfl) (fun E S' z => ⟨⟨1, rfl, by decide, z.1⟩, z.2⟩) (fun r' S' z => z.elim)
    replace h := itn c24 h
    refine wp_callS (k1 := 0) (k2 := _) (As := [vI (r18)]) (rest := []) (w8_mustFit1 c24) okX8_mustFit sm_X8_mustFit rfl ml_X8_62 dX8_fault_41 rfl (by decide) (Nat.le_of_eq (Nat.zero_add _)) rfl (Nat.le_of_ble_eq_true rfl) (fun _ _ z => z.elim) (fun r' S' z => ?_)
    obtain ⟨rfl, rfl⟩ := z
    show WP _ _ _ _ [some (vR 8 (i0)), some (vI (x1)), some (vI (x2)), some (vI (x3)), none, none] [] _ _ _
    refine wp_aload_n dX8_fault_44 rfl ?_
    obtain ⟨j25, ho26, h⟩ := od_e h
    refine cp_getS (y := 7) (f := 1031) (t := 50) (by decide) (by decide) rfl rfl fl_X8_39 dX8_fault_45 ho26 ?_
    refine wp_iload_n dX8_fault_48 rfl ?_
    obtain ⟨c27, h⟩ := ock h
    obtain ⟨j28, ho29, h⟩ := od_e h
    refine cp_get (c := 50) (t := 4) rfl rfl (by decide) c27 ho29 ml_X8_98 dX8_fault_49 (Nat.le_of_ble_eq_true rfl) ?_
    refine cp_cast (c := 4) (by decide) kl_X8_86 dX8_fault_52 ?_
    obtain ⟨j30, ho31, h⟩ := od_e h
    refine cp_getS (y := 7) (f := 519) (t := 30) (by decide) (by decide) rfl rfl fl_X8_102 dX8_fault_55 ho31 ?_
    refine wp_astore (L' := [some (vR 8 (i0)), some (vI (x1)), some (vI (x2)), some (vI (x3)), some (vR 30 (j30)), none]) dX8_fault_58 rfl rfl ?_
    refine wp_aload dX8_fault_60 rfl ?_
    refine wp_iload_n dX8_fault_62 rfl ?_
    obtain ⟨c32, h⟩ := ock h
    refine cp_iald (c := 30) rfl (by decide) (show vp_in (x2) (len 30) from c32) dX8_fault_63 ?_
    refine wp_istore (L' := [some (vR 8 (i0)), some (vI (x1)), some (vI (x2)), some (vI (x3)), some (vR 30 (j30)), some (vI ((gA m19 30 j30 (x2).toNatClampNeg)))]) dX8_fault_64 rfl rfl ?_
    refine wp_aload dX8_fault_66 rfl ?_
    refine wp_iload_n dX8_fault_68 rfl ?_
    refine wp_iload_n dX8_fault_69 rfl ?_
    obtain ⟨m33, e34, h⟩ := wr_e h
    refine cp_iast (c := 30) e34 rfl (by decide) (show vp_in (x2) (len 30) from c32) dX8_fault_70 ?_
    refine wp_iload dX8_fault_71 rfl ?_
    obtain ⟨q1, q2, q3⟩ := cs_e h
    subst q1
    subst q2
    exact wp_ireturn rfl dX8_fault_73 ⟨⟨_, rfl, rfl⟩, rfl⟩
end S8
