section S8
variable {out : Int64} {rho : RH}
def f8_X8_canaryShare (i0 : Nat) (x1 : Int32) (m : CM) : CR (Int32 ⊕ Nat) :=
  cb (f8_X8_isWithin (x1) (0) (5) m) fun r1 m2 =>
  if r1 = 0 then some (.inr 0, m2, 1) else
  od (gR m2 1029 i0) fun j8 =>
  if vq (x1) 6 then
  od (gO m2 41 j8 (x1).toNatClampNeg) fun j11 =>
  od (gR m2 773 j11) fun j13 =>
  some (.inl ((gI m2 384 j13)), m2, 0)
  else none
theorem w8_X8_canaryShare {r : Int32 ⊕ Nat} {m9 : CM} {i0 : Nat} {x1 : Int32} {m : CM} {n9 : Nat} (h : f8_X8_canaryShare i0 x1 m = some (r, m9, n9)) : Spec mX8_canaryShare (9) n9 [vR 8 (i0), vI (x1)] (cM m out rho) (PcE out rho r false m9) (XcE out rho r m9) := by
  unfold f8_X8_canaryShare at h
  refine spec_of (by decide) rfl (by simp [catS, cat1]) (Nat.le_of_ble_eq_true rfl) ?_
  show WP mX8_canaryShare (9) n9 0 [some (vR 8 (i0)), some (vI (x1))] [] (cM m out rho) (PcE out rho r false m9) (XcE out rho r m9)
  refine wp_iload_n dX8_canaryShare_0 rfl ?_
  refine wp_iconst (v := 0) dX8_canaryShare_1 (by decide) ?_
  refine wp_iconst (v := 5) dX8_canaryShare_2 (by decide) ?_
  obtain ⟨r1, m2, n3, n4, hp5, h, en6⟩ := cb_e h
  refine wp_callS (k1 := n3) (k2 := n4) (As := [vI (x1), vI (0), vI (5)]) (rest := []) (w8_X8_isWithin hp5) okX8_isWithin sm_X8_isWithin rfl ml_X8_54 dX8_canaryShare_3 rfl (by decide) (Nat.le_of_eq en6) rfl (Nat.le_of_ble_eq_true rfl) (fun _ _ z => z.elim) (fun r' S' z => ?_)
  obtain ⟨rfl, rfl⟩ := z
  show WP _ _ _ _ [some (vR 8 (i0)), some (vI (x1))] [vI (r1)] _ _ _
  by_cases c7 : r1 = 0
  · replace h := itp c7 h
    obtain ⟨q1, q2, q3⟩ := cs_e h
    subst q1
    subst q2
    subst q3
    exact wp_callS (k1 := 1) (k2 := 0) (As := [vI (r1)]) (rest := []) (w8_mustExist0 c7) okX8_mustExist sm_X8_mustExist rfl ml_X8_58 dX8_canaryShare_6 rfl (by decide) (Nat.le_refl _) rfl (Nat.le_of_ble_eq_true rfl) (fun E S' z => ⟨⟨0, rfl, by decide, z.1⟩, z.2⟩) (fun r' S' z => z.elim)
  replace h := itn c7 h
  refine wp_callS (k1 := 0) (k2 := _) (As := [vI (r1)]) (rest := []) (w8_mustExist1 c7) okX8_mustExist sm_X8_mustExist rfl ml_X8_58 dX8_canaryShare_6 rfl (by decide) (Nat.le_of_eq (Nat.zero_add _)) rfl (Nat.le_of_ble_eq_true rfl) (fun _ _ z => z.elim) (fun r' S' z => ?_)
  obtain ⟨rfl, rfl⟩ := z
  show WP _ _ _ _ [some (vR 8 (i0)), some (vI (x1))] [] _ _ _
  refine wp_aload_n dX8_canaryShare_9 rfl ?_
  obtain ⟨j8, ho9, h⟩ := od_e h
  refine cp_getS (y := 5) (f := 1029) (t := 41) (by decide) (by decide) rfl rfl fl_X8_26 dX8_canaryShare_10 ho9 ?_
  refine wp_iload_n dX8_canaryShare_13 rfl ?_
  obtain ⟨c10, h⟩ := ock h
  obtain ⟨j11, ho12, h⟩ := od_e h
  refine cp_aald (c := 41) (t := 6) rfl (by decide) rfl (show vp_in (x1) (len 41) from c10) dX8_canaryShare_14 ho12 ?_
  obtain ⟨j13, ho14, h⟩ := od_e h
  refine cp_getS (y := 5) (f := 773) (t := 3) (by decide) (by decide) rfl rfl fl_X8_119 dX8_canaryShare_15 ho14 ?_
  refine cp_getI (y := 0) (f := 384) (by decide) (by decide) rfl rfl fl_X8_123 dX8_canaryShare_18 ?_
  obtain ⟨q1, q2, q3⟩ := cs_e h
  subst q1
  subst q2
  exact wp_ireturn rfl dX8_canaryShare_21 ⟨⟨_, rfl, rfl⟩, rfl⟩
def f8_X8_extra (i0 : Nat) (x1 : Int32) (m : CM) : CR (Int32 ⊕ Nat) :=
  cb (f8_X8_isWithin (x1) (0) (6) m) fun r1 m2 =>
  if r1 = 0 then some (.inr 0, m2, 1) else
  od (gR m2 1030 i0) fun j8 =>
  if vq (x1) 7 then
  od (gO m2 42 j8 (x1).toNatClampNeg) fun j11 =>
  some (.inl ((gI m2 259 j11)), m2, 0)
  else none
theorem w8_X8_extra {r : Int32 ⊕ Nat} {m9 : CM} {i0 : Nat} {x1 : Int32} {m : CM} {n9 : Nat} (h : f8_X8_extra i0 x1 m = some (r, m9, n9)) : Spec mX8_extra (9) n9 [vR 8 (i0), vI (x1)] (cM m out rho) (PcE out rho r false m9) (XcE out rho r m9) := by
  unfold f8_X8_extra at h
  refine spec_of (by decide) rfl (by simp [catS, cat1]) (Nat.le_of_ble_eq_true rfl) ?_
  show WP mX8_extra (9) n9 0 [some (vR 8 (i0)), some (vI (x1))] [] (cM m out rho) (PcE out rho r false m9) (XcE out rho r m9)
  refine wp_iload_n dX8_extra_0 rfl ?_
  refine wp_iconst (v := 0) dX8_extra_1 (by decide) ?_
  refine wp_bipush (v := 6) dX8_extra_2 (by decide) ?_
  obtain ⟨r1, m2, n3, n4, hp5, h, en6⟩ := cb_e h
  refine wp_callS (k1 := n3) (k2 := n4) (As := [vI (x1), vI (0), vI (6)]) (rest := []) (w8_X8_isWithin hp5) okX8_isWithin sm_X8_isWithin rfl ml_X8_54 dX8_extra_4 rfl (by decide) (Nat.le_of_eq en6) rfl (Nat.le_of_ble_eq_true rfl) (fun _ _ z => z.elim) (fun r' S' z => ?_)
  obtain ⟨rfl, rfl⟩ := z
  show WP _ _ _ _ [some (vR 8 (i0)), some (vI (x1))] [vI (r1)] _ _ _
  by_cases c7 : r1 = 0
  · replace h := itp c7 h
    obtain ⟨q1, q2, q3⟩ := cs_e h
    subst q1
    subst q2
    subst q3
    exact wp_callS (k1 := 1) (k2 := 0) (As := [vI (r1)]) (rest := []) (w8_mustExist0 c7) okX8_mustExist sm_X8_mustExist rfl ml_X8_58 dX8_extra_7 rfl (by decide) (Nat.le_refl _) rfl (Nat.le_of_ble_eq_true rfl) (fun E S' z => ⟨⟨0, rfl, by decide, z.1⟩, z.2⟩) (fun r' S' z => z.elim)
  replace h := itn c7 h
  refine wp_callS (k1 := 0) (k2 := _) (As := [vI (r1)]) (rest := []) (w8_mustExist1 c7) okX8_mustExist sm_X8_mustExist rfl ml_X8_58 dX8_extra_7 rfl (by decide) (Nat.le_of_eq (Nat.zero_add _)) rfl (Nat.le_of_ble_eq_true rfl) (fun _ _ z => z.elim) (fun r' S' z => ?_)
  obtain ⟨rfl, rfl⟩ := z
  show WP _ _ _ _ [some (vR 8 (i0)), some (vI (x1))] [] _ _ _
  refine wp_aload_n dX8_extra_10 rfl ?_
  obtain ⟨j8, ho9, h⟩ := od_e h
  refine cp_getS (y := 6) (f := 1030) (t := 42) (by decide) (by decide) rfl rfl fl_X8_32 dX8_extra_11 ho9 ?_
  refine wp_iload_n dX8_extra_14 rfl ?_
  obtain ⟨c10, h⟩ := ock h
  obtain ⟨j11, ho12, h⟩ := od_e h
  refine cp_aald (c := 42) (t := 2) rfl (by decide) rfl (show vp_in (x1) (len 42) from c10) dX8_extra_15 ho12 ?_
  refine cp_getI (y := 3) (f := 259) (by decide) (by decide) rfl rfl fl_X8_250 dX8_extra_16 ?_
  obtain ⟨q1, q2, q3⟩ := cs_e h
  subst q1
  subst q2
  exact wp_ireturn rfl dX8_extra_19 ⟨⟨_, rfl, rfl⟩, rfl⟩
def f8_X8_first (i0 : Nat) (x1 : Int32) (m : CM) : CR (Int32 ⊕ Nat) :=
  cb (f8_X8_isWithin (x1) (0) (6) m) fun r1 m2 =>
  if r1 = 0 then some (.inr 0, m2, 1) else
  od (gR m2 1030 i0) fun j8 =>
  if vq (x1) 7 then
  od (gO m2 42 j8 (x1).toNatClampNeg) fun j11 =>
  some (.inl ((gI m2 258 j11)), m2, 0)
  else none
theorem w8_X8_first {r : Int32 ⊕ Nat} {m9 : CM} {i0 : Nat} {x1 : Int32} {m : CM} {n9 : Nat} (h : f8_X8_first i0 x1 m = some (r, m9, n9)) : Spec mX8_first (9) n9 [vR 8 (i0), vI (x1)] (cM m out rho) (PcE out rho r false m9) (XcE out rho r m9) := by
  unfold f8_X8_first at h
  refine spec_of (by decide) rfl (by simp [catS, cat1]) (Nat.le_of_ble_eq_true rfl) ?_
  show WP mX8_first (9) n9 0 [some (vR 8 (i0)), some (vI (x1))] [] (cM m out rho) (PcE out rho r false m9) (XcE out rho r m9)
  refine wp_iload_n dX8_first_0 rfl ?_
  refine wp_iconst (v := 0) dX8_first_1 (by decide) ?_
  refine wp_bipush (v := 6) dX8_first_2 (by decide) ?_
  obtain ⟨r1, m2, n3, n4, hp5, h, en6⟩ := cb_e h
  refine wp_callS (k1 := n3) (k2 := n4) (As := [vI (x1), vI (0), vI (6)]) (rest := []) (w8_X8_isWithin hp5) okX8_isWithin sm_X8_isWithin rfl ml_X8_54 dX8_first_4 rfl (by decide) (Nat.le_of_eq en6) rfl (Nat.le_of_ble_eq_true rfl) (fun _ _ z => z.elim) (fun r' S' z => ?_)
  obtain ⟨rfl, rfl⟩ := z
  show WP _ _ _ _ [some (vR 8 (i0)), some (vI (x1))] [vI (r1)] _ _ _
  by_cases c7 : r1 = 0
  · replace h := itp c7 h
    obtain ⟨q1, q2, q3⟩ := cs_e h
    subst q1
    subst q2
    subst q3
    exact wp_callS (k1 := 1) (k2 := 0) (As := [vI (r1)]) (rest := []) (w8_mustExist0 c7) okX8_mustExist sm_X8_mustExist rfl ml_X8_58 dX8_first_7 rfl (by decide) (Nat.le_refl _) rfl (Nat.le_of_ble_eq_true rfl) (fun E S' z => ⟨⟨0, rfl, by decide, z.1⟩, z.2⟩) (fun r' S' z => z.elim)
  replace h := itn c7 h
  refine wp_callS (k1 := 0) (k2 := _) (As := [vI (r1)]) (rest := []) (w8_mustExist1 c7) okX8_mustExist sm_X8_mustExist rfl ml_X8_58 dX8_first_7 rfl (by decide) (Nat.le_of_eq (Nat.zero_add _)) rfl (Nat.le_of_ble_eq_true rfl) (fun _ _ z => z.elim) (fun r' S' z => ?_)
  obtain ⟨rfl, rfl⟩ := z
  show WP _ _ _ _ [some (vR 8 (i0)), some (vI (x1))] [] _ _ _
  refine wp_aload_n dX8_first_10 rfl ?_
  obtain ⟨j8, ho9, h⟩ := od_e h
  refine cp_getS (y := 6) (f := 1030) (t := 42) (by decide) (by decide) rfl rfl fl_X8_32 dX8_first_11 ho9 ?_
  refine wp_iload_n dX8_first_14 rfl ?_
  obtain ⟨c10, h⟩ := ock h
  obtain ⟨j11, ho12, h⟩ := od_e h
  refine cp_aald (c := 42) (t := 2) rfl (by decide) rfl (show vp_in (x1) (len 42) from c10) dX8_first_15 ho12 ?_
  refine cp_getI (y := 2) (f := 258) (by decide) (by decide) rfl rfl fl_X8_253 dX8_first_16 ?_
  obtain ⟨q1, q2, q3⟩ := cs_e h
  subst q1
  subst q2
  exact wp_ireturn rfl dX8_first_19 ⟨⟨_, rfl, rfl⟩, rfl⟩
end S8
