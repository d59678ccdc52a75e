section S8
variable {out : Int64} {rho : RH}
def f8_X8_policyPlace (x0 : Int32) (x1 : Int32) (m : CM) : CR (Int32) :=
  if x1 = (-1) then
    some (0, m, 0)
  else
    if x0 = (-1) then
      some ((1 + x1), m, 0)
    else
      some (((7 + (x0 * 6)) + x1), m, 0)
theorem w8_X8_policyPlace {r : Int32} {m9 : CM} {x0 : Int32} {x1 : Int32} {m : CM} {n9 : Nat} (h : f8_X8_policyPlace x0 x1 m = some (r, m9, n9)) : Spec mX8_policyPlace (0) n9 [vI (x0), vI (x1)] (cM m out rho) (Pc out rho (some (vI r)) m9) NX := by
  unfold f8_X8_policyPlace at h
  refine spec_of (by decide) rfl (by simp [catS, cat1]) (Nat.le_of_ble_eq_true rfl) ?_
  show WP mX8_policyPlace (0) n9 0 [some (vI (x0)), some (vI (x1))] [] (cM m out rho) (Pc out rho (some (vI r)) m9) NX
  refine wp_iload_n dX8_policyPlace_0 rfl ?_
  refine wp_iconst (v := (-1)) dX8_policyPlace_1 (by decide) ?_
  refine wp_icmp_ne (tgt := 7) dX8_policyPlace_2 (by decide) (fun c1 => ?_) (fun c1 => ?_)
  · replace h := itn c1 h
    refine wp_iload_n dX8_policyPlace_7 rfl ?_
    refine wp_iconst (v := (-1)) dX8_policyPlace_8 (by decide) ?_
    refine wp_icmp_ne (tgt := 18) dX8_policyPlace_9 (by decide) (fun c2 => ?_) (fun c2 => ?_)
    · replace h := itn c2 h
      refine wp_bipush (v := 7) dX8_policyPlace_18 (by decide) ?_
      refine wp_iload_n dX8_policyPlace_20 rfl ?_
      refine wp_bipush (v := 6) dX8_policyPlace_21 (by decide) ?_
      refine wp_imul dX8_policyPlace_23 ?_
      refine wp_iadd dX8_policyPlace_24 ?_
      refine wp_iload_n dX8_policyPlace_25 rfl ?_
      refine wp_iadd dX8_policyPlace_26 ?_
      obtain ⟨q1, q2, q3⟩ := cs_e h
      subst q1
      subst q2
      exact wp_ireturn rfl dX8_policyPlace_27 ⟨rfl, rfl⟩
    · replace h := itp c2 h
      refine wp_iconst (v := 1) dX8_policyPlace_12 (by decide) ?_
      refine wp_iload_n dX8_policyPlace_13 rfl ?_
      refine wp_iadd dX8_policyPlace_14 ?_
      refine wp_goto (tgt := 27) dX8_policyPlace_15 (by decide) ?_
      obtain ⟨q1, q2, q3⟩ := cs_e h
      subst q1
      subst q2
      exact wp_ireturn rfl dX8_policyPlace_27 ⟨rfl, rfl⟩
  · replace h := itp c1 h
    refine wp_iconst (v := 0) dX8_policyPlace_5 (by decide) ?_
    obtain ⟨q1, q2, q3⟩ := cs_e h
    subst q1
    subst q2
    exact wp_ireturn rfl dX8_policyPlace_6 ⟨rfl, rfl⟩
def b8_X8_policy_42 (i0 : Nat) (x1 : Int32) (x2 : Int32) (x3 : Int32) (x4 : Int32) (s0 : Int32) (m : CM) : CR (Int32 ⊕ Nat) :=
  if s0 = 0 then some (.inr 1, m, 1) else
  cb (f8_X8_isWithin (x3) (0) (2) m) fun r2 m3 =>
  if r2 = 0 then some (.inr 1, m3, 1) else
  if vq (x3) 3 then
  cb (f8_X8_isWithin (x4) ((polV 1 (x3).toNatClampNeg)) ((polV 2 (x3).toNatClampNeg)) m3) fun r10 m11 =>
  if r10 = 0 then some (.inr 1, m11, 1) else
  cb (f8_X8_policyPlace (x1) (x2) m11) fun r17 m18 =>
  od (gR m18 1028 i0) fun j23 =>
  od (gO m18 40 j23 (x3).toNatClampNeg) fun j25 =>
  if vq (r17) 49 then
  wr (sA m18 37 j25 (r17).toNatClampNeg (x4)) fun m28 =>
  some (.inl ((gA m18 37 j25 (r17).toNatClampNeg)), m28, 0)
  else none
  else none
theorem w8_X8_policy_42 {r : Int32 ⊕ Nat} {m9 : CM} {i0 : Nat} {x1 : Int32} {x2 : Int32} {x3 : Int32} {x4 : Int32} {s0 : Int32} {l5 : Option sV} {l6 : Option sV} {m : CM} {n9 : Nat} (h : b8_X8_policy_42 i0 x1 x2 x3 x4 s0 m = some (r, m9, n9)) : WP mX8_policy (9) n9 42 [some (vR 8 (i0)), some (vI (x1)), some (vI (x2)), some (vI (x3)), some (vI (x4)), l5, l6] [vI (s0)] (cM m out rho) (PcE out rho r false m9) (XcE out rho r m9) := by
  unfold b8_X8_policy_42 at h
  by_cases c1 : s0 = 0
  · replace h := itp c1 h
    obtain ⟨q1, q2, q3⟩ := cs_e h
    subst q1
    subst q2
    subst q3
    exact wp_callS (k1 := 1) (k2 := 0) (As := [vI (s0)]) (rest := []) (w8_mustFit0 c1) okX8_mustFit sm_X8_mustFit rfl ml_X8_62 dX8_policy_42 rfl (by decide) (Nat.le_refl _) rfl (Nat.le_of_ble_eq_true rfl) (fun E S' z => ⟨⟨1, rfl, by decide, z.1⟩, z.2⟩) (fun r' S' z => z.elim)
  replace h := itn c1 h
  refine wp_callS (k1 := 0) (k2 := _) (As := [vI (s0)]) (rest := []) (w8_mustFit1 c1) okX8_mustFit sm_X8_mustFit rfl ml_X8_62 dX8_policy_42 rfl (by decide) (Nat.le_of_eq (Nat.zero_add _)) rfl (Nat.le_of_ble_eq_true rfl) (fun _ _ z => z.elim) (fun r' S' z => ?_)
  obtain ⟨rfl, rfl⟩ := z
  show WP _ _ _ _ [some (vR 8 (i0)), some (vI (x1)), some (vI (x2)), some (vI (x3)), some (vI (x4)), l5, l6] [] _ _ _
  refine wp_iload_n dX8_policy_45 rfl ?_
  refine wp_iconst (v := 0) dX8_policy_46 (by decide) ?_
  refine wp_iconst (v := 2) dX8_policy_47 (by decide) ?_
  obtain ⟨r2, m3, n4, n5, hp6, h, en7⟩ := cb_e h
  refine wp_callS (k1 := n4) (k2 := n5) (As := [vI (x3), vI (0), vI (2)]) (rest := []) (w8_X8_isWithin hp6) okX8_isWithin sm_X8_isWithin rfl ml_X8_54 dX8_policy_48 rfl (by decide) (Nat.le_of_eq en7) rfl (Nat.le_of_ble_eq_true rfl) (fun _ _ z => z.elim) (fun r' S' z => ?_)
  obtain ⟨rfl, rfl⟩ := z
  show WP _ _ _ _ [some (vR 8 (i0)), some (vI (x1)), some (vI (x2)), some (vI (x3)), some (vI (x4)), l5, l6] [vI (r2)] _ _ _
  by_cases c8 : r2 = 0
  · replace h := itp c8 h
    obtain ⟨q1, q2, q3⟩ := cs_e h
    subst q1
    subst q2
    subst q3
    exact wp_callS (k1 := 1) (k2 := 0) (As := [vI (r2)]) (rest := []) (w8_mustFit0 c8) okX8_mustFit sm_X8_mustFit rfl ml_X8_62 dX8_policy_51 rfl (by decide) (Nat.le_refl _) rfl (Nat.le_of_ble_eq_true rfl) (fun E S' z => ⟨⟨1, rfl, by decide, z.1⟩, z.2⟩) (fun r' S' z => z.elim)
  replace h := itn c8 h
  refine wp_callS (k1 := 0) (k2 := _) (As := [vI (r2)]) (rest := []) (w8_mustFit1 c8) okX8_mustFit sm_X8_mustFit rfl ml_X8_62 dX8_policy_51 rfl (by decide) (Nat.le_of_eq (Nat.zero_add _)) rfl (Nat.le_of_ble_eq_true rfl) (fun _ _ z => z.elim) (fun r' S' z => ?_)
  obtain ⟨rfl, rfl⟩ := z
  show WP _ _ _ _ [some (vR 8 (i0)), some (vI (x1)), some (vI (x2)), some (vI (x3)), some (vI (x4)), l5, l6] [] _ _ _
  refine wp_iload dX8_policy_54 rfl ?_
  refine cp_gets (j := 1) (by decide) fl_X8_106 dX8_policy_56 ?_
  refine wp_iload_n dX8_policy_59 rfl ?_
  obtain ⟨c9, h⟩ := ock h
  refine cp_ialdS (j := 1) (by decide) (show vp_in (x3) 3 from c9) dX8_policy_60 ?_
  refine cp_gets (j := 2) (by decide) fl_X8_109 dX8_policy_61 ?_
  refine wp_iload_n dX8_policy_64 rfl ?_
  refine cp_ialdS (j := 2) (by decide) (show vp_in (x3) 3 from c9) dX8_policy_65 ?_
  obtain ⟨r10, m11, n12, n13, hp14, h, en15⟩ := cb_e h
  refine wp_callS (k1 := n12) (k2 := n13) (As := [vI (x4), vI ((polV 1 (x3).toNatClampNeg)), vI ((polV 2 (x3).toNatClampNeg))]) (rest := []) (w8_X8_isWithin hp14) okX8_isWithin sm_X8_isWithin rfl ml_X8_54 dX8_policy_66 rfl (by decide) (Nat.le_of_eq en15) rfl (Nat.le_of_ble_eq_true rfl) (fun _ _ z => z.elim) (fun r' S' z => ?_)
  obtain ⟨rfl, rfl⟩ := z
  show WP _ _ _ _ [some (vR 8 (i0)), some (vI (x1)), some (vI (x2)), some (vI (x3)), some (vI (x4)), l5, l6] [vI (r10)] _ _ _
  by_cases c16 : r10 = 0
  · replace h := itp c16 h
    obtain ⟨q1, q2, q3⟩ := cs_e h
    subst q1
    subst q2
    subst q3
    exact wp_callS (k1 := 1) (k2 := 0) (As := [vI (r10)]) (rest := []) (w8_mustFit0 c16) okX8_mustFit sm_X8_mustFit rfl ml_X8_62 dX8_policy_69 rfl (by decide) (Nat.le_refl _) rfl (Nat.le_of_ble_eq_true rfl) (fun E S' z => ⟨⟨1, rfl, by decide, z.1⟩, z.2⟩) (fun r' S' z => z.elim)
  replace h := itn c16 h
  refine wp_callS (k1 := 0) (k2 := _) (As := [vI (r10)]) (rest := []) (w8_mustFit1 c16) okX8_mustFit sm_X8_mustFit rfl ml_X8_62 dX8_policy_69 rfl (by decide) (Nat.le_of_eq (Nat.zero_add _)) rfl (Nat.le_of_ble_eq_true rfl) (fun _ _ z => z.elim) (fun r' S' z => ?_)
  obtain ⟨rfl, rfl⟩ := z
  show WP _ _ _ _ [some (vR 8 (i0)), some (vI (x1)), some (vI (x2)), some (vI (x3)), some (vI (x4)), l5, l6] [] _ _ _
  refine wp_iload_n dX8_policy_72 rfl ?_
  refine wp_iload_n dX8_policy_73 rfl ?_
  obtain ⟨r17, m18, n19, n20, hp21, h, en22⟩ := cb_e h
  refine wp_callS (k1 := n19) (k2 := n20) (As := [vI (x1), vI (x2)]) (rest := []) (w8_X8_policyPlace hp21) okX8_policyPlace sm_X8_policyPlace rfl ml_X8_112 dX8_policy_74 rfl (by decide) (Nat.le_of_eq en22) rfl (Nat.le_of_ble_eq_true rfl) (fun _ _ z => z.elim) (fun r' S' z => ?_)
  obtain ⟨rfl, rfl⟩ := z
  show WP _ _ _ _ [some (vR 8 (i0)), some (vI (x1)), some (vI (x2)), some (vI (x3)), some (vI (x4)), l5, l6] [vI (r17)] _ _ _
  refine wp_istore (L' := [some (vR 8 (i0)), some (vI (x1)), some (vI (x2)), some (vI (x3)), some (vI (x4)), some (vI (r17)), l6]) dX8_policy_77 rfl rfl ?_
  refine wp_aload_n dX8_policy_79 rfl ?_
  obtain ⟨j23, ho24, h⟩ := od_e h
  refine cp_getS (y := 4) (f := 1028) (t := 40) (by decide) (by decide) rfl rfl fl_X8_21 dX8_policy_80 ho24 ?_
  refine wp_iload_n dX8_policy_83 rfl ?_
  obtain ⟨j25, ho26, h⟩ := od_e h
  refine cp_aald (c := 40) (t := 37) rfl (by decide) rfl (show vp_in (x3) (len 40) from c9) dX8_policy_84 ho26 ?_
  refine wp_iload dX8_policy_85 rfl ?_
  obtain ⟨c27, h⟩ := ock h
  refine cp_iald (c := 37) rfl (by decide) (show vp_in (r17) (len 37) from c27) dX8_policy_87 ?_
  refine wp_istore (L' := [some (vR 8 (i0)), some (vI (x1)), some (vI (x2)), some (vI (x3)), some (vI (x4)), some (vI (r17)), some (vI ((gA m18 37 j25 (r17).toNatClampNeg)))]) dX8_policy_88 rfl rfl ?_
  refine wp_aload_n dX8_policy_90 rfl ?_
  refine cp_getS (y := 4) (f := 1028) (t := 40) (by decide) (by decide) rfl rfl fl_X8_21 dX8_policy_91 ho24 ?_
  refine wp_iload_n dX8_policy_94 rfl ?_
  refine cp_aald (c := 40) (t := 37) rfl (by decide) rfl (show vp_in (x3) (len 40) from c9) dX8_policy_95 ho26 ?_
  refine wp_iload dX8_policy_96 rfl ?_
  refine wp_iload dX8_policy_98 rfl ?_
  obtain ⟨m28, e29, h⟩ := wr_e h
  refine cp_iast (c := 37) e29 rfl (by decide) (show vp_in (r17) (len 37) from c27) dX8_policy_100 ?_
  refine wp_iload dX8_policy_101 rfl ?_
  obtain ⟨q1, q2, q3⟩ := cs_e h
  subst q1
  subst q2
  exact wp_ireturn rfl dX8_policy_103 ⟨⟨_, rfl, rfl⟩, rfl⟩
def b8_X8_policy_24 (i0 : Nat) (x1 : Int32) (x2 : Int32) (x3 : Int32) (x4 : Int32) (s0 : Int32) (m : CM) : CR (Int32 ⊕ Nat) :=
  if s0 = 0 then some (.inr 0, m, 1) else
  if x1 = (-1) then
    b8_X8_policy_42 (i0) (x1) (x2) (x3) (x4) (1) m
  else
    if x2 = (-1) then
      b8_X8_policy_42 (i0) (x1) (x2) (x3) (x4) (0) m
    else
      b8_X8_policy_42 (i0) (x1) (x2) (x3) (x4) (1) m
theorem w8_X8_policy_24 {r : Int32 ⊕ Nat} {m9 : CM} {i0 : Nat} {x1 : Int32} {x2 : Int32} {x3 : Int32} {x4 : Int32} {s0 : Int32} {l5 : Option sV} {l6 : Option sV} {m : CM} {n9 : Nat} (h : b8_X8_policy_24 i0 x1 x2 x3 x4 s0 m = some (r, m9, n9)) : WP mX8_policy (9) n9 24 [some (vR 8 (i0)), some (vI (x1)), some (vI (x2)), some (vI (x3)), some (vI (x4)), l5, l6] [vI (s0)] (cM m out rho) (PcE out rho r false m9) (XcE out rho r m9) := by
  unfold b8_X8_policy_24 at h
  by_cases c1 : s0 = 0
  · replace h := itp c1 h
    obtain ⟨q1, q2, q3⟩ := cs_e h
    subst q1
    subst q2
    subst q3
    exact wp_callS (k1 := 1) (k2 := 0) (As := [vI (s0)]) (rest := []) (w8_mustExist0 c1) okX8_mustExist sm_X8_mustExist rfl ml_X8_58 dX8_policy_24 rfl (by decide) (Nat.le_refl _) rfl (Nat.le_of_ble_eq_true rfl) (fun E S' z => ⟨⟨0, rfl, by decide, z.1⟩, z.2⟩) (fun r' S' z => z.elim)
  replace h := itn c1 h
  refine wp_callS (k1 := 0) (k2 := _) (As := [vI (s0)]) (rest := []) (w8_mustExist1 c1) okX8_mustExist sm_X8_mustExist rfl ml_X8_58 dX8_policy_24 rfl (by decide) (Nat.le_of_eq (Nat.zero_add _)) rfl (Nat.le_of_ble_eq_true rfl) (fun _ _ z => z.elim) (fun r' S' z => ?_)
  obtain ⟨rfl, rfl⟩ := z
  show WP _ _ _ _ [some (vR 8 (i0)), some (vI (x1)), some (vI (x2)), some (vI (x3)), some (vI (x4)), l5, l6] [] _ _ _
  refine wp_iload_n dX8_policy_27 rfl ?_
  refine wp_iconst (v := (-1)) dX8_policy_28 (by decide) ?_
  refine wp_icmp_eq (tgt := 37) dX8_policy_29 (by decide) (fun c2 => ?_) (fun c2 => ?_)
  · replace h := itp c2 h
    refine wp_iconst (v := 1) dX8_policy_37 (by decide) ?_
    refine wp_goto (tgt := 42) dX8_policy_38 (by decide) ?_
    exact w8_X8_policy_42 h
  · replace h := itn c2 h
    refine wp_iload_n dX8_policy_32 rfl ?_
    refine wp_iconst (v := (-1)) dX8_policy_33 (by decide) ?_
    refine wp_icmp_eq (tgt := 41) dX8_policy_34 (by decide) (fun c3 => ?_) (fun c3 => ?_)
    · replace h := itp c3 h
      refine wp_iconst (v := 0) dX8_policy_41 (by decide) ?_
      exact w8_X8_policy_42 h
    · replace h := itn c3 h
      refine wp_iconst (v := 1) dX8_policy_37 (by decide) ?_
      refine wp_goto (tgt := 42) dX8_policy_38 (by decide) ?_
      exact w8_X8_policy_42 h
def f8_X8_policy (i0 : Nat) (x1 : Int32) (x2 : Int32) (x3 : Int32) (x4 : Int32) (m : CM) : CR (Int32 ⊕ Nat) :=
  cb (f8_X8_isWithin (x1) ((-1)) (6) m) fun r1 m2 =>
  if r1 = 0 then
    b8_X8_policy_24 (i0) (x1) (x2) (x3) (x4) (0) m2
  else
    cb (f8_X8_isWithin (x2) ((-1)) (5) m2) fun r8 m9 =>
    if r8 = 0 then
      b8_X8_policy_24 (i0) (x1) (x2) (x3) (x4) (0) m9
    else
      b8_X8_policy_24 (i0) (x1) (x2) (x3) (x4) (1) m9
theorem w8_X8_policy {r : Int32 ⊕ Nat} {m9 : CM} {i0 : Nat} {x1 : Int32} {x2 : Int32} {x3 : Int32} {x4 : Int32} {m : CM} {n9 : Nat} (h : f8_X8_policy i0 x1 x2 x3 x4 m = some (r, m9, n9)) : Spec mX8_policy (9) n9 [vR 8 (i0), vI (x1), vI (x2), vI (x3), vI (x4)] (cM m out rho) (PcE out rho r false m9) (XcE out rho r m9) := by
  unfold f8_X8_policy at h
  refine spec_of (by decide) rfl (by simp [catS, cat1]) (Nat.le_of_ble_eq_true rfl) ?_
  show WP mX8_policy (9) n9 0 [some (vR 8 (i0)), some (vI (x1)), some (vI (x2)), some (vI (x3)), some (vI (x4)), none, none] [] (cM m out rho) (PcE out rho r false m9) (XcE out rho r m9)
  refine wp_iload_n dX8_policy_0 rfl ?_
  refine wp_iconst (v := (-1)) dX8_policy_1 (by decide) ?_
  refine wp_bipush (v := 6) dX8_policy_2 (by decide) ?_
  obtain ⟨r1, m2, n3, n4, hp5, h, en6⟩ := cb_e h
  refine wp_callS (k1 := n3) (k2 := n4) (As := [vI (x1), vI ((-1)), vI (6)]) (rest := []) (w8_X8_isWithin hp5) okX8_isWithin sm_X8_isWithin rfl ml_X8_54 dX8_policy_4 rfl (by decide) (Nat.le_of_eq en6) rfl (Nat.le_of_ble_eq_true rfl) (fun _ _ z => z.elim) (fun r' S' z => ?_)
  obtain ⟨rfl, rfl⟩ := z
  show WP _ _ _ _ [some (vR 8 (i0)), some (vI (x1)), some (vI (x2)), some (vI (x3)), some (vI (x4)), none, none] [vI (r1)] _ _ _
  refine wp_if_eq (tgt := 23) dX8_policy_7 (by decide) (fun c7 => ?_) (fun c7 => ?_)
  · replace h := itp c7 h
    refine wp_iconst (v := 0) dX8_policy_23 (by decide) ?_
    exact w8_X8_policy_24 h
  · replace h := itn c7 h
    refine wp_iload_n dX8_policy_10 rfl ?_
    refine wp_iconst (v := (-1)) dX8_policy_11 (by decide) ?_
    refine wp_iconst (v := 5) dX8_policy_12 (by decide) ?_
    obtain ⟨r8, m9, n10, n11, hp12, h, en13⟩ := cb_e h
    refine wp_callS (k1 := n10) (k2 := n11) (As := [vI (x2), vI ((-1)), vI (5)]) (rest := []) (w8_X8_isWithin hp12) okX8_isWithin sm_X8_isWithin rfl ml_X8_54 dX8_policy_13 rfl (by decide) (Nat.le_of_eq en13) rfl (Nat.le_of_ble_eq_true rfl) (fun _ _ z => z.elim) (fun r' S' z => ?_)
    obtain ⟨rfl, rfl⟩ := z
    show WP _ _ _ _ [some (vR 8 (i0)), some (vI (x1)), some (vI (x2)), some (vI (x3)), some (vI (x4)), none, none] [vI (r8)] _ _ _
    refine wp_if_eq (tgt := 23) dX8_policy_16 (by decide) (fun c14 => ?_) (fun c14 => ?_)
    · replace h := itp c14 h
      refine wp_iconst (v := 0) dX8_policy_23 (by decide) ?_
      exact w8_X8_policy_24 h
    · replace h := itn c14 h
      refine wp_iconst (v := 1) dX8_policy_19 (by decide) ?_
      refine wp_goto (tgt := 24) dX8_policy_20 (by decide) ?_
      exact w8_X8_policy_24 h
def f8_X8_work (i0 : Nat) (x1 : Int32) (x2 : Int32) (m : CM) : CR (Int32 ⊕ Nat) :=
  cb (f8_X8_isWithin (x1) (0) (5) m) fun r1 m2 =>
  if r1 = 0 then some (.inr 0, m2, 1) else
  cb (f8_X8_isWithin (x2) (0) (50) m2) fun r8 m9 =>
  if r8 = 0 then some (.inr 1, m9, 1) else
  od (gR m9 1029 i0) fun j15 =>
  if vq (x1) 6 then
  od (gO m9 41 j15 (x1).toNatClampNeg) fun j18 =>
  wr (sI m9 768 j18 (x2)) fun m20 =>
  some (.inl ((gI m9 768 j18)), m20, 0)
  else none
theorem w8_X8_work {r : Int32 ⊕ Nat} {m9 : CM} {i0 : Nat} {x1 : Int32} {x2 : Int32} {m : CM} {n9 : Nat} (h : f8_X8_work i0 x1 x2 m = some (r, m9, n9)) : Spec mX8_work (9) n9 [vR 8 (i0), vI (x1), vI (x2)] (cM m out rho) (PcE out rho r false m9) (XcE out rho r m9) := by
  unfold f8_X8_work at h
  refine spec_of (by decide) rfl (by simp [catS, cat1]) (Nat.le_of_ble_eq_true rfl) ?_
  show WP mX8_work (9) n9 0 [some (vR 8 (i0)), some (vI (x1)), some (vI (x2)), none, none] [] (cM m out rho) (PcE out rho r false m9) (XcE out rho r m9)
  refine wp_iload_n dX8_work_0 rfl ?_
  refine wp_iconst (v := 0) dX8_work_1 (by decide) ?_
  refine wp_iconst (v := 5) dX8_work_2 (by decide) ?_
  obtain ⟨r1, m2, n3, n4, hp5, h, en6⟩ := cb_e h
  refine wp_callS (k1 := n3) (k2 := n4) (As := [vI (x1), vI (0), vI (5)]) (rest := []) (w8_X8_isWithin hp5) okX8_isWithin sm_X8_isWithin rfl ml_X8_54 dX8_work_3 rfl (by decide) (Nat.le_of_eq en6) rfl (Nat.le_of_ble_eq_true rfl) (fun _ _ z => z.elim) (fun r' S' z => ?_)
  obtain ⟨rfl, rfl⟩ := z
  show WP _ _ _ _ [some (vR 8 (i0)), some (vI (x1)), some (vI (x2)), none, none] [vI (r1)] _ _ _
  by_cases c7 : r1 = 0
  · replace h := itp c7 h
    obtain ⟨q1, q2, q3⟩ := cs_e h
    subst q1
    subst q2
    subst q3
    exact wp_callS (k1 := 1) (k2 := 0) (As := [vI (r1)]) (rest := []) (w8_mustExist0 c7) okX8_mustExist sm_X8_mustExist rfl ml_X8_58 dX8_work_6 rfl (by decide) (Nat.le_refl _) rfl (Nat.le_of_ble_eq_true rfl) (fun E S' z => ⟨⟨0, rfl, by decide, z.1⟩, z.2⟩) (fun r' S' z => z.elim)
  replace h := itn c7 h
  refine wp_callS (k1 := 0) (k2 := _) (As := [vI (r1)]) (rest := []) (w8_mustExist1 c7) okX8_mustExist sm_X8_mustExist rfl ml_X8_58 dX8_work_6 rfl (by decide) (Nat.le_of_eq (Nat.zero_add _)) rfl (Nat.le_of_ble_eq_true rfl) (fun _ _ z => z.elim) (fun r' S' z => ?_)
  obtain ⟨rfl, rfl⟩ := z
  show WP _ _ _ _ [some (vR 8 (i0)), some (vI (x1)), some (vI (x2)), none, none] [] _ _ _
  refine wp_iload_n dX8_work_9 rfl ?_
  refine wp_iconst (v := 0) dX8_work_10 (by decide) ?_
  refine wp_bipush (v := 50) dX8_work_11 (by decide) ?_
  obtain ⟨r8, m9, n10, n11, hp12, h, en13⟩ := cb_e h
  refine wp_callS (k1 := n10) (k2 := n11) (As := [vI (x2), vI (0), vI (50)]) (rest := []) (w8_X8_isWithin hp12) okX8_isWithin sm_X8_isWithin rfl ml_X8_54 dX8_work_13 rfl (by decide) (Nat.le_of_eq en13) rfl (Nat.le_of_ble_eq_true rfl) (fun _ _ z => z.elim) (fun r' S' z => ?_)
  obtain ⟨rfl, rfl⟩ := z
  show WP _ _ _ _ [some (vR 8 (i0)), some (vI (x1)), some (vI (x2)), none, none] [vI (r8)] _ _ _
  by_cases c14 : r8 = 0
  · replace h := itp c14 h
    obtain ⟨q1, q2, q3⟩ := cs_e h
    subst q1
    subst q2
    subst q3
    exact wp_callS (k1 := 1) (k2 := 0) (As := [vI (r8)]) (rest := []) (w8_mustFit0 c14) okX8_mustFit sm_X8_mustFit rfl ml_X8_62 dX8_work_16 rfl (by decide) (Nat.le_refl _) rfl (Nat.le_of_ble_eq_true rfl) (fun E S' z => ⟨⟨1, rfl, by decide, z.1⟩, z.2⟩) (fun r' S' z => z.elim)
  replace h := itn c14 h
  refine wp_callS (k1 := 0) (k2 := _) (As := [vI (r8)]) (rest := []) (w8_mustFit1 c14) okX8_mustFit sm_X8_mustFit rfl ml_X8_62 dX8_work_16 rfl (by decide) (Nat.le_of_eq (Nat.zero_add _)) rfl (Nat.le_of_ble_eq_true rfl) (fun _ _ z => z.elim) (fun r' S' z => ?_)
  obtain ⟨rfl, rfl⟩ := z
  show WP _ _ _ _ [some (vR 8 (i0)), some (vI (x1)), some (vI (x2)), none, none] [] _ _ _
  refine wp_aload_n dX8_work_19 rfl ?_
  obtain ⟨j15, ho16, h⟩ := od_e h
  refine cp_getS (y := 5) (f := 1029) (t := 41) (by decide) (by decide) rfl rfl fl_X8_26 dX8_work_20 ho16 ?_
  refine wp_iload_n dX8_work_23 rfl ?_
  obtain ⟨c17, h⟩ := ock h
  obtain ⟨j18, ho19, h⟩ := od_e h
  refine cp_aald (c := 41) (t := 6) rfl (by decide) rfl (show vp_in (x1) (len 41) from c17) dX8_work_24 ho19 ?_
  refine wp_astore_n (L' := [some (vR 8 (i0)), some (vI (x1)), some (vI (x2)), some (vR 6 (j18)), none]) dX8_work_25 rfl rfl ?_
  refine wp_aload_n dX8_work_26 rfl ?_
  refine cp_getI (y := 0) (f := 768) (by decide) (by decide) rfl rfl fl_X8_65 dX8_work_27 ?_
  refine wp_istore (L' := [some (vR 8 (i0)), some (vI (x1)), some (vI (x2)), some (vR 6 (j18)), some (vI ((gI m9 768 j18)))]) dX8_work_30 rfl rfl ?_
  refine wp_aload_n dX8_work_32 rfl ?_
  refine wp_iload_n dX8_work_33 rfl ?_
  obtain ⟨m20, e21, h⟩ := wr_e h
  refine cp_putI (y := 0) (f := 768) e21 (by decide) (by decide) rfl rfl (Or.inl rfl) fl_X8_65 dX8_work_34 rfl ?_
  refine wp_iload dX8_work_37 rfl ?_
  obtain ⟨q1, q2, q3⟩ := cs_e h
  subst q1
  subst q2
  exact wp_ireturn rfl dX8_work_39 ⟨⟨_, rfl, rfl⟩, rfl⟩
def l8_X3_restart_12 : Nat → Nat → Int32 → CM → CR (Int32)
  | 0, _, _, _ => none
  | n + 1, i0, x2, m =>
  if 2 ≤ x2 then
    some (0, m, 0)
  else
    od (gR m 386 i0) fun j2 =>
    if vq (x2) 2 then
    wr (sA m 35 j2 (x2).toNatClampNeg (0)) fun m5 =>
    od (gR m5 387 i0) fun j7 =>
    wr (sA m5 36 j7 (x2).toNatClampNeg (0)) fun m9 =>
    l8_X3_restart_12 n (i0) (x2 + 1) m9
    else none
theorem w8_X3_restart_12 {r : Int32} {m9 : CM} : ∀ (n : Nat) {i0 : Nat} {x2 : Int32} {l1 : Option sV} {m : CM} {n9 : Nat}, l8_X3_restart_12 n i0 x2 m = some (r, m9, n9) → WP mX3_restart (0) n9 12 [some (vR 3 (i0)), l1, some (vI (x2))] [] (cM m out rho) (Pc out rho none m9) NX := by
  intro n
  induction n with
  | zero =>
    intro i0 x2 l1 m n9 h
    rw [l8_X3_restart_12] at h
    cases h
  | succ n ih =>
    intro i0 x2 l1 m n9 h
    rw [l8_X3_restart_12] at h
    refine wp_iload_n dX3_restart_12 rfl ?_
    refine wp_iconst (v := 2) dX3_restart_13 (by decide) ?_
    refine wp_icmp_ge (tgt := 37) dX3_restart_14 (by decide) (fun c1 => ?_) (fun c1 => ?_)
    · replace h := itp c1 h
      obtain ⟨q1, q2, q3⟩ := cs_e h
      clear q1
      subst q2
      exact wp_return rfl dX3_restart_37 ⟨rfl, rfl⟩
    · replace h := itn c1 h
      refine wp_aload_n dX3_restart_17 rfl ?_
      obtain ⟨j2, ho3, h⟩ := od_e h
      refine cp_getS (y := 2) (f := 386) (t := 35) (by decide) (by decide) rfl rfl fl_X3_9 dX3_restart_18 ho3 ?_
      refine wp_iload_n dX3_restart_21 rfl ?_
      refine wp_iconst (v := 0) dX3_restart_22 (by decide) ?_
      obtain ⟨c4, h⟩ := ock h
      obtain ⟨m5, e6, h⟩ := wr_e h
      refine cp_iast (c := 35) e6 rfl (by decide) (show vp_in (x2) (len 35) from c4) dX3_restart_23 ?_
      refine wp_aload_n dX3_restart_24 rfl ?_
      obtain ⟨j7, ho8, h⟩ := od_e h
      refine cp_getS (y := 3) (f := 387) (t := 36) (by decide) (by decide) rfl rfl fl_X3_15 dX3_restart_25 ho8 ?_
      refine wp_iload_n dX3_restart_28 rfl ?_
      refine wp_iconst (v := 0) dX3_restart_29 (by decide) ?_
      obtain ⟨m9, e10, h⟩ := wr_e h
      refine cp_iast (c := 36) e10 rfl (by decide) (show vp_in (x2) (len 36) from c4) dX3_restart_30 ?_
      refine wp_iinc (v := x2 + 1) (L' := [some (vR 3 (i0)), l1, some (vI (x2 + 1))]) dX3_restart_31 rfl rfl rfl ?_
      refine wp_goto (tgt := 12) dX3_restart_34 (by decide) ?_
      exact ih h
def f8_X3_restart (i0 : Nat) (x1 : Int32) (m : CM) : CR (Int32) :=
  wr (sI m 384 i0 (x1)) fun m1 =>
  wr (sI m1 385 i0 (0)) fun m3 =>
  l8_X3_restart_12 FU (i0) (0) m3
theorem w8_X3_restart {r : Int32} {m9 : CM} {i0 : Nat} {x1 : Int32} {m : CM} {n9 : Nat} (h : f8_X3_restart i0 x1 m = some (r, m9, n9)) : Spec mX3_restart (0) n9 [vR 3 (i0), vI (x1)] (cM m out rho) (Pc out rho none m9) NX := by
  unfold f8_X3_restart at h
  refine spec_of (by decide) rfl (by simp [catS, cat1]) (Nat.le_of_ble_eq_true rfl) ?_
  show WP mX3_restart (0) n9 0 [some (vR 3 (i0)), some (vI (x1)), none] [] (cM m out rho) (Pc out rho none m9) NX
  refine wp_aload_n dX3_restart_0 rfl ?_
  refine wp_iload_n dX3_restart_1 rfl ?_
  obtain ⟨m1, e2, h⟩ := wr_e h
  refine cp_putI (y := 0) (f := 384) e2 (by decide) (by decide) rfl rfl (Or.inl rfl) fl_X3_18 dX3_restart_2 rfl ?_
  refine wp_aload_n dX3_restart_5 rfl ?_
  refine wp_iconst (v := 0) dX3_restart_6 (by decide) ?_
  obtain ⟨m3, e4, h⟩ := wr_e h
  refine cp_putI (y := 1) (f := 385) e4 (by decide) (by decide) rfl rfl (Or.inl rfl) fl_X3_22 dX3_restart_7 rfl ?_
  refine wp_iconst (v := 0) dX3_restart_10 (by decide) ?_
  refine wp_istore_n (L' := [some (vR 3 (i0)), some (vI (x1)), some (vI (0))]) dX3_restart_11 rfl rfl ?_
  exact w8_X3_restart_12 FU h
def f8_X8_canary (i0 : Nat) (x1 : Int32) (x2 : Int32) (m : CM) : CR (Int32 ⊕ Nat) :=
  cb (f8_X8_isWithin (x1) (0) (5) m) fun r1 m2 =>
  if r1 = 0 then some (.inr 0, m2, 1) else
  cb (f8_X8_isWithin (x2) (0) (100) m2) fun r8 m9 =>
  if r8 = 0 then some (.inr 1, m9, 1) else
  od (gR m9 1029 i0) fun j15 =>
  if vq (x1) 6 then
  od (gO m9 41 j15 (x1).toNatClampNeg) fun j18 =>
  od (gR m9 773 j18) fun j20 =>
  cb (f8_X3_restart j20 (x2) m9) fun _ m23 =>
  some (.inl ((gI m9 384 j20)), m23, 0)
  else none
theorem w8_X8_canary {r : Int32 ⊕ Nat} {m9 : CM} {i0 : Nat} {x1 : Int32} {x2 : Int32} {m : CM} {n9 : Nat} (h : f8_X8_canary i0 x1 x2 m = some (r, m9, n9)) : Spec mX8_canary (9) n9 [vR 8 (i0), vI (x1), vI (x2)] (cM m out rho) (PcE out rho r false m9) (XcE out rho r m9) := by
  unfold f8_X8_canary at h
  refine spec_of (by decide) rfl (by simp [catS, cat1]) (Nat.le_of_ble_eq_true rfl) ?_
  show WP mX8_canary (9) n9 0 [some (vR 8 (i0)), some (vI (x1)), some (vI (x2)), none, none] [] (cM m out rho) (PcE out rho r false m9) (XcE out rho r m9)
  refine wp_iload_n dX8_canary_0 rfl ?_
  refine wp_iconst (v := 0) dX8_canary_1 (by decide) ?_
  refine wp_iconst (v := 5) dX8_canary_2 (by decide) ?_
  obtain ⟨r1, m2, n3, n4, hp5, h, en6⟩ := cb_e h
  refine wp_callS (k1 := n3) (k2 := n4) (As := [vI (x1), vI (0), vI (5)]) (rest := []) (w8_X8_isWithin hp5) okX8_isWithin sm_X8_isWithin rfl ml_X8_54 dX8_canary_3 rfl (by decide) (Nat.le_of_eq en6) rfl (Nat.le_of_ble_eq_true rfl) (fun _ _ z => z.elim) (fun r' S' z => ?_)
  obtain ⟨rfl, rfl⟩ := z
  show WP _ _ _ _ [some (vR 8 (i0)), some (vI (x1)), some (vI (x2)), none, none] [vI (r1)] _ _ _
  by_cases c7 : r1 = 0
  · replace h := itp c7 h
    obtain ⟨q1, q2, q3⟩ := cs_e h
    subst q1
    subst q2
    subst q3
    exact wp_callS (k1 := 1) (k2 := 0) (As := [vI (r1)]) (rest := []) (w8_mustExist0 c7) okX8_mustExist sm_X8_mustExist rfl ml_X8_58 dX8_canary_6 rfl (by decide) (Nat.le_refl _) rfl (Nat.le_of_ble_eq_true rfl) (fun E S' z => ⟨⟨0, rfl, by decide, z.1⟩, z.2⟩) (fun r' S' z => z.elim)
  replace h := itn c7 h
  refine wp_callS (k1 := 0) (k2 := _) (As := [vI (r1)]) (rest := []) (w8_mustExist1 c7) okX8_mustExist sm_X8_mustExist rfl ml_X8_58 dX8_canary_6 rfl (by decide) (Nat.le_of_eq (Nat.zero_add _)) rfl (Nat.le_of_ble_eq_true rfl) (fun _ _ z => z.elim) (fun r' S' z => ?_)
  obtain ⟨rfl, rfl⟩ := z
  show WP _ _ _ _ [some (vR 8 (i0)), some (vI (x1)), some (vI (x2)), none, none] [] _ _ _
  refine wp_iload_n dX8_canary_9 rfl ?_
  refine wp_iconst (v := 0) dX8_canary_10 (by decide) ?_
  refine wp_bipush (v := 100) dX8_canary_11 (by decide) ?_
  obtain ⟨r8, m9, n10, n11, hp12, h, en13⟩ := cb_e h
  refine wp_callS (k1 := n10) (k2 := n11) (As := [vI (x2), vI (0), vI (100)]) (rest := []) (w8_X8_isWithin hp12) okX8_isWithin sm_X8_isWithin rfl ml_X8_54 dX8_canary_13 rfl (by decide) (Nat.le_of_eq en13) rfl (Nat.le_of_ble_eq_true rfl) (fun _ _ z => z.elim) (fun r' S' z => ?_)
  obtain ⟨rfl, rfl⟩ := z
  show WP _ _ _ _ [some (vR 8 (i0)), some (vI (x1)), some (vI (x2)), none, none] [vI (r8)] _ _ _
  by_cases c14 : r8 = 0
  · replace h := itp c14 h
    obtain ⟨q1, q2, q3⟩ := cs_e h
    subst q1
    subst q2
    subst q3
    exact wp_callS (k1 := 1) (k2 := 0) (As := [vI (r8)]) (rest := []) (w8_mustFit0 c14) okX8_mustFit sm_X8_mustFit rfl ml_X8_62 dX8_canary_16 rfl (by decide) (Nat.le_refl _) rfl (Nat.le_of_ble_eq_true rfl) (fun E S' z => ⟨⟨1, rfl, by decide, z.1⟩, z.2⟩) (fun r' S' z => z.elim)
  replace h := itn c14 h
  refine wp_callS (k1 := 0) (k2 := _) (As := [vI (r8)]) (rest := []) (w8_mustFit1 c14) okX8_mustFit sm_X8_mustFit rfl ml_X8_62 dX8_canary_16 rfl (by decide) (Nat.le_of_eq (Nat.zero_add _)) rfl (Nat.le_of_ble_eq_true rfl) (fun _ _ z => z.elim) (fun r' S' z => ?_)
  obtain ⟨rfl, rfl⟩ := z
  show WP _ _ _ _ [some (vR 8 (i0)), some (vI (x1)), some (vI (x2)), none, none] [] _ _ _
  refine wp_aload_n dX8_canary_19 rfl ?_
  obtain ⟨j15, ho16, h⟩ := od_e h
  refine cp_getS (y := 5) (f := 1029) (t := 41) (by decide) (by decide) rfl rfl fl_X8_26 dX8_canary_20 ho16 ?_
  refine wp_iload_n dX8_canary_23 rfl ?_
  obtain ⟨c17, h⟩ := ock h
  obtain ⟨j18, ho19, h⟩ := od_e h
  refine cp_aald (c := 41) (t := 6) rfl (by decide) rfl (show vp_in (x1) (len 41) from c17) dX8_canary_24 ho19 ?_
  obtain ⟨j20, ho21, h⟩ := od_e h
  refine cp_getS (y := 5) (f := 773) (t := 3) (by decide) (by decide) rfl rfl fl_X8_119 dX8_canary_25 ho21 ?_
  refine wp_astore_n (L' := [some (vR 8 (i0)), some (vI (x1)), some (vI (x2)), some (vR 3 (j20)), none]) dX8_canary_28 rfl rfl ?_
  refine wp_aload_n dX8_canary_29 rfl ?_
  refine cp_getI (y := 0) (f := 384) (by decide) (by decide) rfl rfl fl_X8_123 dX8_canary_30 ?_
  refine wp_istore (L' := [some (vR 8 (i0)), some (vI (x1)), some (vI (x2)), some (vR 3 (j20)), some (vI ((gI m9 384 j20)))]) dX8_canary_33 rfl rfl ?_
  refine wp_aload_n dX8_canary_35 rfl ?_
  refine wp_iload_n dX8_canary_36 rfl ?_
  obtain ⟨r22, m23, n24, n25, hp26, h, en27⟩ := cb_e h
  refine wp_callV (k1 := n24) (k2 := n25) (As := [vI (x2)]) (rest := []) (w8_X3_restart hp26) okX3_restart ivX3_restart rfl (by decide) ml_X8_128 dX8_canary_37 rfl (by decide) (Nat.le_of_eq en27) rfl (Nat.le_of_ble_eq_true rfl) (fun _ _ z => z.elim) (fun r' S' z => ?_)
  obtain ⟨rfl, rfl⟩ := z
  show WP _ _ _ _ [some (vR 8 (i0)), some (vI (x1)), some (vI (x2)), some (vR 3 (j20)), some (vI ((gI m9 384 j20)))] [] _ _ _
  refine wp_iload dX8_canary_40 rfl ?_
  obtain ⟨q1, q2, q3⟩ := cs_e h
  subst q1
  subst q2
  exact wp_ireturn rfl dX8_canary_42 ⟨⟨_, rfl, rfl⟩, rfl⟩
def f8_X8_canaryShare (i0 : Nat) (x1 : Int32) (m : CM) : CR (Int32 ⊕ Nat) :=
  cb (f8_X8_isWithin (x1) (0) (5) m) fun r1 m2 =>
  if r1 = 0 then some (.inr 0, m2, 1) else
  od (gR m2 1029 i0) fun j8 =>
  if vq (x1) 6 then
  od (gO m2 41 j8 (x1).toNatClampNeg) fun j11 =>
  od (gR m2 773 j11) fun j13 =>
  some (.inl ((gI m2 384 j13)), m2, 0)
  else none
theorem w8_X8_canaryShare {r : Int32 ⊕ Nat} {m9 : CM} {i0 : Nat} {x1 : Int32} {m : CM} {n9 : Nat} (h : f8_X8_canaryShare i0 x1 m = some (r, m9, n9)) : Spec mX8_canaryShare (9) n9 [vR 8 (i0), vI (x1)] (cM m out rho) (PcE out rho r false m9) (XcE out rho r m9) := by
  unfold f8_X8_canaryShare at h
  refine spec_of (by decide) rfl (by simp [catS, cat1]) (Nat.le_of_ble_eq_true rfl) ?_
  show WP mX8_canaryShare (9) n9 0 [some (vR 8 (i0)), some (vI (x1))] [] (cM m out rho) (PcE out rho r false m9) (XcE out rho r m9)
  refine wp_iload_n dX8_canaryShare_0 rfl ?_
  refine wp_iconst (v := 0) dX8_canaryShare_1 (by decide) ?_
  refine wp_iconst (v := 5) dX8_canaryShare_2 (by decide) ?_
  obtain ⟨r1, m2, n3, n4, hp5, h, en6⟩ := cb_e h
  refine wp_callS (k1 := n3) (k2 := n4) (As := [vI (x1), vI (0), vI (5)]) (rest := []) (w8_X8_isWithin hp5) okX8_isWithin sm_X8_isWithin rfl ml_X8_54 dX8_canaryShare_3 rfl (by decide) (Nat.le_of_eq en6) rfl (Nat.le_of_ble_eq_true rfl) (fun _ _ z => z.elim) (fun r' S' z => ?_)
  obtain ⟨rfl, rfl⟩ := z
  show WP _ _ _ _ [some (vR 8 (i0)), some (vI (x1))] [vI (r1)] _ _ _
  by_cases c7 : r1 = 0
  · replace h := itp c7 h
    obtain ⟨q1, q2, q3⟩ := cs_e h
    subst q1
    subst q2
    subst q3
    exact wp_callS (k1 := 1) (k2 := 0) (As := [vI (r1)]) (rest := []) (w8_mustExist0 c7) okX8_mustExist sm_X8_mustExist rfl ml_X8_58 dX8_canaryShare_6 rfl (by decide) (Nat.le_refl _) rfl (Nat.le_of_ble_eq_true rfl) (fun E S' z => ⟨⟨0, rfl, by decide, z.1⟩, z.2⟩) (fun r' S' z => z.elim)
  replace h := itn c7 h
  refine wp_callS (k1 := 0) (k2 := _) (As := [vI (r1)]) (rest := []) (w8_mustExist1 c7) okX8_mustExist sm_X8_mustExist rfl ml_X8_58 dX8_canaryShare_6 rfl (by decide) (Nat.le_of_eq (Nat.zero_add _)) rfl (Nat.le_of_ble_eq_true rfl) (fun _ _ z => z.elim) (fun r' S' z => ?_)
  obtain ⟨rfl, rfl⟩ := z
  show WP _ _ _ _ [some (vR 8 (i0)), some (vI (x1))] [] _ _ _
  refine wp_aload_n dX8_canaryShare_9 rfl ?_
  obtain ⟨j8, ho9, h⟩ := od_e h
  refine cp_getS (y := 5) (f := 1029) (t := 41) (by decide) (by decide) rfl rfl fl_X8_26 dX8_canaryShare_10 ho9 ?_
  refine wp_iload_n dX8_canaryShare_13 rfl ?_
  obtain ⟨c10, h⟩ := ock h
  obtain ⟨j11, ho12, h⟩ := od_e h
  refine cp_aald (c := 41) (t := 6) rfl (by decide) rfl (show vp_in (x1) (len 41) from c10) dX8_canaryShare_14 ho12 ?_
  obtain ⟨j13, ho14, h⟩ := od_e h
  refine cp_getS (y := 5) (f := 773) (t := 3) (by decide) (by decide) rfl rfl fl_X8_119 dX8_canaryShare_15 ho14 ?_
  refine cp_getI (y := 0) (f := 384) (by decide) (by decide) rfl rfl fl_X8_123 dX8_canaryShare_18 ?_
  obtain ⟨q1, q2, q3⟩ := cs_e h
  subst q1
  subst q2
  exact wp_ireturn rfl dX8_canaryShare_21 ⟨⟨_, rfl, rfl⟩, rfl⟩
def f8_X8_eyes (i0 : Nat) (x1 : Int32) (m : CM) : CR (Int32 ⊕ Nat) :=
  cb (f8_X8_isWithin (x1) (1) (7) m) fun r1 m2 =>
  if r1 = 0 then some (.inr 1, m2, 1) else
  wr (sI m2 1025 i0 (x1)) fun m8 =>
  some (.inl ((gI m2 1025 i0)), m8, 0)
theorem w8_X8_eyes {r : Int32 ⊕ Nat} {m9 : CM} {i0 : Nat} {x1 : Int32} {m : CM} {n9 : Nat} (h : f8_X8_eyes i0 x1 m = some (r, m9, n9)) : Spec mX8_eyes (9) n9 [vR 8 (i0), vI (x1)] (cM m out rho) (PcE out rho r false m9) (XcE out rho r m9) := by
  unfold f8_X8_eyes at h
  refine spec_of (by decide) rfl (by simp [catS, cat1]) (Nat.le_of_ble_eq_true rfl) ?_
  show WP mX8_eyes (9) n9 0 [some (vR 8 (i0)), some (vI (x1)), none] [] (cM m out rho) (PcE out rho r false m9) (XcE out rho r m9)
  refine wp_iload_n dX8_eyes_0 rfl ?_
  refine wp_iconst (v := 1) dX8_eyes_1 (by decide) ?_
  refine wp_bipush (v := 7) dX8_eyes_2 (by decide) ?_
  obtain ⟨r1, m2, n3, n4, hp5, h, en6⟩ := cb_e h
  refine wp_callS (k1 := n3) (k2 := n4) (As := [vI (x1), vI (1), vI (7)]) (rest := []) (w8_X8_isWithin hp5) okX8_isWithin sm_X8_isWithin rfl ml_X8_54 dX8_eyes_4 rfl (by decide) (Nat.le_of_eq en6) rfl (Nat.le_of_ble_eq_true rfl) (fun _ _ z => z.elim) (fun r' S' z => ?_)
  obtain ⟨rfl, rfl⟩ := z
  show WP _ _ _ _ [some (vR 8 (i0)), some (vI (x1)), none] [vI (r1)] _ _ _
  by_cases c7 : r1 = 0
  · replace h := itp c7 h
    obtain ⟨q1, q2, q3⟩ := cs_e h
    subst q1
    subst q2
    subst q3
    exact wp_callS (k1 := 1) (k2 := 0) (As := [vI (r1)]) (rest := []) (w8_mustFit0 c7) okX8_mustFit sm_X8_mustFit rfl ml_X8_62 dX8_eyes_7 rfl (by decide) (Nat.le_refl _) rfl (Nat.le_of_ble_eq_true rfl) (fun E S' z => ⟨⟨1, rfl, by decide, z.1⟩, z.2⟩) (fun r' S' z => z.elim)
  replace h := itn c7 h
  refine wp_callS (k1 := 0) (k2 := _) (As := [vI (r1)]) (rest := []) (w8_mustFit1 c7) okX8_mustFit sm_X8_mustFit rfl ml_X8_62 dX8_eyes_7 rfl (by decide) (Nat.le_of_eq (Nat.zero_add _)) rfl (Nat.le_of_ble_eq_true rfl) (fun _ _ z => z.elim) (fun r' S' z => ?_)
  obtain ⟨rfl, rfl⟩ := z
  show WP _ _ _ _ [some (vR 8 (i0)), some (vI (x1)), none] [] _ _ _
  refine wp_aload_n dX8_eyes_10 rfl ?_
  refine cp_getI (y := 1) (f := 1025) (by decide) (by decide) rfl rfl fl_X8_9 dX8_eyes_11 ?_
  refine wp_istore_n (L' := [some (vR 8 (i0)), some (vI (x1)), some (vI ((gI m2 1025 i0)))]) dX8_eyes_14 rfl rfl ?_
  refine wp_aload_n dX8_eyes_15 rfl ?_
  refine wp_iload_n dX8_eyes_16 rfl ?_
  obtain ⟨m8, e9, h⟩ := wr_e h
  refine cp_putI (y := 1) (f := 1025) e9 (by decide) (by decide) rfl rfl (Or.inl rfl) fl_X8_9 dX8_eyes_17 rfl ?_
  refine wp_iload_n dX8_eyes_20 rfl ?_
  obtain ⟨q1, q2, q3⟩ := cs_e h
  subst q1
  subst q2
  exact wp_ireturn rfl dX8_eyes_21 ⟨⟨_, rfl, rfl⟩, rfl⟩
def f8_X8_share (i0 : Nat) (x1 : Int32) (x2 : Int32) (m : CM) : CR (Int32 ⊕ Nat) :=
  cb (f8_X8_isWithin (x1) (0) (6) m) fun r1 m2 =>
  if r1 = 0 then some (.inr 0, m2, 1) else
  cb (f8_X8_isWithin (x2) (0) (100) m2) fun r8 m9 =>
  if r8 = 0 then some (.inr 1, m9, 1) else
  od (gR m9 1030 i0) fun j15 =>
  if vq (x1) 7 then
  od (gO m9 42 j15 (x1).toNatClampNeg) fun j18 =>
  wr (sI m9 257 j18 (x2)) fun m20 =>
  some (.inl ((gI m9 257 j18)), m20, 0)
  else none
theorem w8_X8_share {r : Int32 ⊕ Nat} {m9 : CM} {i0 : Nat} {x1 : Int32} {x2 : Int32} {m : CM} {n9 : Nat} (h : f8_X8_share i0 x1 x2 m = some (r, m9, n9)) : Spec mX8_share (9) n9 [vR 8 (i0), vI (x1), vI (x2)] (cM m out rho) (PcE out rho r false m9) (XcE out rho r m9) := by
  unfold f8_X8_share at h
  refine spec_of (by decide) rfl (by simp [catS, cat1]) (Nat.le_of_ble_eq_true rfl) ?_
  show WP mX8_share (9) n9 0 [some (vR 8 (i0)), some (vI (x1)), some (vI (x2)), none, none] [] (cM m out rho) (PcE out rho r false m9) (XcE out rho r m9)
  refine wp_iload_n dX8_share_0 rfl ?_
  refine wp_iconst (v := 0) dX8_share_1 (by decide) ?_
  refine wp_bipush (v := 6) dX8_share_2 (by decide) ?_
  obtain ⟨r1, m2, n3, n4, hp5, h, en6⟩ := cb_e h
  refine wp_callS (k1 := n3) (k2 := n4) (As := [vI (x1), vI (0), vI (6)]) (rest := []) (w8_X8_isWithin hp5) okX8_isWithin sm_X8_isWithin rfl ml_X8_54 dX8_share_4 rfl (by decide) (Nat.le_of_eq en6) rfl (Nat.le_of_ble_eq_true rfl) (fun _ _ z => z.elim) (fun r' S' z => ?_)
  obtain ⟨rfl, rfl⟩ := z
  show WP _ _ _ _ [some (vR 8 (i0)), some (vI (x1)), some (vI (x2)), none, none] [vI (r1)] _ _ _
  by_cases c7 : r1 = 0
  · replace h := itp c7 h
    obtain ⟨q1, q2, q3⟩ := cs_e h
    subst q1
    subst q2
    subst q3
    exact wp_callS (k1 := 1) (k2 := 0) (As := [vI (r1)]) (rest := []) (w8_mustExist0 c7) okX8_mustExist sm_X8_mustExist rfl ml_X8_58 dX8_share_7 rfl (by decide) (Nat.le_refl _) rfl (Nat.le_of_ble_eq_true rfl) (fun E S' z => ⟨⟨0, rfl, by decide, z.1⟩, z.2⟩) (fun r' S' z => z.elim)
  replace h := itn c7 h
  refine wp_callS (k1 := 0) (k2 := _) (As := [vI (r1)]) (rest := []) (w8_mustExist1 c7) okX8_mustExist sm_X8_mustExist rfl ml_X8_58 dX8_share_7 rfl (by decide) (Nat.le_of_eq (Nat.zero_add _)) rfl (Nat.le_of_ble_eq_true rfl) (fun _ _ z => z.elim) (fun r' S' z => ?_)
  obtain ⟨rfl, rfl⟩ := z
  show WP _ _ _ _ [some (vR 8 (i0)), some (vI (x1)), some (vI (x2)), none, none] [] _ _ _
  refine wp_iload_n dX8_share_10 rfl ?_
  refine wp_iconst (v := 0) dX8_share_11 (by decide) ?_
  refine wp_bipush (v := 100) dX8_share_12 (by decide) ?_
  obtain ⟨r8, m9, n10, n11, hp12, h, en13⟩ := cb_e h
  refine wp_callS (k1 := n10) (k2 := n11) (As := [vI (x2), vI (0), vI (100)]) (rest := []) (w8_X8_isWithin hp12) okX8_isWithin sm_X8_isWithin rfl ml_X8_54 dX8_share_14 rfl (by decide) (Nat.le_of_eq en13) rfl (Nat.le_of_ble_eq_true rfl) (fun _ _ z => z.elim) (fun r' S' z => ?_)
  obtain ⟨rfl, rfl⟩ := z
  show WP _ _ _ _ [some (vR 8 (i0)), some (vI (x1)), some (vI (x2)), none, none] [vI (r8)] _ _ _
  by_cases c14 : r8 = 0
  · replace h := itp c14 h
    obtain ⟨q1, q2, q3⟩ := cs_e h
    subst q1
    subst q2
    subst q3
    exact wp_callS (k1 := 1) (k2 := 0) (As := [vI (r8)]) (rest := []) (w8_mustFit0 c14) okX8_mustFit sm_X8_mustFit rfl ml_X8_62 dX8_share_17 rfl (by decide) (Nat.le_refl _) rfl (Nat.le_of_ble_eq_true rfl) (fun E S' z => ⟨⟨1, rfl, by decide, z.1⟩, z.2⟩) (fun r' S' z => z.elim)
  replace h := itn c14 h
  refine wp_callS (k1 := 0) (k2 := _) (As := [vI (r8)]) (rest := []) (w8_mustFit1 c14) okX8_mustFit sm_X8_mustFit rfl ml_X8_62 dX8_share_17 rfl (by decide) (Nat.le_of_eq (Nat.zero_add _)) rfl (Nat.le_of_ble_eq_true rfl) (fun _ _ z => z.elim) (fun r' S' z => ?_)
  obtain ⟨rfl, rfl⟩ := z
  show WP _ _ _ _ [some (vR 8 (i0)), some (vI (x1)), some (vI (x2)), none, none] [] _ _ _
  refine wp_aload_n dX8_share_20 rfl ?_
  obtain ⟨j15, ho16, h⟩ := od_e h
  refine cp_getS (y := 6) (f := 1030) (t := 42) (by decide) (by decide) rfl rfl fl_X8_32 dX8_share_21 ho16 ?_
  refine wp_iload_n dX8_share_24 rfl ?_
  obtain ⟨c17, h⟩ := ock h
  obtain ⟨j18, ho19, h⟩ := od_e h
  refine cp_aald (c := 42) (t := 2) rfl (by decide) rfl (show vp_in (x1) (len 42) from c17) dX8_share_25 ho19 ?_
  refine wp_astore_n (L' := [some (vR 8 (i0)), some (vI (x1)), some (vI (x2)), some (vR 2 (j18)), none]) dX8_share_26 rfl rfl ?_
  refine wp_aload_n dX8_share_27 rfl ?_
  refine cp_getI (y := 1) (f := 257) (by decide) (by decide) rfl rfl fl_X8_116 dX8_share_28 ?_
  refine wp_istore (L' := [some (vR 8 (i0)), some (vI (x1)), some (vI (x2)), some (vR 2 (j18)), some (vI ((gI m9 257 j18)))]) dX8_share_31 rfl rfl ?_
  refine wp_aload_n dX8_share_33 rfl ?_
  refine wp_iload_n dX8_share_34 rfl ?_
  obtain ⟨m20, e21, h⟩ := wr_e h
  refine cp_putI (y := 1) (f := 257) e21 (by decide) (by decide) rfl rfl (Or.inl rfl) fl_X8_116 dX8_share_35 rfl ?_
  refine wp_iload dX8_share_38 rfl ?_
  obtain ⟨q1, q2, q3⟩ := cs_e h
  subst q1
  subst q2
  exact wp_ireturn rfl dX8_share_40 ⟨⟨_, rfl, rfl⟩, rfl⟩
def f8_X7_init (i0 : Nat) (x1 : Int32) (x2 : Int32) (x3 : Int32) (m : CM) : CR (Int32) :=
  wr (sI m 899 i0 ((-1))) fun m1 =>
  wr (sI m1 901 i0 (1000000)) fun m3 =>
  wr (sI m3 902 i0 ((-1))) fun m5 =>
  wr (sI m5 903 i0 ((-1))) fun m7 =>
  if gV m7 55 i0 = false then
  cg 1 (
  wr (sNL m7 55 i0) fun m12 =>
  wr (sR m12 905 i0 (some (i0))) fun m14 =>
  wr (sI m14 909 i0 ((-1))) fun m16 =>
  wr (sI m16 911 i0 (8)) fun m18 =>
  wr (sI m18 896 i0 (x1)) fun m20 =>
  wr (sI m20 897 i0 (x2)) fun m22 =>
  if (x3 = 0 ∨ x3 = 1) then
  wr (sI m22 898 i0 (x3)) fun m25 =>
  some (0, m25, 0)
  else none)
  else none
theorem w8_X7_init {r : Int32} {m9 : CM} {i0 : Nat} {x1 : Int32} {x2 : Int32} {x3 : Int32} {m : CM} {n9 : Nat} (h : f8_X7_init i0 x1 x2 x3 m = some (r, m9, n9)) : Spec mX7_init (8) n9 [vR 7 (i0), vI (x1), vI (x2), vI (x3)] (cM m out rho) (Pc out rho none m9) NX := by
  unfold f8_X7_init at h
  refine spec_of (by decide) rfl (by simp [catS, cat1]) (Nat.le_of_ble_eq_true rfl) ?_
  show WP mX7_init (8) n9 0 [some (vR 7 (i0)), some (vI (x1)), some (vI (x2)), some (vI (x3))] [] (cM m out rho) (Pc out rho none m9) NX
  refine wp_aload_n dX7_init_0 rfl ?_
  refine wp_objinit (by decide) ml_X7_3 dX7_init_1 (Nat.le_of_ble_eq_true rfl) ?_
  refine wp_aload_n dX7_init_4 rfl ?_
  refine wp_iconst (v := (-1)) dX7_init_5 (by decide) ?_
  obtain ⟨m1, e2, h⟩ := wr_e h
  refine cp_putI (y := 3) (f := 899) e2 (by decide) (by decide) rfl rfl (Or.inl rfl) fl_X7_9 dX7_init_6 rfl ?_
  refine wp_aload_n dX7_init_9 rfl ?_
  refine wp_ldc ct_X7_15 dX7_init_10 ?_
  obtain ⟨m3, e4, h⟩ := wr_e h
  refine cp_putI (y := 5) (f := 901) e4 (by decide) (by decide) rfl rfl (Or.inl rfl) fl_X7_16 dX7_init_12 rfl ?_
  refine wp_aload_n dX7_init_15 rfl ?_
  refine wp_iconst (v := (-1)) dX7_init_16 (by decide) ?_
  obtain ⟨m5, e6, h⟩ := wr_e h
  refine cp_putI (y := 6) (f := 902) e6 (by decide) (by decide) rfl rfl (Or.inl rfl) fl_X7_19 dX7_init_17 rfl ?_
  refine wp_aload_n dX7_init_20 rfl ?_
  refine wp_iconst (v := (-1)) dX7_init_21 (by decide) ?_
  obtain ⟨m7, e8, h⟩ := wr_e h
  refine cp_putI (y := 7) (f := 903) e8 (by decide) (by decide) rfl rfl (Or.inl rfl) fl_X7_22 dX7_init_22 rfl ?_
  refine wp_aload_n dX7_init_25 rfl ?_
  obtain ⟨c9, h⟩ := ock h
  obtain ⟨n10, h, en11⟩ := cg_e h
  rw [← en11]
  obtain ⟨m12, e13, h⟩ := wr_e h
  refine cp_newlist (c := 55) e13 rfl c9 (by decide) kl_X7_25 ml_X7_27 dX7_init_26 dX7_init_29 dX7_init_30 (Nat.le_of_ble_eq_true rfl) ?_
  obtain ⟨m14, e15, h⟩ := wr_e h
  refine cp_putR (y := 9) (f := 905) (t := 55) (o := (some (i0))) e15 (by decide) (by decide) rfl rfl (Or.inr ⟨rfl, rfl⟩) fl_X7_28 dX7_init_33 (fun _ => rfl) rfl (fun _ => rfl) (by decide) ?_
  refine wp_aload_n dX7_init_36 rfl ?_
  refine wp_iconst (v := (-1)) dX7_init_37 (by decide) ?_
  obtain ⟨m16, e17, h⟩ := wr_e h
  refine cp_putI (y := 13) (f := 909) e17 (by decide) (by decide) rfl rfl (Or.inl rfl) fl_X7_32 dX7_init_38 rfl ?_
  refine wp_aload_n dX7_init_41 rfl ?_
  refine wp_bipush (v := 8) dX7_init_42 (by decide) ?_
  obtain ⟨m18, e19, h⟩ := wr_e h
  refine cp_putI (y := 15) (f := 911) e19 (by decide) (by decide) rfl rfl (Or.inl rfl) fl_X7_35 dX7_init_44 rfl ?_
  refine wp_aload_n dX7_init_47 rfl ?_
  refine wp_iload_n dX7_init_48 rfl ?_
  obtain ⟨m20, e21, h⟩ := wr_e h
  refine cp_putI (y := 0) (f := 896) e21 (by decide) (by decide) rfl rfl (Or.inr ⟨rfl, rfl⟩) fl_X7_38 dX7_init_49 rfl ?_
  refine wp_aload_n dX7_init_52 rfl ?_
  refine wp_iload_n dX7_init_53 rfl ?_
  obtain ⟨m22, e23, h⟩ := wr_e h
  refine cp_putI (y := 1) (f := 897) e23 (by decide) (by decide) rfl rfl (Or.inr ⟨rfl, rfl⟩) fl_X7_41 dX7_init_54 rfl ?_
  refine wp_aload_n dX7_init_57 rfl ?_
  refine wp_iload_n dX7_init_58 rfl ?_
  obtain ⟨c24, h⟩ := ock h
  obtain ⟨m25, e26, h⟩ := wr_e h
  refine cp_putB (y := 2) (f := 898) e26 (by decide) (by decide) rfl rfl (Or.inr ⟨rfl, rfl⟩) fl_X7_44 dX7_init_59 rfl c24 ?_
  obtain ⟨q1, q2, q3⟩ := cs_e h
  clear q1
  subst q2
  exact wp_return rfl dX7_init_62 ⟨rfl, rfl⟩
def f8_X5_init (i0 : Nat) (i1 : Nat) (x2 : Int32) (m : CM) : CR (Int32) :=
  wr (sI m 642 i0 (8)) fun m1 =>
  wr (sR m1 640 i0 (some (i1))) fun m3 =>
  wr (sI m3 641 i0 (x2)) fun m5 =>
  some (0, m5, 0)
theorem w8_X5_init {r : Int32} {m9 : CM} {i0 : Nat} {i1 : Nat} {x2 : Int32} {m : CM} {n9 : Nat} (h : f8_X5_init i0 i1 x2 m = some (r, m9, n9)) : Spec mX5_init (1) n9 [vR 5 (i0), vR 7 (i1), vI (x2)] (cM m out rho) (Pc out rho none m9) NX := by
  unfold f8_X5_init at h
  refine spec_of (by decide) rfl (by simp [catS, cat1]) (Nat.le_of_ble_eq_true rfl) ?_
  show WP mX5_init (1) n9 0 [some (vR 5 (i0)), some (vR 7 (i1)), some (vI (x2))] [] (cM m out rho) (Pc out rho none m9) NX
  refine wp_aload_n dX5_init_0 rfl ?_
  refine wp_objinit (by decide) ml_X5_3 dX5_init_1 (Nat.le_of_ble_eq_true rfl) ?_
  refine wp_aload_n dX5_init_4 rfl ?_
  refine wp_bipush (v := 8) dX5_init_5 (by decide) ?_
  obtain ⟨m1, e2, h⟩ := wr_e h
  refine cp_putI (y := 2) (f := 642) e2 (by decide) (by decide) rfl rfl (Or.inl rfl) fl_X5_9 dX5_init_7 rfl ?_
  refine wp_aload_n dX5_init_10 rfl ?_
  refine wp_aload_n dX5_init_11 rfl ?_
  obtain ⟨m3, e4, h⟩ := wr_e h
  refine cp_putR (y := 0) (f := 640) (t := 7) (o := (some (i1))) e4 (by decide) (by decide) rfl rfl (Or.inr ⟨rfl, rfl⟩) fl_X5_15 dX5_init_12 (fun _ => rfl) rfl (fun _ => rfl) (by decide) ?_
  refine wp_aload_n dX5_init_15 rfl ?_
  refine wp_iload_n dX5_init_16 rfl ?_
  obtain ⟨m5, e6, h⟩ := wr_e h
  refine cp_putI (y := 1) (f := 641) e6 (by decide) (by decide) rfl rfl (Or.inr ⟨rfl, rfl⟩) fl_X5_19 dX5_init_17 rfl ?_
  obtain ⟨q1, q2, q3⟩ := cs_e h
  clear q1
  subst q2
  exact wp_return rfl dX5_init_20 ⟨rfl, rfl⟩
def f8_X2_account (i0 : Nat) (x1 : Int32) (m : CM) : CR (Int32) :=
  if x1 = 0 then
    wr (sI m 258 i0 (((gI m 258 i0) + 1))) fun m2 =>
    wr (sI m2 256 i0 ((if ((gI m2 256 i0) + (gI m2 257 i0)) < 1000 then ((gI m2 256 i0) + (gI m2 257 i0)) else 1000))) fun m4 =>
    some (0, m4, 0)
  else
    wr (sI m 259 i0 (((gI m 259 i0) + 1))) fun m6 =>
    wr (sI m6 256 i0 (((gI m6 256 i0) - 100))) fun m8 =>
    some (0, m8, 0)
theorem w8_X2_account {r : Int32} {m9 : CM} {i0 : Nat} {x1 : Int32} {m : CM} {n9 : Nat} (h : f8_X2_account i0 x1 m = some (r, m9, n9)) : Spec mX2_account (1) n9 [vR 2 (i0), vI (x1)] (cM m out rho) (Pc out rho none m9) NX := by
  unfold f8_X2_account at h
  refine spec_of (by decide) rfl (by simp [catS, cat1]) (Nat.le_of_ble_eq_true rfl) ?_
  show WP mX2_account (1) n9 0 [some (vR 2 (i0)), some (vI (x1))] [] (cM m out rho) (Pc out rho none m9) NX
  refine wp_iload_n dX2_account_0 rfl ?_
  refine wp_if_eq (tgt := 28) dX2_account_1 (by decide) (fun c1 => ?_) (fun c1 => ?_)
  · replace h := itp c1 h
    refine wp_aload_n dX2_account_28 rfl ?_
    refine wp_dup dX2_account_29 trivial ?_
    refine cp_getI (y := 2) (f := 258) (by decide) (by decide) rfl rfl fl_X2_21 dX2_account_30 ?_
    refine wp_iconst (v := 1) dX2_account_33 (by decide) ?_
    refine wp_iadd dX2_account_34 ?_
    obtain ⟨m2, e3, h⟩ := wr_e h
    refine cp_putI (y := 2) (f := 258) e3 (by decide) (by decide) rfl rfl (Or.inl rfl) fl_X2_21 dX2_account_35 rfl ?_
    refine wp_aload_n dX2_account_38 rfl ?_
    refine wp_sipush (v := 1000) dX2_account_39 (by decide) ?_
    refine wp_aload_n dX2_account_42 rfl ?_
    refine cp_getI (y := 0) (f := 256) (by decide) (by decide) rfl rfl fl_X2_9 dX2_account_43 ?_
    refine wp_aload_n dX2_account_46 rfl ?_
    refine cp_getI (y := 1) (f := 257) (by decide) (by decide) rfl rfl fl_X2_15 dX2_account_47 ?_
    refine wp_iadd dX2_account_50 ?_
    refine wp_mmin ml_X2_24 sm_J9_min_7cf53 in_J9 cd_J9_min_7cf53 dX2_account_51 (by decide) (Nat.le_of_ble_eq_true rfl) ?_
    obtain ⟨m4, e5, h⟩ := wr_e h
    refine cp_putI (y := 0) (f := 256) e5 (by decide) (by decide) rfl rfl (Or.inl rfl) fl_X2_9 dX2_account_54 rfl ?_
    obtain ⟨q1, q2, q3⟩ := cs_e h
    clear q1
    subst q2
    exact wp_return rfl dX2_account_57 ⟨rfl, rfl⟩
  · replace h := itn c1 h
    refine wp_aload_n dX2_account_4 rfl ?_
    refine wp_dup dX2_account_5 trivial ?_
    refine cp_getI (y := 3) (f := 259) (by decide) (by decide) rfl rfl fl_X2_18 dX2_account_6 ?_
    refine wp_iconst (v := 1) dX2_account_9 (by decide) ?_
    refine wp_iadd dX2_account_10 ?_
    obtain ⟨m6, e7, h⟩ := wr_e h
    refine cp_putI (y := 3) (f := 259) e7 (by decide) (by decide) rfl rfl (Or.inl rfl) fl_X2_18 dX2_account_11 rfl ?_
    refine wp_aload_n dX2_account_14 rfl ?_
    refine wp_dup dX2_account_15 trivial ?_
    refine cp_getI (y := 0) (f := 256) (by decide) (by decide) rfl rfl fl_X2_9 dX2_account_16 ?_
    refine wp_bipush (v := 100) dX2_account_19 (by decide) ?_
    refine wp_isub dX2_account_21 ?_
    obtain ⟨m8, e9, h⟩ := wr_e h
    refine cp_putI (y := 0) (f := 256) e9 (by decide) (by decide) rfl rfl (Or.inl rfl) fl_X2_9 dX2_account_22 rfl ?_
    refine wp_goto (tgt := 57) dX2_account_25 (by decide) ?_
    obtain ⟨q1, q2, q3⟩ := cs_e h
    clear q1
    subst q2
    exact wp_return rfl dX2_account_57 ⟨rfl, rfl⟩
def f8_X3_nextVersion (i0 : Nat) (m : CM) : CR (Int32) :=
  if (gI m 384 i0) = 0 then
    some ((-1), m, 0)
  else
    wr (sI m 385 i0 (((gI m 385 i0) + 1))) fun m2 =>
    if (((gI m2 385 i0) * (gI m2 384 i0)) / 100) ≤ ((((gI m2 385 i0) - 1) * (gI m2 384 i0)) / 100) then
      some (0, m2, 0)
    else
      some (1, m2, 0)
theorem w8_X3_nextVersion {r : Int32} {m9 : CM} {i0 : Nat} {m : CM} {n9 : Nat} (h : f8_X3_nextVersion i0 m = some (r, m9, n9)) : Spec mX3_nextVersion (0) n9 [vR 3 (i0)] (cM m out rho) (Pc out rho (some (vI r)) m9) NX := by
  unfold f8_X3_nextVersion at h
  refine spec_of (by decide) rfl (by simp [catS, cat1]) (Nat.le_of_ble_eq_true rfl) ?_
  show WP mX3_nextVersion (0) n9 0 [some (vR 3 (i0))] [] (cM m out rho) (Pc out rho (some (vI r)) m9) NX
  refine wp_aload_n dX3_nextVersion_0 rfl ?_
  refine cp_getI (y := 0) (f := 384) (by decide) (by decide) rfl rfl fl_X3_18 dX3_nextVersion_1 ?_
  refine wp_if_ne (tgt := 9) dX3_nextVersion_4 (by decide) (fun c1 => ?_) (fun c1 => ?_)
  · replace h := itn c1 h
    refine wp_aload_n dX3_nextVersion_9 rfl ?_
    refine wp_dup dX3_nextVersion_10 trivial ?_
    refine cp_getI (y := 1) (f := 385) (by decide) (by decide) rfl rfl fl_X3_22 dX3_nextVersion_11 ?_
    refine wp_iconst (v := 1) dX3_nextVersion_14 (by decide) ?_
    refine wp_iadd dX3_nextVersion_15 ?_
    obtain ⟨m2, e3, h⟩ := wr_e h
    refine cp_putI (y := 1) (f := 385) e3 (by decide) (by decide) rfl rfl (Or.inl rfl) fl_X3_22 dX3_nextVersion_16 rfl ?_
    refine wp_aload_n dX3_nextVersion_19 rfl ?_
    refine cp_getI (y := 1) (f := 385) (by decide) (by decide) rfl rfl fl_X3_22 dX3_nextVersion_20 ?_
    refine wp_aload_n dX3_nextVersion_23 rfl ?_
    refine cp_getI (y := 0) (f := 384) (by decide) (by decide) rfl rfl fl_X3_18 dX3_nextVersion_24 ?_
    refine wp_imul dX3_nextVersion_27 ?_
    refine wp_bipush (v := 100) dX3_nextVersion_28 (by decide) ?_
    refine wp_idiv dX3_nextVersion_30 (by decide) ?_
    refine wp_aload_n dX3_nextVersion_31 rfl ?_
    refine cp_getI (y := 1) (f := 385) (by decide) (by decide) rfl rfl fl_X3_22 dX3_nextVersion_32 ?_
    refine wp_iconst (v := 1) dX3_nextVersion_35 (by decide) ?_
    refine wp_isub dX3_nextVersion_36 ?_
    refine wp_aload_n dX3_nextVersion_37 rfl ?_
    refine cp_getI (y := 0) (f := 384) (by decide) (by decide) rfl rfl fl_X3_18 dX3_nextVersion_38 ?_
    refine wp_imul dX3_nextVersion_41 ?_
    refine wp_bipush (v := 100) dX3_nextVersion_42 (by decide) ?_
    refine wp_idiv dX3_nextVersion_44 (by decide) ?_
    refine wp_icmp_le (tgt := 52) dX3_nextVersion_45 (by decide) (fun c4 => ?_) (fun c4 => ?_)
    · replace h := itp c4 h
      refine wp_iconst (v := 0) dX3_nextVersion_52 (by decide) ?_
      obtain ⟨q1, q2, q3⟩ := cs_e h
      subst q1
      subst q2
      exact wp_ireturn rfl dX3_nextVersion_53 ⟨rfl, rfl⟩
    · replace h := itn c4 h
      refine wp_iconst (v := 1) dX3_nextVersion_48 (by decide) ?_
      refine wp_goto (tgt := 53) dX3_nextVersion_49 (by decide) ?_
      obtain ⟨q1, q2, q3⟩ := cs_e h
      subst q1
      subst q2
      exact wp_ireturn rfl dX3_nextVersion_53 ⟨rfl, rfl⟩
  · replace h := itp c1 h
    refine wp_iconst (v := (-1)) dX3_nextVersion_7 (by decide) ?_
    obtain ⟨q1, q2, q3⟩ := cs_e h
    subst q1
    subst q2
    exact wp_ireturn rfl dX3_nextVersion_8 ⟨rfl, rfl⟩
def l8_X8_hasTryOutAt_2 : Nat → Nat → Int32 → Nat → Int32 → CM → CR (Int32)
  | 0, _, _, _, _, _ => none
  | n + 1, i0, x1, i2, x3, m =>
  od (gR m 1033 i0) fun j1 =>
  if (nI (gL m 52 j1).length) ≤ x3 then
    some (0, m, 0)
  else
    if ¬ x3 < 0 then
    od ((gL m 52 j1)[(x3).toNatClampNeg]?) fun j5 =>
    od (gR m 130 j5) fun j7 =>
    if j7 = i2 then
      od (gR m 129 j5) fun j10 =>
      if (gI m 896 j10) = x1 then
        if (gI m 911 j10) = 8 then
          if (gI m 136 j5) ≤ (gI m 1024 i0) then
            l8_X8_hasTryOutAt_2 n (i0) (x1) (i2) (x3 + 1) m
          else
            some (1, m, 0)
        else
          l8_X8_hasTryOutAt_2 n (i0) (x1) (i2) (x3 + 1) m
      else
        l8_X8_hasTryOutAt_2 n (i0) (x1) (i2) (x3 + 1) m
    else
      l8_X8_hasTryOutAt_2 n (i0) (x1) (i2) (x3 + 1) m
    else none
theorem w8_X8_hasTryOutAt_2 {r : Int32} {m9 : CM} : ∀ (n : Nat) {i0 : Nat} {x1 : Int32} {i2 : Nat} {x3 : Int32} {l4 : Option sV} {m : CM} {n9 : Nat}, l8_X8_hasTryOutAt_2 n i0 x1 i2 x3 m = some (r, m9, n9) → WP mX8_hasTryOutAt (8) n9 2 [some (vR 8 (i0)), some (vI (x1)), some (vR 4 (i2)), some (vI (x3)), l4] [] (cM m out rho) (Pc out rho (some (vI r)) m9) NX := by
  intro n
  induction n with
  | zero =>
    intro i0 x1 i2 x3 l4 m n9 h
    rw [l8_X8_hasTryOutAt_2] at h
    cases h
  | succ n ih =>
    intro i0 x1 i2 x3 l4 m n9 h
    rw [l8_X8_hasTryOutAt_2] at h
    refine wp_iload_n dX8_hasTryOutAt_2 rfl ?_
    refine wp_aload_n dX8_hasTryOutAt_3 rfl ?_
    obtain ⟨j1, ho2, h⟩ := od_e h
    refine cp_getS (y := 9) (f := 1033) (t := 52) (by decide) (by decide) rfl rfl fl_X8_46 dX8_hasTryOutAt_4 ho2 ?_
    refine cp_size (c := 52) rfl (by decide) ml_X8_82 dX8_hasTryOutAt_7 (Nat.le_of_ble_eq_true rfl) ?_
    refine wp_icmp_ge (tgt := 80) dX8_hasTryOutAt_10 (by decide) (fun c3 => ?_) (fun c3 => ?_)
    · replace h := itp c3 h
      refine wp_iconst (v := 0) dX8_hasTryOutAt_80 (by decide) ?_
      obtain ⟨q1, q2, q3⟩ := cs_e h
      subst q1
      subst q2
      exact wp_zreturn rfl (by decide) dX8_hasTryOutAt_81 ⟨rfl, rfl⟩
    · replace h := itn c3 h
      refine wp_aload_n dX8_hasTryOutAt_13 rfl ?_
      refine cp_getS (y := 9) (f := 1033) (t := 52) (by decide) (by decide) rfl rfl fl_X8_46 dX8_hasTryOutAt_14 ho2 ?_
      refine wp_iload_n dX8_hasTryOutAt_17 rfl ?_
      obtain ⟨c4, h⟩ := ock h
      obtain ⟨j5, ho6, h⟩ := od_e h
      refine cp_get (c := 52) (t := 1) rfl rfl (by decide) c4 ho6 ml_X8_98 dX8_hasTryOutAt_18 (Nat.le_of_ble_eq_true rfl) ?_
      refine cp_cast (c := 1) (by decide) kl_X8_204 dX8_hasTryOutAt_21 ?_
      refine wp_astore (L' := [some (vR 8 (i0)), some (vI (x1)), some (vR 4 (i2)), some (vI (x3)), some (vR 1 (j5))]) dX8_hasTryOutAt_24 rfl rfl ?_
      refine wp_aload dX8_hasTryOutAt_26 rfl ?_
      obtain ⟨j7, ho8, h⟩ := od_e h
      refine cp_getS (y := 2) (f := 130) (t := 4) (by decide) (by decide) rfl rfl fl_X8_213 dX8_hasTryOutAt_28 ho8 ?_
      refine wp_aload_n dX8_hasTryOutAt_31 rfl ?_
      refine cp_acmp_ne (c := 4) (tgt := 74) dX8_hasTryOutAt_32 (by decide) (by decide) (fun c9 => ?_) (fun c9 => ?_)
      · replace h := itn c9 h
        refine wp_iinc (v := x3 + 1) (L' := [some (vR 8 (i0)), some (vI (x1)), some (vR 4 (i2)), some (vI (x3 + 1)), some (vR 1 (j5))]) dX8_hasTryOutAt_74 rfl rfl rfl ?_
        refine wp_goto (tgt := 2) dX8_hasTryOutAt_77 (by decide) ?_
        exact ih h
      · replace h := itp c9 h
        refine wp_aload dX8_hasTryOutAt_35 rfl ?_
        obtain ⟨j10, ho11, h⟩ := od_e h
        refine cp_getS (y := 1) (f := 129) (t := 7) (by decide) (by decide) rfl rfl fl_X8_206 dX8_hasTryOutAt_37 ho11 ?_
        refine cp_getI (y := 0) (f := 896) (by decide) (by decide) rfl rfl fl_X8_273 dX8_hasTryOutAt_40 ?_
        refine wp_iload_n dX8_hasTryOutAt_43 rfl ?_
        refine wp_icmp_ne (tgt := 74) dX8_hasTryOutAt_44 (by decide) (fun c12 => ?_) (fun c12 => ?_)
        · replace h := itn c12 h
          refine wp_iinc (v := x3 + 1) (L' := [some (vR 8 (i0)), some (vI (x1)), some (vR 4 (i2)), some (vI (x3 + 1)), some (vR 1 (j5))]) dX8_hasTryOutAt_74 rfl rfl rfl ?_
          refine wp_goto (tgt := 2) dX8_hasTryOutAt_77 (by decide) ?_
          exact ih h
        · replace h := itp c12 h
          refine wp_aload dX8_hasTryOutAt_47 rfl ?_
          refine cp_getS (y := 1) (f := 129) (t := 7) (by decide) (by decide) rfl rfl fl_X8_206 dX8_hasTryOutAt_49 ho11 ?_
          refine cp_getI (y := 15) (f := 911) (by decide) (by decide) rfl rfl fl_X8_249 dX8_hasTryOutAt_52 ?_
          refine wp_bipush (v := 8) dX8_hasTryOutAt_55 (by decide) ?_
          refine wp_icmp_ne (tgt := 74) dX8_hasTryOutAt_57 (by decide) (fun c13 => ?_) (fun c13 => ?_)
          · replace h := itn c13 h
            refine wp_iinc (v := x3 + 1) (L' := [some (vR 8 (i0)), some (vI (x1)), some (vR 4 (i2)), some (vI (x3 + 1)), some (vR 1 (j5))]) dX8_hasTryOutAt_74 rfl rfl rfl ?_
            refine wp_goto (tgt := 2) dX8_hasTryOutAt_77 (by decide) ?_
            exact ih h
          · replace h := itp c13 h
            refine wp_aload dX8_hasTryOutAt_60 rfl ?_
            refine cp_getI (y := 8) (f := 136) (by decide) (by decide) rfl rfl fl_X8_449 dX8_hasTryOutAt_62 ?_
            refine wp_aload_n dX8_hasTryOutAt_65 rfl ?_
            refine cp_getI (y := 0) (f := 1024) (by decide) (by decide) rfl rfl fl_X8_140 dX8_hasTryOutAt_66 ?_
            refine wp_icmp_le (tgt := 74) dX8_hasTryOutAt_69 (by decide) (fun c14 => ?_) (fun c14 => ?_)
            · replace h := itp c14 h
              refine wp_iinc (v := x3 + 1) (L' := [some (vR 8 (i0)), some (vI (x1)), some (vR 4 (i2)), some (vI (x3 + 1)), some (vR 1 (j5))]) dX8_hasTryOutAt_74 rfl rfl rfl ?_
              refine wp_goto (tgt := 2) dX8_hasTryOutAt_77 (by decide) ?_
              exact ih h
            · replace h := itn c14 h
              refine wp_iconst (v := 1) dX8_hasTryOutAt_72 (by decide) ?_
              obtain ⟨q1, q2, q3⟩ := cs_e h
              subst q1
              subst q2
              exact wp_zreturn rfl (by decide) dX8_hasTryOutAt_73 ⟨rfl, rfl⟩
def f8_X8_hasTryOutAt (i0 : Nat) (x1 : Int32) (i2 : Nat) (m : CM) : CR (Int32) :=
  l8_X8_hasTryOutAt_2 FU (i0) (x1) (i2) (0) m
theorem w8_X8_hasTryOutAt {r : Int32} {m9 : CM} {i0 : Nat} {x1 : Int32} {i2 : Nat} {m : CM} {n9 : Nat} (h : f8_X8_hasTryOutAt i0 x1 i2 m = some (r, m9, n9)) : Spec mX8_hasTryOutAt (8) n9 [vR 8 (i0), vI (x1), vR 4 (i2)] (cM m out rho) (Pc out rho (some (vI r)) m9) NX := by
  unfold f8_X8_hasTryOutAt at h
  refine spec_of (by decide) rfl (by simp [catS, cat1]) (Nat.le_of_ble_eq_true rfl) ?_
  show WP mX8_hasTryOutAt (8) n9 0 [some (vR 8 (i0)), some (vI (x1)), some (vR 4 (i2)), none, none] [] (cM m out rho) (Pc out rho (some (vI r)) m9) NX
  refine wp_iconst (v := 0) dX8_hasTryOutAt_0 (by decide) ?_
  refine wp_istore_n (L' := [some (vR 8 (i0)), some (vI (x1)), some (vR 4 (i2)), some (vI (0)), none]) dX8_hasTryOutAt_1 rfl rfl ?_
  exact w8_X8_hasTryOutAt_2 FU h
def f8_X8_canChoose (i0 : Nat) (x1 : Int32) (i2 : Nat) (m : CM) : CR (Int32) :=
  od (gR m 520 i2) fun j1 =>
  if vq (x1) 7 then
  od (gO m 43 j1 (x1).toNatClampNeg) fun j4 =>
  if (gI m 0 j4) = 1 then
    some (0, m, 0)
  else
    cb (f8_X4_openBreakers i2 m) fun r7 m8 =>
    if r7 < (gI m8 1025 i0) then
      if (gI m 0 j4) = 0 then
        some (1, m8, 0)
      else
        cb (f8_X8_hasTryOutAt i0 (x1) (i2) m8) fun r15 m16 =>
        if r15 = 0 then
          some (1, m16, 0)
        else
          some (0, m16, 0)
    else
      some (0, m8, 0)
  else none
theorem w8_X8_canChoose {r : Int32} {m9 : CM} {i0 : Nat} {x1 : Int32} {i2 : Nat} {m : CM} {n9 : Nat} (h : f8_X8_canChoose i0 x1 i2 m = some (r, m9, n9)) : Spec mX8_canChoose (9) n9 [vR 8 (i0), vI (x1), vR 4 (i2)] (cM m out rho) (Pc out rho (some (vI r)) m9) NX := by
  unfold f8_X8_canChoose at h
  refine spec_of (by decide) rfl (by simp [catS, cat1]) (Nat.le_of_ble_eq_true rfl) ?_
  show WP mX8_canChoose (9) n9 0 [some (vR 8 (i0)), some (vI (x1)), some (vR 4 (i2)), none] [] (cM m out rho) (Pc out rho (some (vI r)) m9) NX
  refine wp_aload_n dX8_canChoose_0 rfl ?_
  obtain ⟨j1, ho2, h⟩ := od_e h
  refine cp_getS (y := 8) (f := 520) (t := 43) (by decide) (by decide) rfl rfl fl_X8_233 dX8_canChoose_1 ho2 ?_
  refine wp_iload_n dX8_canChoose_4 rfl ?_
  obtain ⟨c3, h⟩ := ock h
  obtain ⟨j4, ho5, h⟩ := od_e h
  refine cp_aald (c := 43) (t := 0) rfl (by decide) rfl (show vp_in (x1) (len 43) from c3) dX8_canChoose_5 ho5 ?_
  refine cp_getI (y := 0) (f := 0) (by decide) (by decide) rfl rfl fl_X8_237 dX8_canChoose_6 ?_
  refine wp_istore_n (L' := [some (vR 8 (i0)), some (vI (x1)), some (vR 4 (i2)), some (vI ((gI m 0 j4)))]) dX8_canChoose_9 rfl rfl ?_
  refine wp_iload_n dX8_canChoose_10 rfl ?_
  refine wp_iconst (v := 1) dX8_canChoose_11 (by decide) ?_
  refine wp_icmp_eq (tgt := 26) dX8_canChoose_12 (by decide) (fun c6 => ?_) (fun c6 => ?_)
  · replace h := itp c6 h
    refine wp_iconst (v := 0) dX8_canChoose_26 (by decide) ?_
    obtain ⟨q1, q2, q3⟩ := cs_e h
    subst q1
    subst q2
    exact wp_zreturn rfl (by decide) dX8_canChoose_27 ⟨rfl, rfl⟩
  · replace h := itn c6 h
    refine wp_aload_n dX8_canChoose_15 rfl ?_
    obtain ⟨r7, m8, n9, n10, hp11, h, en12⟩ := cb_e h
    refine wp_callV (k1 := n9) (k2 := n10) (As := []) (rest := []) (w8_X4_openBreakers hp11) okX4_openBreakers ivX4_openBreakers rfl (by decide) ml_X8_240 dX8_canChoose_16 rfl (by decide) (Nat.le_of_eq en12) rfl (Nat.le_of_ble_eq_true rfl) (fun _ _ z => z.elim) (fun r' S' z => ?_)
    obtain ⟨rfl, rfl⟩ := z
    show WP _ _ _ _ [some (vR 8 (i0)), some (vI (x1)), some (vR 4 (i2)), some (vI ((gI m 0 j4)))] [vI (r7)] _ _ _
    refine wp_aload_n dX8_canChoose_19 rfl ?_
    refine cp_getI (y := 1) (f := 1025) (by decide) (by decide) rfl rfl fl_X8_9 dX8_canChoose_20 ?_
    refine wp_icmp_lt (tgt := 28) dX8_canChoose_23 (by decide) (fun c13 => ?_) (fun c13 => ?_)
    · replace h := itp c13 h
      refine wp_iload_n dX8_canChoose_28 rfl ?_
      refine wp_if_eq (tgt := 41) dX8_canChoose_29 (by decide) (fun c14 => ?_) (fun c14 => ?_)
      · replace h := itp c14 h
        refine wp_iconst (v := 1) dX8_canChoose_41 (by decide) ?_
        refine wp_goto (tgt := 46) dX8_canChoose_42 (by decide) ?_
        obtain ⟨q1, q2, q3⟩ := cs_e h
        subst q1
        subst q2
        exact wp_zreturn rfl (by decide) dX8_canChoose_46 ⟨rfl, rfl⟩
      · replace h := itn c14 h
        refine wp_aload_n dX8_canChoose_32 rfl ?_
        refine wp_iload_n dX8_canChoose_33 rfl ?_
        refine wp_aload_n dX8_canChoose_34 rfl ?_
        obtain ⟨r15, m16, n17, n18, hp19, h, en20⟩ := cb_e h
        refine wp_callV (k1 := n17) (k2 := n18) (As := [vI (x1), vR 4 (i2)]) (rest := []) (w8_X8_hasTryOutAt hp19) okX8_hasTryOutAt ivX8_hasTryOutAt rfl (by decide) ml_X8_446 dX8_canChoose_35 rfl (by decide) (Nat.le_of_eq en20) rfl (Nat.le_of_ble_eq_true rfl) (fun _ _ z => z.elim) (fun r' S' z => ?_)
        obtain ⟨rfl, rfl⟩ := z
        show WP _ _ _ _ [some (vR 8 (i0)), some (vI (x1)), some (vR 4 (i2)), some (vI ((gI m 0 j4)))] [vI (r15)] _ _ _
        refine wp_if_ne (tgt := 45) dX8_canChoose_38 (by decide) (fun c21 => ?_) (fun c21 => ?_)
        · replace h := itn c21 h
          refine wp_iconst (v := 0) dX8_canChoose_45 (by decide) ?_
          obtain ⟨q1, q2, q3⟩ := cs_e h
          subst q1
          subst q2
          exact wp_zreturn rfl (by decide) dX8_canChoose_46 ⟨rfl, rfl⟩
        · replace h := itp c21 h
          refine wp_iconst (v := 1) dX8_canChoose_41 (by decide) ?_
          refine wp_goto (tgt := 46) dX8_canChoose_42 (by decide) ?_
          obtain ⟨q1, q2, q3⟩ := cs_e h
          subst q1
          subst q2
          exact wp_zreturn rfl (by decide) dX8_canChoose_46 ⟨rfl, rfl⟩
    · replace h := itn c13 h
      refine wp_iconst (v := 0) dX8_canChoose_26 (by decide) ?_
      obtain ⟨q1, q2, q3⟩ := cs_e h
      subst q1
      subst q2
      exact wp_zreturn rfl (by decide) dX8_canChoose_27 ⟨rfl, rfl⟩
def f8_X4_burdenFor (i0 : Nat) (x1 : Int32) (x2 : Int32) (m : CM) : CR (Int32) :=
  od (gR m 521 i0) fun j1 =>
  if vq (x1) 7 then
  if (gI m 515 i0) ≤ 0 then
    if (gI m 514 i0) = x2 then
      some ((100 * ((gI m 524 i0) + (gA m 31 j1 (x1).toNatClampNeg))), m, 0)
    else
      some (((100 * ((gI m 524 i0) + (gA m 31 j1 (x1).toNatClampNeg))) + 150), m, 0)
  else
    if ¬ (gI m 515 i0) = 0 then
    if (gI m 514 i0) = x2 then
      some (((100 * ((gI m 524 i0) + (gA m 31 j1 (x1).toNatClampNeg))) / (gI m 515 i0)), m, 0)
    else
      some ((((100 * ((gI m 524 i0) + (gA m 31 j1 (x1).toNatClampNeg))) / (gI m 515 i0)) + 150), m, 0)
    else none
  else none
theorem w8_X4_burdenFor {r : Int32} {m9 : CM} {i0 : Nat} {x1 : Int32} {x2 : Int32} {m : CM} {n9 : Nat} (h : f8_X4_burdenFor i0 x1 x2 m = some (r, m9, n9)) : Spec mX4_burdenFor (0) n9 [vR 4 (i0), vI (x1), vI (x2)] (cM m out rho) (Pc out rho (some (vI r)) m9) NX := by
  unfold f8_X4_burdenFor at h
  refine spec_of (by decide) rfl (by simp [catS, cat1]) (Nat.le_of_ble_eq_true rfl) ?_
  show WP mX4_burdenFor (0) n9 0 [some (vR 4 (i0)), some (vI (x1)), some (vI (x2)), none] [] (cM m out rho) (Pc out rho (some (vI r)) m9) NX
  refine wp_bipush (v := 100) dX4_burdenFor_0 (by decide) ?_
  refine wp_aload_n dX4_burdenFor_2 rfl ?_
  refine cp_getI (y := 12) (f := 524) (by decide) (by decide) rfl rfl fl_X4_67 dX4_burdenFor_3 ?_
  refine wp_aload_n dX4_burdenFor_6 rfl ?_
  obtain ⟨j1, ho2, h⟩ := od_e h
  refine cp_getS (y := 9) (f := 521) (t := 31) (by decide) (by decide) rfl rfl fl_X4_21 dX4_burdenFor_7 ho2 ?_
  refine wp_iload_n dX4_burdenFor_10 rfl ?_
  obtain ⟨c3, h⟩ := ock h
  refine cp_iald (c := 31) rfl (by decide) (show vp_in (x1) (len 31) from c3) dX4_burdenFor_11 ?_
  refine wp_iadd dX4_burdenFor_12 ?_
  refine wp_imul dX4_burdenFor_13 ?_
  refine wp_istore_n (L' := [some (vR 4 (i0)), some (vI (x1)), some (vI (x2)), some (vI ((100 * ((gI m 524 i0) + (gA m 31 j1 (x1).toNatClampNeg)))))]) dX4_burdenFor_14 rfl rfl ?_
  refine wp_aload_n dX4_burdenFor_15 rfl ?_
  refine cp_getI (y := 3) (f := 515) (by decide) (by decide) rfl rfl fl_X4_41 dX4_burdenFor_16 ?_
  refine wp_if_le (tgt := 29) dX4_burdenFor_19 (by decide) (fun c4 => ?_) (fun c4 => ?_)
  · replace h := itp c4 h
    refine wp_aload_n dX4_burdenFor_29 rfl ?_
    refine cp_getI (y := 2) (f := 514) (by decide) (by decide) rfl rfl fl_X4_38 dX4_burdenFor_30 ?_
    refine wp_iload_n dX4_burdenFor_33 rfl ?_
    refine wp_icmp_ne (tgt := 41) dX4_burdenFor_34 (by decide) (fun c5 => ?_) (fun c5 => ?_)
    · replace h := itn c5 h
      refine wp_iload_n dX4_burdenFor_41 rfl ?_
      refine wp_sipush (v := 150) dX4_burdenFor_42 (by decide) ?_
      refine wp_iadd dX4_burdenFor_45 ?_
      obtain ⟨q1, q2, q3⟩ := cs_e h
      subst q1
      subst q2
      exact wp_ireturn rfl dX4_burdenFor_46 ⟨rfl, rfl⟩
    · replace h := itp c5 h
      refine wp_iload_n dX4_burdenFor_37 rfl ?_
      refine wp_goto (tgt := 46) dX4_burdenFor_38 (by decide) ?_
      obtain ⟨q1, q2, q3⟩ := cs_e h
      subst q1
      subst q2
      exact wp_ireturn rfl dX4_burdenFor_46 ⟨rfl, rfl⟩
  · replace h := itn c4 h
    refine wp_iload_n dX4_burdenFor_22 rfl ?_
    refine wp_aload_n dX4_burdenFor_23 rfl ?_
    refine cp_getI (y := 3) (f := 515) (by decide) (by decide) rfl rfl fl_X4_41 dX4_burdenFor_24 ?_
    obtain ⟨c6, h⟩ := ock h
    refine wp_idiv dX4_burdenFor_27 c6 ?_
    refine wp_istore_n (L' := [some (vR 4 (i0)), some (vI (x1)), some (vI (x2)), some (vI (((100 * ((gI m 524 i0) + (gA m 31 j1 (x1).toNatClampNeg))) / (gI m 515 i0))))]) dX4_burdenFor_28 rfl rfl ?_
    refine wp_aload_n dX4_burdenFor_29 rfl ?_
    refine cp_getI (y := 2) (f := 514) (by decide) (by decide) rfl rfl fl_X4_38 dX4_burdenFor_30 ?_
    refine wp_iload_n dX4_burdenFor_33 rfl ?_
    refine wp_icmp_ne (tgt := 41) dX4_burdenFor_34 (by decide) (fun c7 => ?_) (fun c7 => ?_)
    · replace h := itn c7 h
      refine wp_iload_n dX4_burdenFor_41 rfl ?_
      refine wp_sipush (v := 150) dX4_burdenFor_42 (by decide) ?_
      refine wp_iadd dX4_burdenFor_45 ?_
      obtain ⟨q1, q2, q3⟩ := cs_e h
      subst q1
      subst q2
      exact wp_ireturn rfl dX4_burdenFor_46 ⟨rfl, rfl⟩
    · replace h := itp c7 h
      refine wp_iload_n dX4_burdenFor_37 rfl ?_
      refine wp_goto (tgt := 46) dX4_burdenFor_38 (by decide) ?_
      obtain ⟨q1, q2, q3⟩ := cs_e h
      subst q1
      subst q2
      exact wp_ireturn rfl dX4_burdenFor_46 ⟨rfl, rfl⟩
def l8_X7_hasTried_2 : Nat → Nat → Nat → Int32 → CM → CR (Int32)
  | 0, _, _, _, _ => none
  | n + 1, i0, i1, x2, m =>
  od (gR m 905 i0) fun j1 =>
  if (nI (gL m 55 j1).length) ≤ x2 then
    some (0, m, 0)
  else
    if ¬ x2 < 0 then
    od ((gL m 55 j1)[(x2).toNatClampNeg]?) fun j5 =>
    od (gR m 130 j5) fun j7 =>
    if j7 = i1 then
      some (1, m, 0)
    else
      l8_X7_hasTried_2 n (i0) (i1) (x2 + 1) m
    else none
theorem w8_X7_hasTried_2 {r : Int32} {m9 : CM} : ∀ (n : Nat) {i0 : Nat} {i1 : Nat} {x2 : Int32} {m : CM} {n9 : Nat}, l8_X7_hasTried_2 n i0 i1 x2 m = some (r, m9, n9) → WP mX7_hasTried (8) n9 2 [some (vR 7 (i0)), some (vR 4 (i1)), some (vI (x2))] [] (cM m out rho) (Pc out rho (some (vI r)) m9) NX := by
  intro n
  induction n with
  | zero =>
    intro i0 i1 x2  m n9 h
    rw [l8_X7_hasTried_2] at h
    cases h
  | succ n ih =>
    intro i0 i1 x2  m n9 h
    rw [l8_X7_hasTried_2] at h
    refine wp_iload_n dX7_hasTried_2 rfl ?_
    refine wp_aload_n dX7_hasTried_3 rfl ?_
    obtain ⟨j1, ho2, h⟩ := od_e h
    refine cp_getS (y := 9) (f := 905) (t := 55) (by decide) (by decide) rfl rfl fl_X7_28 dX7_hasTried_4 ho2 ?_
    refine cp_size (c := 55) rfl (by decide) ml_X7_48 dX7_hasTried_7 (Nat.le_of_ble_eq_true rfl) ?_
    refine wp_icmp_ge (tgt := 39) dX7_hasTried_10 (by decide) (fun c3 => ?_) (fun c3 => ?_)
    · replace h := itp c3 h
      refine wp_iconst (v := 0) dX7_hasTried_39 (by decide) ?_
      obtain ⟨q1, q2, q3⟩ := cs_e h
      subst q1
      subst q2
      exact wp_zreturn rfl (by decide) dX7_hasTried_40 ⟨rfl, rfl⟩
    · replace h := itn c3 h
      refine wp_aload_n dX7_hasTried_13 rfl ?_
      refine cp_getS (y := 9) (f := 905) (t := 55) (by decide) (by decide) rfl rfl fl_X7_28 dX7_hasTried_14 ho2 ?_
      refine wp_iload_n dX7_hasTried_17 rfl ?_
      obtain ⟨c4, h⟩ := ock h
      obtain ⟨j5, ho6, h⟩ := od_e h
      refine cp_get (c := 55) (t := 1) rfl rfl (by decide) c4 ho6 ml_X7_52 dX7_hasTried_18 (Nat.le_of_ble_eq_true rfl) ?_
      refine cp_cast (c := 1) (by decide) kl_X7_56 dX7_hasTried_21 ?_
      obtain ⟨j7, ho8, h⟩ := od_e h
      refine cp_getS (y := 2) (f := 130) (t := 4) (by decide) (by decide) rfl rfl fl_X7_62 dX7_hasTried_24 ho8 ?_
      refine wp_aload_n dX7_hasTried_27 rfl ?_
      refine cp_acmp_ne (c := 4) (tgt := 33) dX7_hasTried_28 (by decide) (by decide) (fun c9 => ?_) (fun c9 => ?_)
      · replace h := itn c9 h
        refine wp_iinc (v := x2 + 1) (L' := [some (vR 7 (i0)), some (vR 4 (i1)), some (vI (x2 + 1))]) dX7_hasTried_33 rfl rfl rfl ?_
        refine wp_goto (tgt := 2) dX7_hasTried_36 (by decide) ?_
        exact ih h
      · replace h := itp c9 h
        refine wp_iconst (v := 1) dX7_hasTried_31 (by decide) ?_
        obtain ⟨q1, q2, q3⟩ := cs_e h
        subst q1
        subst q2
        exact wp_zreturn rfl (by decide) dX7_hasTried_32 ⟨rfl, rfl⟩
def f8_X7_hasTried (i0 : Nat) (i1 : Nat) (m : CM) : CR (Int32) :=
  l8_X7_hasTried_2 FU (i0) (i1) (0) m
theorem w8_X7_hasTried {r : Int32} {m9 : CM} {i0 : Nat} {i1 : Nat} {m : CM} {n9 : Nat} (h : f8_X7_hasTried i0 i1 m = some (r, m9, n9)) : Spec mX7_hasTried (8) n9 [vR 7 (i0), vR 4 (i1)] (cM m out rho) (Pc out rho (some (vI r)) m9) NX := by
  unfold f8_X7_hasTried at h
  refine spec_of (by decide) rfl (by simp [catS, cat1]) (Nat.le_of_ble_eq_true rfl) ?_
  show WP mX7_hasTried (8) n9 0 [some (vR 7 (i0)), some (vR 4 (i1)), none] [] (cM m out rho) (Pc out rho (some (vI r)) m9) NX
  refine wp_iconst (v := 0) dX7_hasTried_0 (by decide) ?_
  refine wp_istore_n (L' := [some (vR 7 (i0)), some (vR 4 (i1)), some (vI (0))]) dX7_hasTried_1 rfl rfl ?_
  exact w8_X7_hasTried_2 FU h
end S8
