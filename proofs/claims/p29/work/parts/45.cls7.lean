section S8
variable {out : Int64} {rho : RH}
def l8_X4_tellLoad_10 : Nat → Nat → Int32 → CM → CR (Int32)
  | 0, _, _, _ => none
  | n + 1, i0, x1, m =>
  if 7 ≤ x1 then
    some (0, m, 0)
  else
    od (gR m 521 i0) fun j2 =>
    if vq (x1) 7 then
    wr (sA m 31 j2 (x1).toNatClampNeg (0)) fun m5 =>
    l8_X4_tellLoad_10 n (i0) (x1 + 1) m5
    else none
theorem w8_X4_tellLoad_10 {r : Int32} {m9 : CM} : ∀ (n : Nat) {i0 : Nat} {x1 : Int32} {m : CM} {n9 : Nat}, l8_X4_tellLoad_10 n i0 x1 m = some (r, m9, n9) → WP mX4_tellLoad (9) n9 10 [some (vR 4 (i0)), some (vI (x1))] [] (cM m out rho) (Pc out rho none m9) NX := by
  intro n
  induction n with
  | zero =>
    intro i0 x1  m n9 h
    rw [l8_X4_tellLoad_10] at h
    cases h
  | succ n ih =>
    intro i0 x1  m n9 h
    rw [l8_X4_tellLoad_10] at h
    refine wp_iload_n dX4_tellLoad_10 rfl ?_
    refine wp_bipush (v := 7) dX4_tellLoad_11 (by decide) ?_
    refine wp_icmp_ge (tgt := 29) dX4_tellLoad_13 (by decide) (fun c1 => ?_) (fun c1 => ?_)
    · replace h := itp c1 h
      obtain ⟨q1, q2, q3⟩ := cs_e h
      clear q1
      subst q2
      exact wp_return rfl dX4_tellLoad_29 ⟨rfl, rfl⟩
    · replace h := itn c1 h
      refine wp_aload_n dX4_tellLoad_16 rfl ?_
      obtain ⟨j2, ho3, h⟩ := od_e h
      refine cp_getS (y := 9) (f := 521) (t := 31) (by decide) (by decide) rfl rfl fl_X4_21 dX4_tellLoad_17 ho3 ?_
      refine wp_iload_n dX4_tellLoad_20 rfl ?_
      refine wp_iconst (v := 0) dX4_tellLoad_21 (by decide) ?_
      obtain ⟨c4, h⟩ := ock h
      obtain ⟨m5, e6, h⟩ := wr_e h
      refine cp_iast (c := 31) e6 rfl (by decide) (show vp_in (x1) (len 31) from c4) dX4_tellLoad_22 ?_
      refine wp_iinc (v := x1 + 1) (L' := [some (vR 4 (i0)), some (vI (x1 + 1))]) dX4_tellLoad_23 rfl rfl rfl ?_
      refine wp_goto (tgt := 10) dX4_tellLoad_26 (by decide) ?_
      exact ih h
def f8_X4_tellLoad (i0 : Nat) (m : CM) : CR (Int32) :=
  cb (f8_X4_loadNow i0 m) fun r1 m2 =>
  wr (sI m2 524 i0 (r1)) fun m7 =>
  l8_X4_tellLoad_10 FU (i0) (0) m7
theorem w8_X4_tellLoad {r : Int32} {m9 : CM} {i0 : Nat} {m : CM} {n9 : Nat} (h : f8_X4_tellLoad i0 m = some (r, m9, n9)) : Spec mX4_tellLoad (9) n9 [vR 4 (i0)] (cM m out rho) (Pc out rho none m9) NX := by
  unfold f8_X4_tellLoad at h
  refine spec_of (by decide) rfl (by simp [catS, cat1]) (Nat.le_of_ble_eq_true rfl) ?_
  show WP mX4_tellLoad (9) n9 0 [some (vR 4 (i0)), none] [] (cM m out rho) (Pc out rho none m9) NX
  refine wp_aload_n dX4_tellLoad_0 rfl ?_
  refine wp_aload_n dX4_tellLoad_1 rfl ?_
  obtain ⟨r1, m2, n3, n4, hp5, h, en6⟩ := cb_e h
  refine wp_callV (k1 := n3) (k2 := n4) (As := []) (rest := [vR 4 (i0)]) (w8_X4_loadNow hp5) okX4_loadNow ivX4_loadNow rfl (by decide) ml_X4_64 dX4_tellLoad_2 rfl (by decide) (Nat.le_of_eq en6) rfl (Nat.le_of_ble_eq_true rfl) (fun _ _ z => z.elim) (fun r' S' z => ?_)
  obtain ⟨rfl, rfl⟩ := z
  show WP _ _ _ _ [some (vR 4 (i0)), none] [vI (r1), vR 4 (i0)] _ _ _
  obtain ⟨m7, e8, h⟩ := wr_e h
  refine cp_putI (y := 12) (f := 524) e8 (by decide) (by decide) rfl rfl (Or.inl rfl) fl_X4_67 dX4_tellLoad_5 rfl ?_
  refine wp_iconst (v := 0) dX4_tellLoad_8 (by decide) ?_
  refine wp_istore_n (L' := [some (vR 4 (i0)), some (vI (0))]) dX4_tellLoad_9 rfl rfl ?_
  exact w8_X4_tellLoad_10 FU h
def l8_X8_tellLoads_2 : Nat → Nat → Int32 → CM → CR (Int32)
  | 0, _, _, _ => none
  | n + 1, i0, x1, m =>
  od (gR m 1031 i0) fun j1 =>
  if (nI (gL m 50 j1).length) ≤ x1 then
    some (0, m, 0)
  else
    if ¬ x1 < 0 then
    od ((gL m 50 j1)[(x1).toNatClampNeg]?) fun j5 =>
    cb (f8_X4_tellLoad j5 m) fun _ m8 =>
    l8_X8_tellLoads_2 n (i0) (x1 + 1) m8
    else none
theorem w8_X8_tellLoads_2 {r : Int32} {m9 : CM} : ∀ (n : Nat) {i0 : Nat} {x1 : Int32} {m : CM} {n9 : Nat}, l8_X8_tellLoads_2 n i0 x1 m = some (r, m9, n9) → WP mX8_tellLoads (10) n9 2 [some (vR 8 (i0)), some (vI (x1))] [] (cM m out rho) (Pc out rho none m9) NX := by
  intro n
  induction n with
  | zero =>
    intro i0 x1  m n9 h
    rw [l8_X8_tellLoads_2] at h
    cases h
  | succ n ih =>
    intro i0 x1  m n9 h
    rw [l8_X8_tellLoads_2] at h
    refine wp_iload_n dX8_tellLoads_2 rfl ?_
    refine wp_aload_n dX8_tellLoads_3 rfl ?_
    obtain ⟨j1, ho2, h⟩ := od_e h
    refine cp_getS (y := 7) (f := 1031) (t := 50) (by decide) (by decide) rfl rfl fl_X8_39 dX8_tellLoads_4 ho2 ?_
    refine cp_size (c := 50) rfl (by decide) ml_X8_82 dX8_tellLoads_7 (Nat.le_of_ble_eq_true rfl) ?_
    refine wp_icmp_ge (tgt := 33) dX8_tellLoads_10 (by decide) (fun c3 => ?_) (fun c3 => ?_)
    · replace h := itp c3 h
      obtain ⟨q1, q2, q3⟩ := cs_e h
      clear q1
      subst q2
      exact wp_return rfl dX8_tellLoads_33 ⟨rfl, rfl⟩
    · replace h := itn c3 h
      refine wp_aload_n dX8_tellLoads_13 rfl ?_
      refine cp_getS (y := 7) (f := 1031) (t := 50) (by decide) (by decide) rfl rfl fl_X8_39 dX8_tellLoads_14 ho2 ?_
      refine wp_iload_n dX8_tellLoads_17 rfl ?_
      obtain ⟨c4, h⟩ := ock h
      obtain ⟨j5, ho6, h⟩ := od_e h
      refine cp_get (c := 50) (t := 4) rfl rfl (by decide) c4 ho6 ml_X8_98 dX8_tellLoads_18 (Nat.le_of_ble_eq_true rfl) ?_
      refine cp_cast (c := 4) (by decide) kl_X8_86 dX8_tellLoads_21 ?_
      obtain ⟨r7, m8, n9, n10, hp11, h, en12⟩ := cb_e h
      refine wp_callV (k1 := n9) (k2 := n10) (As := []) (rest := []) (w8_X4_tellLoad hp11) okX4_tellLoad ivX4_tellLoad rfl (by decide) ml_X8_353 dX8_tellLoads_24 rfl (by decide) (Nat.le_of_eq en12) rfl (Nat.le_of_ble_eq_true rfl) (fun _ _ z => z.elim) (fun r' S' z => ?_)
      obtain ⟨rfl, rfl⟩ := z
      show WP _ _ _ _ [some (vR 8 (i0)), some (vI (x1))] [] _ _ _
      refine wp_iinc (v := x1 + 1) (L' := [some (vR 8 (i0)), some (vI (x1 + 1))]) dX8_tellLoads_27 rfl rfl rfl ?_
      refine wp_goto (tgt := 2) dX8_tellLoads_30 (by decide) ?_
      exact ih h
def f8_X8_tellLoads (i0 : Nat) (m : CM) : CR (Int32) :=
  l8_X8_tellLoads_2 FU (i0) (0) m
theorem w8_X8_tellLoads {r : Int32} {m9 : CM} {i0 : Nat} {m : CM} {n9 : Nat} (h : f8_X8_tellLoads i0 m = some (r, m9, n9)) : Spec mX8_tellLoads (10) n9 [vR 8 (i0)] (cM m out rho) (Pc out rho none m9) NX := by
  unfold f8_X8_tellLoads at h
  refine spec_of (by decide) rfl (by simp [catS, cat1]) (Nat.le_of_ble_eq_true rfl) ?_
  show WP mX8_tellLoads (10) n9 0 [some (vR 8 (i0)), none] [] (cM m out rho) (Pc out rho none m9) NX
  refine wp_iconst (v := 0) dX8_tellLoads_0 (by decide) ?_
  refine wp_istore_n (L' := [some (vR 8 (i0)), some (vI (0))]) dX8_tellLoads_1 rfl rfl ?_
  exact w8_X8_tellLoads_2 FU h
def l8_X8_pass_32 : Nat → Nat → Int32 → Int32 → CM → CR (Int32 ⊕ Nat)
  | 0, _, _, _, _ => none
  | n + 1, i0, x1, x2, m =>
  if x1 ≤ x2 then
    some (.inl ((gI m 1024 i0)), m, 0)
  else
    wr (sI m 1024 i0 (((gI m 1024 i0) + 1))) fun m2 =>
    cb (f8_X8_halfOpenBreakers i0 m2) fun _ m5 =>
    cb (f8_X8_endLateCalls i0 m5) fun _ m11 =>
    cb (f8_X8_endWork i0 m11) fun _ m17 =>
    cb (f8_X8_goOnWithCalls i0 m17) fun _ m23 =>
    cb (f8_X8_goOnWithRequests i0 m23) fun _ m29 =>
    cb (f8_X8_goOnWithRepairs i0 m29) fun _ m35 =>
    cb (f8_X8_runQueued i0 m35) fun _ m41 =>
    if ((gI m41 1024 i0) - (gI m41 1024 i0) / 5 * 5) = 0 then
      cb (f8_X8_tellLoads i0 m41) fun _ m48 =>
      l8_X8_pass_32 n (i0) (x1) (x2 + 1) m48
    else
      l8_X8_pass_32 n (i0) (x1) (x2 + 1) m41
theorem w8_X8_pass_32 {r : Int32 ⊕ Nat} {m9 : CM} : ∀ (n : Nat) {i0 : Nat} {x1 : Int32} {x2 : Int32} {m : CM} {n9 : Nat}, l8_X8_pass_32 n i0 x1 x2 m = some (r, m9, n9) → WP mX8_pass (41) n9 32 [some (vR 8 (i0)), some (vI (x1)), some (vI (x2))] [] (cM m out rho) (PcE out rho r false m9) (XcE out rho r m9) := by
  intro n
  induction n with
  | zero =>
    intro i0 x1 x2  m n9 h
    rw [l8_X8_pass_32] at h
    cases h
  | succ n ih =>
    intro i0 x1 x2  m n9 h
    rw [l8_X8_pass_32] at h
    refine wp_iload_n dX8_pass_32 rfl ?_
    refine wp_iload_n dX8_pass_33 rfl ?_
    refine wp_icmp_ge (tgt := 94) dX8_pass_34 (by decide) (fun c1 => ?_) (fun c1 => ?_)
    · replace h := itp c1 h
      refine wp_aload_n dX8_pass_94 rfl ?_
      refine cp_getI (y := 0) (f := 1024) (by decide) (by decide) rfl rfl fl_X8_140 dX8_pass_95 ?_
      obtain ⟨q1, q2, q3⟩ := cs_e h
      subst q1
      subst q2
      exact wp_ireturn rfl dX8_pass_98 ⟨⟨_, rfl, rfl⟩, rfl⟩
    · replace h := itn c1 h
      refine wp_aload_n dX8_pass_37 rfl ?_
      refine wp_dup dX8_pass_38 trivial ?_
      refine cp_getI (y := 0) (f := 1024) (by decide) (by decide) rfl rfl fl_X8_140 dX8_pass_39 ?_
      refine wp_iconst (v := 1) dX8_pass_42 (by decide) ?_
      refine wp_iadd dX8_pass_43 ?_
      obtain ⟨m2, e3, h⟩ := wr_e h
      refine cp_putI (y := 0) (f := 1024) e3 (by decide) (by decide) rfl rfl (Or.inl rfl) fl_X8_140 dX8_pass_44 rfl ?_
      refine wp_aload_n dX8_pass_47 rfl ?_
      obtain ⟨r4, m5, n6, n7, hp8, h, en9⟩ := cb_e h
      refine wp_callV (k1 := n6) (k2 := n7) (As := []) (rest := []) (w8_X8_halfOpenBreakers hp8) okX8_halfOpenBreakers ivX8_halfOpenBreakers rfl (by decide) ml_X8_163 dX8_pass_48 rfl (by decide) (Nat.le_of_eq en9) rfl (Nat.le_of_ble_eq_true rfl) (fun _ _ z => z.elim) (fun r' S' z => ?_)
      obtain ⟨rfl, rfl⟩ := z
      show WP _ _ _ _ [some (vR 8 (i0)), some (vI (x1)), some (vI (x2))] [] _ _ _
      refine wp_aload_n dX8_pass_51 rfl ?_
      obtain ⟨r10, m11, n12, n13, hp14, h, en15⟩ := cb_e h
      refine wp_callV (k1 := n12) (k2 := n13) (As := []) (rest := []) (w8_X8_endLateCalls hp14) okX8_endLateCalls ivX8_endLateCalls rfl (by decide) ml_X8_166 dX8_pass_52 rfl (by decide) (Nat.le_of_eq en15) rfl (Nat.le_of_ble_eq_true rfl) (fun _ _ z => z.elim) (fun r' S' z => ?_)
      obtain ⟨rfl, rfl⟩ := z
      show WP _ _ _ _ [some (vR 8 (i0)), some (vI (x1)), some (vI (x2))] [] _ _ _
      refine wp_aload_n dX8_pass_55 rfl ?_
      obtain ⟨r16, m17, n18, n19, hp20, h, en21⟩ := cb_e h
      refine wp_callV (k1 := n18) (k2 := n19) (As := []) (rest := []) (w8_X8_endWork hp20) okX8_endWork ivX8_endWork rfl (by decide) ml_X8_169 dX8_pass_56 rfl (by decide) (Nat.le_of_eq en21) rfl (Nat.le_of_ble_eq_true rfl) (fun _ _ z => z.elim) (fun r' S' z => ?_)
      obtain ⟨rfl, rfl⟩ := z
      show WP _ _ _ _ [some (vR 8 (i0)), some (vI (x1)), some (vI (x2))] [] _ _ _
      refine wp_aload_n dX8_pass_59 rfl ?_
      obtain ⟨r22, m23, n24, n25, hp26, h, en27⟩ := cb_e h
      refine wp_callV (k1 := n24) (k2 := n25) (As := []) (rest := []) (w8_X8_goOnWithCalls hp26) okX8_goOnWithCalls ivX8_goOnWithCalls rfl (by decide) ml_X8_172 dX8_pass_60 rfl (by decide) (Nat.le_of_eq en27) rfl (Nat.le_of_ble_eq_true rfl) (fun _ _ z => z.elim) (fun r' S' z => ?_)
      obtain ⟨rfl, rfl⟩ := z
      show WP _ _ _ _ [some (vR 8 (i0)), some (vI (x1)), some (vI (x2))] [] _ _ _
      refine wp_aload_n dX8_pass_63 rfl ?_
      obtain ⟨r28, m29, n30, n31, hp32, h, en33⟩ := cb_e h
      refine wp_callV (k1 := n30) (k2 := n31) (As := []) (rest := []) (w8_X8_goOnWithRequests hp32) okX8_goOnWithRequests ivX8_goOnWithRequests rfl (by decide) ml_X8_175 dX8_pass_64 rfl (by decide) (Nat.le_of_eq en33) rfl (Nat.le_of_ble_eq_true rfl) (fun _ _ z => z.elim) (fun r' S' z => ?_)
      obtain ⟨rfl, rfl⟩ := z
      show WP _ _ _ _ [some (vR 8 (i0)), some (vI (x1)), some (vI (x2))] [] _ _ _
      refine wp_aload_n dX8_pass_67 rfl ?_
      obtain ⟨r34, m35, n36, n37, hp38, h, en39⟩ := cb_e h
      refine wp_callV (k1 := n36) (k2 := n37) (As := []) (rest := []) (w8_X8_goOnWithRepairs hp38) okX8_goOnWithRepairs ivX8_goOnWithRepairs rfl (by decide) ml_X8_178 dX8_pass_68 rfl (by decide) (Nat.le_of_eq en39) rfl (Nat.le_of_ble_eq_true rfl) (fun _ _ z => z.elim) (fun r' S' z => ?_)
      obtain ⟨rfl, rfl⟩ := z
      show WP _ _ _ _ [some (vR 8 (i0)), some (vI (x1)), some (vI (x2))] [] _ _ _
      refine wp_aload_n dX8_pass_71 rfl ?_
      obtain ⟨r40, m41, n42, n43, hp44, h, en45⟩ := cb_e h
      refine wp_callV (k1 := n42) (k2 := n43) (As := []) (rest := []) (w8_X8_runQueued hp44) okX8_runQueued ivX8_runQueued rfl (by decide) ml_X8_181 dX8_pass_72 rfl (by decide) (Nat.le_of_eq en45) rfl (Nat.le_of_ble_eq_true rfl) (fun _ _ z => z.elim) (fun r' S' z => ?_)
      obtain ⟨rfl, rfl⟩ := z
      show WP _ _ _ _ [some (vR 8 (i0)), some (vI (x1)), some (vI (x2))] [] _ _ _
      refine wp_aload_n dX8_pass_75 rfl ?_
      refine cp_getI (y := 0) (f := 1024) (by decide) (by decide) rfl rfl fl_X8_140 dX8_pass_76 ?_
      refine wp_iconst (v := 5) dX8_pass_79 (by decide) ?_
      refine wp_irem dX8_pass_80 (by decide) ?_
      refine wp_if_ne (tgt := 88) dX8_pass_81 (by decide) (fun c46 => ?_) (fun c46 => ?_)
      · replace h := itn c46 h
        refine wp_iinc (v := x2 + 1) (L' := [some (vR 8 (i0)), some (vI (x1)), some (vI (x2 + 1))]) dX8_pass_88 rfl rfl rfl ?_
        refine wp_goto (tgt := 32) dX8_pass_91 (by decide) ?_
        exact ih h
      · replace h := itp c46 h
        refine wp_aload_n dX8_pass_84 rfl ?_
        obtain ⟨r47, m48, n49, n50, hp51, h, en52⟩ := cb_e h
        refine wp_callV (k1 := n49) (k2 := n50) (As := []) (rest := []) (w8_X8_tellLoads hp51) okX8_tellLoads ivX8_tellLoads rfl (by decide) ml_X8_184 dX8_pass_85 rfl (by decide) (Nat.le_of_eq en52) rfl (Nat.le_of_ble_eq_true rfl) (fun _ _ z => z.elim) (fun r' S' z => ?_)
        obtain ⟨rfl, rfl⟩ := z
        show WP _ _ _ _ [some (vR 8 (i0)), some (vI (x1)), some (vI (x2))] [] _ _ _
        refine wp_iinc (v := x2 + 1) (L' := [some (vR 8 (i0)), some (vI (x1)), some (vI (x2 + 1))]) dX8_pass_88 rfl rfl rfl ?_
        refine wp_goto (tgt := 32) dX8_pass_91 (by decide) ?_
        exact ih h
def f8_X8_pass (i0 : Nat) (x1 : Int32) (m : CM) : CR (Int32 ⊕ Nat) :=
  cb (f8_X8_isWithin (x1) (1) (50) m) fun r1 m2 =>
  if r1 = 0 then some (.inr 1, m2, 1) else
  if 600 < ((gI m2 1024 i0) + x1) then
    some (.inr 2, m2, 1)
  else
    l8_X8_pass_32 FU (i0) (x1) (0) m2
theorem w8_X8_pass {r : Int32 ⊕ Nat} {m9 : CM} {i0 : Nat} {x1 : Int32} {m : CM} {n9 : Nat} (h : f8_X8_pass i0 x1 m = some (r, m9, n9)) : Spec mX8_pass (41) n9 [vR 8 (i0), vI (x1)] (cM m out rho) (PcE out rho r false m9) (XcE out rho r m9) := by
  unfold f8_X8_pass at h
  refine spec_of (by decide) rfl (by simp [catS, cat1]) (Nat.le_of_ble_eq_true rfl) ?_
  show WP mX8_pass (41) n9 0 [some (vR 8 (i0)), some (vI (x1)), none] [] (cM m out rho) (PcE out rho r false m9) (XcE out rho r m9)
  refine wp_iload_n dX8_pass_0 rfl ?_
  refine wp_iconst (v := 1) dX8_pass_1 (by decide) ?_
  refine wp_bipush (v := 50) dX8_pass_2 (by decide) ?_
  obtain ⟨r1, m2, n3, n4, hp5, h, en6⟩ := cb_e h
  refine wp_callS (k1 := n3) (k2 := n4) (As := [vI (x1), vI (1), vI (50)]) (rest := []) (w8_X8_isWithin hp5) okX8_isWithin sm_X8_isWithin rfl ml_X8_54 dX8_pass_4 rfl (by decide) (Nat.le_of_eq en6) rfl (Nat.le_of_ble_eq_true rfl) (fun _ _ z => z.elim) (fun r' S' z => ?_)
  obtain ⟨rfl, rfl⟩ := z
  show WP _ _ _ _ [some (vR 8 (i0)), some (vI (x1)), none] [vI (r1)] _ _ _
  by_cases c7 : r1 = 0
  · replace h := itp c7 h
    obtain ⟨q1, q2, q3⟩ := cs_e h
    subst q1
    subst q2
    subst q3
    exact wp_callS (k1 := 1) (k2 := 0) (As := [vI (r1)]) (rest := []) (w8_mustFit0 c7) okX8_mustFit sm_X8_mustFit rfl ml_X8_62 dX8_pass_7 rfl (by decide) (Nat.le_refl _) rfl (Nat.le_of_ble_eq_true rfl) (fun E S' z => ⟨⟨1, rfl, by decide, z.1⟩, z.2⟩) (fun r' S' z => z.elim)
  replace h := itn c7 h
  refine wp_callS (k1 := 0) (k2 := _) (As := [vI (r1)]) (rest := []) (w8_mustFit1 c7) okX8_mustFit sm_X8_mustFit rfl ml_X8_62 dX8_pass_7 rfl (by decide) (Nat.le_of_eq (Nat.zero_add _)) rfl (Nat.le_of_ble_eq_true rfl) (fun _ _ z => z.elim) (fun r' S' z => ?_)
  obtain ⟨rfl, rfl⟩ := z
  show WP _ _ _ _ [some (vR 8 (i0)), some (vI (x1)), none] [] _ _ _
  refine wp_aload_n dX8_pass_10 rfl ?_
  refine cp_getI (y := 0) (f := 1024) (by decide) (by decide) rfl rfl fl_X8_140 dX8_pass_11 ?_
  refine wp_iload_n dX8_pass_14 rfl ?_
  refine wp_iadd dX8_pass_15 ?_
  refine wp_sipush (v := 600) dX8_pass_16 (by decide) ?_
  refine wp_icmp_gt (tgt := 26) dX8_pass_19 (by decide) (fun c8 => ?_) (fun c8 => ?_)
  · replace h := itp c8 h
    refine wp_iconst (v := 0) dX8_pass_26 (by decide) ?_
    obtain ⟨q1, q2, q3⟩ := cs_e h
    subst q1
    subst q2
    subst q3
    exact wp_callS (k1 := 1) (k2 := 0) (As := [vI (0)]) (rest := []) (w8_mustBeAllowed0 rfl) okX8_mustBeAllowed sm_X8_mustBeAllowed rfl ml_X8_75 dX8_pass_27 rfl (by decide) (Nat.le_refl _) rfl (Nat.le_of_ble_eq_true rfl) (fun E S' z => ⟨⟨2, rfl, by decide, z.1⟩, z.2⟩) (fun r' S' z => z.elim)
  · replace h := itn c8 h
    refine wp_iconst (v := 1) dX8_pass_22 (by decide) ?_
    refine wp_goto (tgt := 27) dX8_pass_23 (by decide) ?_
    refine wp_callS (k1 := 0) (k2 := _) (As := [vI (1)]) (rest := []) (w8_mustBeAllowed1 (by decide)) okX8_mustBeAllowed sm_X8_mustBeAllowed rfl ml_X8_75 dX8_pass_27 rfl (by decide) (Nat.le_of_eq (Nat.zero_add _)) rfl (Nat.le_of_ble_eq_true rfl) (fun _ _ z => z.elim) (fun r' S' z => ?_)
    obtain ⟨rfl, rfl⟩ := z
    show WP _ _ _ _ [some (vR 8 (i0)), some (vI (x1)), none] [] _ _ _
    refine wp_iconst (v := 0) dX8_pass_30 (by decide) ?_
    refine wp_istore_n (L' := [some (vR 8 (i0)), some (vI (x1)), some (vI (0))]) dX8_pass_31 rfl rfl ?_
    exact w8_X8_pass_32 FU h
end S8
