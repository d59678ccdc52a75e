section S8
variable {out : Int64} {rho : RH}
def f8_X3_init (i0 : Nat) (m : CM) : CR (Int32) :=
  if gV m 35 i0 = false then
  cg 1 (
  wr (sNA m 35 i0) fun m4 =>
  wr (sR m4 386 i0 (some (i0))) fun m6 =>
  if gV m6 36 i0 = false then
  cg 1 (
  wr (sNA m6 36 i0) fun m11 =>
  wr (sR m11 387 i0 (some (i0))) fun m13 =>
  some (0, m13, 0))
  else none)
  else none
theorem w8_X3_init {r : Int32} {m9 : CM} {i0 : Nat} {m : CM} {n9 : Nat} (h : f8_X3_init i0 m = some (r, m9, n9)) : Spec mX3_init (1) n9 [vR 3 (i0)] (cM m out rho) (Pc out rho none m9) NX := by
  unfold f8_X3_init at h
  refine spec_of (by decide) rfl (by simp [catS, cat1]) (Nat.le_of_ble_eq_true rfl) ?_
  show WP mX3_init (1) n9 0 [some (vR 3 (i0))] [] (cM m out rho) (Pc out rho none m9) NX
  refine wp_aload_n dX3_init_0 rfl ?_
  refine wp_objinit (by decide) ml_X3_3 dX3_init_1 (Nat.le_of_ble_eq_true rfl) ?_
  refine wp_aload_n dX3_init_4 rfl ?_
  refine wp_iconst (v := 2) dX3_init_5 (by decide) ?_
  obtain ⟨c1, h⟩ := ock h
  obtain ⟨n2, h, en3⟩ := cg_e h
  rw [← en3]
  obtain ⟨m4, e5, h⟩ := wr_e h
  refine cp_newa (c := 35) (i := i0) (a := .int) e5 (by decide) (by decide) c1 (by decide) (by decide) (by decide) ac_int rfl dX3_init_6 (by decide) ?_
  obtain ⟨m6, e7, h⟩ := wr_e h
  refine cp_putR (y := 2) (f := 386) (t := 35) (o := (some (i0))) e7 (by decide) (by decide) rfl rfl (Or.inr ⟨rfl, rfl⟩) fl_X3_9 dX3_init_8 (fun _ => rfl) rfl (fun _ => rfl) (by decide) ?_
  refine wp_aload_n dX3_init_11 rfl ?_
  refine wp_iconst (v := 2) dX3_init_12 (by decide) ?_
  obtain ⟨c8, h⟩ := ock h
  obtain ⟨n9, h, en10⟩ := cg_e h
  rw [← en10]
  obtain ⟨m11, e12, h⟩ := wr_e h
  refine cp_newa (c := 36) (i := i0) (a := .int) e12 (by decide) (by decide) c8 (by decide) (by decide) (by decide) ac_int rfl dX3_init_13 (by decide) ?_
  obtain ⟨m13, e14, h⟩ := wr_e h
  refine cp_putR (y := 3) (f := 387) (t := 36) (o := (some (i0))) e14 (by decide) (by decide) rfl rfl (Or.inr ⟨rfl, rfl⟩) fl_X3_15 dX3_init_15 (fun _ => rfl) rfl (fun _ => rfl) (by decide) ?_
  obtain ⟨q1, q2, q3⟩ := cs_e h
  clear q1
  subst q2
  exact wp_return rfl dX3_init_18 ⟨rfl, rfl⟩
def f8_X6_init (i0 : Nat) (m : CM) : CR (Int32) :=
  wr (sI m 768 i0 (1)) fun m1 =>
  if gV m1 32 i0 = false then
  cg 1 (
  wr (sNA m1 32 i0) fun m6 =>
  wr (sR m6 770 i0 (some (i0))) fun m8 =>
  if gV m8 33 i0 = false then
  cg 1 (
  wr (sNA m8 33 i0) fun m13 =>
  wr (sR m13 771 i0 (some (i0))) fun m15 =>
  if gV m15 34 i0 = false then
  cg 1 (
  wr (sNA m15 34 i0) fun m20 =>
  wr (sR m20 772 i0 (some (i0))) fun m22 =>
  if gV m22 3 i0 = false then
  cg 1 (
  wr (sN m22 3 i0) fun m27 =>
  cb (f8_X3_init i0 m27) fun _ m30 =>
  wr (sR m30 773 i0 (some (i0))) fun m35 =>
  some (0, m35, 0))
  else none)
  else none)
  else none)
  else none
theorem w8_X6_init {r : Int32} {m9 : CM} {i0 : Nat} {m : CM} {n9 : Nat} (h : f8_X6_init i0 m = some (r, m9, n9)) : Spec mX6_init (2) n9 [vR 6 (i0)] (cM m out rho) (Pc out rho none m9) NX := by
  unfold f8_X6_init at h
  refine spec_of (by decide) rfl (by simp [catS, cat1]) (Nat.le_of_ble_eq_true rfl) ?_
  show WP mX6_init (2) n9 0 [some (vR 6 (i0))] [] (cM m out rho) (Pc out rho none m9) NX
  refine wp_aload_n dX6_init_0 rfl ?_
  refine wp_objinit (by decide) ml_X6_3 dX6_init_1 (Nat.le_of_ble_eq_true rfl) ?_
  refine wp_aload_n dX6_init_4 rfl ?_
  refine wp_iconst (v := 1) dX6_init_5 (by decide) ?_
  obtain ⟨m1, e2, h⟩ := wr_e h
  refine cp_putI (y := 0) (f := 768) e2 (by decide) (by decide) rfl rfl (Or.inl rfl) fl_X6_9 dX6_init_6 rfl ?_
  refine wp_aload_n dX6_init_9 rfl ?_
  refine wp_iconst (v := 4) dX6_init_10 (by decide) ?_
  obtain ⟨c3, h⟩ := ock h
  obtain ⟨n4, h, en5⟩ := cg_e h
  rw [← en5]
  obtain ⟨m6, e7, h⟩ := wr_e h
  refine cp_newa (c := 32) (i := i0) (a := .int) e7 (by decide) (by decide) c3 (by decide) (by decide) (by decide) ac_int rfl dX6_init_11 (by decide) ?_
  obtain ⟨m8, e9, h⟩ := wr_e h
  refine cp_putR (y := 2) (f := 770) (t := 32) (o := (some (i0))) e9 (by decide) (by decide) rfl rfl (Or.inr ⟨rfl, rfl⟩) fl_X6_15 dX6_init_13 (fun _ => rfl) rfl (fun _ => rfl) (by decide) ?_
  refine wp_aload_n dX6_init_16 rfl ?_
  refine wp_iconst (v := 4) dX6_init_17 (by decide) ?_
  obtain ⟨c10, h⟩ := ock h
  obtain ⟨n11, h, en12⟩ := cg_e h
  rw [← en12]
  obtain ⟨m13, e14, h⟩ := wr_e h
  refine cp_newa (c := 33) (i := i0) (a := .int) e14 (by decide) (by decide) c10 (by decide) (by decide) (by decide) ac_int rfl dX6_init_18 (by decide) ?_
  obtain ⟨m15, e16, h⟩ := wr_e h
  refine cp_putR (y := 3) (f := 771) (t := 33) (o := (some (i0))) e16 (by decide) (by decide) rfl rfl (Or.inr ⟨rfl, rfl⟩) fl_X6_19 dX6_init_20 (fun _ => rfl) rfl (fun _ => rfl) (by decide) ?_
  refine wp_aload_n dX6_init_23 rfl ?_
  refine wp_iconst (v := 4) dX6_init_24 (by decide) ?_
  obtain ⟨c17, h⟩ := ock h
  obtain ⟨n18, h, en19⟩ := cg_e h
  rw [← en19]
  obtain ⟨m20, e21, h⟩ := wr_e h
  refine cp_newa (c := 34) (i := i0) (a := .boolean) e21 (by decide) (by decide) c17 (by decide) (by decide) (by decide) ac_boolean rfl dX6_init_25 (by decide) ?_
  obtain ⟨m22, e23, h⟩ := wr_e h
  refine cp_putR (y := 4) (f := 772) (t := 34) (o := (some (i0))) e23 (by decide) (by decide) rfl rfl (Or.inr ⟨rfl, rfl⟩) fl_X6_22 dX6_init_27 (fun _ => rfl) rfl (fun _ => rfl) (by decide) ?_
  refine wp_aload_n dX6_init_30 rfl ?_
  obtain ⟨c24, h⟩ := ock h
  obtain ⟨n25, h, en26⟩ := cg_e h
  rw [← en26]
  obtain ⟨m27, e28, h⟩ := wr_e h
  refine cp_new (c := 3) (i := i0) e28 (by decide) c24 kl_X6_26 it_X3 in_X3 dX6_init_31 ?_
  refine wp_dup dX6_init_34 trivial ?_
  obtain ⟨r29, m30, n31, n32, hp33, h, en34⟩ := cb_e h
  refine wp_callIN (k1 := n31) (k2 := n32) (As := []) (rest := [vR 3 (i0), vR 6 (i0)]) (w8_X3_init hp33) okX3_init rfl rfl im_X3_init (fun s hk => hk.2.2.2.2.2.2.1) dX6_init_35 (by decide) (Nat.le_of_eq en34) rfl (Nat.le_of_ble_eq_true rfl) (fun r' S' z => ?_)
  obtain ⟨rfl, rfl⟩ := z
  show WP _ _ _ _ [some (vR 6 (i0))] [vR 3 (i0), vR 6 (i0)] _ _ _
  obtain ⟨m35, e36, h⟩ := wr_e h
  refine cp_putR (y := 5) (f := 773) (t := 3) (o := (some (i0))) e36 (by decide) (by decide) rfl rfl (Or.inr ⟨rfl, rfl⟩) fl_X6_29 dX6_init_38 (fun _ => rfl) rfl (fun _ => rfl) (by decide) ?_
  obtain ⟨q1, q2, q3⟩ := cs_e h
  clear q1
  subst q2
  exact wp_return rfl dX6_init_41 ⟨rfl, rfl⟩
def f8_X2_init (i0 : Nat) (m : CM) : CR (Int32) :=
  wr (sI m 256 i0 (1000)) fun m1 =>
  wr (sI m1 257 i0 (10)) fun m3 =>
  some (0, m3, 0)
theorem w8_X2_init {r : Int32} {m9 : CM} {i0 : Nat} {m : CM} {n9 : Nat} (h : f8_X2_init i0 m = some (r, m9, n9)) : Spec mX2_init (1) n9 [vR 2 (i0)] (cM m out rho) (Pc out rho none m9) NX := by
  unfold f8_X2_init at h
  refine spec_of (by decide) rfl (by simp [catS, cat1]) (Nat.le_of_ble_eq_true rfl) ?_
  show WP mX2_init (1) n9 0 [some (vR 2 (i0))] [] (cM m out rho) (Pc out rho none m9) NX
  refine wp_aload_n dX2_init_0 rfl ?_
  refine wp_objinit (by decide) ml_X2_3 dX2_init_1 (Nat.le_of_ble_eq_true rfl) ?_
  refine wp_aload_n dX2_init_4 rfl ?_
  refine wp_sipush (v := 1000) dX2_init_5 (by decide) ?_
  obtain ⟨m1, e2, h⟩ := wr_e h
  refine cp_putI (y := 0) (f := 256) e2 (by decide) (by decide) rfl rfl (Or.inl rfl) fl_X2_9 dX2_init_8 rfl ?_
  refine wp_aload_n dX2_init_11 rfl ?_
  refine wp_bipush (v := 10) dX2_init_12 (by decide) ?_
  obtain ⟨m3, e4, h⟩ := wr_e h
  refine cp_putI (y := 1) (f := 257) e4 (by decide) (by decide) rfl rfl (Or.inl rfl) fl_X2_15 dX2_init_14 rfl ?_
  obtain ⟨q1, q2, q3⟩ := cs_e h
  clear q1
  subst q2
  exact wp_return rfl dX2_init_17 ⟨rfl, rfl⟩
def l8_X8_init_156 (K149 : Nat → Int32 → CM → CR (Int32)) : Nat → Nat → Int32 → Int32 → CM → CR (Int32)
  | 0, _, _, _, _ => none
  | n + 1, i0, x1, x2, m =>
  if 49 ≤ x2 then
    K149 (i0) (x1 + 1) m
  else
    od (gR m 1028 i0) fun j2 =>
    if vq (x1) 3 then
    od (gO m 40 j2 (x1).toNatClampNeg) fun j5 =>
    if vq (x2) 49 then
    wr (sA m 37 j5 (x2).toNatClampNeg ((-1))) fun m8 =>
    l8_X8_init_156 K149 n (i0) (x1) (x2 + 1) m8
    else none
    else none
theorem w8_X8_init_156 {K149 : Nat → Int32 → CM → CR (Int32)} {r : Int32} {m9 : CM} (hK149 : ∀ {i0 : Nat} {x1 : Int32} {l2 : Option sV} {m : CM} {n9 : Nat}, K149 i0 x1 m = some (r, m9, n9) → WP mX8_init (8) n9 149 [some (vR 8 (i0)), some (vI (x1)), l2] [] (cM m out rho) (Pc out rho none m9) NX) : ∀ (n : Nat) {i0 : Nat} {x1 : Int32} {x2 : Int32} {m : CM} {n9 : Nat}, l8_X8_init_156 K149 n i0 x1 x2 m = some (r, m9, n9) → WP mX8_init (8) n9 156 [some (vR 8 (i0)), some (vI (x1)), some (vI (x2))] [] (cM m out rho) (Pc out rho none m9) NX := by
  intro n
  induction n with
  | zero =>
    intro i0 x1 x2  m n9 h
    rw [l8_X8_init_156] at h
    cases h
  | succ n ih =>
    intro i0 x1 x2  m n9 h
    rw [l8_X8_init_156] at h
    refine wp_iload_n dX8_init_156 rfl ?_
    refine wp_bipush (v := 49) dX8_init_157 (by decide) ?_
    refine wp_icmp_ge (tgt := 177) dX8_init_159 (by decide) (fun c1 => ?_) (fun c1 => ?_)
    · replace h := itp c1 h
      refine wp_iinc (v := x1 + 1) (L' := [some (vR 8 (i0)), some (vI (x1 + 1)), some (vI (x2))]) dX8_init_177 rfl rfl rfl ?_
      refine wp_goto (tgt := 149) dX8_init_180 (by decide) ?_
      exact hK149 h
    · replace h := itn c1 h
      refine wp_aload_n dX8_init_162 rfl ?_
      obtain ⟨j2, ho3, h⟩ := od_e h
      refine cp_getS (y := 4) (f := 1028) (t := 40) (by decide) (by decide) rfl rfl fl_X8_21 dX8_init_163 ho3 ?_
      refine wp_iload_n dX8_init_166 rfl ?_
      obtain ⟨c4, h⟩ := ock h
      obtain ⟨j5, ho6, h⟩ := od_e h
      refine cp_aald (c := 40) (t := 37) rfl (by decide) rfl (show vp_in (x1) (len 40) from c4) dX8_init_167 ho6 ?_
      refine wp_iload_n dX8_init_168 rfl ?_
      refine wp_iconst (v := (-1)) dX8_init_169 (by decide) ?_
      obtain ⟨c7, h⟩ := ock h
      obtain ⟨m8, e9, h⟩ := wr_e h
      refine cp_iast (c := 37) e9 rfl (by decide) (show vp_in (x2) (len 37) from c7) dX8_init_170 ?_
      refine wp_iinc (v := x2 + 1) (L' := [some (vR 8 (i0)), some (vI (x1)), some (vI (x2 + 1))]) dX8_init_171 rfl rfl rfl ?_
      refine wp_goto (tgt := 156) dX8_init_174 (by decide) ?_
      exact ih h
def l8_X8_init_149 : Nat → Nat → Int32 → CM → CR (Int32)
  | 0, _, _, _ => none
  | n + 1, i0, x1, m =>
  if 3 ≤ x1 then
    some (0, m, 0)
  else
    l8_X8_init_156 (l8_X8_init_149 n) FU (i0) (x1) (0) m
theorem w8_X8_init_149 {r : Int32} {m9 : CM} : ∀ (n : Nat) {i0 : Nat} {x1 : Int32} {l2 : Option sV} {m : CM} {n9 : Nat}, l8_X8_init_149 n i0 x1 m = some (r, m9, n9) → WP mX8_init (8) n9 149 [some (vR 8 (i0)), some (vI (x1)), l2] [] (cM m out rho) (Pc out rho none m9) NX := by
  intro n
  induction n with
  | zero =>
    intro i0 x1 l2 m n9 h
    rw [l8_X8_init_149] at h
    cases h
  | succ n ih =>
    intro i0 x1 l2 m n9 h
    rw [l8_X8_init_149] at h
    refine wp_iload_n dX8_init_149 rfl ?_
    refine wp_iconst (v := 3) dX8_init_150 (by decide) ?_
    refine wp_icmp_ge (tgt := 183) dX8_init_151 (by decide) (fun c1 => ?_) (fun c1 => ?_)
    · replace h := itp c1 h
      obtain ⟨q1, q2, q3⟩ := cs_e h
      clear q1
      subst q2
      exact wp_return rfl dX8_init_183 ⟨rfl, rfl⟩
    · replace h := itn c1 h
      refine wp_iconst (v := 0) dX8_init_154 (by decide) ?_
      refine wp_istore_n (L' := [some (vR 8 (i0)), some (vI (x1)), some (vI (0))]) dX8_init_155 rfl rfl ?_
      exact w8_X8_init_156 ih FU h
def l8_X8_init_122 : Nat → Nat → Int32 → CM → CR (Int32)
  | 0, _, _, _ => none
  | n + 1, i0, x1, m =>
  if 7 ≤ x1 then
    l8_X8_init_149 FU (i0) (0) m
  else
    od (gR m 1030 i0) fun j2 =>
    if gV m 2 ((x1).toNatClampNeg) = false then
    cg 1 (
    wr (sN m 2 ((x1).toNatClampNeg)) fun m7 =>
    cb (f8_X2_init ((x1).toNatClampNeg) m7) fun _ m10 =>
    if vq (x1) 7 then
    wr (sO m10 42 j2 (x1).toNatClampNeg (some ((x1).toNatClampNeg))) fun m16 =>
    l8_X8_init_122 n (i0) (x1 + 1) m16
    else none)
    else none
theorem w8_X8_init_122 {r : Int32} {m9 : CM} : ∀ (n : Nat) {i0 : Nat} {x1 : Int32} {l2 : Option sV} {m : CM} {n9 : Nat}, l8_X8_init_122 n i0 x1 m = some (r, m9, n9) → WP mX8_init (8) n9 122 [some (vR 8 (i0)), some (vI (x1)), l2] [] (cM m out rho) (Pc out rho none m9) NX := by
  intro n
  induction n with
  | zero =>
    intro i0 x1 l2 m n9 h
    rw [l8_X8_init_122] at h
    cases h
  | succ n ih =>
    intro i0 x1 l2 m n9 h
    rw [l8_X8_init_122] at h
    refine wp_iload_n dX8_init_122 rfl ?_
    refine wp_bipush (v := 7) dX8_init_123 (by decide) ?_
    refine wp_icmp_ge (tgt := 147) dX8_init_125 (by decide) (fun c1 => ?_) (fun c1 => ?_)
    · replace h := itp c1 h
      refine wp_iconst (v := 0) dX8_init_147 (by decide) ?_
      refine wp_istore_n (L' := [some (vR 8 (i0)), some (vI (0)), l2]) dX8_init_148 rfl rfl ?_
      exact w8_X8_init_149 FU h
    · replace h := itn c1 h
      refine wp_aload_n dX8_init_128 rfl ?_
      obtain ⟨j2, ho3, h⟩ := od_e h
      refine cp_getS (y := 6) (f := 1030) (t := 42) (by decide) (by decide) rfl rfl fl_X8_32 dX8_init_129 ho3 ?_
      refine wp_iload_n dX8_init_132 rfl ?_
      obtain ⟨c4, h⟩ := ock h
      obtain ⟨n5, h, en6⟩ := cg_e h
      rw [← en6]
      obtain ⟨m7, e8, h⟩ := wr_e h
      refine cp_new (c := 2) (i := (x1).toNatClampNeg) e8 (by decide) c4 kl_X8_30 it_X2 in_X2 dX8_init_133 ?_
      refine wp_dup dX8_init_136 trivial ?_
      obtain ⟨r9, m10, n11, n12, hp13, h, en14⟩ := cb_e h
      refine wp_callIN (k1 := n11) (k2 := n12) (As := []) (rest := [vR 2 (((x1).toNatClampNeg)), vI (x1), vR 42 (j2)]) (w8_X2_init hp13) okX2_init rfl rfl im_X2_init (fun s hk => hk.2.2.2.2.2.2.2.1) dX8_init_137 (by decide) (Nat.le_of_eq en14) rfl (Nat.le_of_ble_eq_true rfl) (fun r' S' z => ?_)
      obtain ⟨rfl, rfl⟩ := z
      show WP _ _ _ _ [some (vR 8 (i0)), some (vI (x1)), l2] [vR 2 (((x1).toNatClampNeg)), vI (x1), vR 42 (j2)] _ _ _
      obtain ⟨c15, h⟩ := ock h
      obtain ⟨m16, e17, h⟩ := wr_e h
      refine cp_aast (c := 42) (t := 2) e17 rfl (by decide) rfl (show vp_in (x1) (len 42) from c15) dX8_init_140 ?_
      refine wp_iinc (v := x1 + 1) (L' := [some (vR 8 (i0)), some (vI (x1 + 1)), l2]) dX8_init_141 rfl rfl rfl ?_
      refine wp_goto (tgt := 122) dX8_init_144 (by decide) ?_
      exact ih h
def l8_X8_init_95 : Nat → Nat → Int32 → CM → CR (Int32)
  | 0, _, _, _ => none
  | n + 1, i0, x1, m =>
  if 6 ≤ x1 then
    l8_X8_init_122 FU (i0) (0) m
  else
    od (gR m 1029 i0) fun j2 =>
    if gV m 6 ((x1).toNatClampNeg) = false then
    cg 1 (
    wr (sN m 6 ((x1).toNatClampNeg)) fun m7 =>
    cb (f8_X6_init ((x1).toNatClampNeg) m7) fun _ m10 =>
    if vq (x1) 6 then
    wr (sO m10 41 j2 (x1).toNatClampNeg (some ((x1).toNatClampNeg))) fun m16 =>
    l8_X8_init_95 n (i0) (x1 + 1) m16
    else none)
    else none
theorem w8_X8_init_95 {r : Int32} {m9 : CM} : ∀ (n : Nat) {i0 : Nat} {x1 : Int32} {l2 : Option sV} {m : CM} {n9 : Nat}, l8_X8_init_95 n i0 x1 m = some (r, m9, n9) → WP mX8_init (8) n9 95 [some (vR 8 (i0)), some (vI (x1)), l2] [] (cM m out rho) (Pc out rho none m9) NX := by
  intro n
  induction n with
  | zero =>
    intro i0 x1 l2 m n9 h
    rw [l8_X8_init_95] at h
    cases h
  | succ n ih =>
    intro i0 x1 l2 m n9 h
    rw [l8_X8_init_95] at h
    refine wp_iload_n dX8_init_95 rfl ?_
    refine wp_bipush (v := 6) dX8_init_96 (by decide) ?_
    refine wp_icmp_ge (tgt := 120) dX8_init_98 (by decide) (fun c1 => ?_) (fun c1 => ?_)
    · replace h := itp c1 h
      refine wp_iconst (v := 0) dX8_init_120 (by decide) ?_
      refine wp_istore_n (L' := [some (vR 8 (i0)), some (vI (0)), l2]) dX8_init_121 rfl rfl ?_
      exact w8_X8_init_122 FU h
    · replace h := itn c1 h
      refine wp_aload_n dX8_init_101 rfl ?_
      obtain ⟨j2, ho3, h⟩ := od_e h
      refine cp_getS (y := 5) (f := 1029) (t := 41) (by decide) (by decide) rfl rfl fl_X8_26 dX8_init_102 ho3 ?_
      refine wp_iload_n dX8_init_105 rfl ?_
      obtain ⟨c4, h⟩ := ock h
      obtain ⟨n5, h, en6⟩ := cg_e h
      rw [← en6]
      obtain ⟨m7, e8, h⟩ := wr_e h
      refine cp_new (c := 6) (i := (x1).toNatClampNeg) e8 (by decide) c4 kl_X8_24 it_X6 in_X6 dX8_init_106 ?_
      refine wp_dup dX8_init_109 trivial ?_
      obtain ⟨r9, m10, n11, n12, hp13, h, en14⟩ := cb_e h
      refine wp_callIN (k1 := n11) (k2 := n12) (As := []) (rest := [vR 6 (((x1).toNatClampNeg)), vI (x1), vR 41 (j2)]) (w8_X6_init hp13) okX6_init rfl rfl im_X6_init (fun s hk => hk.2.2.2.2.2.1) dX8_init_110 (by decide) (Nat.le_of_eq en14) rfl (Nat.le_of_ble_eq_true rfl) (fun r' S' z => ?_)
      obtain ⟨rfl, rfl⟩ := z
      show WP _ _ _ _ [some (vR 8 (i0)), some (vI (x1)), l2] [vR 6 (((x1).toNatClampNeg)), vI (x1), vR 41 (j2)] _ _ _
      obtain ⟨c15, h⟩ := ock h
      obtain ⟨m16, e17, h⟩ := wr_e h
      refine cp_aast (c := 41) (t := 6) e17 rfl (by decide) rfl (show vp_in (x1) (len 41) from c15) dX8_init_113 ?_
      refine wp_iinc (v := x1 + 1) (L' := [some (vR 8 (i0)), some (vI (x1 + 1)), l2]) dX8_init_114 rfl rfl rfl ?_
      refine wp_goto (tgt := 95) dX8_init_117 (by decide) ?_
      exact ih h
def f8_X8_init (i0 : Nat) (m : CM) : CR (Int32) :=
  wr (sI m 1025 i0 (3)) fun m1 =>
  wr (sI m1 1026 i0 (4)) fun m3 =>
  wr (sI m3 1027 i0 (30)) fun m5 =>
  if (gV m5 40 0 = false ∧ gV m5 37 0 = false ∧ gV m5 37 1 = false ∧ gV m5 37 2 = false) then
  cg 4 (
  wr (sNM m5) fun m10 =>
  wr (sR m10 1028 i0 (some (0))) fun m12 =>
  if gV m12 41 i0 = false then
  cg 1 (
  wr (sNO m12 41 i0) fun m17 =>
  wr (sR m17 1029 i0 (some (i0))) fun m19 =>
  if gV m19 42 i0 = false then
  cg 1 (
  wr (sNO m19 42 i0) fun m24 =>
  wr (sR m24 1030 i0 (some (i0))) fun m26 =>
  if gV m26 50 i0 = false then
  cg 1 (
  wr (sNL m26 50 i0) fun m31 =>
  wr (sR m31 1031 i0 (some (i0))) fun m33 =>
  if gV m33 51 i0 = false then
  cg 1 (
  wr (sNL m33 51 i0) fun m38 =>
  wr (sR m38 1032 i0 (some (i0))) fun m40 =>
  if gV m40 52 i0 = false then
  cg 1 (
  wr (sNL m40 52 i0) fun m45 =>
  wr (sR m45 1033 i0 (some (i0))) fun m47 =>
  if gV m47 53 i0 = false then
  cg 1 (
  wr (sNL m47 53 i0) fun m52 =>
  wr (sR m52 1034 i0 (some (i0))) fun m54 =>
  l8_X8_init_95 FU (i0) (0) m54)
  else none)
  else none)
  else none)
  else none)
  else none)
  else none)
  else none
theorem w8_X8_init {r : Int32} {m9 : CM} {i0 : Nat} {m : CM} {n9 : Nat} (h : f8_X8_init i0 m = some (r, m9, n9)) : Spec mX8_init (8) n9 [vR 8 (i0)] (cM m out rho) (Pc out rho none m9) NX := by
  unfold f8_X8_init at h
  refine spec_of (by decide) rfl (by simp [catS, cat1]) (Nat.le_of_ble_eq_true rfl) ?_
  show WP mX8_init (8) n9 0 [some (vR 8 (i0)), none, none] [] (cM m out rho) (Pc out rho none m9) NX
  refine wp_aload_n dX8_init_0 rfl ?_
  refine wp_objinit (by decide) ml_X8_3 dX8_init_1 (Nat.le_of_ble_eq_true rfl) ?_
  refine wp_aload_n dX8_init_4 rfl ?_
  refine wp_iconst (v := 3) dX8_init_5 (by decide) ?_
  obtain ⟨m1, e2, h⟩ := wr_e h
  refine cp_putI (y := 1) (f := 1025) e2 (by decide) (by decide) rfl rfl (Or.inl rfl) fl_X8_9 dX8_init_6 rfl ?_
  refine wp_aload_n dX8_init_9 rfl ?_
  refine wp_iconst (v := 4) dX8_init_10 (by decide) ?_
  obtain ⟨m3, e4, h⟩ := wr_e h
  refine cp_putI (y := 2) (f := 1026) e4 (by decide) (by decide) rfl rfl (Or.inl rfl) fl_X8_13 dX8_init_11 rfl ?_
  refine wp_aload_n dX8_init_14 rfl ?_
  refine wp_bipush (v := 30) dX8_init_15 (by decide) ?_
  obtain ⟨m5, e6, h⟩ := wr_e h
  refine cp_putI (y := 3) (f := 1027) e6 (by decide) (by decide) rfl rfl (Or.inl rfl) fl_X8_16 dX8_init_17 rfl ?_
  refine wp_aload_n dX8_init_20 rfl ?_
  refine wp_iconst (v := 3) dX8_init_21 (by decide) ?_
  refine wp_bipush (v := 49) dX8_init_22 (by decide) ?_
  obtain ⟨c7, h⟩ := ock h
  obtain ⟨n8, h, en9⟩ := cg_e h
  rw [← en9]
  obtain ⟨m10, e11, h⟩ := wr_e h
  refine cp_mna e11 rfl rfl (mP4 c7) kl_X8_19 ac_int dX8_init_24 ?_
  obtain ⟨m12, e13, h⟩ := wr_e h
  refine cp_putR (y := 4) (f := 1028) (t := 40) (o := (some (0))) e13 (by decide) (by decide) rfl rfl (Or.inr ⟨rfl, rfl⟩) fl_X8_21 dX8_init_28 (fun _ => rfl) rfl (fun _ => rfl) (by decide) ?_
  refine wp_aload_n dX8_init_31 rfl ?_
  refine wp_bipush (v := 6) dX8_init_32 (by decide) ?_
  obtain ⟨c14, h⟩ := ock h
  obtain ⟨n15, h, en16⟩ := cg_e h
  rw [← en16]
  obtain ⟨m17, e18, h⟩ := wr_e h
  refine cp_anew (c := 41) (i := i0) e18 rfl (by decide) c14 (by decide) (by decide) kl_X8_24 (fun s hk => hk.1) dX8_init_34 ?_
  obtain ⟨m19, e20, h⟩ := wr_e h
  refine cp_putR (y := 5) (f := 1029) (t := 41) (o := (some (i0))) e20 (by decide) (by decide) rfl rfl (Or.inr ⟨rfl, rfl⟩) fl_X8_26 dX8_init_37 (fun _ => rfl) rfl (fun _ => rfl) (by decide) ?_
  refine wp_aload_n dX8_init_40 rfl ?_
  refine wp_bipush (v := 7) dX8_init_41 (by decide) ?_
  obtain ⟨c21, h⟩ := ock h
  obtain ⟨n22, h, en23⟩ := cg_e h
  rw [← en23]
  obtain ⟨m24, e25, h⟩ := wr_e h
  refine cp_anew (c := 42) (i := i0) e25 rfl (by decide) c21 (by decide) (by decide) kl_X8_30 (fun s hk => hk.2.1) dX8_init_43 ?_
  obtain ⟨m26, e27, h⟩ := wr_e h
  refine cp_putR (y := 6) (f := 1030) (t := 42) (o := (some (i0))) e27 (by decide) (by decide) rfl rfl (Or.inr ⟨rfl, rfl⟩) fl_X8_32 dX8_init_46 (fun _ => rfl) rfl (fun _ => rfl) (by decide) ?_
  refine wp_aload_n dX8_init_49 rfl ?_
  obtain ⟨c28, h⟩ := ock h
  obtain ⟨n29, h, en30⟩ := cg_e h
  rw [← en30]
  obtain ⟨m31, e32, h⟩ := wr_e h
  refine cp_newlist (c := 50) e32 rfl c28 (by decide) kl_X8_36 ml_X8_38 dX8_init_50 dX8_init_53 dX8_init_54 (Nat.le_of_ble_eq_true rfl) ?_
  obtain ⟨m33, e34, h⟩ := wr_e h
  refine cp_putR (y := 7) (f := 1031) (t := 50) (o := (some (i0))) e34 (by decide) (by decide) rfl rfl (Or.inr ⟨rfl, rfl⟩) fl_X8_39 dX8_init_57 (fun _ => rfl) rfl (fun _ => rfl) (by decide) ?_
  refine wp_aload_n dX8_init_60 rfl ?_
  obtain ⟨c35, h⟩ := ock h
  obtain ⟨n36, h, en37⟩ := cg_e h
  rw [← en37]
  obtain ⟨m38, e39, h⟩ := wr_e h
  refine cp_newlist (c := 51) e39 rfl c35 (by decide) kl_X8_36 ml_X8_38 dX8_init_61 dX8_init_64 dX8_init_65 (Nat.le_of_ble_eq_true rfl) ?_
  obtain ⟨m40, e41, h⟩ := wr_e h
  refine cp_putR (y := 8) (f := 1032) (t := 51) (o := (some (i0))) e41 (by decide) (by decide) rfl rfl (Or.inr ⟨rfl, rfl⟩) fl_X8_43 dX8_init_68 (fun _ => rfl) rfl (fun _ => rfl) (by decide) ?_
  refine wp_aload_n dX8_init_71 rfl ?_
  obtain ⟨c42, h⟩ := ock h
  obtain ⟨n43, h, en44⟩ := cg_e h
  rw [← en44]
  obtain ⟨m45, e46, h⟩ := wr_e h
  refine cp_newlist (c := 52) e46 rfl c42 (by decide) kl_X8_36 ml_X8_38 dX8_init_72 dX8_init_75 dX8_init_76 (Nat.le_of_ble_eq_true rfl) ?_
  obtain ⟨m47, e48, h⟩ := wr_e h
  refine cp_putR (y := 9) (f := 1033) (t := 52) (o := (some (i0))) e48 (by decide) (by decide) rfl rfl (Or.inr ⟨rfl, rfl⟩) fl_X8_46 dX8_init_79 (fun _ => rfl) rfl (fun _ => rfl) (by decide) ?_
  refine wp_aload_n dX8_init_82 rfl ?_
  obtain ⟨c49, h⟩ := ock h
  obtain ⟨n50, h, en51⟩ := cg_e h
  rw [← en51]
  obtain ⟨m52, e53, h⟩ := wr_e h
  refine cp_newlist (c := 53) e53 rfl c49 (by decide) kl_X8_36 ml_X8_38 dX8_init_83 dX8_init_86 dX8_init_87 (Nat.le_of_ble_eq_true rfl) ?_
  obtain ⟨m54, e55, h⟩ := wr_e h
  refine cp_putR (y := 10) (f := 1034) (t := 53) (o := (some (i0))) e55 (by decide) (by decide) rfl rfl (Or.inr ⟨rfl, rfl⟩) fl_X8_49 dX8_init_90 (fun _ => rfl) rfl (fun _ => rfl) (by decide) ?_
  refine wp_iconst (v := 0) dX8_init_93 (by decide) ?_
  refine wp_istore_n (L' := [some (vR 8 (i0)), some (vI (0)), none]) dX8_init_94 rfl rfl ?_
  exact w8_X8_init_95 FU h
def f8_X8_tick (i0 : Nat) (m : CM) : CR (Int32) :=
  some ((gI m 1024 i0), m, 0)
theorem w8_X8_tick {r : Int32} {m9 : CM} {i0 : Nat} {m : CM} {n9 : Nat} (h : f8_X8_tick i0 m = some (r, m9, n9)) : Spec mX8_tick (0) n9 [vR 8 (i0)] (cM m out rho) (Pc out rho (some (vI r)) m9) NX := by
  unfold f8_X8_tick at h
  refine spec_of (by decide) rfl (by simp [catS, cat1]) (Nat.le_of_ble_eq_true rfl) ?_
  show WP mX8_tick (0) n9 0 [some (vR 8 (i0))] [] (cM m out rho) (Pc out rho (some (vI r)) m9) NX
  refine wp_aload_n dX8_tick_0 rfl ?_
  refine cp_getI (y := 0) (f := 1024) (by decide) (by decide) rfl rfl fl_X8_140 dX8_tick_1 ?_
  obtain ⟨q1, q2, q3⟩ := cs_e h
  subst q1
  subst q2
  exact wp_ireturn rfl dX8_tick_4 ⟨rfl, rfl⟩
def f8_X8_calls (i0 : Nat) (m : CM) : CR (Int32) :=
  od (gR m 1033 i0) fun j1 =>
  some ((nI (gL m 52 j1).length), m, 0)
theorem w8_X8_calls {r : Int32} {m9 : CM} {i0 : Nat} {m : CM} {n9 : Nat} (h : f8_X8_calls i0 m = some (r, m9, n9)) : Spec mX8_calls (8) n9 [vR 8 (i0)] (cM m out rho) (Pc out rho (some (vI r)) m9) NX := by
  unfold f8_X8_calls at h
  refine spec_of (by decide) rfl (by simp [catS, cat1]) (Nat.le_of_ble_eq_true rfl) ?_
  show WP mX8_calls (8) n9 0 [some (vR 8 (i0))] [] (cM m out rho) (Pc out rho (some (vI r)) m9) NX
  refine wp_aload_n dX8_calls_0 rfl ?_
  obtain ⟨j1, ho2, h⟩ := od_e h
  refine cp_getS (y := 9) (f := 1033) (t := 52) (by decide) (by decide) rfl rfl fl_X8_46 dX8_calls_1 ho2 ?_
  refine cp_size (c := 52) rfl (by decide) ml_X8_82 dX8_calls_4 (Nat.le_of_ble_eq_true rfl) ?_
  obtain ⟨q1, q2, q3⟩ := cs_e h
  subst q1
  subst q2
  exact wp_ireturn rfl dX8_calls_7 ⟨rfl, rfl⟩
def f8_X8_isWithin (x0 : Int32) (x1 : Int32) (x2 : Int32) (m : CM) : CR (Int32) :=
  if x0 < x1 then
    some (0, m, 0)
  else
    if x2 < x0 then
      some (0, m, 0)
    else
      some (1, m, 0)
theorem w8_X8_isWithin {r : Int32} {m9 : CM} {x0 : Int32} {x1 : Int32} {x2 : Int32} {m : CM} {n9 : Nat} (h : f8_X8_isWithin x0 x1 x2 m = some (r, m9, n9)) : Spec mX8_isWithin (0) n9 [vI (x0), vI (x1), vI (x2)] (cM m out rho) (Pc out rho (some (vI r)) m9) NX := by
  unfold f8_X8_isWithin at h
  refine spec_of (by decide) rfl (by simp [catS, cat1]) (Nat.le_of_ble_eq_true rfl) ?_
  show WP mX8_isWithin (0) n9 0 [some (vI (x0)), some (vI (x1)), some (vI (x2))] [] (cM m out rho) (Pc out rho (some (vI r)) m9) NX
  refine wp_iload_n dX8_isWithin_0 rfl ?_
  refine wp_iload_n dX8_isWithin_1 rfl ?_
  refine wp_icmp_lt (tgt := 14) dX8_isWithin_2 (by decide) (fun c1 => ?_) (fun c1 => ?_)
  · replace h := itp c1 h
    refine wp_iconst (v := 0) dX8_isWithin_14 (by decide) ?_
    obtain ⟨q1, q2, q3⟩ := cs_e h
    subst q1
    subst q2
    exact wp_zreturn rfl (by decide) dX8_isWithin_15 ⟨rfl, rfl⟩
  · replace h := itn c1 h
    refine wp_iload_n dX8_isWithin_5 rfl ?_
    refine wp_iload_n dX8_isWithin_6 rfl ?_
    refine wp_icmp_gt (tgt := 14) dX8_isWithin_7 (by decide) (fun c2 => ?_) (fun c2 => ?_)
    · replace h := itp c2 h
      refine wp_iconst (v := 0) dX8_isWithin_14 (by decide) ?_
      obtain ⟨q1, q2, q3⟩ := cs_e h
      subst q1
      subst q2
      exact wp_zreturn rfl (by decide) dX8_isWithin_15 ⟨rfl, rfl⟩
    · replace h := itn c2 h
      refine wp_iconst (v := 1) dX8_isWithin_10 (by decide) ?_
      refine wp_goto (tgt := 15) dX8_isWithin_11 (by decide) ?_
      obtain ⟨q1, q2, q3⟩ := cs_e h
      subst q1
      subst q2
      exact wp_zreturn rfl (by decide) dX8_isWithin_15 ⟨rfl, rfl⟩
def f8_X8_call (i0 : Nat) (x1 : Int32) (x2 : Int32) (m : CM) : CR (Int32 ⊕ Nat) :=
  od (gR m 1033 i0) fun j1 =>
  cb (f8_X8_isWithin (x1) (0) (((nI (gL m 52 j1).length) - 1)) m) fun r3 m4 =>
  if r3 = 0 then some (.inr 0, m4, 1) else
  cb (f8_X8_isWithin (x2) (0) (7) m4) fun r10 m11 =>
  if r10 = 0 then some (.inr 1, m11, 1) else
  od (gR m11 1033 i0) fun j17 =>
  if ¬ x1 < 0 then
  od ((gL m11 52 j17)[(x1).toNatClampNeg]?) fun j20 =>
  if x2 = nI 0 then
    od (gR m11 129 j20) fun j23 =>
    some (.inl ((gI m11 897 j23)), m11, 0)
  else
  if x2 = nI 1 then
    od (gR m11 130 j20) fun j26 =>
    some (.inl ((gI m11 512 j26)), m11, 0)
  else
  if x2 = nI 2 then
    some (.inl ((gI m11 133 j20)), m11, 0)
  else
  if x2 = nI 3 then
    some (.inl ((gI m11 131 j20)), m11, 0)
  else
  if x2 = nI 4 then
    od (gR m11 129 j20) fun j31 =>
    if gR m11 904 j31 = none then
      some (.inl ((-1)), m11, 0)
    else
      od (gR m11 904 j31) fun j34 =>
      some (.inl ((gI m11 128 j34)), m11, 0)
  else
  if x2 = nI 5 then
    od (gR m11 129 j20) fun j37 =>
    some (.inl ((gI m11 902 j37)), m11, 0)
  else
  if x2 = nI 6 then
    od (gR m11 132 j20) fun j40 =>
    some (.inl ((nI (gL m11 56 j40).length)), m11, 0)
  else
  od (gR m11 129 j20) fun j42 =>
  some (.inl ((gI m11 903 j42)), m11, 0)
  else none
theorem w8_X8_call {r : Int32 ⊕ Nat} {m9 : CM} {i0 : Nat} {x1 : Int32} {x2 : Int32} {m : CM} {n9 : Nat} (h : f8_X8_call i0 x1 x2 m = some (r, m9, n9)) : Spec mX8_call (9) n9 [vR 8 (i0), vI (x1), vI (x2)] (cM m out rho) (PcE out rho r false m9) (XcE out rho r m9) := by
  unfold f8_X8_call at h
  refine spec_of (by decide) rfl (by simp [catS, cat1]) (Nat.le_of_ble_eq_true rfl) ?_
  show WP mX8_call (9) n9 0 [some (vR 8 (i0)), some (vI (x1)), some (vI (x2)), none] [] (cM m out rho) (PcE out rho r false m9) (XcE out rho r m9)
  refine wp_iload_n dX8_call_0 rfl ?_
  refine wp_iconst (v := 0) dX8_call_1 (by decide) ?_
  refine wp_aload_n dX8_call_2 rfl ?_
  obtain ⟨j1, ho2, h⟩ := od_e h
  refine cp_getS (y := 9) (f := 1033) (t := 52) (by decide) (by decide) rfl rfl fl_X8_46 dX8_call_3 ho2 ?_
  refine cp_size (c := 52) rfl (by decide) ml_X8_82 dX8_call_6 (Nat.le_of_ble_eq_true rfl) ?_
  refine wp_iconst (v := 1) dX8_call_9 (by decide) ?_
  refine wp_isub dX8_call_10 ?_
  obtain ⟨r3, m4, n5, n6, hp7, h, en8⟩ := cb_e h
  refine wp_callS (k1 := n5) (k2 := n6) (As := [vI (x1), vI (0), vI (((nI (gL m 52 j1).length) - 1))]) (rest := []) (w8_X8_isWithin hp7) okX8_isWithin sm_X8_isWithin rfl ml_X8_54 dX8_call_11 rfl (by decide) (Nat.le_of_eq en8) rfl (Nat.le_of_ble_eq_true rfl) (fun _ _ z => z.elim) (fun r' S' z => ?_)
  obtain ⟨rfl, rfl⟩ := z
  show WP _ _ _ _ [some (vR 8 (i0)), some (vI (x1)), some (vI (x2)), none] [vI (r3)] _ _ _
  by_cases c9 : r3 = 0
  · replace h := itp c9 h
    obtain ⟨q1, q2, q3⟩ := cs_e h
    subst q1
    subst q2
    subst q3
    exact wp_callS (k1 := 1) (k2 := 0) (As := [vI (r3)]) (rest := []) (w8_mustExist0 c9) okX8_mustExist sm_X8_mustExist rfl ml_X8_58 dX8_call_14 rfl (by decide) (Nat.le_refl _) rfl (Nat.le_of_ble_eq_true rfl) (fun E S' z => ⟨⟨0, rfl, by decide, z.1⟩, z.2⟩) (fun r' S' z => z.elim)
  replace h := itn c9 h
  refine wp_callS (k1 := 0) (k2 := _) (As := [vI (r3)]) (rest := []) (w8_mustExist1 c9) okX8_mustExist sm_X8_mustExist rfl ml_X8_58 dX8_call_14 rfl (by decide) (Nat.le_of_eq (Nat.zero_add _)) rfl (Nat.le_of_ble_eq_true rfl) (fun _ _ z => z.elim) (fun r' S' z => ?_)
  obtain ⟨rfl, rfl⟩ := z
  show WP _ _ _ _ [some (vR 8 (i0)), some (vI (x1)), some (vI (x2)), none] [] _ _ _
  refine wp_iload_n dX8_call_17 rfl ?_
  refine wp_iconst (v := 0) dX8_call_18 (by decide) ?_
  refine wp_bipush (v := 7) dX8_call_19 (by decide) ?_
  obtain ⟨r10, m11, n12, n13, hp14, h, en15⟩ := cb_e h
  refine wp_callS (k1 := n12) (k2 := n13) (As := [vI (x2), vI (0), vI (7)]) (rest := []) (w8_X8_isWithin hp14) okX8_isWithin sm_X8_isWithin rfl ml_X8_54 dX8_call_21 rfl (by decide) (Nat.le_of_eq en15) rfl (Nat.le_of_ble_eq_true rfl) (fun _ _ z => z.elim) (fun r' S' z => ?_)
  obtain ⟨rfl, rfl⟩ := z
  show WP _ _ _ _ [some (vR 8 (i0)), some (vI (x1)), some (vI (x2)), none] [vI (r10)] _ _ _
  by_cases c16 : r10 = 0
  · replace h := itp c16 h
    obtain ⟨q1, q2, q3⟩ := cs_e h
    subst q1
    subst q2
    subst q3
    exact wp_callS (k1 := 1) (k2 := 0) (As := [vI (r10)]) (rest := []) (w8_mustFit0 c16) okX8_mustFit sm_X8_mustFit rfl ml_X8_62 dX8_call_24 rfl (by decide) (Nat.le_refl _) rfl (Nat.le_of_ble_eq_true rfl) (fun E S' z => ⟨⟨1, rfl, by decide, z.1⟩, z.2⟩) (fun r' S' z => z.elim)
  replace h := itn c16 h
  refine wp_callS (k1 := 0) (k2 := _) (As := [vI (r10)]) (rest := []) (w8_mustFit1 c16) okX8_mustFit sm_X8_mustFit rfl ml_X8_62 dX8_call_24 rfl (by decide) (Nat.le_of_eq (Nat.zero_add _)) rfl (Nat.le_of_ble_eq_true rfl) (fun _ _ z => z.elim) (fun r' S' z => ?_)
  obtain ⟨rfl, rfl⟩ := z
  show WP _ _ _ _ [some (vR 8 (i0)), some (vI (x1)), some (vI (x2)), none] [] _ _ _
  refine wp_aload_n dX8_call_27 rfl ?_
  obtain ⟨j17, ho18, h⟩ := od_e h
  refine cp_getS (y := 9) (f := 1033) (t := 52) (by decide) (by decide) rfl rfl fl_X8_46 dX8_call_28 ho18 ?_
  refine wp_iload_n dX8_call_31 rfl ?_
  obtain ⟨c19, h⟩ := ock h
  obtain ⟨j20, ho21, h⟩ := od_e h
  refine cp_get (c := 52) (t := 1) rfl rfl (by decide) c19 ho21 ml_X8_98 dX8_call_32 (Nat.le_of_ble_eq_true rfl) ?_
  refine cp_cast (c := 1) (by decide) kl_X8_204 dX8_call_35 ?_
  refine wp_astore_n (L' := [some (vR 8 (i0)), some (vI (x1)), some (vI (x2)), some (vR 1 (j20))]) dX8_call_38 rfl rfl ?_
  refine wp_iload_n dX8_call_39 rfl ?_
  by_cases c22 : x2 = nI 0
  · replace h := itp c22 h
    refine wp_tabAt (tgt := 84) c22 dX8_call_40 (by decide) (by decide) rfl (by decide) ?_
    refine wp_aload_n dX8_call_84 rfl ?_
    obtain ⟨j23, ho24, h⟩ := od_e h
    refine cp_getS (y := 1) (f := 129) (t := 7) (by decide) (by decide) rfl rfl fl_X8_206 dX8_call_85 ho24 ?_
    refine cp_getI (y := 1) (f := 897) (by decide) (by decide) rfl rfl fl_X8_210 dX8_call_88 ?_
    obtain ⟨q1, q2, q3⟩ := cs_e h
    subst q1
    subst q2
    exact wp_ireturn rfl dX8_call_91 ⟨⟨_, rfl, rfl⟩, rfl⟩
  replace h := itn c22 h
  by_cases c25 : x2 = nI 1
  · replace h := itp c25 h
    refine wp_tabAt (tgt := 92) c25 dX8_call_40 (by decide) (by decide) rfl (by decide) ?_
    refine wp_aload_n dX8_call_92 rfl ?_
    obtain ⟨j26, ho27, h⟩ := od_e h
    refine cp_getS (y := 2) (f := 130) (t := 4) (by decide) (by decide) rfl rfl fl_X8_213 dX8_call_93 ho27 ?_
    refine cp_getI (y := 0) (f := 512) (by decide) (by decide) rfl rfl fl_X8_95 dX8_call_96 ?_
    obtain ⟨q1, q2, q3⟩ := cs_e h
    subst q1
    subst q2
    exact wp_ireturn rfl dX8_call_99 ⟨⟨_, rfl, rfl⟩, rfl⟩
  replace h := itn c25 h
  by_cases c28 : x2 = nI 2
  · replace h := itp c28 h
    refine wp_tabAt (tgt := 100) c28 dX8_call_40 (by decide) (by decide) rfl (by decide) ?_
    refine wp_aload_n dX8_call_100 rfl ?_
    refine cp_getI (y := 5) (f := 133) (by decide) (by decide) rfl rfl fl_X8_217 dX8_call_101 ?_
    obtain ⟨q1, q2, q3⟩ := cs_e h
    subst q1
    subst q2
    exact wp_ireturn rfl dX8_call_104 ⟨⟨_, rfl, rfl⟩, rfl⟩
  replace h := itn c28 h
  by_cases c29 : x2 = nI 3
  · replace h := itp c29 h
    refine wp_tabAt (tgt := 105) c29 dX8_call_40 (by decide) (by decide) rfl (by decide) ?_
    refine wp_aload_n dX8_call_105 rfl ?_
    refine cp_getI (y := 3) (f := 131) (by decide) (by decide) rfl rfl fl_X8_218 dX8_call_106 ?_
    obtain ⟨q1, q2, q3⟩ := cs_e h
    subst q1
    subst q2
    exact wp_ireturn rfl dX8_call_109 ⟨⟨_, rfl, rfl⟩, rfl⟩
  replace h := itn c29 h
  by_cases c30 : x2 = nI 4
  · replace h := itp c30 h
    refine wp_tabAt (tgt := 110) c30 dX8_call_40 (by decide) (by decide) rfl (by decide) ?_
    refine wp_aload_n dX8_call_110 rfl ?_
    obtain ⟨j31, ho32, h⟩ := od_e h
    refine cp_getS (y := 1) (f := 129) (t := 7) (by decide) (by decide) rfl rfl fl_X8_206 dX8_call_111 ho32 ?_
    refine cp_getR (y := 8) (f := 904) (t := 1) (by decide) (by decide) rfl rfl fl_X8_219 dX8_call_114 rfl ?_
    refine cp_ifnonnull (o := gR m11 904 j31) (tgt := 124) dX8_call_117 (by decide) (fun c33 => ?_) (fun c33 => ?_)
    · replace h := itn c33 h
      refine wp_aload_n dX8_call_124 rfl ?_
      refine cp_getS (y := 1) (f := 129) (t := 7) (by decide) (by decide) rfl rfl fl_X8_206 dX8_call_125 ho32 ?_
      refine cp_getR (y := 8) (f := 904) (t := 1) (by decide) (by decide) rfl rfl fl_X8_219 dX8_call_128 rfl ?_
      obtain ⟨j34, ho35, h⟩ := od_e h
      rw [ho35]
      show WP _ _ _ _ [some (vR 8 (i0)), some (vI (x1)), some (vI (x2)), some (vR 1 (j20))] [vR 1 (j34)] _ _ _
      refine cp_getI (y := 0) (f := 128) (by decide) (by decide) rfl rfl fl_X8_223 dX8_call_131 ?_
      obtain ⟨q1, q2, q3⟩ := cs_e h
      subst q1
      subst q2
      exact wp_ireturn rfl dX8_call_134 ⟨⟨_, rfl, rfl⟩, rfl⟩
    · replace h := itp c33 h
      refine wp_iconst (v := (-1)) dX8_call_120 (by decide) ?_
      refine wp_goto (tgt := 134) dX8_call_121 (by decide) ?_
      obtain ⟨q1, q2, q3⟩ := cs_e h
      subst q1
      subst q2
      exact wp_ireturn rfl dX8_call_134 ⟨⟨_, rfl, rfl⟩, rfl⟩
  replace h := itn c30 h
  by_cases c36 : x2 = nI 5
  · replace h := itp c36 h
    refine wp_tabAt (tgt := 135) c36 dX8_call_40 (by decide) (by decide) rfl (by decide) ?_
    refine wp_aload_n dX8_call_135 rfl ?_
    obtain ⟨j37, ho38, h⟩ := od_e h
    refine cp_getS (y := 1) (f := 129) (t := 7) (by decide) (by decide) rfl rfl fl_X8_206 dX8_call_136 ho38 ?_
    refine cp_getI (y := 6) (f := 902) (by decide) (by decide) rfl rfl fl_X8_137 dX8_call_139 ?_
    obtain ⟨q1, q2, q3⟩ := cs_e h
    subst q1
    subst q2
    exact wp_ireturn rfl dX8_call_142 ⟨⟨_, rfl, rfl⟩, rfl⟩
  replace h := itn c36 h
  by_cases c39 : x2 = nI 6
  · replace h := itp c39 h
    refine wp_tabAt (tgt := 143) c39 dX8_call_40 (by decide) (by decide) rfl (by decide) ?_
    refine wp_aload_n dX8_call_143 rfl ?_
    obtain ⟨j40, ho41, h⟩ := od_e h
    refine cp_getS (y := 4) (f := 132) (t := 56) (by decide) (by decide) rfl rfl fl_X8_224 dX8_call_144 ho41 ?_
    refine cp_size (c := 56) rfl (by decide) ml_X8_82 dX8_call_147 (Nat.le_of_ble_eq_true rfl) ?_
    obtain ⟨q1, q2, q3⟩ := cs_e h
    subst q1
    subst q2
    exact wp_ireturn rfl dX8_call_150 ⟨⟨_, rfl, rfl⟩, rfl⟩
  replace h := itn c39 h
  refine wp_tableOut (tgt := 151) dX8_call_40 (tab_out (n := 7) (by decide) (fun i hi => by
    have : i = 0 ∨ i = 1 ∨ i = 2 ∨ i = 3 ∨ i = 4 ∨ i = 5 ∨ i = 6 := by omega
    rcases this with rfl | rfl | rfl | rfl | rfl | rfl | rfl
    all_goals assumption)) (by decide) ?_
  refine wp_aload_n dX8_call_151 rfl ?_
  obtain ⟨j42, ho43, h⟩ := od_e h
  refine cp_getS (y := 1) (f := 129) (t := 7) (by decide) (by decide) rfl rfl fl_X8_206 dX8_call_152 ho43 ?_
  refine cp_getI (y := 7) (f := 903) (by decide) (by decide) rfl rfl fl_X8_227 dX8_call_155 ?_
  obtain ⟨q1, q2, q3⟩ := cs_e h
  subst q1
  subst q2
  exact wp_ireturn rfl dX8_call_158 ⟨⟨_, rfl, rfl⟩, rfl⟩
def l8_X8_repairs_16 : Nat → Nat → Int32 → Int32 → CM → CR (Int32)
  | 0, _, _, _, _ => none
  | n + 1, i0, x2, x3, m =>
  od (gR m 1034 i0) fun j1 =>
  if (nI (gL m 53 j1).length) ≤ x3 then
    some (x2, m, 0)
  else
    if ¬ x3 < 0 then
    od ((gL m 53 j1)[(x3).toNatClampNeg]?) fun j5 =>
    if (gI m 911 j5) = 3 then
      l8_X8_repairs_16 n (i0) (x2 + 1) (x3 + 1) m
    else
      l8_X8_repairs_16 n (i0) (x2) (x3 + 1) m
    else none
theorem w8_X8_repairs_16 {r : Int32} {m9 : CM} : ∀ (n : Nat) {i0 : Nat} {x2 : Int32} {x3 : Int32} {l1 : Option sV} {m : CM} {n9 : Nat}, l8_X8_repairs_16 n i0 x2 x3 m = some (r, m9, n9) → WP mX8_repairs (8) n9 16 [some (vR 8 (i0)), l1, some (vI (x2)), some (vI (x3))] [] (cM m out rho) (Pc out rho (some (vI r)) m9) NX := by
  intro n
  induction n with
  | zero =>
    intro i0 x2 x3 l1 m n9 h
    rw [l8_X8_repairs_16] at h
    cases h
  | succ n ih =>
    intro i0 x2 x3 l1 m n9 h
    rw [l8_X8_repairs_16] at h
    refine wp_iload_n dX8_repairs_16 rfl ?_
    refine wp_aload_n dX8_repairs_17 rfl ?_
    obtain ⟨j1, ho2, h⟩ := od_e h
    refine cp_getS (y := 10) (f := 1034) (t := 53) (by decide) (by decide) rfl rfl fl_X8_49 dX8_repairs_18 ho2 ?_
    refine cp_size (c := 53) rfl (by decide) ml_X8_82 dX8_repairs_21 (Nat.le_of_ble_eq_true rfl) ?_
    refine wp_icmp_ge (tgt := 54) dX8_repairs_24 (by decide) (fun c3 => ?_) (fun c3 => ?_)
    · replace h := itp c3 h
      refine wp_iload_n dX8_repairs_54 rfl ?_
      obtain ⟨q1, q2, q3⟩ := cs_e h
      subst q1
      subst q2
      exact wp_ireturn rfl dX8_repairs_55 ⟨rfl, rfl⟩
    · replace h := itn c3 h
      refine wp_aload_n dX8_repairs_27 rfl ?_
      refine cp_getS (y := 10) (f := 1034) (t := 53) (by decide) (by decide) rfl rfl fl_X8_49 dX8_repairs_28 ho2 ?_
      refine wp_iload_n dX8_repairs_31 rfl ?_
      obtain ⟨c4, h⟩ := ock h
      obtain ⟨j5, ho6, h⟩ := od_e h
      refine cp_get (c := 53) (t := 7) rfl rfl (by decide) c4 ho6 ml_X8_98 dX8_repairs_32 (Nat.le_of_ble_eq_true rfl) ?_
      refine cp_cast (c := 7) (by decide) kl_X8_132 dX8_repairs_35 ?_
      refine cp_getI (y := 15) (f := 911) (by decide) (by decide) rfl rfl fl_X8_249 dX8_repairs_38 ?_
      refine wp_iconst (v := 3) dX8_repairs_41 (by decide) ?_
      refine wp_icmp_ne (tgt := 48) dX8_repairs_42 (by decide) (fun c7 => ?_) (fun c7 => ?_)
      · replace h := itn c7 h
        refine wp_iinc (v := x3 + 1) (L' := [some (vR 8 (i0)), l1, some (vI (x2)), some (vI (x3 + 1))]) dX8_repairs_48 rfl rfl rfl ?_
        refine wp_goto (tgt := 16) dX8_repairs_51 (by decide) ?_
        exact ih h
      · replace h := itp c7 h
        refine wp_iinc (v := x2 + 1) (L' := [some (vR 8 (i0)), l1, some (vI (x2 + 1)), some (vI (x3))]) dX8_repairs_45 rfl rfl rfl ?_
        refine wp_iinc (v := x3 + 1) (L' := [some (vR 8 (i0)), l1, some (vI (x2 + 1)), some (vI (x3 + 1))]) dX8_repairs_48 rfl rfl rfl ?_
        refine wp_goto (tgt := 16) dX8_repairs_51 (by decide) ?_
        exact ih h
def f8_X8_repairs (i0 : Nat) (x1 : Int32) (m : CM) : CR (Int32) :=
  if x1 = 0 then
    od (gR m 1034 i0) fun j2 =>
    some ((nI (gL m 53 j2).length), m, 0)
  else
    l8_X8_repairs_16 FU (i0) (0) (0) m
theorem w8_X8_repairs {r : Int32} {m9 : CM} {i0 : Nat} {x1 : Int32} {m : CM} {n9 : Nat} (h : f8_X8_repairs i0 x1 m = some (r, m9, n9)) : Spec mX8_repairs (8) n9 [vR 8 (i0), vI (x1)] (cM m out rho) (Pc out rho (some (vI r)) m9) NX := by
  unfold f8_X8_repairs at h
  refine spec_of (by decide) rfl (by simp [catS, cat1]) (Nat.le_of_ble_eq_true rfl) ?_
  show WP mX8_repairs (8) n9 0 [some (vR 8 (i0)), some (vI (x1)), none, none] [] (cM m out rho) (Pc out rho (some (vI r)) m9) NX
  refine wp_iload_n dX8_repairs_0 rfl ?_
  refine wp_if_ne (tgt := 12) dX8_repairs_1 (by decide) (fun c1 => ?_) (fun c1 => ?_)
  · replace h := itn c1 h
    refine wp_iconst (v := 0) dX8_repairs_12 (by decide) ?_
    refine wp_istore_n (L' := [some (vR 8 (i0)), some (vI (x1)), some (vI (0)), none]) dX8_repairs_13 rfl rfl ?_
    refine wp_iconst (v := 0) dX8_repairs_14 (by decide) ?_
    refine wp_istore_n (L' := [some (vR 8 (i0)), some (vI (x1)), some (vI (0)), some (vI (0))]) dX8_repairs_15 rfl rfl ?_
    exact w8_X8_repairs_16 FU h
  · replace h := itp c1 h
    refine wp_aload_n dX8_repairs_4 rfl ?_
    obtain ⟨j2, ho3, h⟩ := od_e h
    refine cp_getS (y := 10) (f := 1034) (t := 53) (by decide) (by decide) rfl rfl fl_X8_49 dX8_repairs_5 ho3 ?_
    refine cp_size (c := 53) rfl (by decide) ml_X8_82 dX8_repairs_8 (Nat.le_of_ble_eq_true rfl) ?_
    obtain ⟨q1, q2, q3⟩ := cs_e h
    subst q1
    subst q2
    exact wp_ireturn rfl dX8_repairs_11 ⟨rfl, rfl⟩
def f8_X8_requestState (i0 : Nat) (x1 : Int32) (m : CM) : CR (Int32 ⊕ Nat) :=
  od (gR m 1032 i0) fun j1 =>
  cb (f8_X8_isWithin (x1) (0) (((nI (gL m 51 j1).length) - 1)) m) fun r3 m4 =>
  if r3 = 0 then some (.inr 0, m4, 1) else
  od (gR m4 1032 i0) fun j10 =>
  if ¬ x1 < 0 then
  od ((gL m4 51 j10)[(x1).toNatClampNeg]?) fun j13 =>
  some (.inl ((gI m4 642 j13)), m4, 0)
  else none
theorem w8_X8_requestState {r : Int32 ⊕ Nat} {m9 : CM} {i0 : Nat} {x1 : Int32} {m : CM} {n9 : Nat} (h : f8_X8_requestState i0 x1 m = some (r, m9, n9)) : Spec mX8_requestState (9) n9 [vR 8 (i0), vI (x1)] (cM m out rho) (PcE out rho r false m9) (XcE out rho r m9) := by
  unfold f8_X8_requestState at h
  refine spec_of (by decide) rfl (by simp [catS, cat1]) (Nat.le_of_ble_eq_true rfl) ?_
  show WP mX8_requestState (9) n9 0 [some (vR 8 (i0)), some (vI (x1))] [] (cM m out rho) (PcE out rho r false m9) (XcE out rho r m9)
  refine wp_iload_n dX8_requestState_0 rfl ?_
  refine wp_iconst (v := 0) dX8_requestState_1 (by decide) ?_
  refine wp_aload_n dX8_requestState_2 rfl ?_
  obtain ⟨j1, ho2, h⟩ := od_e h
  refine cp_getS (y := 8) (f := 1032) (t := 51) (by decide) (by decide) rfl rfl fl_X8_43 dX8_requestState_3 ho2 ?_
  refine cp_size (c := 51) rfl (by decide) ml_X8_82 dX8_requestState_6 (Nat.le_of_ble_eq_true rfl) ?_
  refine wp_iconst (v := 1) dX8_requestState_9 (by decide) ?_
  refine wp_isub dX8_requestState_10 ?_
  obtain ⟨r3, m4, n5, n6, hp7, h, en8⟩ := cb_e h
  refine wp_callS (k1 := n5) (k2 := n6) (As := [vI (x1), vI (0), vI (((nI (gL m 51 j1).length) - 1))]) (rest := []) (w8_X8_isWithin hp7) okX8_isWithin sm_X8_isWithin rfl ml_X8_54 dX8_requestState_11 rfl (by decide) (Nat.le_of_eq en8) rfl (Nat.le_of_ble_eq_true rfl) (fun _ _ z => z.elim) (fun r' S' z => ?_)
  obtain ⟨rfl, rfl⟩ := z
  show WP _ _ _ _ [some (vR 8 (i0)), some (vI (x1))] [vI (r3)] _ _ _
  by_cases c9 : r3 = 0
  · replace h := itp c9 h
    obtain ⟨q1, q2, q3⟩ := cs_e h
    subst q1
    subst q2
    subst q3
    exact wp_callS (k1 := 1) (k2 := 0) (As := [vI (r3)]) (rest := []) (w8_mustExist0 c9) okX8_mustExist sm_X8_mustExist rfl ml_X8_58 dX8_requestState_14 rfl (by decide) (Nat.le_refl _) rfl (Nat.le_of_ble_eq_true rfl) (fun E S' z => ⟨⟨0, rfl, by decide, z.1⟩, z.2⟩) (fun r' S' z => z.elim)
  replace h := itn c9 h
  refine wp_callS (k1 := 0) (k2 := _) (As := [vI (r3)]) (rest := []) (w8_mustExist1 c9) okX8_mustExist sm_X8_mustExist rfl ml_X8_58 dX8_requestState_14 rfl (by decide) (Nat.le_of_eq (Nat.zero_add _)) rfl (Nat.le_of_ble_eq_true rfl) (fun _ _ z => z.elim) (fun r' S' z => ?_)
  obtain ⟨rfl, rfl⟩ := z
  show WP _ _ _ _ [some (vR 8 (i0)), some (vI (x1))] [] _ _ _
  refine wp_aload_n dX8_requestState_17 rfl ?_
  obtain ⟨j10, ho11, h⟩ := od_e h
  refine cp_getS (y := 8) (f := 1032) (t := 51) (by decide) (by decide) rfl rfl fl_X8_43 dX8_requestState_18 ho11 ?_
  refine wp_iload_n dX8_requestState_21 rfl ?_
  obtain ⟨c12, h⟩ := ock h
  obtain ⟨j13, ho14, h⟩ := od_e h
  refine cp_get (c := 51) (t := 5) rfl rfl (by decide) c12 ho14 ml_X8_98 dX8_requestState_22 (Nat.le_of_ble_eq_true rfl) ?_
  refine cp_cast (c := 5) (by decide) kl_X8_146 dX8_requestState_25 ?_
  refine cp_getI (y := 2) (f := 642) (by decide) (by decide) rfl rfl fl_X8_187 dX8_requestState_28 ?_
  obtain ⟨q1, q2, q3⟩ := cs_e h
  subst q1
  subst q2
  exact wp_ireturn rfl dX8_requestState_31 ⟨⟨_, rfl, rfl⟩, rfl⟩
def l8_X8_callsOf_21 : Nat → Nat → Int32 → Int32 → Int32 → CM → CR (Int32 ⊕ Nat)
  | 0, _, _, _, _, _ => none
  | n + 1, i0, x1, x2, x3, m =>
  od (gR m 1033 i0) fun j1 =>
  if (nI (gL m 52 j1).length) ≤ x3 then
    some (.inl (x2), m, 0)
  else
    if ¬ x3 < 0 then
    od ((gL m 52 j1)[(x3).toNatClampNeg]?) fun j5 =>
    od (gR m 129 j5) fun j7 =>
    if (gI m 902 j7) = x1 then
      l8_X8_callsOf_21 n (i0) (x1) (x2 + 1) (x3 + 1) m
    else
      l8_X8_callsOf_21 n (i0) (x1) (x2) (x3 + 1) m
    else none
theorem w8_X8_callsOf_21 {r : Int32 ⊕ Nat} {m9 : CM} : ∀ (n : Nat) {i0 : Nat} {x1 : Int32} {x2 : Int32} {x3 : Int32} {m : CM} {n9 : Nat}, l8_X8_callsOf_21 n i0 x1 x2 x3 m = some (r, m9, n9) → WP mX8_callsOf (9) n9 21 [some (vR 8 (i0)), some (vI (x1)), some (vI (x2)), some (vI (x3))] [] (cM m out rho) (PcE out rho r false m9) (XcE out rho r m9) := by
  intro n
  induction n with
  | zero =>
    intro i0 x1 x2 x3  m n9 h
    rw [l8_X8_callsOf_21] at h
    cases h
  | succ n ih =>
    intro i0 x1 x2 x3  m n9 h
    rw [l8_X8_callsOf_21] at h
    refine wp_iload_n dX8_callsOf_21 rfl ?_
    refine wp_aload_n dX8_callsOf_22 rfl ?_
    obtain ⟨j1, ho2, h⟩ := od_e h
    refine cp_getS (y := 9) (f := 1033) (t := 52) (by decide) (by decide) rfl rfl fl_X8_46 dX8_callsOf_23 ho2 ?_
    refine cp_size (c := 52) rfl (by decide) ml_X8_82 dX8_callsOf_26 (Nat.le_of_ble_eq_true rfl) ?_
    refine wp_icmp_ge (tgt := 62) dX8_callsOf_29 (by decide) (fun c3 => ?_) (fun c3 => ?_)
    · replace h := itp c3 h
      refine wp_iload_n dX8_callsOf_62 rfl ?_
      obtain ⟨q1, q2, q3⟩ := cs_e h
      subst q1
      subst q2
      exact wp_ireturn rfl dX8_callsOf_63 ⟨⟨_, rfl, rfl⟩, rfl⟩
    · replace h := itn c3 h
      refine wp_aload_n dX8_callsOf_32 rfl ?_
      refine cp_getS (y := 9) (f := 1033) (t := 52) (by decide) (by decide) rfl rfl fl_X8_46 dX8_callsOf_33 ho2 ?_
      refine wp_iload_n dX8_callsOf_36 rfl ?_
      obtain ⟨c4, h⟩ := ock h
      obtain ⟨j5, ho6, h⟩ := od_e h
      refine cp_get (c := 52) (t := 1) rfl rfl (by decide) c4 ho6 ml_X8_98 dX8_callsOf_37 (Nat.le_of_ble_eq_true rfl) ?_
      refine cp_cast (c := 1) (by decide) kl_X8_204 dX8_callsOf_40 ?_
      obtain ⟨j7, ho8, h⟩ := od_e h
      refine cp_getS (y := 1) (f := 129) (t := 7) (by decide) (by decide) rfl rfl fl_X8_206 dX8_callsOf_43 ho8 ?_
      refine cp_getI (y := 6) (f := 902) (by decide) (by decide) rfl rfl fl_X8_137 dX8_callsOf_46 ?_
      refine wp_iload_n dX8_callsOf_49 rfl ?_
      refine wp_icmp_ne (tgt := 56) dX8_callsOf_50 (by decide) (fun c9 => ?_) (fun c9 => ?_)
      · replace h := itn c9 h
        refine wp_iinc (v := x3 + 1) (L' := [some (vR 8 (i0)), some (vI (x1)), some (vI (x2)), some (vI (x3 + 1))]) dX8_callsOf_56 rfl rfl rfl ?_
        refine wp_goto (tgt := 21) dX8_callsOf_59 (by decide) ?_
        exact ih h
      · replace h := itp c9 h
        refine wp_iinc (v := x2 + 1) (L' := [some (vR 8 (i0)), some (vI (x1)), some (vI (x2 + 1)), some (vI (x3))]) dX8_callsOf_53 rfl rfl rfl ?_
        refine wp_iinc (v := x3 + 1) (L' := [some (vR 8 (i0)), some (vI (x1)), some (vI (x2 + 1)), some (vI (x3 + 1))]) dX8_callsOf_56 rfl rfl rfl ?_
        refine wp_goto (tgt := 21) dX8_callsOf_59 (by decide) ?_
        exact ih h
def f8_X8_callsOf (i0 : Nat) (x1 : Int32) (m : CM) : CR (Int32 ⊕ Nat) :=
  od (gR m 1032 i0) fun j1 =>
  cb (f8_X8_isWithin (x1) (0) (((nI (gL m 51 j1).length) - 1)) m) fun r3 m4 =>
  if r3 = 0 then some (.inr 0, m4, 1) else
  l8_X8_callsOf_21 FU (i0) (x1) (0) (0) m4
theorem w8_X8_callsOf {r : Int32 ⊕ Nat} {m9 : CM} {i0 : Nat} {x1 : Int32} {m : CM} {n9 : Nat} (h : f8_X8_callsOf i0 x1 m = some (r, m9, n9)) : Spec mX8_callsOf (9) n9 [vR 8 (i0), vI (x1)] (cM m out rho) (PcE out rho r false m9) (XcE out rho r m9) := by
  unfold f8_X8_callsOf at h
  refine spec_of (by decide) rfl (by simp [catS, cat1]) (Nat.le_of_ble_eq_true rfl) ?_
  show WP mX8_callsOf (9) n9 0 [some (vR 8 (i0)), some (vI (x1)), none, none] [] (cM m out rho) (PcE out rho r false m9) (XcE out rho r m9)
  refine wp_iload_n dX8_callsOf_0 rfl ?_
  refine wp_iconst (v := 0) dX8_callsOf_1 (by decide) ?_
  refine wp_aload_n dX8_callsOf_2 rfl ?_
  obtain ⟨j1, ho2, h⟩ := od_e h
  refine cp_getS (y := 8) (f := 1032) (t := 51) (by decide) (by decide) rfl rfl fl_X8_43 dX8_callsOf_3 ho2 ?_
  refine cp_size (c := 51) rfl (by decide) ml_X8_82 dX8_callsOf_6 (Nat.le_of_ble_eq_true rfl) ?_
  refine wp_iconst (v := 1) dX8_callsOf_9 (by decide) ?_
  refine wp_isub dX8_callsOf_10 ?_
  obtain ⟨r3, m4, n5, n6, hp7, h, en8⟩ := cb_e h
  refine wp_callS (k1 := n5) (k2 := n6) (As := [vI (x1), vI (0), vI (((nI (gL m 51 j1).length) - 1))]) (rest := []) (w8_X8_isWithin hp7) okX8_isWithin sm_X8_isWithin rfl ml_X8_54 dX8_callsOf_11 rfl (by decide) (Nat.le_of_eq en8) rfl (Nat.le_of_ble_eq_true rfl) (fun _ _ z => z.elim) (fun r' S' z => ?_)
  obtain ⟨rfl, rfl⟩ := z
  show WP _ _ _ _ [some (vR 8 (i0)), some (vI (x1)), none, none] [vI (r3)] _ _ _
  by_cases c9 : r3 = 0
  · replace h := itp c9 h
    obtain ⟨q1, q2, q3⟩ := cs_e h
    subst q1
    subst q2
    subst q3
    exact wp_callS (k1 := 1) (k2 := 0) (As := [vI (r3)]) (rest := []) (w8_mustExist0 c9) okX8_mustExist sm_X8_mustExist rfl ml_X8_58 dX8_callsOf_14 rfl (by decide) (Nat.le_refl _) rfl (Nat.le_of_ble_eq_true rfl) (fun E S' z => ⟨⟨0, rfl, by decide, z.1⟩, z.2⟩) (fun r' S' z => z.elim)
  replace h := itn c9 h
  refine wp_callS (k1 := 0) (k2 := _) (As := [vI (r3)]) (rest := []) (w8_mustExist1 c9) okX8_mustExist sm_X8_mustExist rfl ml_X8_58 dX8_callsOf_14 rfl (by decide) (Nat.le_of_eq (Nat.zero_add _)) rfl (Nat.le_of_ble_eq_true rfl) (fun _ _ z => z.elim) (fun r' S' z => ?_)
  obtain ⟨rfl, rfl⟩ := z
  show WP _ _ _ _ [some (vR 8 (i0)), some (vI (x1)), none, none] [] _ _ _
  refine wp_iconst (v := 0) dX8_callsOf_17 (by decide) ?_
  refine wp_istore_n (L' := [some (vR 8 (i0)), some (vI (x1)), some (vI (0)), none]) dX8_callsOf_18 rfl rfl ?_
  refine wp_iconst (v := 0) dX8_callsOf_19 (by decide) ?_
  refine wp_istore_n (L' := [some (vR 8 (i0)), some (vI (x1)), some (vI (0)), some (vI (0))]) dX8_callsOf_20 rfl rfl ?_
  exact w8_X8_callsOf_21 FU h
def f8_X8_requestTicks (i0 : Nat) (x1 : Int32) (m : CM) : CR (Int32 ⊕ Nat) :=
  od (gR m 1032 i0) fun j1 =>
  cb (f8_X8_isWithin (x1) (0) (((nI (gL m 51 j1).length) - 1)) m) fun r3 m4 =>
  if r3 = 0 then some (.inr 0, m4, 1) else
  od (gR m4 1032 i0) fun j10 =>
  if ¬ x1 < 0 then
  od ((gL m4 51 j10)[(x1).toNatClampNeg]?) fun j13 =>
  if (gI m4 642 j13) = 8 then
    some (.inl (((gI m4 1024 i0) - (gI m4 641 j13))), m4, 0)
  else
    some (.inl (((gI m4 643 j13) - (gI m4 641 j13))), m4, 0)
  else none
theorem w8_X8_requestTicks {r : Int32 ⊕ Nat} {m9 : CM} {i0 : Nat} {x1 : Int32} {m : CM} {n9 : Nat} (h : f8_X8_requestTicks i0 x1 m = some (r, m9, n9)) : Spec mX8_requestTicks (9) n9 [vR 8 (i0), vI (x1)] (cM m out rho) (PcE out rho r false m9) (XcE out rho r m9) := by
  unfold f8_X8_requestTicks at h
  refine spec_of (by decide) rfl (by simp [catS, cat1]) (Nat.le_of_ble_eq_true rfl) ?_
  show WP mX8_requestTicks (9) n9 0 [some (vR 8 (i0)), some (vI (x1)), none] [] (cM m out rho) (PcE out rho r false m9) (XcE out rho r m9)
  refine wp_iload_n dX8_requestTicks_0 rfl ?_
  refine wp_iconst (v := 0) dX8_requestTicks_1 (by decide) ?_
  refine wp_aload_n dX8_requestTicks_2 rfl ?_
  obtain ⟨j1, ho2, h⟩ := od_e h
  refine cp_getS (y := 8) (f := 1032) (t := 51) (by decide) (by decide) rfl rfl fl_X8_43 dX8_requestTicks_3 ho2 ?_
  refine cp_size (c := 51) rfl (by decide) ml_X8_82 dX8_requestTicks_6 (Nat.le_of_ble_eq_true rfl) ?_
  refine wp_iconst (v := 1) dX8_requestTicks_9 (by decide) ?_
  refine wp_isub dX8_requestTicks_10 ?_
  obtain ⟨r3, m4, n5, n6, hp7, h, en8⟩ := cb_e h
  refine wp_callS (k1 := n5) (k2 := n6) (As := [vI (x1), vI (0), vI (((nI (gL m 51 j1).length) - 1))]) (rest := []) (w8_X8_isWithin hp7) okX8_isWithin sm_X8_isWithin rfl ml_X8_54 dX8_requestTicks_11 rfl (by decide) (Nat.le_of_eq en8) rfl (Nat.le_of_ble_eq_true rfl) (fun _ _ z => z.elim) (fun r' S' z => ?_)
  obtain ⟨rfl, rfl⟩ := z
  show WP _ _ _ _ [some (vR 8 (i0)), some (vI (x1)), none] [vI (r3)] _ _ _
  by_cases c9 : r3 = 0
  · replace h := itp c9 h
    obtain ⟨q1, q2, q3⟩ := cs_e h
    subst q1
    subst q2
    subst q3
    exact wp_callS (k1 := 1) (k2 := 0) (As := [vI (r3)]) (rest := []) (w8_mustExist0 c9) okX8_mustExist sm_X8_mustExist rfl ml_X8_58 dX8_requestTicks_14 rfl (by decide) (Nat.le_refl _) rfl (Nat.le_of_ble_eq_true rfl) (fun E S' z => ⟨⟨0, rfl, by decide, z.1⟩, z.2⟩) (fun r' S' z => z.elim)
  replace h := itn c9 h
  refine wp_callS (k1 := 0) (k2 := _) (As := [vI (r3)]) (rest := []) (w8_mustExist1 c9) okX8_mustExist sm_X8_mustExist rfl ml_X8_58 dX8_requestTicks_14 rfl (by decide) (Nat.le_of_eq (Nat.zero_add _)) rfl (Nat.le_of_ble_eq_true rfl) (fun _ _ z => z.elim) (fun r' S' z => ?_)
  obtain ⟨rfl, rfl⟩ := z
  show WP _ _ _ _ [some (vR 8 (i0)), some (vI (x1)), none] [] _ _ _
  refine wp_aload_n dX8_requestTicks_17 rfl ?_
  obtain ⟨j10, ho11, h⟩ := od_e h
  refine cp_getS (y := 8) (f := 1032) (t := 51) (by decide) (by decide) rfl rfl fl_X8_43 dX8_requestTicks_18 ho11 ?_
  refine wp_iload_n dX8_requestTicks_21 rfl ?_
  obtain ⟨c12, h⟩ := ock h
  obtain ⟨j13, ho14, h⟩ := od_e h
  refine cp_get (c := 51) (t := 5) rfl rfl (by decide) c12 ho14 ml_X8_98 dX8_requestTicks_22 (Nat.le_of_ble_eq_true rfl) ?_
  refine cp_cast (c := 5) (by decide) kl_X8_146 dX8_requestTicks_25 ?_
  refine wp_astore_n (L' := [some (vR 8 (i0)), some (vI (x1)), some (vR 5 (j13))]) dX8_requestTicks_28 rfl rfl ?_
  refine wp_aload_n dX8_requestTicks_29 rfl ?_
  refine cp_getI (y := 2) (f := 642) (by decide) (by decide) rfl rfl fl_X8_187 dX8_requestTicks_30 ?_
  refine wp_bipush (v := 8) dX8_requestTicks_33 (by decide) ?_
  refine wp_icmp_ne (tgt := 45) dX8_requestTicks_35 (by decide) (fun c15 => ?_) (fun c15 => ?_)
  · replace h := itn c15 h
    refine wp_aload_n dX8_requestTicks_45 rfl ?_
    refine cp_getI (y := 3) (f := 643) (by decide) (by decide) rfl rfl fl_X8_190 dX8_requestTicks_46 ?_
    refine wp_aload_n dX8_requestTicks_49 rfl ?_
    refine cp_getI (y := 1) (f := 641) (by decide) (by decide) rfl rfl fl_X8_193 dX8_requestTicks_50 ?_
    refine wp_isub dX8_requestTicks_53 ?_
    obtain ⟨q1, q2, q3⟩ := cs_e h
    subst q1
    subst q2
    exact wp_ireturn rfl dX8_requestTicks_54 ⟨⟨_, rfl, rfl⟩, rfl⟩
  · replace h := itp c15 h
    refine wp_aload_n dX8_requestTicks_38 rfl ?_
    refine cp_getI (y := 0) (f := 1024) (by decide) (by decide) rfl rfl fl_X8_140 dX8_requestTicks_39 ?_
    refine wp_goto (tgt := 49) dX8_requestTicks_42 (by decide) ?_
    refine wp_aload_n dX8_requestTicks_49 rfl ?_
    refine cp_getI (y := 1) (f := 641) (by decide) (by decide) rfl rfl fl_X8_193 dX8_requestTicks_50 ?_
    refine wp_isub dX8_requestTicks_53 ?_
    obtain ⟨q1, q2, q3⟩ := cs_e h
    subst q1
    subst q2
    exact wp_ireturn rfl dX8_requestTicks_54 ⟨⟨_, rfl, rfl⟩, rfl⟩
def f8_X8_isKeptByHead (i0 : Nat) (i1 : Nat) (m : CM) : CR (Int32) :=
  if (gI m 1026 i0) ≤ 0 then
    some (0, m, 0)
  else
    od (gR m 640 i1) fun j2 =>
    if ¬ (gI m 1026 i0) = 0 then
    if ((gI m 902 j2) - (gI m 902 j2) / (gI m 1026 i0) * (gI m 1026 i0)) = 0 then
      some (1, m, 0)
    else
      some (0, m, 0)
    else none
theorem w8_X8_isKeptByHead {r : Int32} {m9 : CM} {i0 : Nat} {i1 : Nat} {m : CM} {n9 : Nat} (h : f8_X8_isKeptByHead i0 i1 m = some (r, m9, n9)) : Spec mX8_isKeptByHead (0) n9 [vR 8 (i0), vR 5 (i1)] (cM m out rho) (Pc out rho (some (vI r)) m9) NX := by
  unfold f8_X8_isKeptByHead at h
  refine spec_of (by decide) rfl (by simp [catS, cat1]) (Nat.le_of_ble_eq_true rfl) ?_
  show WP mX8_isKeptByHead (0) n9 0 [some (vR 8 (i0)), some (vR 5 (i1))] [] (cM m out rho) (Pc out rho (some (vI r)) m9) NX
  refine wp_aload_n dX8_isKeptByHead_0 rfl ?_
  refine cp_getI (y := 2) (f := 1026) (by decide) (by decide) rfl rfl fl_X8_13 dX8_isKeptByHead_1 ?_
  refine wp_if_le (tgt := 26) dX8_isKeptByHead_4 (by decide) (fun c1 => ?_) (fun c1 => ?_)
  · replace h := itp c1 h
    refine wp_iconst (v := 0) dX8_isKeptByHead_26 (by decide) ?_
    obtain ⟨q1, q2, q3⟩ := cs_e h
    subst q1
    subst q2
    exact wp_zreturn rfl (by decide) dX8_isKeptByHead_27 ⟨rfl, rfl⟩
  · replace h := itn c1 h
    refine wp_aload_n dX8_isKeptByHead_7 rfl ?_
    obtain ⟨j2, ho3, h⟩ := od_e h
    refine cp_getS (y := 0) (f := 640) (t := 7) (by decide) (by decide) rfl rfl fl_X8_323 dX8_isKeptByHead_8 ho3 ?_
    refine cp_getI (y := 6) (f := 902) (by decide) (by decide) rfl rfl fl_X8_137 dX8_isKeptByHead_11 ?_
    refine wp_aload_n dX8_isKeptByHead_14 rfl ?_
    refine cp_getI (y := 2) (f := 1026) (by decide) (by decide) rfl rfl fl_X8_13 dX8_isKeptByHead_15 ?_
    obtain ⟨c4, h⟩ := ock h
    refine wp_irem dX8_isKeptByHead_18 c4 ?_
    refine wp_if_ne (tgt := 26) dX8_isKeptByHead_19 (by decide) (fun c5 => ?_) (fun c5 => ?_)
    · replace h := itn c5 h
      refine wp_iconst (v := 0) dX8_isKeptByHead_26 (by decide) ?_
      obtain ⟨q1, q2, q3⟩ := cs_e h
      subst q1
      subst q2
      exact wp_zreturn rfl (by decide) dX8_isKeptByHead_27 ⟨rfl, rfl⟩
    · replace h := itp c5 h
      refine wp_iconst (v := 1) dX8_isKeptByHead_22 (by decide) ?_
      refine wp_goto (tgt := 27) dX8_isKeptByHead_23 (by decide) ?_
      obtain ⟨q1, q2, q3⟩ := cs_e h
      subst q1
      subst q2
      exact wp_zreturn rfl (by decide) dX8_isKeptByHead_27 ⟨rfl, rfl⟩
def f8_X8_isKept (i0 : Nat) (x1 : Int32) (m : CM) : CR (Int32 ⊕ Nat) :=
  od (gR m 1032 i0) fun j1 =>
  cb (f8_X8_isWithin (x1) (0) (((nI (gL m 51 j1).length) - 1)) m) fun r3 m4 =>
  if r3 = 0 then some (.inr 0, m4, 1) else
  od (gR m4 1032 i0) fun j10 =>
  if ¬ x1 < 0 then
  od ((gL m4 51 j10)[(x1).toNatClampNeg]?) fun j13 =>
  if (gI m4 642 j13) = 8 then
    cb (f8_X8_isKeptByHead i0 (j13) m4) fun r16 m17 =>
    if (r16 = 0 ∨ r16 = 1) then
    some (.inl (r16), m17, 0)
    else none
  else
    if ((gI m4 644 j13) = 0 ∨ (gI m4 644 j13) = 1) then
    some (.inl ((gI m4 644 j13)), m4, 0)
    else none
  else none
theorem w8_X8_isKept {r : Int32 ⊕ Nat} {m9 : CM} {i0 : Nat} {x1 : Int32} {m : CM} {n9 : Nat} (h : f8_X8_isKept i0 x1 m = some (r, m9, n9)) : Spec mX8_isKept (9) n9 [vR 8 (i0), vI (x1)] (cM m out rho) (PcE out rho r false m9) (XcE out rho r m9) := by
  unfold f8_X8_isKept at h
  refine spec_of (by decide) rfl (by simp [catS, cat1]) (Nat.le_of_ble_eq_true rfl) ?_
  show WP mX8_isKept (9) n9 0 [some (vR 8 (i0)), some (vI (x1)), none] [] (cM m out rho) (PcE out rho r false m9) (XcE out rho r m9)
  refine wp_iload_n dX8_isKept_0 rfl ?_
  refine wp_iconst (v := 0) dX8_isKept_1 (by decide) ?_
  refine wp_aload_n dX8_isKept_2 rfl ?_
  obtain ⟨j1, ho2, h⟩ := od_e h
  refine cp_getS (y := 8) (f := 1032) (t := 51) (by decide) (by decide) rfl rfl fl_X8_43 dX8_isKept_3 ho2 ?_
  refine cp_size (c := 51) rfl (by decide) ml_X8_82 dX8_isKept_6 (Nat.le_of_ble_eq_true rfl) ?_
  refine wp_iconst (v := 1) dX8_isKept_9 (by decide) ?_
  refine wp_isub dX8_isKept_10 ?_
  obtain ⟨r3, m4, n5, n6, hp7, h, en8⟩ := cb_e h
  refine wp_callS (k1 := n5) (k2 := n6) (As := [vI (x1), vI (0), vI (((nI (gL m 51 j1).length) - 1))]) (rest := []) (w8_X8_isWithin hp7) okX8_isWithin sm_X8_isWithin rfl ml_X8_54 dX8_isKept_11 rfl (by decide) (Nat.le_of_eq en8) rfl (Nat.le_of_ble_eq_true rfl) (fun _ _ z => z.elim) (fun r' S' z => ?_)
  obtain ⟨rfl, rfl⟩ := z
  show WP _ _ _ _ [some (vR 8 (i0)), some (vI (x1)), none] [vI (r3)] _ _ _
  by_cases c9 : r3 = 0
  · replace h := itp c9 h
    obtain ⟨q1, q2, q3⟩ := cs_e h
    subst q1
    subst q2
    subst q3
    exact wp_callS (k1 := 1) (k2 := 0) (As := [vI (r3)]) (rest := []) (w8_mustExist0 c9) okX8_mustExist sm_X8_mustExist rfl ml_X8_58 dX8_isKept_14 rfl (by decide) (Nat.le_refl _) rfl (Nat.le_of_ble_eq_true rfl) (fun E S' z => ⟨⟨0, rfl, by decide, z.1⟩, z.2⟩) (fun r' S' z => z.elim)
  replace h := itn c9 h
  refine wp_callS (k1 := 0) (k2 := _) (As := [vI (r3)]) (rest := []) (w8_mustExist1 c9) okX8_mustExist sm_X8_mustExist rfl ml_X8_58 dX8_isKept_14 rfl (by decide) (Nat.le_of_eq (Nat.zero_add _)) rfl (Nat.le_of_ble_eq_true rfl) (fun _ _ z => z.elim) (fun r' S' z => ?_)
  obtain ⟨rfl, rfl⟩ := z
  show WP _ _ _ _ [some (vR 8 (i0)), some (vI (x1)), none] [] _ _ _
  refine wp_aload_n dX8_isKept_17 rfl ?_
  obtain ⟨j10, ho11, h⟩ := od_e h
  refine cp_getS (y := 8) (f := 1032) (t := 51) (by decide) (by decide) rfl rfl fl_X8_43 dX8_isKept_18 ho11 ?_
  refine wp_iload_n dX8_isKept_21 rfl ?_
  obtain ⟨c12, h⟩ := ock h
  obtain ⟨j13, ho14, h⟩ := od_e h
  refine cp_get (c := 51) (t := 5) rfl rfl (by decide) c12 ho14 ml_X8_98 dX8_isKept_22 (Nat.le_of_ble_eq_true rfl) ?_
  refine cp_cast (c := 5) (by decide) kl_X8_146 dX8_isKept_25 ?_
  refine wp_astore_n (L' := [some (vR 8 (i0)), some (vI (x1)), some (vR 5 (j13))]) dX8_isKept_28 rfl rfl ?_
  refine wp_aload_n dX8_isKept_29 rfl ?_
  refine cp_getI (y := 2) (f := 642) (by decide) (by decide) rfl rfl fl_X8_187 dX8_isKept_30 ?_
  refine wp_bipush (v := 8) dX8_isKept_33 (by decide) ?_
  refine wp_icmp_ne (tgt := 46) dX8_isKept_35 (by decide) (fun c15 => ?_) (fun c15 => ?_)
  · replace h := itn c15 h
    refine wp_aload_n dX8_isKept_46 rfl ?_
    refine cp_getI (y := 4) (f := 644) (by decide) (by decide) rfl rfl fl_X8_200 dX8_isKept_47 ?_
    obtain ⟨c23, h⟩ := ock h
    obtain ⟨q1, q2, q3⟩ := cs_e h
    subst q1
    subst q2
    exact wp_zreturn rfl c23 dX8_isKept_50 ⟨⟨_, rfl, rfl⟩, rfl⟩
  · replace h := itp c15 h
    refine wp_aload_n dX8_isKept_38 rfl ?_
    refine wp_aload_n dX8_isKept_39 rfl ?_
    obtain ⟨r16, m17, n18, n19, hp20, h, en21⟩ := cb_e h
    refine wp_callV (k1 := n18) (k2 := n19) (As := [vR 5 (j13)]) (rest := []) (w8_X8_isKeptByHead hp20) okX8_isKeptByHead ivX8_isKeptByHead rfl (by decide) ml_X8_196 dX8_isKept_40 rfl (by decide) (Nat.le_of_eq en21) rfl (Nat.le_of_ble_eq_true rfl) (fun _ _ z => z.elim) (fun r' S' z => ?_)
    obtain ⟨rfl, rfl⟩ := z
    show WP _ _ _ _ [some (vR 8 (i0)), some (vI (x1)), some (vR 5 (j13))] [vI (r16)] _ _ _
    refine wp_goto (tgt := 50) dX8_isKept_43 (by decide) ?_
    obtain ⟨c22, h⟩ := ock h
    obtain ⟨q1, q2, q3⟩ := cs_e h
    subst q1
    subst q2
    exact wp_zreturn rfl c22 dX8_isKept_50 ⟨⟨_, rfl, rfl⟩, rfl⟩
def f8_X4_loadNow (i0 : Nat) (m : CM) : CR (Int32) :=
  od (gR m 522 i0) fun j1 =>
  some (((gI m 523 i0) + (nI (gL m 54 j1).length)), m, 0)
theorem w8_X4_loadNow {r : Int32} {m9 : CM} {i0 : Nat} {m : CM} {n9 : Nat} (h : f8_X4_loadNow i0 m = some (r, m9, n9)) : Spec mX4_loadNow (8) n9 [vR 4 (i0)] (cM m out rho) (Pc out rho (some (vI r)) m9) NX := by
  unfold f8_X4_loadNow at h
  refine spec_of (by decide) rfl (by simp [catS, cat1]) (Nat.le_of_ble_eq_true rfl) ?_
  show WP mX4_loadNow (8) n9 0 [some (vR 4 (i0))] [] (cM m out rho) (Pc out rho (some (vI r)) m9) NX
  refine wp_aload_n dX4_loadNow_0 rfl ?_
  refine cp_getI (y := 11) (f := 523) (by decide) (by decide) rfl rfl fl_X4_57 dX4_loadNow_1 ?_
  refine wp_aload_n dX4_loadNow_4 rfl ?_
  obtain ⟨j1, ho2, h⟩ := od_e h
  refine cp_getS (y := 10) (f := 522) (t := 54) (by decide) (by decide) rfl rfl fl_X4_27 dX4_loadNow_5 ho2 ?_
  refine cp_size (c := 54) rfl (by decide) ml_X4_60 dX4_loadNow_8 (Nat.le_of_ble_eq_true rfl) ?_
  refine wp_iadd dX4_loadNow_11 ?_
  obtain ⟨q1, q2, q3⟩ := cs_e h
  subst q1
  subst q2
  exact wp_ireturn rfl dX4_loadNow_12 ⟨rfl, rfl⟩
def f8_X8_load (i0 : Nat) (x1 : Int32) (x2 : Int32) (m : CM) : CR (Int32 ⊕ Nat) :=
  od (gR m 1031 i0) fun j1 =>
  cb (f8_X8_isWithin (x1) (0) (((nI (gL m 50 j1).length) - 1)) m) fun r3 m4 =>
  if r3 = 0 then some (.inr 0, m4, 1) else
  od (gR m4 1031 i0) fun j10 =>
  if ¬ x1 < 0 then
  od ((gL m4 50 j10)[(x1).toNatClampNeg]?) fun j13 =>
  if x2 = 0 then
    some (.inl ((gI m4 524 j13)), m4, 0)
  else
    cb (f8_X4_loadNow j13 m4) fun r16 m17 =>
    some (.inl (r16), m17, 0)
  else none
theorem w8_X8_load {r : Int32 ⊕ Nat} {m9 : CM} {i0 : Nat} {x1 : Int32} {x2 : Int32} {m : CM} {n9 : Nat} (h : f8_X8_load i0 x1 x2 m = some (r, m9, n9)) : Spec mX8_load (9) n9 [vR 8 (i0), vI (x1), vI (x2)] (cM m out rho) (PcE out rho r false m9) (XcE out rho r m9) := by
  unfold f8_X8_load at h
  refine spec_of (by decide) rfl (by simp [catS, cat1]) (Nat.le_of_ble_eq_true rfl) ?_
  show WP mX8_load (9) n9 0 [some (vR 8 (i0)), some (vI (x1)), some (vI (x2)), none] [] (cM m out rho) (PcE out rho r false m9) (XcE out rho r m9)
  refine wp_iload_n dX8_load_0 rfl ?_
  refine wp_iconst (v := 0) dX8_load_1 (by decide) ?_
  refine wp_aload_n dX8_load_2 rfl ?_
  obtain ⟨j1, ho2, h⟩ := od_e h
  refine cp_getS (y := 7) (f := 1031) (t := 50) (by decide) (by decide) rfl rfl fl_X8_39 dX8_load_3 ho2 ?_
  refine cp_size (c := 50) rfl (by decide) ml_X8_82 dX8_load_6 (Nat.le_of_ble_eq_true rfl) ?_
  refine wp_iconst (v := 1) dX8_load_9 (by decide) ?_
  refine wp_isub dX8_load_10 ?_
  obtain ⟨r3, m4, n5, n6, hp7, h, en8⟩ := cb_e h
  refine wp_callS (k1 := n5) (k2 := n6) (As := [vI (x1), vI (0), vI (((nI (gL m 50 j1).length) - 1))]) (rest := []) (w8_X8_isWithin hp7) okX8_isWithin sm_X8_isWithin rfl ml_X8_54 dX8_load_11 rfl (by decide) (Nat.le_of_eq en8) rfl (Nat.le_of_ble_eq_true rfl) (fun _ _ z => z.elim) (fun r' S' z => ?_)
  obtain ⟨rfl, rfl⟩ := z
  show WP _ _ _ _ [some (vR 8 (i0)), some (vI (x1)), some (vI (x2)), none] [vI (r3)] _ _ _
  by_cases c9 : r3 = 0
  · replace h := itp c9 h
    obtain ⟨q1, q2, q3⟩ := cs_e h
    subst q1
    subst q2
    subst q3
    exact wp_callS (k1 := 1) (k2 := 0) (As := [vI (r3)]) (rest := []) (w8_mustExist0 c9) okX8_mustExist sm_X8_mustExist rfl ml_X8_58 dX8_load_14 rfl (by decide) (Nat.le_refl _) rfl (Nat.le_of_ble_eq_true rfl) (fun E S' z => ⟨⟨0, rfl, by decide, z.1⟩, z.2⟩) (fun r' S' z => z.elim)
  replace h := itn c9 h
  refine wp_callS (k1 := 0) (k2 := _) (As := [vI (r3)]) (rest := []) (w8_mustExist1 c9) okX8_mustExist sm_X8_mustExist rfl ml_X8_58 dX8_load_14 rfl (by decide) (Nat.le_of_eq (Nat.zero_add _)) rfl (Nat.le_of_ble_eq_true rfl) (fun _ _ z => z.elim) (fun r' S' z => ?_)
  obtain ⟨rfl, rfl⟩ := z
  show WP _ _ _ _ [some (vR 8 (i0)), some (vI (x1)), some (vI (x2)), none] [] _ _ _
  refine wp_aload_n dX8_load_17 rfl ?_
  obtain ⟨j10, ho11, h⟩ := od_e h
  refine cp_getS (y := 7) (f := 1031) (t := 50) (by decide) (by decide) rfl rfl fl_X8_39 dX8_load_18 ho11 ?_
  refine wp_iload_n dX8_load_21 rfl ?_
  obtain ⟨c12, h⟩ := ock h
  obtain ⟨j13, ho14, h⟩ := od_e h
  refine cp_get (c := 50) (t := 4) rfl rfl (by decide) c12 ho14 ml_X8_98 dX8_load_22 (Nat.le_of_ble_eq_true rfl) ?_
  refine cp_cast (c := 4) (by decide) kl_X8_86 dX8_load_25 ?_
  refine wp_astore_n (L' := [some (vR 8 (i0)), some (vI (x1)), some (vI (x2)), some (vR 4 (j13))]) dX8_load_28 rfl rfl ?_
  refine wp_iload_n dX8_load_29 rfl ?_
  refine wp_if_eq (tgt := 40) dX8_load_30 (by decide) (fun c15 => ?_) (fun c15 => ?_)
  · replace h := itp c15 h
    refine wp_aload_n dX8_load_40 rfl ?_
    refine cp_getI (y := 12) (f := 524) (by decide) (by decide) rfl rfl fl_X8_246 dX8_load_41 ?_
    obtain ⟨q1, q2, q3⟩ := cs_e h
    subst q1
    subst q2
    exact wp_ireturn rfl dX8_load_44 ⟨⟨_, rfl, rfl⟩, rfl⟩
  · replace h := itn c15 h
    refine wp_aload_n dX8_load_33 rfl ?_
    obtain ⟨r16, m17, n18, n19, hp20, h, en21⟩ := cb_e h
    refine wp_callV (k1 := n18) (k2 := n19) (As := []) (rest := []) (w8_X4_loadNow hp20) okX4_loadNow ivX4_loadNow rfl (by decide) ml_X8_243 dX8_load_34 rfl (by decide) (Nat.le_of_eq en21) rfl (Nat.le_of_ble_eq_true rfl) (fun _ _ z => z.elim) (fun r' S' z => ?_)
    obtain ⟨rfl, rfl⟩ := z
    show WP _ _ _ _ [some (vR 8 (i0)), some (vI (x1)), some (vI (x2)), some (vR 4 (j13))] [vI (r16)] _ _ _
    refine wp_goto (tgt := 44) dX8_load_37 (by decide) ?_
    obtain ⟨q1, q2, q3⟩ := cs_e h
    subst q1
    subst q2
    exact wp_ireturn rfl dX8_load_44 ⟨⟨_, rfl, rfl⟩, rfl⟩
def f8_X8_breaker (i0 : Nat) (x1 : Int32) (x2 : Int32) (m : CM) : CR (Int32 ⊕ Nat) :=
  cb (f8_X8_isWithin (x1) (0) (6) m) fun r1 m2 =>
  if r1 = 0 then
    some (.inr 0, m2, 1)
  else
    od (gR m2 1031 i0) fun j8 =>
    cb (f8_X8_isWithin (x2) (0) (((nI (gL m2 50 j8).length) - 1)) m2) fun r10 m11 =>
    if r10 = 0 then
      some (.inr 0, m11, 1)
    else
      od (gR m11 1031 i0) fun j17 =>
      if ¬ x2 < 0 then
      od ((gL m11 50 j17)[(x2).toNatClampNeg]?) fun j20 =>
      od (gR m11 520 j20) fun j22 =>
      if vq (x1) 7 then
      od (gO m11 43 j22 (x1).toNatClampNeg) fun j25 =>
      some (.inl ((gI m11 0 j25)), m11, 0)
      else none
      else none
theorem w8_X8_breaker {r : Int32 ⊕ Nat} {m9 : CM} {i0 : Nat} {x1 : Int32} {x2 : Int32} {m : CM} {n9 : Nat} (h : f8_X8_breaker i0 x1 x2 m = some (r, m9, n9)) : Spec mX8_breaker (9) n9 [vR 8 (i0), vI (x1), vI (x2)] (cM m out rho) (PcE out rho r false m9) (XcE out rho r m9) := by
  unfold f8_X8_breaker at h
  refine spec_of (by decide) rfl (by simp [catS, cat1]) (Nat.le_of_ble_eq_true rfl) ?_
  show WP mX8_breaker (9) n9 0 [some (vR 8 (i0)), some (vI (x1)), some (vI (x2))] [] (cM m out rho) (PcE out rho r false m9) (XcE out rho r m9)
  refine wp_iload_n dX8_breaker_0 rfl ?_
  refine wp_iconst (v := 0) dX8_breaker_1 (by decide) ?_
  refine wp_bipush (v := 6) dX8_breaker_2 (by decide) ?_
  obtain ⟨r1, m2, n3, n4, hp5, h, en6⟩ := cb_e h
  refine wp_callS (k1 := n3) (k2 := n4) (As := [vI (x1), vI (0), vI (6)]) (rest := []) (w8_X8_isWithin hp5) okX8_isWithin sm_X8_isWithin rfl ml_X8_54 dX8_breaker_4 rfl (by decide) (Nat.le_of_eq en6) rfl (Nat.le_of_ble_eq_true rfl) (fun _ _ z => z.elim) (fun r' S' z => ?_)
  obtain ⟨rfl, rfl⟩ := z
  show WP _ _ _ _ [some (vR 8 (i0)), some (vI (x1)), some (vI (x2))] [vI (r1)] _ _ _
  refine wp_if_eq (tgt := 31) dX8_breaker_7 (by decide) (fun c7 => ?_) (fun c7 => ?_)
  · replace h := itp c7 h
    refine wp_iconst (v := 0) dX8_breaker_31 (by decide) ?_
    obtain ⟨q1, q2, q3⟩ := cs_e h
    subst q1
    subst q2
    subst q3
    exact wp_callS (k1 := 1) (k2 := 0) (As := [vI (0)]) (rest := []) (w8_mustExist0 rfl) okX8_mustExist sm_X8_mustExist rfl ml_X8_58 dX8_breaker_32 rfl (by decide) (Nat.le_refl _) rfl (Nat.le_of_ble_eq_true rfl) (fun E S' z => ⟨⟨0, rfl, by decide, z.1⟩, z.2⟩) (fun r' S' z => z.elim)
  · replace h := itn c7 h
    refine wp_iload_n dX8_breaker_10 rfl ?_
    refine wp_iconst (v := 0) dX8_breaker_11 (by decide) ?_
    refine wp_aload_n dX8_breaker_12 rfl ?_
    obtain ⟨j8, ho9, h⟩ := od_e h
    refine cp_getS (y := 7) (f := 1031) (t := 50) (by decide) (by decide) rfl rfl fl_X8_39 dX8_breaker_13 ho9 ?_
    refine cp_size (c := 50) rfl (by decide) ml_X8_82 dX8_breaker_16 (Nat.le_of_ble_eq_true rfl) ?_
    refine wp_iconst (v := 1) dX8_breaker_19 (by decide) ?_
    refine wp_isub dX8_breaker_20 ?_
    obtain ⟨r10, m11, n12, n13, hp14, h, en15⟩ := cb_e h
    refine wp_callS (k1 := n12) (k2 := n13) (As := [vI (x2), vI (0), vI (((nI (gL m2 50 j8).length) - 1))]) (rest := []) (w8_X8_isWithin hp14) okX8_isWithin sm_X8_isWithin rfl ml_X8_54 dX8_breaker_21 rfl (by decide) (Nat.le_of_eq en15) rfl (Nat.le_of_ble_eq_true rfl) (fun _ _ z => z.elim) (fun r' S' z => ?_)
    obtain ⟨rfl, rfl⟩ := z
    show WP _ _ _ _ [some (vR 8 (i0)), some (vI (x1)), some (vI (x2))] [vI (r10)] _ _ _
    refine wp_if_eq (tgt := 31) dX8_breaker_24 (by decide) (fun c16 => ?_) (fun c16 => ?_)
    · replace h := itp c16 h
      refine wp_iconst (v := 0) dX8_breaker_31 (by decide) ?_
      obtain ⟨q1, q2, q3⟩ := cs_e h
      subst q1
      subst q2
      subst q3
      exact wp_callS (k1 := 1) (k2 := 0) (As := [vI (0)]) (rest := []) (w8_mustExist0 rfl) okX8_mustExist sm_X8_mustExist rfl ml_X8_58 dX8_breaker_32 rfl (by decide) (Nat.le_refl _) rfl (Nat.le_of_ble_eq_true rfl) (fun E S' z => ⟨⟨0, rfl, by decide, z.1⟩, z.2⟩) (fun r' S' z => z.elim)
    · replace h := itn c16 h
      refine wp_iconst (v := 1) dX8_breaker_27 (by decide) ?_
      refine wp_goto (tgt := 32) dX8_breaker_28 (by decide) ?_
      refine wp_callS (k1 := 0) (k2 := _) (As := [vI (1)]) (rest := []) (w8_mustExist1 (by decide)) okX8_mustExist sm_X8_mustExist rfl ml_X8_58 dX8_breaker_32 rfl (by decide) (Nat.le_of_eq (Nat.zero_add _)) rfl (Nat.le_of_ble_eq_true rfl) (fun _ _ z => z.elim) (fun r' S' z => ?_)
      obtain ⟨rfl, rfl⟩ := z
      show WP _ _ _ _ [some (vR 8 (i0)), some (vI (x1)), some (vI (x2))] [] _ _ _
      refine wp_aload_n dX8_breaker_35 rfl ?_
      obtain ⟨j17, ho18, h⟩ := od_e h
      refine cp_getS (y := 7) (f := 1031) (t := 50) (by decide) (by decide) rfl rfl fl_X8_39 dX8_breaker_36 ho18 ?_
      refine wp_iload_n dX8_breaker_39 rfl ?_
      obtain ⟨c19, h⟩ := ock h
      obtain ⟨j20, ho21, h⟩ := od_e h
      refine cp_get (c := 50) (t := 4) rfl rfl (by decide) c19 ho21 ml_X8_98 dX8_breaker_40 (Nat.le_of_ble_eq_true rfl) ?_
      refine cp_cast (c := 4) (by decide) kl_X8_86 dX8_breaker_43 ?_
      obtain ⟨j22, ho23, h⟩ := od_e h
      refine cp_getS (y := 8) (f := 520) (t := 43) (by decide) (by decide) rfl rfl fl_X8_233 dX8_breaker_46 ho23 ?_
      refine wp_iload_n dX8_breaker_49 rfl ?_
      obtain ⟨c24, h⟩ := ock h
      obtain ⟨j25, ho26, h⟩ := od_e h
      refine cp_aald (c := 43) (t := 0) rfl (by decide) rfl (show vp_in (x1) (len 43) from c24) dX8_breaker_50 ho26 ?_
      refine cp_getI (y := 0) (f := 0) (by decide) (by decide) rfl rfl fl_X8_237 dX8_breaker_51 ?_
      obtain ⟨q1, q2, q3⟩ := cs_e h
      subst q1
      subst q2
      exact wp_ireturn rfl dX8_breaker_54 ⟨⟨_, rfl, rfl⟩, rfl⟩
end S8
