section S8
variable {out : Int64} {rho : RH}
def f8_X3_init (i0 : Nat) (m : CM) : CR (Int32) :=
  if gV m 35 i0 = false then
  cg 1 (
  wr (sNA m 35 i0) fun m4 =>
  wr (sR m4 386 i0 (some (i0))) fun m6 =>
  if gV m6 36 i0 = false then
  cg 1 (
  wr (sNA m6 36 i0) fun m11 =>
  wr (sR m11 387 i0 (some (i0))) fun m13 =>
  some (0, m13, 0))
  else none)
  else none
theorem w8_X3_init {r : Int32} {m9 : CM} {i0 : Nat} {m : CM} {n9 : Nat} (h : f8_X3_init i0 m = some (r, m9, n9)) : Spec mX3_init (1) n9 [vR 3 (i0)] (cM m out rho) (Pc out rho none m9) NX := by
  unfold f8_X3_init at h
  refine spec_of (by decide) rfl (by simp [catS, cat1]) (Nat.le_of_ble_eq_true rfl) ?_
  show WP mX3_init (1) n9 0 [some (vR 3 (i0))] [] (cM m out rho) (Pc out rho none m9) NX
  refine wp_aload_n dX3_init_0 rfl ?_
  refine wp_objinit (by decide) ml_X3_3 dX3_init_1 (Nat.le_of_ble_eq_true rfl) ?_
  refine wp_aload_n dX3_init_4 rfl ?_
  refine wp_iconst (v := 2) dX3_init_5 (by decide) ?_
  obtain ⟨c1, h⟩ := ock h
  obtain ⟨n2, h, en3⟩ := cg_e h
  rw [← en3]
  obtain ⟨m4, e5, h⟩ := wr_e h
  refine cp_newa (c := 35) (i := i0) (a := .int) e5 (by decide) (by decide) c1 (by decide) (by decide) (by decide) ac_int rfl dX3_init_6 (by decide) ?_
  obtain ⟨m6, e7, h⟩ := wr_e h
  refine cp_putR (y := 2) (f := 386) (t := 35) (o := (some (i0))) e7 (by decide) (by decide) rfl rfl (Or.inr ⟨rfl, rfl⟩) fl_X3_9 dX3_init_8 (fun _ => rfl) rfl (fun _ => rfl) (by decide) ?_
  refine wp_aload_n dX3_init_11 rfl ?_
  refine wp_iconst (v := 2) dX3_init_12 (by decide) ?_
  obtain ⟨c8, h⟩ := ock h
  obtain ⟨n9, h, en10⟩ := cg_e h
  rw [← en10]
  obtain ⟨m11, e12, h⟩ := wr_e h
  refine cp_newa (c := 36) (i := i0) (a := .int) e12 (by decide) (by decide) c8 (by decide) (by decide) (by decide) ac_int rfl dX3_init_13 (by decide) ?_
  obtain ⟨m13, e14, h⟩ := wr_e h
  refine cp_putR (y := 3) (f := 387) (t := 36) (o := (some (i0))) e14 (by decide) (by decide) rfl rfl (Or.inr ⟨rfl, rfl⟩) fl_X3_15 dX3_init_15 (fun _ => rfl) rfl (fun _ => rfl) (by decide) ?_
  obtain ⟨q1, q2, q3⟩ := cs_e h
  clear q1
  subst q2
  exact wp_return rfl dX3_init_18 ⟨rfl, rfl⟩
def f8_X6_init (i0 : Nat) (m : CM) : CR (Int32) :=
  wr (sI m 768 i0 (1)) fun m1 =>
  if gV m1 32 i0 = false then
  cg 1 (
  wr (sNA m1 32 i0) fun m6 =>
  wr (sR m6 770 i0 (some (i0))) fun m8 =>
  if gV m8 33 i0 = false then
  cg 1 (
  wr (sNA m8 33 i0) fun m13 =>
  wr (sR m13 771 i0 (some (i0))) fun m15 =>
  if gV m15 34 i0 = false then
  cg 1 (
  wr (sNA m15 34 i0) fun m20 =>
  wr (sR m20 772 i0 (some (i0))) fun m22 =>
  if gV m22 3 i0 = false then
  cg 1 (
  wr (sN m22 3 i0) fun m27 =>
  cb (f8_X3_init i0 m27) fun _ m30 =>
  wr (sR m30 773 i0 (some (i0))) fun m35 =>
  some (0, m35, 0))
  else none)
  else none)
  else none)
  else none
theorem w8_X6_init {r : Int32} {m9 : CM} {i0 : Nat} {m : CM} {n9 : Nat} (h : f8_X6_init i0 m = some (r, m9, n9)) : Spec mX6_init (2) n9 [vR 6 (i0)] (cM m out rho) (Pc out rho none m9) NX := by
  unfold f8_X6_init at h
  refine spec_of (by decide) rfl (by simp [catS, cat1]) (Nat.le_of_ble_eq_true rfl) ?_
  show WP mX6_init (2) n9 0 [some (vR 6 (i0))] [] (cM m out rho) (Pc out rho none m9) NX
  refine wp_aload_n dX6_init_0 rfl ?_
  refine wp_objinit (by decide) ml_X6_3 dX6_init_1 (Nat.le_of_ble_eq_true rfl) ?_
  refine wp_aload_n dX6_init_4 rfl ?_
  refine wp_iconst (v := 1) dX6_init_5 (by decide) ?_
  obtain ⟨m1, e2, h⟩ := wr_e h
  refine cp_putI (y := 0) (f := 768) e2 (by decide) (by decide) rfl rfl (Or.inl rfl) fl_X6_9 dX6_init_6 rfl ?_
  refine wp_aload_n dX6_init_9 rfl ?_
  refine wp_iconst (v := 4) dX6_init_10 (by decide) ?_
  obtain ⟨c3, h⟩ := ock h
  obtain ⟨n4, h, en5⟩ := cg_e h
  rw [← en5]
  obtain ⟨m6, e7, h⟩ := wr_e h
  refine cp_newa (c := 32) (i := i0) (a := .int) e7 (by decide) (by decide) c3 (by decide) (by decide) (by decide) ac_int rfl dX6_init_11 (by decide) ?_
  obtain ⟨m8, e9, h⟩ := wr_e h
  refine cp_putR (y := 2) (f := 770) (t := 32) (o := (some (i0))) e9 (by decide) (by decide) rfl rfl (Or.inr ⟨rfl, rfl⟩) fl_X6_15 dX6_init_13 (fun _ => rfl) rfl (fun _ => rfl) (by decide) ?_
  refine wp_aload_n dX6_init_16 rfl ?_
  refine wp_iconst (v := 4) dX6_init_17 (by decide) ?_
  obtain ⟨c10, h⟩ := ock h
  obtain ⟨n11, h, en12⟩ := cg_e h
  rw [← en12]
  obtain ⟨m13, e14, h⟩ := wr_e h
  refine cp_newa (c := 33) (i := i0) (a := .int) e14 (by decide) (by decide) c10 (by decide) (by decide) (by decide) ac_int rfl dX6_init_18 (by decide) ?_
  obtain ⟨m15, e16, h⟩ := wr_e h
  refine cp_putR (y := 3) (f := 771) (t := 33) (o := (some (i0))) e16 (by decide) (by decide) rfl rfl (Or.inr ⟨rfl, rfl⟩) fl_X6_19 dX6_init_20 (fun _ => rfl) rfl (fun _ => rfl) (by decide) ?_
  refine wp_aload_n dX6_init_23 rfl ?_
  refine wp_iconst (v := 4) dX6_init_24 (by decide) ?_
  obtain ⟨c17, h⟩ := ock h
  obtain ⟨n18, h, en19⟩ := cg_e h
  rw [← en19]
  obtain ⟨m20, e21, h⟩ := wr_e h
  refine cp_newa (c := 34) (i := i0) (a := .boolean) e21 (by decide) (by decide) c17 (by decide) (by decide) (by decide) ac_boolean rfl dX6_init_25 (by decide) ?_
  obtain ⟨m22, e23, h⟩ := wr_e h
  refine cp_putR (y := 4) (f := 772) (t := 34) (o := (some (i0))) e23 (by decide) (by decide) rfl rfl (Or.inr ⟨rfl, rfl⟩) fl_X6_22 dX6_init_27 (fun _ => rfl) rfl (fun _ => rfl) (by decide) ?_
  refine wp_aload_n dX6_init_30 rfl ?_
  obtain ⟨c24, h⟩ := ock h
  obtain ⟨n25, h, en26⟩ := cg_e h
  rw [← en26]
  obtain ⟨m27, e28, h⟩ := wr_e h
  refine cp_new (c := 3) (i := i0) e28 (by decide) c24 kl_X6_26 it_X3 in_X3 dX6_init_31 ?_
  refine wp_dup dX6_init_34 trivial ?_
  obtain ⟨r29, m30, n31, n32, hp33, h, en34⟩ := cb_e h
  refine wp_callIN (k1 := n31) (k2 := n32) (As := []) (rest := [vR 3 (i0), vR 6 (i0)]) (w8_X3_init hp33) okX3_init rfl rfl im_X3_init (fun s hk => hk.2.2.2.2.2.2.1) dX6_init_35 (by decide) (Nat.le_of_eq en34) rfl (Nat.le_of_ble_eq_true rfl) (fun r' S' z => ?_)
  obtain ⟨rfl, rfl⟩ := z
  show WP _ _ _ _ [some (vR 6 (i0))] [vR 3 (i0), vR 6 (i0)] _ _ _
  obtain ⟨m35, e36, h⟩ := wr_e h
  refine cp_putR (y := 5) (f := 773) (t := 3) (o := (some (i0))) e36 (by decide) (by decide) rfl rfl (Or.inr ⟨rfl, rfl⟩) fl_X6_29 dX6_init_38 (fun _ => rfl) rfl (fun _ => rfl) (by decide) ?_
  obtain ⟨q1, q2, q3⟩ := cs_e h
  clear q1
  subst q2
  exact wp_return rfl dX6_init_41 ⟨rfl, rfl⟩
def f8_X2_init (i0 : Nat) (m : CM) : CR (Int32) :=
  wr (sI m 256 i0 (1000)) fun m1 =>
  wr (sI m1 257 i0 (10)) fun m3 =>
  some (0, m3, 0)
theorem w8_X2_init {r : Int32} {m9 : CM} {i0 : Nat} {m : CM} {n9 : Nat} (h : f8_X2_init i0 m = some (r, m9, n9)) : Spec mX2_init (1) n9 [vR 2 (i0)] (cM m out rho) (Pc out rho none m9) NX := by
  unfold f8_X2_init at h
  refine spec_of (by decide) rfl (by simp [catS, cat1]) (Nat.le_of_ble_eq_true rfl) ?_
  show WP mX2_init (1) n9 0 [some (vR 2 (i0))] [] (cM m out rho) (Pc out rho none m9) NX
  refine wp_aload_n dX2_init_0 rfl ?_
  refine wp_objinit (by decide) ml_X2_3 dX2_init_1 (Nat.le_of_ble_eq_true rfl) ?_
  refine wp_aload_n dX2_init_4 rfl ?_
  refine wp_sipush (v := 1000) dX2_init_5 (by decide) ?_
  obtain ⟨m1, e2, h⟩ := wr_e h
  refine cp_putI (y := 0) (f := 256) e2 (by decide) (by decide) rfl rfl (Or.inl rfl) fl_X2_9 dX2_init_8 rfl ?_
  refine wp_aload_n dX2_init_11 rfl ?_
  refine wp_bipush (v := 10) dX2_init_12 (by decide) ?_
  obtain ⟨m3, e4, h⟩ := wr_e h
  refine cp_putI (y := 1) (f := 257) e4 (by decide) (by decide) rfl rfl (Or.inl rfl) fl_X2_15 dX2_init_14 rfl ?_
  obtain ⟨q1, q2, q3⟩ := cs_e h
  clear q1
  subst q2
  exact wp_return rfl dX2_init_17 ⟨rfl, rfl⟩
def l8_X8_init_156 (K149 : Nat → Int32 → CM → CR (Int32)) : Nat → Nat → Int32 → Int32 → CM → CR (Int32)
  | 0, _, _, _, _ => none
  | n + 1, i0, x1, x2, m =>
  if 49 ≤ x2 then
    K149 (i0) (x1 + 1) m
  else
    od (gR m 1028 i0) fun j2 =>
    if vq (x1) 3 then
    od (gO m 40 j2 (x1).toNatClampNeg) fun j5 =>
    if vq (x2) 49 then
    wr (sA m 37 j5 (x2).toNatClampNeg ((-1))) fun m8 =>
    l8_X8_init_156 K149 n (i0) (x1) (x2 + 1) m8
    else none
    else none
theorem w8_X8_init_156 {K149 : Nat → Int32 → CM → CR (Int32)} {r : Int32} {m9 : CM} (hK149 : ∀ {i0 : Nat} {x1 : Int32} {l2 : Option sV} {m : CM} {n9 : Nat}, K149 i0 x1 m = some (r, m9, n9) → WP mX8_init (8) n9 149 [some (vR 8 (i0)), some (vI (x1)), l2] [] (cM m out rho) (Pc out rho none m9) NX) : ∀ (n : Nat) {i0 : Nat} {x1 : Int32} {x2 : Int32} {m : CM} {n9 : Nat}, l8_X8_init_156 K149 n i0 x1 x2 m = some (r, m9, n9) → WP mX8_init (8) n9 156 [some (vR 8 (i0)), some (vI (x1)), some (vI (x2))] [] (cM m out rho) (Pc out rho none m9) NX := by
  intro n
  induction n with
  | zero =>
    intro i0 x1 x2  m n9 h
    rw [l8_X8_init_156] at h
    cases h
  | succ n ih =>
    intro i0 x1 x2  m n9 h
    rw [l8_X8_init_156] at h
    refine wp_iload_n dX8_init_156 rfl ?_
    refine wp_bipush (v := 49) dX8_init_157 (by decide) ?_
    refine wp_icmp_ge (tgt := 177) dX8_init_159 (by decide) (fun c1 => ?_) (fun c1 => ?_)
    · replace h := itp c1 h
      refine wp_iinc (v := x1 + 1) (L' := [some (vR 8 (i0)), some (vI (x1 + 1)), some (vI (x2))]) dX8_init_177 rfl rfl rfl ?_
      refine wp_goto (tgt := 149) dX8_init_180 (by decide) ?_
      exact hK149 h
    · replace h := itn c1 h
      refine wp_aload_n dX8_init_162 rfl ?_
      obtain ⟨j2, ho3, h⟩ := od_e h
      refine cp_getS (y := 4) (f := 1028) (t := 40) (by decide) (by decide) rfl rfl fl_X8_21 dX8_init_163 ho3 ?_
      refine wp_iload_n dX8_init_166 rfl ?_
      obtain ⟨c4, h⟩ := ock h
      obtain ⟨j5, ho6, h⟩ := od_e h
      refine cp_aald (c := 40) (t := 37) rfl (by decide) rfl (show vp_in (x1) (len 40) from c4) dX8_init_167 ho6 ?_
      refine wp_iload_n dX8_init_168 rfl ?_
      refine wp_iconst (v := (-1)) dX8_init_169 (by decide) ?_
      obtain ⟨c7, h⟩ := ock h
      obtain ⟨m8, e9, h⟩ := wr_e h
      refine cp_iast (c := 37) e9 rfl (by decide) (show vp_in (x2) (len 37) from c7) dX8_init_170 ?_
      refine wp_iinc (v := x2 + 1) (L' := [some (vR 8 (i0)), some (vI (x1)), some (vI (x2 + 1))]) dX8_init_171 rfl rfl rfl ?_
      refine wp_goto (tgt := 156) dX8_init_174 (by decide) ?_
      exact ih h
def l8_X8_init_149 : Nat → Nat → Int32 → CM → CR (Int32)
  | 0, _, _, _ => none
  | n + 1, i0, x1, m =>
  if 3 ≤ x1 then
    some (0, m, 0)
  else
    l8_X8_init_156 (l8_X8_init_149 n) FU (i0) (x1) (0) m
theorem w8_X8_init_149 {r : Int32} {m9 : CM} : ∀ (n : Nat) {i0 : Nat} {x1 : Int32} {l2 : Option sV} {m : CM} {n9 : Nat}, l8_X8_init_149 n i0 x1 m = some (r, m9, n9) → WP mX8_init (8) n9 149 [some (vR 8 (i0)), some (vI (x1)), l2] [] (cM m out rho) (Pc out rho none m9) NX := by
  intro n
  induction n with
  | zero =>
    intro i0 x1 l2 m n9 h
    rw [l8_X8_init_149] at h
    cases h
  | succ n ih =>
    intro i0 x1 l2 m n9 h
    rw [l8_X8_init_149] at h
    refine wp_iload_n dX8_init_149 rfl ?_
    refine wp_iconst (v := 3) dX8_init_150 (by decide) ?_
    refine wp_icmp_ge (tgt := 183) dX8_init_151 (by decide) (fun c1 => ?_) (fun c1 => ?_)
    · replace h := itp c1 h
      obtain ⟨q1, q2, q3⟩ := cs_e h
      clear q1
      subst q2
      exact wp_return rfl dX8_init_183 ⟨rfl, rfl⟩
    · replace h := itn c1 h
      refine wp_iconst (v := 0) dX8_init_154 (by decide) ?_
      refine wp_istore_n (L' := [some (vR 8 (i0)), some (vI (x1)), some (vI (0))]) dX8_init_155 rfl rfl ?_
      exact w8_X8_init_156 ih FU h
def l8_X8_init_122 : Nat → Nat → Int32 → CM → CR (Int32)
  | 0, _, _, _ => none
  | n + 1, i0, x1, m =>
  if 7 ≤ x1 then
    l8_X8_init_149 FU (i0) (0) m
  else
    od (gR m 1030 i0) fun j2 =>
    if gV m 2 ((x1).toNatClampNeg) = false then
    cg 1 (
    wr (sN m 2 ((x1).toNatClampNeg)) fun m7 =>
    cb (f8_X2_init ((x1).toNatClampNeg) m7) fun _ m10 =>
    if vq (x1) 7 then
    wr (sO m10 42 j2 (x1).toNatClampNeg (some ((x1).toNatClampNeg))) fun m16 =>
    l8_X8_init_122 n (i0) (x1 + 1) m16
    else none)
    else none
theorem w8_X8_init_122 {r : Int32} {m9 : CM} : ∀ (n : Nat) {i0 : Nat} {x1 : Int32} {l2 : Option sV} {m : CM} {n9 : Nat}, l8_X8_init_122 n i0 x1 m = some (r, m9, n9) → WP mX8_init (8) n9 122 [some (vR 8 (i0)), some (vI (x1)), l2] [] (cM m out rho) (Pc out rho none m9) NX := by
  intro n
  induction n with
  | zero =>
    intro i0 x1 l2 m n9 h
    rw [l8_X8_init_122] at h
    cases h
  | succ n ih =>
    intro i0 x1 l2 m n9 h
    rw [l8_X8_init_122] at h
    refine wp_iload_n dX8_init_122 rfl ?_
    refine wp_bipush (v := 7) dX8_init_123 (by decide) ?_
    refine wp_icmp_ge (tgt := 147) dX8_init_125 (by decide) (fun c1 => ?_) (fun c1 => ?_)
    · replace h := itp c1 h
      refine wp_iconst (v := 0) dX8_init_147 (by decide) ?_
      refine wp_istore_n (L' := [some (vR 8 (i0)), some (vI (0)), l2]) dX8_init_148 rfl rfl ?_
      exact w8_X8_init_149 FU h
    · replace h := itn c1 h
      refine wp_aload_n dX8_init_128 rfl ?_
      obtain ⟨j2, ho3, h⟩ := od_e h
      refine cp_getS (y := 6) (f := 1030) (t := 42) (by decide) (by decide) rfl rfl fl_X8_32 dX8_init_129 ho3 ?_
      refine wp_iload_n dX8_init_132 rfl ?_
      obtain ⟨c4, h⟩ := ock h
      obtain ⟨n5, h, en6⟩ := cg_e h
      rw [← en6]
      obtain ⟨m7, e8, h⟩ := wr_e h
      refine cp_new (c := 2) (i := (x1).toNatClampNeg) e8 (by decide) c4 kl_X8_30 it_X2 in_X2 dX8_init_133 ?_
      refine wp_dup dX8_init_136 trivial ?_
      obtain ⟨r9, m10, n11, n12, hp13, h, en14⟩ := cb_e h
      refine wp_callIN (k1 := n11) (k2 := n12) (As := []) (rest := [vR 2 (((x1).toNatClampNeg)), vI (x1), vR 42 (j2)]) (w8_X2_init hp13) okX2_init rfl rfl im_X2_init (fun s hk => hk.2.2.2.2.2.2.2.1) dX8_init_137 (by decide) (Nat.le_of_eq en14) rfl (Nat.le_of_ble_eq_true rfl) (fun r' S' z => ?_)
      obtain ⟨rfl, rfl⟩ := z
      show WP _ _ _ _ [some (vR 8 (i0)), some (vI (x1)), l2] [vR 2 (((x1).toNatClampNeg)), vI (x1), vR 42 (j2)] _ _ _
      obtain ⟨c15, h⟩ := ock h
      obtain ⟨m16, e17, h⟩ := wr_e h
      refine cp_aast (c := 42) (t := 2) e17 rfl (by decide) rfl (show vp_in (x1) (len 42) from c15) dX8_init_140 ?_
      refine wp_iinc (v := x1 + 1) (L' := [some (vR 8 (i0)), some (vI (x1 + 1)), l2]) dX8_init_141 rfl rfl rfl ?_
      refine wp_goto (tgt := 122) dX8_init_144 (by decide) ?_
      exact ih h
def l8_X8_init_95 : Nat → Nat → Int32 → CM → CR (Int32)
  | 0, _, _, _ => none
  | n + 1, i0, x1, m =>
  if 6 ≤ x1 then
    l8_X8_init_122 FU (i0) (0) m
  else
    od (gR m 1029 i0) fun j2 =>
    if gV m 6 ((x1).toNatClampNeg) = false then
    cg 1 (
    wr (sN m 6 ((x1).toNatClampNeg)) fun m7 =>
    cb (f8_X6_init ((x1).toNatClampNeg) m7) fun _ m10 =>
    if vq (x1) 6 then
    wr (sO m10 41 j2 (x1).toNatClampNeg (some ((x1).toNatClampNeg))) fun m16 =>
    l8_X8_init_95 n (i0) (x1 + 1) m16
    else none)
    else none
theorem w8_X8_init_95 {r : Int32} {m9 : CM} : ∀ (n : Nat) {i0 : Nat} {x1 : Int32} {l2 : Option sV} {m : CM} {n9 : Nat}, l8_X8_init_95 n i0 x1 m = some (r, m9, n9) → WP mX8_init (8) n9 95 [some (vR 8 (i0)), some (vI (x1)), l2] [] (cM m out rho) (Pc out rho none m9) NX := by
  intro n
  induction n with
  | zero =>
    intro i0 x1 l2 m n9 h
    rw [l8_X8_init_95] at h
    cases h
  | succ n ih =>
    intro i0 x1 l2 m n9 h
    rw [l8_X8_init_95] at h
    refine wp_iload_n dX8_init_95 rfl ?_
    refine wp_bipush (v := 6) dX8_init_96 (by decide) ?_
    refine wp_icmp_ge (tgt := 120) dX8_init_98 (by decide) (fun c1 => ?_) (fun c1 => ?_)
    · replace h := itp c1 h
      refine wp_iconst (v := 0) dX8_init_120 (by decide) ?_
      refine wp_istore_n (L' := [some (vR 8 (i0)), some (vI (0)), l2]) dX8_init_121 rfl rfl ?_
      exact w8_X8_init_122 FU h
    · replace h := itn c1 h
      refine wp_aload_n dX8_init_101 rfl ?_
      obtain ⟨j2, ho3, h⟩ := od_e h
      refine cp_getS (y := 5) (f := 1029) (t := 41) (by decide) (by decide) rfl rfl fl_X8_26 dX8_init_102 ho3 ?_
      refine wp_iload_n dX8_init_105 rfl ?_
      obtain ⟨c4, h⟩ := ock h
      obtain ⟨n5, h, en6⟩ := cg_e h
      rw [← en6]
      obtain ⟨m7, e8, h⟩ := wr_e h
      refine cp_new (c := 6) (i := (x1).toNatClampNeg) e8 (by decide) c4 kl_X8_24 it_X6 in_X6 dX8_init_106 ?_
      refine wp_dup dX8_init_109 trivial ?_
      obtain ⟨r9, m10, n11, n12, hp13, h, en14⟩ := cb_e h
      refine wp_callIN (k1 := n11) (k2 := n12) (As := []) (rest := [vR 6 (((x1).toNatClampNeg)), vI (x1), vR 41 (j2)]) (w8_X6_init hp13) okX6_init rfl rfl im_X6_init (fun s hk => hk.2.2.2.2.2.1) dX8_init_110 (by decide) (Nat.le_of_eq en14) rfl (Nat.le_of_ble_eq_true rfl) (fun r' S' z => ?_)
      obtain ⟨rfl, rfl⟩ := z
      show WP _ _ _ _ [some (vR 8 (i0)), some (vI (x1)), l2] [vR 6 (((x1).toNatClampNeg)), vI (x1), vR 41 (j2)] _ _ _
      obtain ⟨c15, h⟩ := ock h
      obtain ⟨m16, e17, h⟩ := wr_e h
      refine cp_aast (c := 41) (t := 6) e17 rfl (by decide) rfl (show vp_in (x1) (len 41) from c15) dX8_init_113 ?_
      refine wp_iinc (v := x1 + 1) (L' := [some (vR 8 (i0)), some (vI (x1 + 1)), l2]) dX8_init_114 rfl rfl rfl ?_
      refine wp_goto (tgt := 95) dX8_init_117 (by decide) ?_
      exact ih h
def f8_X8_init (i0 : Nat) (m : CM) : CR (Int32) :=
  wr (sI m 1025 i0 (3)) fun m1 =>
  wr (sI m1 1026 i0 (4)) fun m3 =>
  wr (sI m3 1027 i0 (30)) fun m5 =>
  if (gV m5 40 0 = false ∧ gV m5 37 0 = false ∧ gV m5 37 1 = false ∧ gV m5 37 2 = false) then
  cg 4 (
  wr (sNM m5) fun m10 =>
  wr (sR m10 1028 i0 (some (0))) fun m12 =>
  if gV m12 41 i0 = false then
  cg 1 (
  wr (sNO m12 41 i0) fun m17 =>
  wr (sR m17 1029 i0 (some (i0))) fun m19 =>
  if gV m19 42 i0 = false then
  cg 1 (
  wr (sNO m19 42 i0) fun m24 =>
  wr (sR m24 1030 i0 (some (i0))) fun m26 =>
  if gV m26 50 i0 = false then
  cg 1 (
  wr (sNL m26 50 i0) fun m31 =>
  wr (sR m31 1031 i0 (some (i0))) fun m33 =>
  if gV m33 51 i0 = false then
  cg 1 (
  wr (sNL m33 51 i0) fun m38 =>
  wr (sR m38 1032 i0 (some (i0))) fun m40 =>
  if gV m40 52 i0 = false then
  cg 1 (
  wr (sNL m40 52 i0) fun m45 =>
  wr (sR m45 1033 i0 (some (i0))) fun m47 =>
  if gV m47 53 i0 = false then
  cg 1 (
  wr (sNL m47 53 i0) fun m52 =>
  wr (sR m52 1034 i0 (some (i0))) fun m54 =>
  l8_X8_init_95 FU (i0) (0) m54)
  else none)
  else none)
  else none)
  else none)
  else none)
  else none)
  else none
theorem w8_X8_init {r : Int32} {m9 : CM} {i0 : Nat} {m : CM} {n9 : Nat} (h : f8_X8_init i0 m = some (r, m9, n9)) : Spec mX8_init (8) n9 [vR 8 (i0)] (cM m out rho) (Pc out rho none m9) NX := by
  unfold f8_X8_init at h
  refine spec_of (by decide) rfl (by simp [catS, cat1]) (Nat.le_of_ble_eq_true rfl) ?_
  show WP mX8_init (8) n9 0 [some (vR 8 (i0)), none, none] [] (cM m out rho) (Pc out rho none m9) NX
  refine wp_aload_n dX8_init_0 rfl ?_
  refine wp_objinit (by decide) ml_X8_3 dX8_init_1 (Nat.le_of_ble_eq_true rfl) ?_
  refine wp_aload_n dX8_init_4 rfl ?_
  refine wp_iconst (v := 3) dX8_init_5 (by decide) ?_
  obtain ⟨m1, e2, h⟩ := wr_e h
  refine cp_putI (y := 1) (f := 1025) e2 (by decide) (by decide) rfl rfl (Or.inl rfl) fl_X8_9 dX8_init_6 rfl ?_
  refine wp_aload_n dX8_init_9 rfl ?_
  refine wp_iconst (v := 4) dX8_init_10 (by decide) ?_
  obtain ⟨m3, e4, h⟩ := wr_e h
  refine cp_putI (y := 2) (f := 1026) e4 (by decide) (by decide) rfl rfl (Or.inl rfl) fl_X8_13 dX8_init_11 rfl ?_
  refine wp_aload_n dX8_init_14 rfl ?_
  refine wp_bipush (v := 30) dX8_init_15 (by decide) ?_
  obtain ⟨m5, e6, h⟩ := wr_e h
  refine cp_putI (y := 3) (f := 1027) e6 (by decide) (by decide) rfl rfl (Or.inl rfl) fl_X8_16 dX8_init_17 rfl ?_
  refine wp_aload_n dX8_init_20 rfl ?_
  refine wp_iconst (v := 3) dX8_init_21 (by decide) ?_
  refine wp_bipush (v := 49) dX8_init_22 (by decide) ?_
  obtain ⟨c7, h⟩ := ock h
  obtain ⟨n8, h, en9⟩ := cg_e h
  rw [← en9]
  obtain ⟨m10, e11, h⟩ := wr_e h
  refine cp_mna e11 rfl rfl (mP4 c7) kl_X8_19 ac_int dX8_init_24 ?_
  obtain ⟨m12, e13, h⟩ := wr_e h
  refine cp_putR (y := 4) (f := 1028) (t := 40) (o := (some (0))) e13 (by decide) (by decide) rfl rfl (Or.inr ⟨rfl, rfl⟩) fl_X8_21 dX8_init_28 (fun _ => rfl) rfl (fun _ => rfl) (by decide) ?_
  refine wp_aload_n dX8_init_31 rfl ?_
  refine wp_bipush (v := 6) dX8_init_32 (by decide) ?_
  obtain ⟨c14, h⟩ := ock h
  obtain ⟨n15, h, en16⟩ := cg_e h
  rw [← en16]
  obtain ⟨m17, e18, h⟩ := wr_e h
  refine cp_anew (c := 41) (i := i0) e18 rfl (by decide) c14 (by decide) (by decide) kl_X8_24 (fun s hk => hk.1) dX8_init_34 ?_
  obtain ⟨m19, e20, h⟩ := wr_e h
  refine cp_putR (y := 5) (f := 1029) (t := 41) (o := (some (i0))) e20 (by decide) (by decide) rfl rfl (Or.inr ⟨rfl, rfl⟩) fl_X8_26 dX8_init_37 (fun _ => rfl) rfl (fun _ => rfl) (by decide) ?_
  refine wp_aload_n dX8_init_40 rfl ?_
  refine wp_bipush (v := 7) dX8_init_41 (by decide) ?_
  obtain ⟨c21, h⟩ := ock h
  obtain ⟨n22, h, en23⟩ := cg_e h
  rw [← en23]
  obtain ⟨m24, e25, h⟩ := wr_e h
  refine cp_anew (c := 42) (i := i0) e25 rfl (by decide) c21 (by decide) (by decide) kl_X8_30 (fun s hk => hk.2.1) dX8_init_43 ?_
  obtain ⟨m26, e27, h⟩ := wr_e h
  refine cp_putR (y := 6) (f := 1030) (t := 42) (o := (some (i0))) e27 (by decide) (by decide) rfl rfl (Or.inr ⟨rfl, rfl⟩) fl_X8_32 dX8_init_46 (fun _ => rfl) rfl (fun _ => rfl) (by decide) ?_
  refine wp_aload_n dX8_init_49 rfl ?_
  obtain ⟨c28, h⟩ := ock h
  obtain ⟨n29, h, en30⟩ := cg_e h
  rw [← en30]
  obtain ⟨m31, e32, h⟩ := wr_e h
  refine cp_newlist (c := 50) e32 rfl c28 (by decide) kl_X8_36 ml_X8_38 dX8_init_50 dX8_init_53 dX8_init_54 (Nat.le_of_ble_eq_true rfl) ?_
  obtain ⟨m33, e34, h⟩ := wr_e h
  refine cp_putR (y := 7) (f := 1031) (t := 50) (o := (some (i0))) e34 (by decide) (by decide) rfl rfl (Or.inr ⟨rfl, rfl⟩) fl_X8_39 dX8_init_57 (fun _ => rfl) rfl (fun _ => rfl) (by decide) ?_
  refine wp_aload_n dX8_init_60 rfl ?_
  obtain ⟨c35, h⟩ := ock h
  obtain ⟨n36, h, en37⟩ := cg_e h
  rw [← en37]
  obtain ⟨m38, e39, h⟩ := wr_e h
  refine cp_newlist (c := 51) e39 rfl c35 (by decide) kl_X8_36 ml_X8_38 dX8_init_61 dX8_init_64 dX8_init_65 (Nat.le_of_ble_eq_true rfl) ?_
  obtain ⟨m40, e41, h⟩ := wr_e h
  refine cp_putR (y := 8) (f := 1032) (t := 51) (o := (some (i0))) e41 (by decide) (by decide) rfl rfl (Or.inr ⟨rfl, rfl⟩) fl_X8_43 dX8_init_68 (fun _ => rfl) rfl (fun _ => rfl) (by decide) ?_
  refine wp_aload_n dX8_init_71 rfl ?_
  obtain ⟨c42, h⟩ := ock h
  obtain ⟨n43, h, en44⟩ := cg_e h
  rw [← en44]
  obtain ⟨m45, e46, h⟩ := wr_e h
  refine cp_newlist (c := 52) e46 rfl c42 (by decide) kl_X8_36 ml_X8_38 dX8_init_72 dX8_init_75 dX8_init_76 (Nat.le_of_ble_eq_true rfl) ?_
  obtain ⟨m47, e48, h⟩ := wr_e h
  refine cp_putR (y := 9) (f := 1033) (t := 52) (o := (some (i0))) e48 (by decide) (by decide) rfl rfl (Or.inr ⟨rfl, rfl⟩) fl_X8_46 dX8_init_79 (fun _ => rfl) rfl (fun _ => rfl) (by decide) ?_
  refine wp_aload_n dX8_init_82 rfl ?_
  obtain ⟨c49, h⟩ := ock h
  obtain ⟨n50, h, en51⟩ := cg_e h
  rw [← en51]
  obtain ⟨m52, e53, h⟩ := wr_e h
  refine cp_newlist (c := 53) e53 rfl c49 (by decide) kl_X8_36 ml_X8_38 dX8_init_83 dX8_init_86 dX8_init_87 (Nat.le_of_ble_eq_true rfl) ?_
  obtain ⟨m54, e55, h⟩ := wr_e h
  refine cp_putR (y := 10) (f := 1034) (t := 53) (o := (some (i0))) e55 (by decide) (by decide) rfl rfl (Or.inr ⟨rfl, rfl⟩) fl_X8_49 dX8_init_90 (fun _ => rfl) rfl (fun _ => rfl) (by decide) ?_
  refine wp_iconst (v := 0) dX8_init_93 (by decide) ?_
  refine wp_istore_n (L' := [some (vR 8 (i0)), some (vI (0)), none]) dX8_init_94 rfl rfl ?_
  exact w8_X8_init_95 FU h
def f8_X8_tick (i0 : Nat) (m : CM) : CR (Int32) :=
  some ((gI m 1024 i0), m, 0)
theorem w8_X8_tick {r : Int32} {m9 : CM} {i0 : Nat} {m : CM} {n9 : Nat} (h : f8_X8_tick i0 m = some (r, m9, n9)) : Spec mX8_tick (0) n9 [vR 8 (i0)] (cM m out rho) (Pc out rho (some (vI r)) m9) NX := by
  unfold f8_X8_tick at h
  refine spec_of (by decide) rfl (by simp [catS, cat1]) (Nat.le_of_ble_eq_true rfl) ?_
  show WP mX8_tick (0) n9 0 [some (vR 8 (i0))] [] (cM m out rho) (Pc out rho (some (vI r)) m9) NX
  refine wp_aload_n dX8_tick_0 rfl ?_
  refine cp_getI (y := 0) (f := 1024) (by decide) (by decide) rfl rfl fl_X8_140 dX8_tick_1 ?_
  obtain ⟨q1, q2, q3⟩ := cs_e h
  subst q1
  subst q2
  exact wp_ireturn rfl dX8_tick_4 ⟨rfl, rfl⟩
def f8_X8_calls (i0 : Nat) (m : CM) : CR (Int32) :=
  od (gR m 1033 i0) fun j1 =>
  some ((nI (gL m 52 j1).length), m, 0)
theorem w8_X8_calls {r : Int32} {m9 : CM} {i0 : Nat} {m : CM} {n9 : Nat} (h : f8_X8_calls i0 m = some (r, m9, n9)) : Spec mX8_calls (8) n9 [vR 8 (i0)] (cM m out rho) (Pc out rho (some (vI r)) m9) NX := by
  unfold f8_X8_calls at h
  refine spec_of (by decide) rfl (by simp [catS, cat1]) (Nat.le_of_ble_eq_true rfl) ?_
  show WP mX8_calls (8) n9 0 [some (vR 8 (i0))] [] (cM m out rho) (Pc out rho (some (vI r)) m9) NX
  refine wp_aload_n dX8_calls_0 rfl ?_
  obtain ⟨j1, ho2, h⟩ := od_e h
  refine cp_getS (y := 9) (f := 1033) (t := 52) (by decide) (by decide) rfl rfl fl_X8_46 dX8_calls_1 ho2 ?_
  refine cp_size (c := 52) rfl (by decide) ml_X8_82 dX8_calls_4 (Nat.le_of_ble_eq_true rfl) ?_
  obtain ⟨q1, q2, q3⟩ := cs_e h
  subst q1
  subst q2
  exact wp_ireturn rfl dX8_calls_7 ⟨rfl, rfl⟩
def l8_X8_repairs_16 : Nat → Nat → Int32 → Int32 → CM → CR (Int32)
  | 0, _, _, _, _ => none
  | n + 1, i0, x2, x3, m =>
  od (gR m 1034 i0) fun j1 =>
  if (nI (gL m 53 j1).length) ≤ x3 then
    some (x2, m, 0)
  else
    if ¬ x3 < 0 then
    od ((gL m 53 j1)[(x3).toNatClampNeg]?) fun j5 =>
    if (gI m 911 j5) = 3 then
      l8_X8_repairs_16 n (i0) (x2 + 1) (x3 + 1) m
    else
      l8_X8_repairs_16 n (i0) (x2) (x3 + 1) m
    else none
theorem w8_X8_repairs_16 {r : Int32} {m9 : CM} : ∀ (n : Nat) {i0 : Nat} {x2 : Int32} {x3 : Int32} {l1 : Option sV} {m : CM} {n9 : Nat}, l8_X8_repairs_16 n i0 x2 x3 m = some (r, m9, n9) → WP mX8_repairs (8) n9 16 [some (vR 8 (i0)), l1, some (vI (x2)), some (vI (x3))] [] (cM m out rho) (Pc out rho (some (vI r)) m9) NX := by
  intro n
  induction n with
  | zero =>
    intro i0 x2 x3 l1 m n9 h
    rw [l8_X8_repairs_16] at h
    cases h
  | succ n ih =>
    intro i0 x2 x3 l1 m n9 h
    rw [l8_X8_repairs_16] at h
    refine wp_iload_n dX8_repairs_16 rfl ?_
    refine wp_aload_n dX8_repairs_17 rfl ?_
    obtain ⟨j1, ho2, h⟩ := od_e h
    refine cp_getS (y := 10) (f := 1034) (t := 53) (by decide) (by decide) rfl rfl fl_X8_49 dX8_repairs_18 ho2 ?_
    refine cp_size (c := 53) rfl (by decide) ml_X8_82 dX8_repairs_21 (Nat.le_of_ble_eq_true rfl) ?_
    refine wp_icmp_ge (tgt := 54) dX8_repairs_24 (by decide) (fun c3 => ?_) (fun c3 => ?_)
    · replace h := itp c3 h
      refine wp_iload_n dX8_repairs_54 rfl ?_
      obtain ⟨q1, q2, q3⟩ := cs_e h
      subst q1
      subst q2
      exact wp_ireturn rfl dX8_repairs_55 ⟨rfl, rfl⟩
    · replace h := itn c3 h
      refine wp_aload_n dX8_repairs_27 rfl ?_
      refine cp_getS (y := 10) (f := 1034) (t := 53) (by decide) (by decide) rfl rfl fl_X8_49 dX8_repairs_28 ho2 ?_
      refine wp_iload_n dX8_repairs_31 rfl ?_
      obtain ⟨c4, h⟩ := ock h
      obtain ⟨j5, ho6, h⟩ := od_e h
      refine cp_get (c := 53) (t := 7) rfl rfl (by decide) c4 ho6 ml_X8_98 dX8_repairs_32 (Nat.le_of_ble_eq_true rfl) ?_
      refine cp_cast (c := 7) (by decide) kl_X8_132 dX8_repairs_35 ?_
      refine cp_getI (y := 15) (f := 911) (by decide) (by decide) rfl rfl fl_X8_249 dX8_repairs_38 ?_
      refine wp_iconst (v := 3) dX8_repairs_41 (by decide) ?_
      refine wp_icmp_ne (tgt := 48) dX8_repairs_42 (by decide) (fun c7 => ?_) (fun c7 => ?_)
      · replace h := itn c7 h
        refine wp_iinc (v := x3 + 1) (L' := [some (vR 8 (i0)), l1, some (vI (x2)), some (vI (x3 + 1))]) dX8_repairs_48 rfl rfl rfl ?_
        refine wp_goto (tgt := 16) dX8_repairs_51 (by decide) ?_
        exact ih h
      · replace h := itp c7 h
        refine wp_iinc (v := x2 + 1) (L' := [some (vR 8 (i0)), l1, some (vI (x2 + 1)), some (vI (x3))]) dX8_repairs_45 rfl rfl rfl ?_
        refine wp_iinc (v := x3 + 1) (L' := [some (vR 8 (i0)), l1, some (vI (x2 + 1)), some (vI (x3 + 1))]) dX8_repairs_48 rfl rfl rfl ?_
        refine wp_goto (tgt := 16) dX8_repairs_51 (by decide) ?_
        exact ih h
def f8_X8_repairs (i0 : Nat) (x1 : Int32) (m : CM) : CR (Int32) :=
  if x1 = 0 then
    od (gR m 1034 i0) fun j2 =>
    some ((nI (gL m 53 j2).length), m, 0)
  else
    l8_X8_repairs_16 FU (i0) (0) (0) m
theorem w8_X8_repairs {r : Int32} {m9 : CM} {i0 : Nat} {x1 : Int32} {m : CM} {n9 : Nat} (h : f8_X8_repairs i0 x1 m = some (r, m9, n9)) : Spec mX8_repairs (8) n9 [vR 8 (i0), vI (x1)] (cM m out rho) (Pc out rho (some (vI r)) m9) NX := by
  unfold f8_X8_repairs at h
  refine spec_of (by decide) rfl (by simp [catS, cat1]) (Nat.le_of_ble_eq_true rfl) ?_
  show WP mX8_repairs (8) n9 0 [some (vR 8 (i0)), some (vI (x1)), none, none] [] (cM m out rho) (Pc out rho (some (vI r)) m9) NX
  refine wp_iload_n dX8_repairs_0 rfl ?_
  refine wp_if_ne (tgt := 12) dX8_repairs_1 (by decide) (fun c1 => ?_) (fun c1 => ?_)
  · replace h := itn c1 h
    refine wp_iconst (v := 0) dX8_repairs_12 (by decide) ?_
    refine wp_istore_n (L' := [some (vR 8 (i0)), some (vI (x1)), some (vI (0)), none]) dX8_repairs_13 rfl rfl ?_
    refine wp_iconst (v := 0) dX8_repairs_14 (by decide) ?_
    refine wp_istore_n (L' := [some (vR 8 (i0)), some (vI (x1)), some (vI (0)), some (vI (0))]) dX8_repairs_15 rfl rfl ?_
    exact w8_X8_repairs_16 FU h
  · replace h := itp c1 h
    refine wp_aload_n dX8_repairs_4 rfl ?_
    obtain ⟨j2, ho3, h⟩ := od_e h
    refine cp_getS (y := 10) (f := 1034) (t := 53) (by decide) (by decide) rfl rfl fl_X8_49 dX8_repairs_5 ho3 ?_
    refine cp_size (c := 53) rfl (by decide) ml_X8_82 dX8_repairs_8 (Nat.le_of_ble_eq_true rfl) ?_
    obtain ⟨q1, q2, q3⟩ := cs_e h
    subst q1
    subst q2
    exact wp_ireturn rfl dX8_repairs_11 ⟨rfl, rfl⟩
def f8_X8_isWithin (x0 : Int32) (x1 : Int32) (x2 : Int32) (m : CM) : CR (Int32) :=
  if x0 < x1 then
    some (0, m, 0)
  else
    if x2 < x0 then
      some (0, m, 0)
    else
      some (1, m, 0)
theorem w8_X8_isWithin {r : Int32} {m9 : CM} {x0 : Int32} {x1 : Int32} {x2 : Int32} {m : CM} {n9 : Nat} (h : f8_X8_isWithin x0 x1 x2 m = some (r, m9, n9)) : Spec mX8_isWithin (0) n9 [vI (x0), vI (x1), vI (x2)] (cM m out rho) (Pc out rho (some (vI r)) m9) NX := by
  unfold f8_X8_isWithin at h
  refine spec_of (by decide) rfl (by simp [catS, cat1]) (Nat.le_of_ble_eq_true rfl) ?_
  show WP mX8_isWithin (0) n9 0 [some (vI (x0)), some (vI (x1)), some (vI (x2))] [] (cM m out rho) (Pc out rho (some (vI r)) m9) NX
  refine wp_iload_n dX8_isWithin_0 rfl ?_
  refine wp_iload_n dX8_isWithin_1 rfl ?_
  refine wp_icmp_lt (tgt := 14) dX8_isWithin_2 (by decide) (fun c1 => ?_) (fun c1 => ?_)
  · replace h := itp c1 h
    refine wp_iconst (v := 0) dX8_isWithin_14 (by decide) ?_
    obtain ⟨q1, q2, q3⟩ := cs_e h
    subst q1
    subst q2
    exact wp_zreturn rfl (by decide) dX8_isWithin_15 ⟨rfl, rfl⟩
  · replace h := itn c1 h
    refine wp_iload_n dX8_isWithin_5 rfl ?_
    refine wp_iload_n dX8_isWithin_6 rfl ?_
    refine wp_icmp_gt (tgt := 14) dX8_isWithin_7 (by decide) (fun c2 => ?_) (fun c2 => ?_)
    · replace h := itp c2 h
      refine wp_iconst (v := 0) dX8_isWithin_14 (by decide) ?_
      obtain ⟨q1, q2, q3⟩ := cs_e h
      subst q1
      subst q2
      exact wp_zreturn rfl (by decide) dX8_isWithin_15 ⟨rfl, rfl⟩
    · replace h := itn c2 h
      refine wp_iconst (v := 1) dX8_isWithin_10 (by decide) ?_
      refine wp_goto (tgt := 15) dX8_isWithin_11 (by decide) ?_
      obtain ⟨q1, q2, q3⟩ := cs_e h
      subst q1
      subst q2
      exact wp_zreturn rfl (by decide) dX8_isWithin_15 ⟨rfl, rfl⟩
def f8_X8_work (i0 : Nat) (x1 : Int32) (x2 : Int32) (m : CM) : CR (Int32 ⊕ Nat) :=
  cb (f8_X8_isWithin (x1) (0) (5) m) fun r1 m2 =>
  if r1 = 0 then some (.inr 0, m2, 1) else
  cb (f8_X8_isWithin (x2) (0) (50) m2) fun r8 m9 =>
  if r8 = 0 then some (.inr 1, m9, 1) else
  od (gR m9 1029 i0) fun j15 =>
  if vq (x1) 6 then
  od (gO m9 41 j15 (x1).toNatClampNeg) fun j18 =>
  wr (sI m9 768 j18 (x2)) fun m20 =>
  some (.inl ((gI m9 768 j18)), m20, 0)
  else none
theorem w8_X8_work {r : Int32 ⊕ Nat} {m9 : CM} {i0 : Nat} {x1 : Int32} {x2 : Int32} {m : CM} {n9 : Nat} (h : f8_X8_work i0 x1 x2 m = some (r, m9, n9)) : Spec mX8_work (9) n9 [vR 8 (i0), vI (x1), vI (x2)] (cM m out rho) (PcE out rho r false m9) (XcE out rho r m9) := by
  unfold f8_X8_work at h
  refine spec_of (by decide) rfl (by simp [catS, cat1]) (Nat.le_of_ble_eq_true rfl) ?_
  show WP mX8_work (9) n9 0 [some (vR 8 (i0)), some (vI (x1)), some (vI (x2)), none, none] [] (cM m out rho) (PcE out rho r false m9) (XcE out rho r m9)
  refine wp_iload_n dX8_work_0 rfl ?_
  refine wp_iconst (v := 0) dX8_work_1 (by decide) ?_
  refine wp_iconst (v := 5) dX8_work_2 (by decide) ?_
  obtain ⟨r1, m2, n3, n4, hp5, h, en6⟩ := cb_e h
  refine wp_callS (k1 := n3) (k2 := n4) (As := [vI (x1), vI (0), vI (5)]) (rest := []) (w8_X8_isWithin hp5) okX8_isWithin sm_X8_isWithin rfl ml_X8_54 dX8_work_3 rfl (by decide) (Nat.le_of_eq en6) rfl (Nat.le_of_ble_eq_true rfl) (fun _ _ z => z.elim) (fun r' S' z => ?_)
  obtain ⟨rfl, rfl⟩ := z
  show WP _ _ _ _ [some (vR 8 (i0)), some (vI (x1)), some (vI (x2)), none, none] [vI (r1)] _ _ _
  by_cases c7 : r1 = 0
  · replace h := itp c7 h
    obtain ⟨q1, q2, q3⟩ := cs_e h
    subst q1
    subst q2
    subst q3
    exact wp_callS (k1 := 1) (k2 := 0) (As := [vI (r1)]) (rest := []) (w8_mustExist0 c7) okX8_mustExist sm_X8_mustExist rfl ml_X8_58 dX8_work_6 rfl (by decide) (Nat.le_refl _) rfl (Nat.le_of_ble_eq_true rfl) (fun E S' z => ⟨⟨0, rfl, by decide, z.1⟩, z.2⟩) (fun r' S' z => z.elim)
  replace h := itn c7 h
  refine wp_callS (k1 := 0) (k2 := _) (As := [vI (r1)]) (rest := []) (w8_mustExist1 c7) okX8_mustExist sm_X8_mustExist rfl ml_X8_58 dX8_work_6 rfl (by decide) (Nat.le_of_eq (Nat.zero_add _)) rfl (Nat.le_of_ble_eq_true rfl) (fun _ _ z => z.elim) (fun r' S' z => ?_)
  obtain ⟨rfl, rfl⟩ := z
  show WP _ _ _ _ [some (vR 8 (i0)), some (vI (x1)), some (vI (x2)), none, none] [] _ _ _
  refine wp_iload_n dX8_work_9 rfl ?_
  refine wp_iconst (v := 0) dX8_work_10 (by decide) ?_
  refine wp_bipush (v := 50) dX8_work_11 (by decide) ?_
  obtain ⟨r8, m9, n10, n11, hp12, h, en13⟩ := cb_e h
  refine wp_callS (k1 := n10) (k2 := n11) (As := [vI (x2), vI (0), vI (50)]) (rest := []) (w8_X8_isWithin hp12) okX8_isWithin sm_X8_isWithin rfl ml_X8_54 dX8_work_13 rfl (by decide) (Nat.le_of_eq en13) rfl (Nat.le_of_ble_eq_true rfl) (fun _ _ z => z.elim) (fun r' S' z => ?_)
  obtain ⟨rfl, rfl⟩ := z
  show WP _ _ _ _ [some (vR 8 (i0)), some (vI (x1)), some (vI (x2)), none, none] [vI (r8)] _ _ _
  by_cases c14 : r8 = 0
  · replace h := itp c14 h
    obtain ⟨q1, q2, q3⟩ := cs_e h
    subst q1
    subst q2
    subst q3
    exact wp_callS (k1 := 1) (k2 := 0) (As := [vI (r8)]) (rest := []) (w8_mustFit0 c14) okX8_mustFit sm_X8_mustFit rfl ml_X8_62 dX8_work_16 rfl (by decide) (Nat.le_refl _) rfl (Nat.le_of_ble_eq_true rfl) (fun E S' z => ⟨⟨1, rfl, by decide, z.1⟩, z.2⟩) (fun r' S' z => z.elim)
  replace h := itn c14 h
  refine wp_callS (k1 := 0) (k2 := _) (As := [vI (r8)]) (rest := []) (w8_mustFit1 c14) okX8_mustFit sm_X8_mustFit rfl ml_X8_62 dX8_work_16 rfl (by decide) (Nat.le_of_eq (Nat.zero_add _)) rfl (Nat.le_of_ble_eq_true rfl) (fun _ _ z => z.elim) (fun r' S' z => ?_)
  obtain ⟨rfl, rfl⟩ := z
  show WP _ _ _ _ [some (vR 8 (i0)), some (vI (x1)), some (vI (x2)), none, none] [] _ _ _
  refine wp_aload_n dX8_work_19 rfl ?_
  obtain ⟨j15, ho16, h⟩ := od_e h
  refine cp_getS (y := 5) (f := 1029) (t := 41) (by decide) (by decide) rfl rfl fl_X8_26 dX8_work_20 ho16 ?_
  refine wp_iload_n dX8_work_23 rfl ?_
  obtain ⟨c17, h⟩ := ock h
  obtain ⟨j18, ho19, h⟩ := od_e h
  refine cp_aald (c := 41) (t := 6) rfl (by decide) rfl (show vp_in (x1) (len 41) from c17) dX8_work_24 ho19 ?_
  refine wp_astore_n (L' := [some (vR 8 (i0)), some (vI (x1)), some (vI (x2)), some (vR 6 (j18)), none]) dX8_work_25 rfl rfl ?_
  refine wp_aload_n dX8_work_26 rfl ?_
  refine cp_getI (y := 0) (f := 768) (by decide) (by decide) rfl rfl fl_X8_65 dX8_work_27 ?_
  refine wp_istore (L' := [some (vR 8 (i0)), some (vI (x1)), some (vI (x2)), some (vR 6 (j18)), some (vI ((gI m9 768 j18)))]) dX8_work_30 rfl rfl ?_
  refine wp_aload_n dX8_work_32 rfl ?_
  refine wp_iload_n dX8_work_33 rfl ?_
  obtain ⟨m20, e21, h⟩ := wr_e h
  refine cp_putI (y := 0) (f := 768) e21 (by decide) (by decide) rfl rfl (Or.inl rfl) fl_X8_65 dX8_work_34 rfl ?_
  refine wp_iload dX8_work_37 rfl ?_
  obtain ⟨q1, q2, q3⟩ := cs_e h
  subst q1
  subst q2
  exact wp_ireturn rfl dX8_work_39 ⟨⟨_, rfl, rfl⟩, rfl⟩
def f8_X6_plan (i0 : Nat) (x1 : Int32) (x2 : Int32) (x3 : Int32) (m : CM) : CR (Int32) :=
  if 4 ≤ (gI m 769 i0) then
    some (0, m, 0)
  else
    od (gR m 770 i0) fun j2 =>
    if vq ((gI m 769 i0)) 4 then
    wr (sA m 32 j2 ((gI m 769 i0)).toNatClampNeg (x1)) fun m5 =>
    od (gR m5 772 i0) fun j7 =>
    if vq ((gI m5 769 i0)) 4 then
    if (x2 = 0 ∨ x2 = 1) then
    wr (sA m5 34 j7 ((gI m5 769 i0)).toNatClampNeg (x2)) fun m11 =>
    od (gR m11 771 i0) fun j13 =>
    if vq ((gI m11 769 i0)) 4 then
    wr (sA m11 33 j13 ((gI m11 769 i0)).toNatClampNeg (x3)) fun m16 =>
    wr (sI m16 769 i0 (((gI m16 769 i0) + 1))) fun m18 =>
    some (0, m18, 0)
    else none
    else none
    else none
    else none
theorem w8_X6_plan {r : Int32} {m9 : CM} {i0 : Nat} {x1 : Int32} {x2 : Int32} {x3 : Int32} {m : CM} {n9 : Nat} (h : f8_X6_plan i0 x1 x2 x3 m = some (r, m9, n9)) : Spec mX6_plan (0) n9 [vR 6 (i0), vI (x1), vI (x2), vI (x3)] (cM m out rho) (Pc out rho none m9) NX := by
  unfold f8_X6_plan at h
  refine spec_of (by decide) rfl (by simp [catS, cat1]) (Nat.le_of_ble_eq_true rfl) ?_
  show WP mX6_plan (0) n9 0 [some (vR 6 (i0)), some (vI (x1)), some (vI (x2)), some (vI (x3))] [] (cM m out rho) (Pc out rho none m9) NX
  refine wp_aload_n dX6_plan_0 rfl ?_
  refine cp_getI (y := 1) (f := 769) (by decide) (by decide) rfl rfl fl_X6_33 dX6_plan_1 ?_
  refine wp_iconst (v := 4) dX6_plan_4 (by decide) ?_
  refine wp_icmp_ge (tgt := 48) dX6_plan_5 (by decide) (fun c1 => ?_) (fun c1 => ?_)
  · replace h := itp c1 h
    obtain ⟨q1, q2, q3⟩ := cs_e h
    clear q1
    subst q2
    exact wp_return rfl dX6_plan_48 ⟨rfl, rfl⟩
  · replace h := itn c1 h
    refine wp_aload_n dX6_plan_8 rfl ?_
    obtain ⟨j2, ho3, h⟩ := od_e h
    refine cp_getS (y := 2) (f := 770) (t := 32) (by decide) (by decide) rfl rfl fl_X6_15 dX6_plan_9 ho3 ?_
    refine wp_aload_n dX6_plan_12 rfl ?_
    refine cp_getI (y := 1) (f := 769) (by decide) (by decide) rfl rfl fl_X6_33 dX6_plan_13 ?_
    refine wp_iload_n dX6_plan_16 rfl ?_
    obtain ⟨c4, h⟩ := ock h
    obtain ⟨m5, e6, h⟩ := wr_e h
    refine cp_iast (c := 32) e6 rfl (by decide) (show vp_in ((gI m 769 i0)) (len 32) from c4) dX6_plan_17 ?_
    refine wp_aload_n dX6_plan_18 rfl ?_
    obtain ⟨j7, ho8, h⟩ := od_e h
    refine cp_getS (y := 4) (f := 772) (t := 34) (by decide) (by decide) rfl rfl fl_X6_22 dX6_plan_19 ho8 ?_
    refine wp_aload_n dX6_plan_22 rfl ?_
    refine cp_getI (y := 1) (f := 769) (by decide) (by decide) rfl rfl fl_X6_33 dX6_plan_23 ?_
    refine wp_iload_n dX6_plan_26 rfl ?_
    obtain ⟨c9, h⟩ := ock h
    obtain ⟨c10, h⟩ := ock h
    obtain ⟨m11, e12, h⟩ := wr_e h
    refine cp_bast (c := 34) e12 rfl (by decide) (show vp_in ((gI m5 769 i0)) (len 34) from c9) c10 dX6_plan_27 ?_
    refine wp_aload_n dX6_plan_28 rfl ?_
    obtain ⟨j13, ho14, h⟩ := od_e h
    refine cp_getS (y := 3) (f := 771) (t := 33) (by decide) (by decide) rfl rfl fl_X6_19 dX6_plan_29 ho14 ?_
    refine wp_aload_n dX6_plan_32 rfl ?_
    refine cp_getI (y := 1) (f := 769) (by decide) (by decide) rfl rfl fl_X6_33 dX6_plan_33 ?_
    refine wp_iload_n dX6_plan_36 rfl ?_
    obtain ⟨c15, h⟩ := ock h
    obtain ⟨m16, e17, h⟩ := wr_e h
    refine cp_iast (c := 33) e17 rfl (by decide) (show vp_in ((gI m11 769 i0)) (len 33) from c15) dX6_plan_37 ?_
    refine wp_aload_n dX6_plan_38 rfl ?_
    refine wp_dup dX6_plan_39 trivial ?_
    refine cp_getI (y := 1) (f := 769) (by decide) (by decide) rfl rfl fl_X6_33 dX6_plan_40 ?_
    refine wp_iconst (v := 1) dX6_plan_43 (by decide) ?_
    refine wp_iadd dX6_plan_44 ?_
    obtain ⟨m18, e19, h⟩ := wr_e h
    refine cp_putI (y := 1) (f := 769) e19 (by decide) (by decide) rfl rfl (Or.inl rfl) fl_X6_33 dX6_plan_45 rfl ?_
    obtain ⟨q1, q2, q3⟩ := cs_e h
    clear q1
    subst q2
    exact wp_return rfl dX6_plan_48 ⟨rfl, rfl⟩
def b8_X8_step_93 (i0 : Nat) (x2 : Int32) (x3 : Int32) (x4 : Int32) (i5 : Nat) (s0 : Int32) (m : CM) : CR (Int32 ⊕ Nat) :=
  if s0 = 0 then some (.inr 2, m, 1) else
  cb (f8_X6_plan i5 (x2) (x3) (x4) m) fun _ m3 =>
  some (.inl ((gI m3 769 i5)), m3, 0)
theorem w8_X8_step_93 {r : Int32 ⊕ Nat} {m9 : CM} {i0 : Nat} {x2 : Int32} {x3 : Int32} {x4 : Int32} {i5 : Nat} {s0 : Int32} {l1 : Option sV} {m : CM} {n9 : Nat} (h : b8_X8_step_93 i0 x2 x3 x4 i5 s0 m = some (r, m9, n9)) : WP mX8_step (9) n9 93 [some (vR 8 (i0)), l1, some (vI (x2)), some (vI (x3)), some (vI (x4)), some (vR 6 (i5))] [vI (s0)] (cM m out rho) (PcE out rho r false m9) (XcE out rho r m9) := by
  unfold b8_X8_step_93 at h
  by_cases c1 : s0 = 0
  · replace h := itp c1 h
    obtain ⟨q1, q2, q3⟩ := cs_e h
    subst q1
    subst q2
    subst q3
    exact wp_callS (k1 := 1) (k2 := 0) (As := [vI (s0)]) (rest := []) (w8_mustBeAllowed0 c1) okX8_mustBeAllowed sm_X8_mustBeAllowed rfl ml_X8_75 dX8_step_93 rfl (by decide) (Nat.le_refl _) rfl (Nat.le_of_ble_eq_true rfl) (fun E S' z => ⟨⟨2, rfl, by decide, z.1⟩, z.2⟩) (fun r' S' z => z.elim)
  replace h := itn c1 h
  refine wp_callS (k1 := 0) (k2 := _) (As := [vI (s0)]) (rest := []) (w8_mustBeAllowed1 c1) okX8_mustBeAllowed sm_X8_mustBeAllowed rfl ml_X8_75 dX8_step_93 rfl (by decide) (Nat.le_of_eq (Nat.zero_add _)) rfl (Nat.le_of_ble_eq_true rfl) (fun _ _ z => z.elim) (fun r' S' z => ?_)
  obtain ⟨rfl, rfl⟩ := z
  show WP _ _ _ _ [some (vR 8 (i0)), l1, some (vI (x2)), some (vI (x3)), some (vI (x4)), some (vR 6 (i5))] [] _ _ _
  refine wp_aload dX8_step_96 rfl ?_
  refine wp_iload_n dX8_step_98 rfl ?_
  refine wp_iload_n dX8_step_99 rfl ?_
  refine wp_iload dX8_step_100 rfl ?_
  obtain ⟨r2, m3, n4, n5, hp6, h, en7⟩ := cb_e h
  refine wp_callV (k1 := n4) (k2 := n5) (As := [vI (x2), vI (x3), vI (x4)]) (rest := []) (w8_X6_plan hp6) okX6_plan ivX6_plan rfl (by decide) ml_X8_78 dX8_step_102 rfl (by decide) (Nat.le_of_eq en7) rfl (Nat.le_of_ble_eq_true rfl) (fun _ _ z => z.elim) (fun r' S' z => ?_)
  obtain ⟨rfl, rfl⟩ := z
  show WP _ _ _ _ [some (vR 8 (i0)), l1, some (vI (x2)), some (vI (x3)), some (vI (x4)), some (vR 6 (i5))] [] _ _ _
  refine wp_aload dX8_step_105 rfl ?_
  refine cp_getI (y := 1) (f := 769) (by decide) (by decide) rfl rfl fl_X8_68 dX8_step_107 ?_
  obtain ⟨q1, q2, q3⟩ := cs_e h
  subst q1
  subst q2
  exact wp_ireturn rfl dX8_step_110 ⟨⟨_, rfl, rfl⟩, rfl⟩
def b8_X8_step_58 (i0 : Nat) (x1 : Int32) (x2 : Int32) (x3 : Int32) (x4 : Int32) (s0 : Int32) (m : CM) : CR (Int32 ⊕ Nat) :=
  if s0 = 0 then some (.inr 1, m, 1) else
  od (gR m 1029 i0) fun j2 =>
  if vq (x1) 6 then
  od (gO m 41 j2 (x1).toNatClampNeg) fun j5 =>
  if 4 ≤ (gI m 769 j5) then
    b8_X8_step_93 (i0) (x2) (x3) (x4) (j5) (0) m
  else
    od (gR m 1032 i0) fun j8 =>
    if (if nI (gL m 51 j8).length = 0 then (1 : Int32) else 0) = 0 then
      b8_X8_step_93 (i0) (x2) (x3) (x4) (j5) (0) m
    else
      b8_X8_step_93 (i0) (x2) (x3) (x4) (j5) (1) m
  else none
theorem w8_X8_step_58 {r : Int32 ⊕ Nat} {m9 : CM} {i0 : Nat} {x1 : Int32} {x2 : Int32} {x3 : Int32} {x4 : Int32} {s0 : Int32} {l5 : Option sV} {m : CM} {n9 : Nat} (h : b8_X8_step_58 i0 x1 x2 x3 x4 s0 m = some (r, m9, n9)) : WP mX8_step (9) n9 58 [some (vR 8 (i0)), some (vI (x1)), some (vI (x2)), some (vI (x3)), some (vI (x4)), l5] [vI (s0)] (cM m out rho) (PcE out rho r false m9) (XcE out rho r m9) := by
  unfold b8_X8_step_58 at h
  by_cases c1 : s0 = 0
  · replace h := itp c1 h
    obtain ⟨q1, q2, q3⟩ := cs_e h
    subst q1
    subst q2
    subst q3
    exact wp_callS (k1 := 1) (k2 := 0) (As := [vI (s0)]) (rest := []) (w8_mustFit0 c1) okX8_mustFit sm_X8_mustFit rfl ml_X8_62 dX8_step_58 rfl (by decide) (Nat.le_refl _) rfl (Nat.le_of_ble_eq_true rfl) (fun E S' z => ⟨⟨1, rfl, by decide, z.1⟩, z.2⟩) (fun r' S' z => z.elim)
  replace h := itn c1 h
  refine wp_callS (k1 := 0) (k2 := _) (As := [vI (s0)]) (rest := []) (w8_mustFit1 c1) okX8_mustFit sm_X8_mustFit rfl ml_X8_62 dX8_step_58 rfl (by decide) (Nat.le_of_eq (Nat.zero_add _)) rfl (Nat.le_of_ble_eq_true rfl) (fun _ _ z => z.elim) (fun r' S' z => ?_)
  obtain ⟨rfl, rfl⟩ := z
  show WP _ _ _ _ [some (vR 8 (i0)), some (vI (x1)), some (vI (x2)), some (vI (x3)), some (vI (x4)), l5] [] _ _ _
  refine wp_aload_n dX8_step_61 rfl ?_
  obtain ⟨j2, ho3, h⟩ := od_e h
  refine cp_getS (y := 5) (f := 1029) (t := 41) (by decide) (by decide) rfl rfl fl_X8_26 dX8_step_62 ho3 ?_
  refine wp_iload_n dX8_step_65 rfl ?_
  obtain ⟨c4, h⟩ := ock h
  obtain ⟨j5, ho6, h⟩ := od_e h
  refine cp_aald (c := 41) (t := 6) rfl (by decide) rfl (show vp_in (x1) (len 41) from c4) dX8_step_66 ho6 ?_
  refine wp_astore (L' := [some (vR 8 (i0)), some (vI (x1)), some (vI (x2)), some (vI (x3)), some (vI (x4)), some (vR 6 (j5))]) dX8_step_67 rfl rfl ?_
  refine wp_aload dX8_step_69 rfl ?_
  refine cp_getI (y := 1) (f := 769) (by decide) (by decide) rfl rfl fl_X8_68 dX8_step_71 ?_
  refine wp_iconst (v := 4) dX8_step_74 (by decide) ?_
  refine wp_icmp_ge (tgt := 92) dX8_step_75 (by decide) (fun c7 => ?_) (fun c7 => ?_)
  · replace h := itp c7 h
    refine wp_iconst (v := 0) dX8_step_92 (by decide) ?_
    exact w8_X8_step_93 h
  · replace h := itn c7 h
    refine wp_aload_n dX8_step_78 rfl ?_
    obtain ⟨j8, ho9, h⟩ := od_e h
    refine cp_getS (y := 8) (f := 1032) (t := 51) (by decide) (by decide) rfl rfl fl_X8_43 dX8_step_79 ho9 ?_
    refine cp_isEmpty (c := 51) rfl (by decide) ml_X8_71 dX8_step_82 (Nat.le_of_ble_eq_true rfl) ?_
    refine wp_if_eq (tgt := 92) dX8_step_85 (by decide) (fun c10 => ?_) (fun c10 => ?_)
    · replace h := itp c10 h
      refine wp_iconst (v := 0) dX8_step_92 (by decide) ?_
      exact w8_X8_step_93 h
    · replace h := itn c10 h
      refine wp_iconst (v := 1) dX8_step_88 (by decide) ?_
      refine wp_goto (tgt := 93) dX8_step_89 (by decide) ?_
      exact w8_X8_step_93 h
def b8_X8_step_33 (i0 : Nat) (x1 : Int32) (x2 : Int32) (x3 : Int32) (x4 : Int32) (s0 : Int32) (m : CM) : CR (Int32 ⊕ Nat) :=
  if s0 = 0 then some (.inr 0, m, 1) else
  if x2 ≤ x1 then
    b8_X8_step_58 (i0) (x1) (x2) (x3) (x4) (0) m
  else
    if x4 = (-1) then
      b8_X8_step_58 (i0) (x1) (x2) (x3) (x4) (1) m
    else
      if x4 ≤ x1 then
        b8_X8_step_58 (i0) (x1) (x2) (x3) (x4) (0) m
      else
        b8_X8_step_58 (i0) (x1) (x2) (x3) (x4) (1) m
theorem w8_X8_step_33 {r : Int32 ⊕ Nat} {m9 : CM} {i0 : Nat} {x1 : Int32} {x2 : Int32} {x3 : Int32} {x4 : Int32} {s0 : Int32} {l5 : Option sV} {m : CM} {n9 : Nat} (h : b8_X8_step_33 i0 x1 x2 x3 x4 s0 m = some (r, m9, n9)) : WP mX8_step (9) n9 33 [some (vR 8 (i0)), some (vI (x1)), some (vI (x2)), some (vI (x3)), some (vI (x4)), l5] [vI (s0)] (cM m out rho) (PcE out rho r false m9) (XcE out rho r m9) := by
  unfold b8_X8_step_33 at h
  by_cases c1 : s0 = 0
  · replace h := itp c1 h
    obtain ⟨q1, q2, q3⟩ := cs_e h
    subst q1
    subst q2
    subst q3
    exact wp_callS (k1 := 1) (k2 := 0) (As := [vI (s0)]) (rest := []) (w8_mustExist0 c1) okX8_mustExist sm_X8_mustExist rfl ml_X8_58 dX8_step_33 rfl (by decide) (Nat.le_refl _) rfl (Nat.le_of_ble_eq_true rfl) (fun E S' z => ⟨⟨0, rfl, by decide, z.1⟩, z.2⟩) (fun r' S' z => z.elim)
  replace h := itn c1 h
  refine wp_callS (k1 := 0) (k2 := _) (As := [vI (s0)]) (rest := []) (w8_mustExist1 c1) okX8_mustExist sm_X8_mustExist rfl ml_X8_58 dX8_step_33 rfl (by decide) (Nat.le_of_eq (Nat.zero_add _)) rfl (Nat.le_of_ble_eq_true rfl) (fun _ _ z => z.elim) (fun r' S' z => ?_)
  obtain ⟨rfl, rfl⟩ := z
  show WP _ _ _ _ [some (vR 8 (i0)), some (vI (x1)), some (vI (x2)), some (vI (x3)), some (vI (x4)), l5] [] _ _ _
  refine wp_iload_n dX8_step_36 rfl ?_
  refine wp_iload_n dX8_step_37 rfl ?_
  refine wp_icmp_le (tgt := 57) dX8_step_38 (by decide) (fun c2 => ?_) (fun c2 => ?_)
  · replace h := itp c2 h
    refine wp_iconst (v := 0) dX8_step_57 (by decide) ?_
    exact w8_X8_step_58 h
  · replace h := itn c2 h
    refine wp_iload dX8_step_41 rfl ?_
    refine wp_iconst (v := (-1)) dX8_step_43 (by decide) ?_
    refine wp_icmp_eq (tgt := 53) dX8_step_44 (by decide) (fun c3 => ?_) (fun c3 => ?_)
    · replace h := itp c3 h
      refine wp_iconst (v := 1) dX8_step_53 (by decide) ?_
      refine wp_goto (tgt := 58) dX8_step_54 (by decide) ?_
      exact w8_X8_step_58 h
    · replace h := itn c3 h
      refine wp_iload dX8_step_47 rfl ?_
      refine wp_iload_n dX8_step_49 rfl ?_
      refine wp_icmp_le (tgt := 57) dX8_step_50 (by decide) (fun c4 => ?_) (fun c4 => ?_)
      · replace h := itp c4 h
        refine wp_iconst (v := 0) dX8_step_57 (by decide) ?_
        exact w8_X8_step_58 h
      · replace h := itn c4 h
        refine wp_iconst (v := 1) dX8_step_53 (by decide) ?_
        refine wp_goto (tgt := 58) dX8_step_54 (by decide) ?_
        exact w8_X8_step_58 h
def f8_X8_step (i0 : Nat) (x1 : Int32) (x2 : Int32) (x3 : Int32) (x4 : Int32) (m : CM) : CR (Int32 ⊕ Nat) :=
  cb (f8_X8_isWithin (x1) (0) (5) m) fun r1 m2 =>
  if r1 = 0 then
    b8_X8_step_33 (i0) (x1) (x2) (x3) (x4) (0) m2
  else
    cb (f8_X8_isWithin (x2) (0) (5) m2) fun r8 m9 =>
    if r8 = 0 then
      b8_X8_step_33 (i0) (x1) (x2) (x3) (x4) (0) m9
    else
      cb (f8_X8_isWithin (x4) ((-1)) (5) m9) fun r15 m16 =>
      if r15 = 0 then
        b8_X8_step_33 (i0) (x1) (x2) (x3) (x4) (0) m16
      else
        b8_X8_step_33 (i0) (x1) (x2) (x3) (x4) (1) m16
theorem w8_X8_step {r : Int32 ⊕ Nat} {m9 : CM} {i0 : Nat} {x1 : Int32} {x2 : Int32} {x3 : Int32} {x4 : Int32} {m : CM} {n9 : Nat} (h : f8_X8_step i0 x1 x2 x3 x4 m = some (r, m9, n9)) : Spec mX8_step (9) n9 [vR 8 (i0), vI (x1), vI (x2), vI (x3), vI (x4)] (cM m out rho) (PcE out rho r false m9) (XcE out rho r m9) := by
  unfold f8_X8_step at h
  refine spec_of (by decide) rfl (by simp [catS, cat1]) (Nat.le_of_ble_eq_true rfl) ?_
  show WP mX8_step (9) n9 0 [some (vR 8 (i0)), some (vI (x1)), some (vI (x2)), some (vI (x3)), some (vI (x4)), none] [] (cM m out rho) (PcE out rho r false m9) (XcE out rho r m9)
  refine wp_iload_n dX8_step_0 rfl ?_
  refine wp_iconst (v := 0) dX8_step_1 (by decide) ?_
  refine wp_iconst (v := 5) dX8_step_2 (by decide) ?_
  obtain ⟨r1, m2, n3, n4, hp5, h, en6⟩ := cb_e h
  refine wp_callS (k1 := n3) (k2 := n4) (As := [vI (x1), vI (0), vI (5)]) (rest := []) (w8_X8_isWithin hp5) okX8_isWithin sm_X8_isWithin rfl ml_X8_54 dX8_step_3 rfl (by decide) (Nat.le_of_eq en6) rfl (Nat.le_of_ble_eq_true rfl) (fun _ _ z => z.elim) (fun r' S' z => ?_)
  obtain ⟨rfl, rfl⟩ := z
  show WP _ _ _ _ [some (vR 8 (i0)), some (vI (x1)), some (vI (x2)), some (vI (x3)), some (vI (x4)), none] [vI (r1)] _ _ _
  refine wp_if_eq (tgt := 32) dX8_step_6 (by decide) (fun c7 => ?_) (fun c7 => ?_)
  · replace h := itp c7 h
    refine wp_iconst (v := 0) dX8_step_32 (by decide) ?_
    exact w8_X8_step_33 h
  · replace h := itn c7 h
    refine wp_iload_n dX8_step_9 rfl ?_
    refine wp_iconst (v := 0) dX8_step_10 (by decide) ?_
    refine wp_iconst (v := 5) dX8_step_11 (by decide) ?_
    obtain ⟨r8, m9, n10, n11, hp12, h, en13⟩ := cb_e h
    refine wp_callS (k1 := n10) (k2 := n11) (As := [vI (x2), vI (0), vI (5)]) (rest := []) (w8_X8_isWithin hp12) okX8_isWithin sm_X8_isWithin rfl ml_X8_54 dX8_step_12 rfl (by decide) (Nat.le_of_eq en13) rfl (Nat.le_of_ble_eq_true rfl) (fun _ _ z => z.elim) (fun r' S' z => ?_)
    obtain ⟨rfl, rfl⟩ := z
    show WP _ _ _ _ [some (vR 8 (i0)), some (vI (x1)), some (vI (x2)), some (vI (x3)), some (vI (x4)), none] [vI (r8)] _ _ _
    refine wp_if_eq (tgt := 32) dX8_step_15 (by decide) (fun c14 => ?_) (fun c14 => ?_)
    · replace h := itp c14 h
      refine wp_iconst (v := 0) dX8_step_32 (by decide) ?_
      exact w8_X8_step_33 h
    · replace h := itn c14 h
      refine wp_iload dX8_step_18 rfl ?_
      refine wp_iconst (v := (-1)) dX8_step_20 (by decide) ?_
      refine wp_iconst (v := 5) dX8_step_21 (by decide) ?_
      obtain ⟨r15, m16, n17, n18, hp19, h, en20⟩ := cb_e h
      refine wp_callS (k1 := n17) (k2 := n18) (As := [vI (x4), vI ((-1)), vI (5)]) (rest := []) (w8_X8_isWithin hp19) okX8_isWithin sm_X8_isWithin rfl ml_X8_54 dX8_step_22 rfl (by decide) (Nat.le_of_eq en20) rfl (Nat.le_of_ble_eq_true rfl) (fun _ _ z => z.elim) (fun r' S' z => ?_)
      obtain ⟨rfl, rfl⟩ := z
      show WP _ _ _ _ [some (vR 8 (i0)), some (vI (x1)), some (vI (x2)), some (vI (x3)), some (vI (x4)), none] [vI (r15)] _ _ _
      refine wp_if_eq (tgt := 32) dX8_step_25 (by decide) (fun c21 => ?_) (fun c21 => ?_)
      · replace h := itp c21 h
        refine wp_iconst (v := 0) dX8_step_32 (by decide) ?_
        exact w8_X8_step_33 h
      · replace h := itn c21 h
        refine wp_iconst (v := 1) dX8_step_28 (by decide) ?_
        refine wp_goto (tgt := 33) dX8_step_29 (by decide) ?_
        exact w8_X8_step_33 h
def f8_X0_init (i0 : Nat) (m : CM) : CR (Int32) :=
  wr (sI m 0 i0 (0)) fun m1 =>
  some (0, m1, 0)
theorem w8_X0_init {r : Int32} {m9 : CM} {i0 : Nat} {m : CM} {n9 : Nat} (h : f8_X0_init i0 m = some (r, m9, n9)) : Spec mX0_init (1) n9 [vR 0 (i0)] (cM m out rho) (Pc out rho none m9) NX := by
  unfold f8_X0_init at h
  refine spec_of (by decide) rfl (by simp [catS, cat1]) (Nat.le_of_ble_eq_true rfl) ?_
  show WP mX0_init (1) n9 0 [some (vR 0 (i0))] [] (cM m out rho) (Pc out rho none m9) NX
  refine wp_aload_n dX0_init_0 rfl ?_
  refine wp_objinit (by decide) ml_X0_3 dX0_init_1 (Nat.le_of_ble_eq_true rfl) ?_
  refine wp_aload_n dX0_init_4 rfl ?_
  refine wp_iconst (v := 0) dX0_init_5 (by decide) ?_
  obtain ⟨m1, e2, h⟩ := wr_e h
  refine cp_putI (y := 0) (f := 0) e2 (by decide) (by decide) rfl rfl (Or.inl rfl) fl_X0_9 dX0_init_6 rfl ?_
  obtain ⟨q1, q2, q3⟩ := cs_e h
  clear q1
  subst q2
  exact wp_return rfl dX0_init_9 ⟨rfl, rfl⟩
def l8_X4_init_81 : Nat → Nat → Int32 → CM → CR (Int32)
  | 0, _, _, _ => none
  | n + 1, i0, x8, m =>
  if 7 ≤ x8 then
    some (0, m, 0)
  else
    od (gR m 520 i0) fun j2 =>
    if gV m 0 (7 * i0 + (x8).toNatClampNeg) = false then
    cg 1 (
    wr (sN m 0 (7 * i0 + (x8).toNatClampNeg)) fun m7 =>
    cb (f8_X0_init (7 * i0 + (x8).toNatClampNeg) m7) fun _ m10 =>
    if vq (x8) 7 then
    wr (sO m10 43 j2 (x8).toNatClampNeg (some (7 * i0 + (x8).toNatClampNeg))) fun m16 =>
    l8_X4_init_81 n (i0) (x8 + 1) m16
    else none)
    else none
theorem w8_X4_init_81 {r : Int32} {m9 : CM} : ∀ (n : Nat) {i0 : Nat} {x8 : Int32} {l1 : Option sV} {l2 : Option sV} {l3 : Option sV} {l4 : Option sV} {l5 : Option sV} {l6 : Option sV} {l7 : Option sV} {m : CM} {n9 : Nat}, l8_X4_init_81 n i0 x8 m = some (r, m9, n9) → WP mX4_init (8) n9 81 [some (vR 4 (i0)), l1, l2, l3, l4, l5, l6, l7, some (vI (x8))] [] (cM m out rho) (Pc out rho none m9) NX := by
  intro n
  induction n with
  | zero =>
    intro i0 x8 l1 l2 l3 l4 l5 l6 l7 m n9 h
    rw [l8_X4_init_81] at h
    cases h
  | succ n ih =>
    intro i0 x8 l1 l2 l3 l4 l5 l6 l7 m n9 h
    rw [l8_X4_init_81] at h
    refine wp_iload dX4_init_81 rfl ?_
    refine wp_bipush (v := 7) dX4_init_83 (by decide) ?_
    refine wp_icmp_ge (tgt := 108) dX4_init_85 (by decide) (fun c1 => ?_) (fun c1 => ?_)
    · replace h := itp c1 h
      obtain ⟨q1, q2, q3⟩ := cs_e h
      clear q1
      subst q2
      exact wp_return rfl dX4_init_108 ⟨rfl, rfl⟩
    · replace h := itn c1 h
      refine wp_aload_n dX4_init_88 rfl ?_
      obtain ⟨j2, ho3, h⟩ := od_e h
      refine cp_getS (y := 8) (f := 520) (t := 43) (by decide) (by decide) rfl rfl fl_X4_17 dX4_init_89 ho3 ?_
      refine wp_iload dX4_init_92 rfl ?_
      obtain ⟨c4, h⟩ := ock h
      obtain ⟨n5, h, en6⟩ := cg_e h
      rw [← en6]
      obtain ⟨m7, e8, h⟩ := wr_e h
      refine cp_new (c := 0) (i := (7 * i0 + (x8).toNatClampNeg)) e8 (by decide) c4 kl_X4_15 it_X0 in_X0 dX4_init_94 ?_
      refine wp_dup dX4_init_97 trivial ?_
      obtain ⟨r9, m10, n11, n12, hp13, h, en14⟩ := cb_e h
      refine wp_callIN (k1 := n11) (k2 := n12) (As := []) (rest := [vR 0 ((7 * i0 + (x8).toNatClampNeg)), vI (x8), vR 43 (j2)]) (w8_X0_init hp13) okX0_init rfl rfl im_X0_init (fun s hk => hk.2.2.2.2.2.2.2.2.1) dX4_init_98 (by decide) (Nat.le_of_eq en14) rfl (Nat.le_of_ble_eq_true rfl) (fun r' S' z => ?_)
      obtain ⟨rfl, rfl⟩ := z
      show WP _ _ _ _ [some (vR 4 (i0)), l1, l2, l3, l4, l5, l6, l7, some (vI (x8))] [vR 0 ((7 * i0 + (x8).toNatClampNeg)), vI (x8), vR 43 (j2)] _ _ _
      obtain ⟨c15, h⟩ := ock h
      obtain ⟨m16, e17, h⟩ := wr_e h
      refine cp_aast (c := 43) (t := 0) e17 rfl (by decide) rfl (show vp_in (x8) (len 43) from c15) dX4_init_101 ?_
      refine wp_iinc (v := x8 + 1) (L' := [some (vR 4 (i0)), l1, l2, l3, l4, l5, l6, l7, some (vI (x8 + 1))]) dX4_init_102 rfl rfl rfl ?_
      refine wp_goto (tgt := 81) dX4_init_105 (by decide) ?_
      exact ih h
def f8_X4_init (i0 : Nat) (x1 : Int32) (x2 : Int32) (x3 : Int32) (x4 : Int32) (x5 : Int32) (x6 : Int32) (x7 : Int32) (m : CM) : CR (Int32) :=
  if gV m 30 i0 = false then
  cg 1 (
  wr (sNA m 30 i0) fun m4 =>
  wr (sR m4 519 i0 (some (i0))) fun m6 =>
  if gV m6 43 i0 = false then
  cg 1 (
  wr (sNO m6 43 i0) fun m11 =>
  wr (sR m11 520 i0 (some (i0))) fun m13 =>
  if gV m13 31 i0 = false then
  cg 1 (
  wr (sNA m13 31 i0) fun m18 =>
  wr (sR m18 521 i0 (some (i0))) fun m20 =>
  if gV m20 54 i0 = false then
  cg 1 (
  wr (sNL m20 54 i0) fun m25 =>
  wr (sR m25 522 i0 (some (i0))) fun m27 =>
  wr (sI m27 512 i0 (x1)) fun m29 =>
  wr (sI m29 513 i0 (x2)) fun m31 =>
  wr (sI m31 514 i0 (x3)) fun m33 =>
  wr (sI m33 515 i0 (x4)) fun m35 =>
  wr (sI m35 516 i0 (x5)) fun m37 =>
  wr (sI m37 517 i0 (x6)) fun m39 =>
  wr (sI m39 518 i0 (x7)) fun m41 =>
  l8_X4_init_81 FU (i0) (0) m41)
  else none)
  else none)
  else none)
  else none
theorem w8_X4_init {r : Int32} {m9 : CM} {i0 : Nat} {x1 : Int32} {x2 : Int32} {x3 : Int32} {x4 : Int32} {x5 : Int32} {x6 : Int32} {x7 : Int32} {m : CM} {n9 : Nat} (h : f8_X4_init i0 x1 x2 x3 x4 x5 x6 x7 m = some (r, m9, n9)) : Spec mX4_init (8) n9 [vR 4 (i0), vI (x1), vI (x2), vI (x3), vI (x4), vI (x5), vI (x6), vI (x7)] (cM m out rho) (Pc out rho none m9) NX := by
  unfold f8_X4_init at h
  refine spec_of (by decide) rfl (by simp [catS, cat1]) (Nat.le_of_ble_eq_true rfl) ?_
  show WP mX4_init (8) n9 0 [some (vR 4 (i0)), some (vI (x1)), some (vI (x2)), some (vI (x3)), some (vI (x4)), some (vI (x5)), some (vI (x6)), some (vI (x7)), none] [] (cM m out rho) (Pc out rho none m9) NX
  refine wp_aload_n dX4_init_0 rfl ?_
  refine wp_objinit (by decide) ml_X4_3 dX4_init_1 (Nat.le_of_ble_eq_true rfl) ?_
  refine wp_aload_n dX4_init_4 rfl ?_
  refine wp_iconst (v := 4) dX4_init_5 (by decide) ?_
  obtain ⟨c1, h⟩ := ock h
  obtain ⟨n2, h, en3⟩ := cg_e h
  rw [← en3]
  obtain ⟨m4, e5, h⟩ := wr_e h
  refine cp_newa (c := 30) (i := i0) (a := .int) e5 (by decide) (by decide) c1 (by decide) (by decide) (by decide) ac_int rfl dX4_init_6 (by decide) ?_
  obtain ⟨m6, e7, h⟩ := wr_e h
  refine cp_putR (y := 7) (f := 519) (t := 30) (o := (some (i0))) e7 (by decide) (by decide) rfl rfl (Or.inr ⟨rfl, rfl⟩) fl_X4_9 dX4_init_8 (fun _ => rfl) rfl (fun _ => rfl) (by decide) ?_
  refine wp_aload_n dX4_init_11 rfl ?_
  refine wp_bipush (v := 7) dX4_init_12 (by decide) ?_
  obtain ⟨c8, h⟩ := ock h
  obtain ⟨n9, h, en10⟩ := cg_e h
  rw [← en10]
  obtain ⟨m11, e12, h⟩ := wr_e h
  refine cp_anew (c := 43) (i := i0) e12 rfl (by decide) c8 (by decide) (by decide) kl_X4_15 (fun s hk => hk.2.2.1) dX4_init_14 ?_
  obtain ⟨m13, e14, h⟩ := wr_e h
  refine cp_putR (y := 8) (f := 520) (t := 43) (o := (some (i0))) e14 (by decide) (by decide) rfl rfl (Or.inr ⟨rfl, rfl⟩) fl_X4_17 dX4_init_17 (fun _ => rfl) rfl (fun _ => rfl) (by decide) ?_
  refine wp_aload_n dX4_init_20 rfl ?_
  refine wp_bipush (v := 7) dX4_init_21 (by decide) ?_
  obtain ⟨c15, h⟩ := ock h
  obtain ⟨n16, h, en17⟩ := cg_e h
  rw [← en17]
  obtain ⟨m18, e19, h⟩ := wr_e h
  refine cp_newa (c := 31) (i := i0) (a := .int) e19 (by decide) (by decide) c15 (by decide) (by decide) (by decide) ac_int rfl dX4_init_23 (by decide) ?_
  obtain ⟨m20, e21, h⟩ := wr_e h
  refine cp_putR (y := 9) (f := 521) (t := 31) (o := (some (i0))) e21 (by decide) (by decide) rfl rfl (Or.inr ⟨rfl, rfl⟩) fl_X4_21 dX4_init_25 (fun _ => rfl) rfl (fun _ => rfl) (by decide) ?_
  refine wp_aload_n dX4_init_28 rfl ?_
  obtain ⟨c22, h⟩ := ock h
  obtain ⟨n23, h, en24⟩ := cg_e h
  rw [← en24]
  obtain ⟨m25, e26, h⟩ := wr_e h
  refine cp_newlist (c := 54) e26 rfl c22 (by decide) kl_X4_24 ml_X4_26 dX4_init_29 dX4_init_32 dX4_init_33 (Nat.le_of_ble_eq_true rfl) ?_
  obtain ⟨m27, e28, h⟩ := wr_e h
  refine cp_putR (y := 10) (f := 522) (t := 54) (o := (some (i0))) e28 (by decide) (by decide) rfl rfl (Or.inr ⟨rfl, rfl⟩) fl_X4_27 dX4_init_36 (fun _ => rfl) rfl (fun _ => rfl) (by decide) ?_
  refine wp_aload_n dX4_init_39 rfl ?_
  refine wp_iload_n dX4_init_40 rfl ?_
  obtain ⟨m29, e30, h⟩ := wr_e h
  refine cp_putI (y := 0) (f := 512) e30 (by decide) (by decide) rfl rfl (Or.inr ⟨rfl, rfl⟩) fl_X4_31 dX4_init_41 rfl ?_
  refine wp_aload_n dX4_init_44 rfl ?_
  refine wp_iload_n dX4_init_45 rfl ?_
  obtain ⟨m31, e32, h⟩ := wr_e h
  refine cp_putI (y := 1) (f := 513) e32 (by decide) (by decide) rfl rfl (Or.inr ⟨rfl, rfl⟩) fl_X4_35 dX4_init_46 rfl ?_
  refine wp_aload_n dX4_init_49 rfl ?_
  refine wp_iload_n dX4_init_50 rfl ?_
  obtain ⟨m33, e34, h⟩ := wr_e h
  refine cp_putI (y := 2) (f := 514) e34 (by decide) (by decide) rfl rfl (Or.inr ⟨rfl, rfl⟩) fl_X4_38 dX4_init_51 rfl ?_
  refine wp_aload_n dX4_init_54 rfl ?_
  refine wp_iload dX4_init_55 rfl ?_
  obtain ⟨m35, e36, h⟩ := wr_e h
  refine cp_putI (y := 3) (f := 515) e36 (by decide) (by decide) rfl rfl (Or.inr ⟨rfl, rfl⟩) fl_X4_41 dX4_init_57 rfl ?_
  refine wp_aload_n dX4_init_60 rfl ?_
  refine wp_iload dX4_init_61 rfl ?_
  obtain ⟨m37, e38, h⟩ := wr_e h
  refine cp_putI (y := 4) (f := 516) e38 (by decide) (by decide) rfl rfl (Or.inr ⟨rfl, rfl⟩) fl_X4_44 dX4_init_63 rfl ?_
  refine wp_aload_n dX4_init_66 rfl ?_
  refine wp_iload dX4_init_67 rfl ?_
  obtain ⟨m39, e40, h⟩ := wr_e h
  refine cp_putI (y := 5) (f := 517) e40 (by decide) (by decide) rfl rfl (Or.inr ⟨rfl, rfl⟩) fl_X4_47 dX4_init_69 rfl ?_
  refine wp_aload_n dX4_init_72 rfl ?_
  refine wp_iload dX4_init_73 rfl ?_
  obtain ⟨m41, e42, h⟩ := wr_e h
  refine cp_putI (y := 6) (f := 518) e42 (by decide) (by decide) rfl rfl (Or.inr ⟨rfl, rfl⟩) fl_X4_50 dX4_init_75 rfl ?_
  refine wp_iconst (v := 0) dX4_init_78 (by decide) ?_
  refine wp_istore (L' := [some (vR 4 (i0)), some (vI (x1)), some (vI (x2)), some (vI (x3)), some (vI (x4)), some (vI (x5)), some (vI (x6)), some (vI (x7)), some (vI (0))]) dX4_init_79 rfl rfl ?_
  exact w8_X4_init_81 FU h
def b8_X8_instance_93 (i0 : Nat) (x1 : Int32) (x2 : Int32) (x3 : Int32) (x4 : Int32) (x5 : Int32) (x6 : Int32) (s0 : Int32) (m : CM) : CR (Int32 ⊕ Nat) :=
  if s0 = 0 then some (.inr 2, m, 1) else
  if gV m 4 ((gL m 50 0).length) = false then
  cg 1 (
  wr (sN m 4 ((gL m 50 0).length)) fun m5 =>
  od (gR m5 1031 i0) fun j7 =>
  cb (f8_X4_init ((gL m 50 0).length) ((nI (gL m5 50 j7).length)) (x1) (x2) (x3) (x4) (x5) (x6) m5) fun _ m10 =>
  od (gR m10 1031 i0) fun j15 =>
  if (gL m10 50 j15).length ≤ 450 then
  cg 1 (
  wr (sL m10 50 j15 (gL m10 50 j15 ++ [((gL m 50 0).length)])) fun m20 =>
  some (.inl ((gI m20 512 ((gL m 50 0).length))), m20, 0))
  else none)
  else none
theorem w8_X8_instance_93 {r : Int32 ⊕ Nat} {m9 : CM} {i0 : Nat} {x1 : Int32} {x2 : Int32} {x3 : Int32} {x4 : Int32} {x5 : Int32} {x6 : Int32} {s0 : Int32} {l7 : Option sV} {m : CM} {n9 : Nat} (h : b8_X8_instance_93 i0 x1 x2 x3 x4 x5 x6 s0 m = some (r, m9, n9)) : WP mX8_instance (9) n9 93 [some (vR 8 (i0)), some (vI (x1)), some (vI (x2)), some (vI (x3)), some (vI (x4)), some (vI (x5)), some (vI (x6)), l7] [vI (s0)] (cM m out rho) (PcE out rho r false m9) (XcE out rho r m9) := by
  unfold b8_X8_instance_93 at h
  by_cases c1 : s0 = 0
  · replace h := itp c1 h
    obtain ⟨q1, q2, q3⟩ := cs_e h
    subst q1
    subst q2
    subst q3
    exact wp_callS (k1 := 1) (k2 := 0) (As := [vI (s0)]) (rest := []) (w8_mustBeAllowed0 c1) okX8_mustBeAllowed sm_X8_mustBeAllowed rfl ml_X8_75 dX8_instance_93 rfl (by decide) (Nat.le_refl _) rfl (Nat.le_of_ble_eq_true rfl) (fun E S' z => ⟨⟨2, rfl, by decide, z.1⟩, z.2⟩) (fun r' S' z => z.elim)
  replace h := itn c1 h
  refine wp_callS (k1 := 0) (k2 := _) (As := [vI (s0)]) (rest := []) (w8_mustBeAllowed1 c1) okX8_mustBeAllowed sm_X8_mustBeAllowed rfl ml_X8_75 dX8_instance_93 rfl (by decide) (Nat.le_of_eq (Nat.zero_add _)) rfl (Nat.le_of_ble_eq_true rfl) (fun _ _ z => z.elim) (fun r' S' z => ?_)
  obtain ⟨rfl, rfl⟩ := z
  show WP _ _ _ _ [some (vR 8 (i0)), some (vI (x1)), some (vI (x2)), some (vI (x3)), some (vI (x4)), some (vI (x5)), some (vI (x6)), l7] [] _ _ _
  obtain ⟨c2, h⟩ := ock h
  obtain ⟨n3, h, en4⟩ := cg_e h
  rw [← en4]
  obtain ⟨m5, e6, h⟩ := wr_e h
  refine cp_new (c := 4) (i := (gL m 50 0).length) e6 (by decide) c2 kl_X8_86 it_X4 in_X4 dX8_instance_96 ?_
  refine wp_dup dX8_instance_99 trivial ?_
  refine wp_aload_n dX8_instance_100 rfl ?_
  obtain ⟨j7, ho8, h⟩ := od_e h
  refine cp_getS (y := 7) (f := 1031) (t := 50) (by decide) (by decide) rfl rfl fl_X8_39 dX8_instance_101 ho8 ?_
  refine cp_size (c := 50) rfl (by decide) ml_X8_82 dX8_instance_104 (Nat.le_of_ble_eq_true rfl) ?_
  refine wp_iload_n dX8_instance_107 rfl ?_
  refine wp_iload_n dX8_instance_108 rfl ?_
  refine wp_iload_n dX8_instance_109 rfl ?_
  refine wp_iload dX8_instance_110 rfl ?_
  refine wp_iload dX8_instance_112 rfl ?_
  refine wp_iload dX8_instance_114 rfl ?_
  obtain ⟨r9, m10, n11, n12, hp13, h, en14⟩ := cb_e h
  refine wp_callI (k1 := n11) (k2 := n12) (As := [vI ((nI (gL m5 50 j7).length)), vI (x1), vI (x2), vI (x3), vI (x4), vI (x5), vI (x6)]) (rest := [vR 4 (((gL m 50 0).length))]) (w8_X4_init hp13) okX4_init rfl rfl im_X4_init ml_X8_88 dX8_instance_116 (by decide) (Nat.le_of_eq en14) rfl (Nat.le_of_ble_eq_true rfl) (fun r' S' z => ?_)
  obtain ⟨rfl, rfl⟩ := z
  show WP _ _ _ _ [some (vR 8 (i0)), some (vI (x1)), some (vI (x2)), some (vI (x3)), some (vI (x4)), some (vI (x5)), some (vI (x6)), l7] [vR 4 (((gL m 50 0).length))] _ _ _
  refine wp_astore (L' := [some (vR 8 (i0)), some (vI (x1)), some (vI (x2)), some (vI (x3)), some (vI (x4)), some (vI (x5)), some (vI (x6)), some (vR 4 (((gL m 50 0).length)))]) dX8_instance_119 rfl rfl ?_
  refine wp_aload_n dX8_instance_121 rfl ?_
  obtain ⟨j15, ho16, h⟩ := od_e h
  refine cp_getS (y := 7) (f := 1031) (t := 50) (by decide) (by decide) rfl rfl fl_X8_39 dX8_instance_122 ho16 ?_
  refine wp_aload dX8_instance_125 rfl ?_
  obtain ⟨c17, h⟩ := ock h
  obtain ⟨n18, h, en19⟩ := cg_e h
  rw [← en19]
  obtain ⟨m20, e21, h⟩ := wr_e h
  refine cp_add (c := 50) (t := 4) e21 rfl rfl (by decide) c17 ml_X8_91 dX8_instance_127 (Nat.le_of_ble_eq_true rfl) ?_
  refine wp_pop dX8_instance_130 trivial ?_
  refine wp_aload dX8_instance_131 rfl ?_
  refine cp_getI (y := 0) (f := 512) (by decide) (by decide) rfl rfl fl_X8_95 dX8_instance_133 ?_
  obtain ⟨q1, q2, q3⟩ := cs_e h
  subst q1
  subst q2
  exact wp_ireturn rfl dX8_instance_136 ⟨⟨_, rfl, rfl⟩, rfl⟩
def b8_X8_instance_73 (i0 : Nat) (x1 : Int32) (x2 : Int32) (x3 : Int32) (x4 : Int32) (x5 : Int32) (x6 : Int32) (s0 : Int32) (m : CM) : CR (Int32 ⊕ Nat) :=
  if s0 = 0 then some (.inr 1, m, 1) else
  od (gR m 1031 i0) fun j2 =>
  if 12 ≤ (nI (gL m 50 j2).length) then
    b8_X8_instance_93 (i0) (x1) (x2) (x3) (x4) (x5) (x6) (0) m
  else
    b8_X8_instance_93 (i0) (x1) (x2) (x3) (x4) (x5) (x6) (1) m
theorem w8_X8_instance_73 {r : Int32 ⊕ Nat} {m9 : CM} {i0 : Nat} {x1 : Int32} {x2 : Int32} {x3 : Int32} {x4 : Int32} {x5 : Int32} {x6 : Int32} {s0 : Int32} {l7 : Option sV} {m : CM} {n9 : Nat} (h : b8_X8_instance_73 i0 x1 x2 x3 x4 x5 x6 s0 m = some (r, m9, n9)) : WP mX8_instance (9) n9 73 [some (vR 8 (i0)), some (vI (x1)), some (vI (x2)), some (vI (x3)), some (vI (x4)), some (vI (x5)), some (vI (x6)), l7] [vI (s0)] (cM m out rho) (PcE out rho r false m9) (XcE out rho r m9) := by
  unfold b8_X8_instance_73 at h
  by_cases c1 : s0 = 0
  · replace h := itp c1 h
    obtain ⟨q1, q2, q3⟩ := cs_e h
    subst q1
    subst q2
    subst q3
    exact wp_callS (k1 := 1) (k2 := 0) (As := [vI (s0)]) (rest := []) (w8_mustFit0 c1) okX8_mustFit sm_X8_mustFit rfl ml_X8_62 dX8_instance_73 rfl (by decide) (Nat.le_refl _) rfl (Nat.le_of_ble_eq_true rfl) (fun E S' z => ⟨⟨1, rfl, by decide, z.1⟩, z.2⟩) (fun r' S' z => z.elim)
  replace h := itn c1 h
  refine wp_callS (k1 := 0) (k2 := _) (As := [vI (s0)]) (rest := []) (w8_mustFit1 c1) okX8_mustFit sm_X8_mustFit rfl ml_X8_62 dX8_instance_73 rfl (by decide) (Nat.le_of_eq (Nat.zero_add _)) rfl (Nat.le_of_ble_eq_true rfl) (fun _ _ z => z.elim) (fun r' S' z => ?_)
  obtain ⟨rfl, rfl⟩ := z
  show WP _ _ _ _ [some (vR 8 (i0)), some (vI (x1)), some (vI (x2)), some (vI (x3)), some (vI (x4)), some (vI (x5)), some (vI (x6)), l7] [] _ _ _
  refine wp_aload_n dX8_instance_76 rfl ?_
  obtain ⟨j2, ho3, h⟩ := od_e h
  refine cp_getS (y := 7) (f := 1031) (t := 50) (by decide) (by decide) rfl rfl fl_X8_39 dX8_instance_77 ho3 ?_
  refine cp_size (c := 50) rfl (by decide) ml_X8_82 dX8_instance_80 (Nat.le_of_ble_eq_true rfl) ?_
  refine wp_bipush (v := 12) dX8_instance_83 (by decide) ?_
  refine wp_icmp_ge (tgt := 92) dX8_instance_85 (by decide) (fun c4 => ?_) (fun c4 => ?_)
  · replace h := itp c4 h
    refine wp_iconst (v := 0) dX8_instance_92 (by decide) ?_
    exact w8_X8_instance_93 h
  · replace h := itn c4 h
    refine wp_iconst (v := 1) dX8_instance_88 (by decide) ?_
    refine wp_goto (tgt := 93) dX8_instance_89 (by decide) ?_
    exact w8_X8_instance_93 h
def b8_X8_instance_44 (i0 : Nat) (x1 : Int32) (x2 : Int32) (x3 : Int32) (x4 : Int32) (x5 : Int32) (x6 : Int32) (s0 : Int32) (m : CM) : CR (Int32 ⊕ Nat) :=
  if s0 = 0 then some (.inr 1, m, 1) else
  cb (f8_X8_isWithin (x5) (0) (9) m) fun r2 m3 =>
  if r2 = 0 then
    b8_X8_instance_73 (i0) (x1) (x2) (x3) (x4) (x5) (x6) (0) m3
  else
    cb (f8_X8_isWithin (x6) (0) (1) m3) fun r9 m10 =>
    if r9 = 0 then
      b8_X8_instance_73 (i0) (x1) (x2) (x3) (x4) (x5) (x6) (0) m10
    else
      b8_X8_instance_73 (i0) (x1) (x2) (x3) (x4) (x5) (x6) (1) m10
theorem w8_X8_instance_44 {r : Int32 ⊕ Nat} {m9 : CM} {i0 : Nat} {x1 : Int32} {x2 : Int32} {x3 : Int32} {x4 : Int32} {x5 : Int32} {x6 : Int32} {s0 : Int32} {l7 : Option sV} {m : CM} {n9 : Nat} (h : b8_X8_instance_44 i0 x1 x2 x3 x4 x5 x6 s0 m = some (r, m9, n9)) : WP mX8_instance (9) n9 44 [some (vR 8 (i0)), some (vI (x1)), some (vI (x2)), some (vI (x3)), some (vI (x4)), some (vI (x5)), some (vI (x6)), l7] [vI (s0)] (cM m out rho) (PcE out rho r false m9) (XcE out rho r m9) := by
  unfold b8_X8_instance_44 at h
  by_cases c1 : s0 = 0
  · replace h := itp c1 h
    obtain ⟨q1, q2, q3⟩ := cs_e h
    subst q1
    subst q2
    subst q3
    exact wp_callS (k1 := 1) (k2 := 0) (As := [vI (s0)]) (rest := []) (w8_mustFit0 c1) okX8_mustFit sm_X8_mustFit rfl ml_X8_62 dX8_instance_44 rfl (by decide) (Nat.le_refl _) rfl (Nat.le_of_ble_eq_true rfl) (fun E S' z => ⟨⟨1, rfl, by decide, z.1⟩, z.2⟩) (fun r' S' z => z.elim)
  replace h := itn c1 h
  refine wp_callS (k1 := 0) (k2 := _) (As := [vI (s0)]) (rest := []) (w8_mustFit1 c1) okX8_mustFit sm_X8_mustFit rfl ml_X8_62 dX8_instance_44 rfl (by decide) (Nat.le_of_eq (Nat.zero_add _)) rfl (Nat.le_of_ble_eq_true rfl) (fun _ _ z => z.elim) (fun r' S' z => ?_)
  obtain ⟨rfl, rfl⟩ := z
  show WP _ _ _ _ [some (vR 8 (i0)), some (vI (x1)), some (vI (x2)), some (vI (x3)), some (vI (x4)), some (vI (x5)), some (vI (x6)), l7] [] _ _ _
  refine wp_iload dX8_instance_47 rfl ?_
  refine wp_iconst (v := 0) dX8_instance_49 (by decide) ?_
  refine wp_bipush (v := 9) dX8_instance_50 (by decide) ?_
  obtain ⟨r2, m3, n4, n5, hp6, h, en7⟩ := cb_e h
  refine wp_callS (k1 := n4) (k2 := n5) (As := [vI (x5), vI (0), vI (9)]) (rest := []) (w8_X8_isWithin hp6) okX8_isWithin sm_X8_isWithin rfl ml_X8_54 dX8_instance_52 rfl (by decide) (Nat.le_of_eq en7) rfl (Nat.le_of_ble_eq_true rfl) (fun _ _ z => z.elim) (fun r' S' z => ?_)
  obtain ⟨rfl, rfl⟩ := z
  show WP _ _ _ _ [some (vR 8 (i0)), some (vI (x1)), some (vI (x2)), some (vI (x3)), some (vI (x4)), some (vI (x5)), some (vI (x6)), l7] [vI (r2)] _ _ _
  refine wp_if_eq (tgt := 72) dX8_instance_55 (by decide) (fun c8 => ?_) (fun c8 => ?_)
  · replace h := itp c8 h
    refine wp_iconst (v := 0) dX8_instance_72 (by decide) ?_
    exact w8_X8_instance_73 h
  · replace h := itn c8 h
    refine wp_iload dX8_instance_58 rfl ?_
    refine wp_iconst (v := 0) dX8_instance_60 (by decide) ?_
    refine wp_iconst (v := 1) dX8_instance_61 (by decide) ?_
    obtain ⟨r9, m10, n11, n12, hp13, h, en14⟩ := cb_e h
    refine wp_callS (k1 := n11) (k2 := n12) (As := [vI (x6), vI (0), vI (1)]) (rest := []) (w8_X8_isWithin hp13) okX8_isWithin sm_X8_isWithin rfl ml_X8_54 dX8_instance_62 rfl (by decide) (Nat.le_of_eq en14) rfl (Nat.le_of_ble_eq_true rfl) (fun _ _ z => z.elim) (fun r' S' z => ?_)
    obtain ⟨rfl, rfl⟩ := z
    show WP _ _ _ _ [some (vR 8 (i0)), some (vI (x1)), some (vI (x2)), some (vI (x3)), some (vI (x4)), some (vI (x5)), some (vI (x6)), l7] [vI (r9)] _ _ _
    refine wp_if_eq (tgt := 72) dX8_instance_65 (by decide) (fun c15 => ?_) (fun c15 => ?_)
    · replace h := itp c15 h
      refine wp_iconst (v := 0) dX8_instance_72 (by decide) ?_
      exact w8_X8_instance_73 h
    · replace h := itn c15 h
      refine wp_iconst (v := 1) dX8_instance_68 (by decide) ?_
      refine wp_goto (tgt := 73) dX8_instance_69 (by decide) ?_
      exact w8_X8_instance_73 h
def f8_X8_instance (i0 : Nat) (x1 : Int32) (x2 : Int32) (x3 : Int32) (x4 : Int32) (x5 : Int32) (x6 : Int32) (m : CM) : CR (Int32 ⊕ Nat) :=
  cb (f8_X8_isWithin (x1) (0) (5) m) fun r1 m2 =>
  if r1 = 0 then some (.inr 0, m2, 1) else
  cb (f8_X8_isWithin (x2) (0) (2) m2) fun r8 m9 =>
  if r8 = 0 then
    b8_X8_instance_44 (i0) (x1) (x2) (x3) (x4) (x5) (x6) (0) m9
  else
    cb (f8_X8_isWithin (x3) (1) (9) m9) fun r15 m16 =>
    if r15 = 0 then
      b8_X8_instance_44 (i0) (x1) (x2) (x3) (x4) (x5) (x6) (0) m16
    else
      cb (f8_X8_isWithin (x4) (1) (9) m16) fun r22 m23 =>
      if r22 = 0 then
        b8_X8_instance_44 (i0) (x1) (x2) (x3) (x4) (x5) (x6) (0) m23
      else
        b8_X8_instance_44 (i0) (x1) (x2) (x3) (x4) (x5) (x6) (1) m23
theorem w8_X8_instance {r : Int32 ⊕ Nat} {m9 : CM} {i0 : Nat} {x1 : Int32} {x2 : Int32} {x3 : Int32} {x4 : Int32} {x5 : Int32} {x6 : Int32} {m : CM} {n9 : Nat} (h : f8_X8_instance i0 x1 x2 x3 x4 x5 x6 m = some (r, m9, n9)) : Spec mX8_instance (9) n9 [vR 8 (i0), vI (x1), vI (x2), vI (x3), vI (x4), vI (x5), vI (x6)] (cM m out rho) (PcE out rho r false m9) (XcE out rho r m9) := by
  unfold f8_X8_instance at h
  refine spec_of (by decide) rfl (by simp [catS, cat1]) (Nat.le_of_ble_eq_true rfl) ?_
  show WP mX8_instance (9) n9 0 [some (vR 8 (i0)), some (vI (x1)), some (vI (x2)), some (vI (x3)), some (vI (x4)), some (vI (x5)), some (vI (x6)), none] [] (cM m out rho) (PcE out rho r false m9) (XcE out rho r m9)
  refine wp_iload_n dX8_instance_0 rfl ?_
  refine wp_iconst (v := 0) dX8_instance_1 (by decide) ?_
  refine wp_iconst (v := 5) dX8_instance_2 (by decide) ?_
  obtain ⟨r1, m2, n3, n4, hp5, h, en6⟩ := cb_e h
  refine wp_callS (k1 := n3) (k2 := n4) (As := [vI (x1), vI (0), vI (5)]) (rest := []) (w8_X8_isWithin hp5) okX8_isWithin sm_X8_isWithin rfl ml_X8_54 dX8_instance_3 rfl (by decide) (Nat.le_of_eq en6) rfl (Nat.le_of_ble_eq_true rfl) (fun _ _ z => z.elim) (fun r' S' z => ?_)
  obtain ⟨rfl, rfl⟩ := z
  show WP _ _ _ _ [some (vR 8 (i0)), some (vI (x1)), some (vI (x2)), some (vI (x3)), some (vI (x4)), some (vI (x5)), some (vI (x6)), none] [vI (r1)] _ _ _
  by_cases c7 : r1 = 0
  · replace h := itp c7 h
    obtain ⟨q1, q2, q3⟩ := cs_e h
    subst q1
    subst q2
    subst q3
    exact wp_callS (k1 := 1) (k2 := 0) (As := [vI (r1)]) (rest := []) (w8_mustExist0 c7) okX8_mustExist sm_X8_mustExist rfl ml_X8_58 dX8_instance_6 rfl (by decide) (Nat.le_refl _) rfl (Nat.le_of_ble_eq_true rfl) (fun E S' z => ⟨⟨0, rfl, by decide, z.1⟩, z.2⟩) (fun r' S' z => z.elim)
  replace h := itn c7 h
  refine wp_callS (k1 := 0) (k2 := _) (As := [vI (r1)]) (rest := []) (w8_mustExist1 c7) okX8_mustExist sm_X8_mustExist rfl ml_X8_58 dX8_instance_6 rfl (by decide) (Nat.le_of_eq (Nat.zero_add _)) rfl (Nat.le_of_ble_eq_true rfl) (fun _ _ z => z.elim) (fun r' S' z => ?_)
  obtain ⟨rfl, rfl⟩ := z
  show WP _ _ _ _ [some (vR 8 (i0)), some (vI (x1)), some (vI (x2)), some (vI (x3)), some (vI (x4)), some (vI (x5)), some (vI (x6)), none] [] _ _ _
  refine wp_iload_n dX8_instance_9 rfl ?_
  refine wp_iconst (v := 0) dX8_instance_10 (by decide) ?_
  refine wp_iconst (v := 2) dX8_instance_11 (by decide) ?_
  obtain ⟨r8, m9, n10, n11, hp12, h, en13⟩ := cb_e h
  refine wp_callS (k1 := n10) (k2 := n11) (As := [vI (x2), vI (0), vI (2)]) (rest := []) (w8_X8_isWithin hp12) okX8_isWithin sm_X8_isWithin rfl ml_X8_54 dX8_instance_12 rfl (by decide) (Nat.le_of_eq en13) rfl (Nat.le_of_ble_eq_true rfl) (fun _ _ z => z.elim) (fun r' S' z => ?_)
  obtain ⟨rfl, rfl⟩ := z
  show WP _ _ _ _ [some (vR 8 (i0)), some (vI (x1)), some (vI (x2)), some (vI (x3)), some (vI (x4)), some (vI (x5)), some (vI (x6)), none] [vI (r8)] _ _ _
  refine wp_if_eq (tgt := 43) dX8_instance_15 (by decide) (fun c14 => ?_) (fun c14 => ?_)
  · replace h := itp c14 h
    refine wp_iconst (v := 0) dX8_instance_43 (by decide) ?_
    exact w8_X8_instance_44 h
  · replace h := itn c14 h
    refine wp_iload_n dX8_instance_18 rfl ?_
    refine wp_iconst (v := 1) dX8_instance_19 (by decide) ?_
    refine wp_bipush (v := 9) dX8_instance_20 (by decide) ?_
    obtain ⟨r15, m16, n17, n18, hp19, h, en20⟩ := cb_e h
    refine wp_callS (k1 := n17) (k2 := n18) (As := [vI (x3), vI (1), vI (9)]) (rest := []) (w8_X8_isWithin hp19) okX8_isWithin sm_X8_isWithin rfl ml_X8_54 dX8_instance_22 rfl (by decide) (Nat.le_of_eq en20) rfl (Nat.le_of_ble_eq_true rfl) (fun _ _ z => z.elim) (fun r' S' z => ?_)
    obtain ⟨rfl, rfl⟩ := z
    show WP _ _ _ _ [some (vR 8 (i0)), some (vI (x1)), some (vI (x2)), some (vI (x3)), some (vI (x4)), some (vI (x5)), some (vI (x6)), none] [vI (r15)] _ _ _
    refine wp_if_eq (tgt := 43) dX8_instance_25 (by decide) (fun c21 => ?_) (fun c21 => ?_)
    · replace h := itp c21 h
      refine wp_iconst (v := 0) dX8_instance_43 (by decide) ?_
      exact w8_X8_instance_44 h
    · replace h := itn c21 h
      refine wp_iload dX8_instance_28 rfl ?_
      refine wp_iconst (v := 1) dX8_instance_30 (by decide) ?_
      refine wp_bipush (v := 9) dX8_instance_31 (by decide) ?_
      obtain ⟨r22, m23, n24, n25, hp26, h, en27⟩ := cb_e h
      refine wp_callS (k1 := n24) (k2 := n25) (As := [vI (x4), vI (1), vI (9)]) (rest := []) (w8_X8_isWithin hp26) okX8_isWithin sm_X8_isWithin rfl ml_X8_54 dX8_instance_33 rfl (by decide) (Nat.le_of_eq en27) rfl (Nat.le_of_ble_eq_true rfl) (fun _ _ z => z.elim) (fun r' S' z => ?_)
      obtain ⟨rfl, rfl⟩ := z
      show WP _ _ _ _ [some (vR 8 (i0)), some (vI (x1)), some (vI (x2)), some (vI (x3)), some (vI (x4)), some (vI (x5)), some (vI (x6)), none] [vI (r22)] _ _ _
      refine wp_if_eq (tgt := 43) dX8_instance_36 (by decide) (fun c28 => ?_) (fun c28 => ?_)
      · replace h := itp c28 h
        refine wp_iconst (v := 0) dX8_instance_43 (by decide) ?_
        exact w8_X8_instance_44 h
      · replace h := itn c28 h
        refine wp_iconst (v := 1) dX8_instance_39 (by decide) ?_
        refine wp_goto (tgt := 44) dX8_instance_40 (by decide) ?_
        exact w8_X8_instance_44 h
end S8
