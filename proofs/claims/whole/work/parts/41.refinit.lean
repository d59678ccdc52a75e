section I9
theorem WP.mono {mi : MI} {d k pc : Nat} {L : List (Option sV)} {st : List sV} {S : OM} {Q Q' : Option sV → OM → Prop} {QX QX' : String → OM → Prop} (h : WP mi d k pc L st S Q QX) (hQ : ∀ r S, Q r S → Q' r S) (hX : ∀ E S, QX E S → QX' E S) : WP mi d k pc L st S Q' QX' := by
  intro p l e R s m args below meth c D A lv0 ad0 hC H locs cells slots ls ad hD T hT X
  obtain ⟨t, a1, ob, b1, b2, b3⟩ := h p l e R s m args below meth c D A lv0 ad0 hC H locs cells slots ls ad hD T hT X
  refine ⟨t, a1, ob, b1, b2, ?_⟩
  rcases b3 with ⟨c1, c2⟩ | ⟨q, c1, E, ce, L9, c2, c3⟩
  · obtain ⟨⟨r, S', ad', z1, z2, z3⟩, z4⟩ := c1
    exact Or.inl ⟨⟨⟨r, S', ad', z1, hQ _ _ z2, z3⟩, z4⟩, c2⟩
  · obtain ⟨⟨S', ad', z1, z2⟩, z3⟩ := c2
    exact Or.inr ⟨q, c1, E, ce, L9, ⟨⟨S', ad', hX _ _ z1, z2⟩, z3⟩, c3⟩
/-- the reference's rows that its constructor has made -/
def IA (ys : List Nat) (lv0 lv : Nat → Nat → Bool) (fr0 fr : Nat → Nat → Option Nat) : Prop :=
  (∀ y, y ∈ ys → fr (1152 + y) 0 = some 0) ∧ (∀ c i, ¬ (200 ≤ c ∧ c - 200 ∈ ys) → lv c i = lv0 c i) ∧ (∀ f i, ¬ (1152 ≤ f ∧ f - 1152 ∈ ys) → fr f i = fr0 f i)
variable {mi : MI} {d k pc : Nat} {L : List (Option sV)} {st : List sV} {Q : Option sV → OM → Prop} {QX : String → OM → Prop} {lv lv0 : Nat → Nat → Bool} {fr fr0 : Nat → Nat → Option Nat} {fi : Nat → Nat → Int32} {ai : Nat → Nat → Nat → Int32} {ar : Nat → Nat → Nat → Option Nat} {li : Nat → Nat → List Nat} {out : Int64} {rho : RH}
theorem wp_fld {y c x : Nat} {N : Int32} {t : ArrayType} {ys : List Nat} (hI : IA ys lv0 lv fr0 fr) (hy : ¬ y ∈ ys) (hl0 : lv0 c 0 = false) (hz : ∀ j, rho y j = 0) (hyl : y < 65) (hc : kd c = 1 ∨ kd c = 2) (hc2 : c = 200 + y) (hN : ¬ N < 0) (hN2 : N.toNatClampNeg = len c) (hlen : len c ≤ 700) (hw : Cond.arrayClass (newarray.typeOf t) ∈ TW) (ht : newarray.typeOf t = tyr (kA c)) (htg : tg 9 y = c + 1)
    (hd : decode mi.2.1 pc = .ok (.newarray t, 2)) (hd2 : decode mi.2.1 (pc + 2) = .ok (.putfield x, 3)) (hw2 : Cond.fieldLink mi.1.cls x (cT 9 y).1 (cT 9 y).2.1 (cT 9 y).2.2.1 ∈ TW) (hfin : (cT 9 y).2.2.2 = false ∨ (mi.1.name = "<init>" ∧ (cT 9 y).1 = mi.1.cls)) (hn : ∀ v : Value, narrow (cY 9 y) v = v) (hft : fits (cY 9 y) .null = true) (hft2 : ∀ a : Nat, fits (cY 9 y) (.ref a) = true)
    (h : ∀ lv' fr', IA (y :: ys) lv0 lv' fr0 fr' → WP mi d k (pc + 2 + 3) L st (lv', fr', fi, ai, ar, li, out, rho) Q QX) : WP mi d (k + 1) pc L (vI N :: vR 9 0 :: st) (lv, fr, fi, ai, ar, li, out, rho) Q QX := by
  have hlc : ¬ lv c 0 = true := fun z => by
    rw [hI.2.1 c 0 (fun q => hy (by rw [hc2, Nat.add_sub_cancel_left] at q; exact q.2)), hl0] at z
    cases z
  have er : va_up rho y (fun _ => 0) = rho := by
    funext a j
    unfold va_up
    by_cases q : a = y
    · subst q
      rw [if_pos rfl, hz j]
    · rw [if_neg q]
  refine wp_newaR hc hc2 hlc hN hN2 hlen hw ht hd (by rw [htg]; omega) ?_
  rw [er]
  refine wp_putR (c := 9) (i := 0) (y := y) (f := 1152 + y) (t := c) (o := some 0) (by omega) hyl htg (by omega) hfin hw2 hd2 hn hft hft2 (h _ _ ⟨fun a ha => ?_, fun a i ha => ?_, fun a i ha => ?_⟩) (by omega)
  · by_cases q : a = y
    · rw [q, up2_s]
    · rw [up2_n _ _ (fun z => q (by omega))]
      rcases List.mem_cons.mp ha with z | z
      · exact absurd z q
      · exact hI.1 a z
  · rw [up2_n _ _ (fun z => ha ⟨by omega, List.mem_cons.mpr (Or.inl (by omega))⟩)]
    exact hI.2.1 a i (fun z => ha ⟨z.1, List.mem_cons_of_mem _ z.2⟩)
  · rw [up2_n _ _ (fun z => ha ⟨by omega, List.mem_cons.mpr (Or.inl (by omega))⟩)]
    exact hI.2.2 a i (fun z => ha ⟨z.1, List.mem_cons_of_mem _ z.2⟩)


def l9_init_525 : Nat → Int32 → RH → Option (Int32 × RH)
  | 0, _, _ => none
  | n + 1, x1, rho =>
  if 7 ≤ x1 then
    some (0, rho)
  else
    if vq (x1) 7 then
    wr (up2 rho 16 (x1).toNatClampNeg (10)) fun rho3 =>
    wr (up2 rho3 17 (x1).toNatClampNeg (1000)) fun rho5 =>
    l9_init_525 n (x1 + 1) rho5
    else none
theorem w9_init_525 {r : Int32} {rho9 : RH} (hfr : RA fr) : ∀ (n : Nat) {x1 : Int32} {rho : RH}, l9_init_525 n x1 rho = some (r, rho9) → WP mX9_init 1 0 525 [some (vR 9 0), some (vI (x1))] [] (lv, fr, fi, ai, ar, li, out, rho) (Po lv fr fi ai ar li out (none) rho9) NX := by
  intro n
  induction n with
  | zero =>
    intro x1 rho h
    rw [l9_init_525] at h
    cases h
  | succ n ih =>
    intro x1 rho h
    rw [l9_init_525] at h
    refine wp_iload_n dX9_init_525 rfl ?_
    refine wp_bipush (v := 7) dX9_init_526 (by decide) ?_
    refine wp_icmp_ge (tgt := 554) dX9_init_528 (by decide) (fun c1 => ?_) (fun c1 => ?_)
    · replace h := itp c1 h
      obtain ⟨q1, q2⟩ := sm_e h
      subst q2
      exact wp_return rfl dX9_init_554 ⟨rfl, rfl⟩
    · replace h := itn c1 h
      refine wp_aload_n dX9_init_531 rfl ?_
      refine wp_arrR (y := 16) (c := 216) hfr (by decide) rfl fl_X9_53 dX9_init_532 ?_
      refine wp_iload_n dX9_init_535 rfl ?_
      refine wp_bipush (v := 10) dX9_init_536 (by decide) ?_
      obtain ⟨c2, h⟩ := ock h
      refine wp_iastR (c := 216) (y := 16) rfl rfl (show vp_in (x1) (len 216) from c2) dX9_init_538 ?_
      obtain ⟨rho3, e4, h⟩ := wr_e h
      rw [e4]
      refine wp_aload_n dX9_init_539 rfl ?_
      refine wp_arrR (y := 17) (c := 217) hfr (by decide) rfl fl_X9_56 dX9_init_540 ?_
      refine wp_iload_n dX9_init_543 rfl ?_
      refine wp_sipush (v := 1000) dX9_init_544 (by decide) ?_
      refine wp_iastR (c := 217) (y := 17) rfl rfl (show vp_in (x1) (len 217) from c2) dX9_init_547 ?_
      obtain ⟨rho5, e6, h⟩ := wr_e h
      rw [e6]
      refine wp_iinc (v := x1 + 1) (L' := [some (vR 9 0), some (vI (x1 + 1))]) dX9_init_548 rfl rfl rfl ?_
      refine wp_goto (tgt := 525) dX9_init_551 (by decide) ?_
      exact ih h
def l9_init_504 : Nat → Int32 → RH → Option (Int32 × RH)
  | 0, _, _ => none
  | n + 1, x1, rho =>
  if 6 ≤ x1 then
    l9_init_525 FU (0) rho
  else
    if vq (x1) 6 then
    wr (up2 rho 1 (x1).toNatClampNeg (1)) fun rho3 =>
    l9_init_504 n (x1 + 1) rho3
    else none
theorem w9_init_504 {r : Int32} {rho9 : RH} (hfr : RA fr) : ∀ (n : Nat) {x1 : Int32} {rho : RH}, l9_init_504 n x1 rho = some (r, rho9) → WP mX9_init 1 0 504 [some (vR 9 0), some (vI (x1))] [] (lv, fr, fi, ai, ar, li, out, rho) (Po lv fr fi ai ar li out (none) rho9) NX := by
  intro n
  induction n with
  | zero =>
    intro x1 rho h
    rw [l9_init_504] at h
    cases h
  | succ n ih =>
    intro x1 rho h
    rw [l9_init_504] at h
    refine wp_iload_n dX9_init_504 rfl ?_
    refine wp_bipush (v := 6) dX9_init_505 (by decide) ?_
    refine wp_icmp_ge (tgt := 523) dX9_init_507 (by decide) (fun c1 => ?_) (fun c1 => ?_)
    · replace h := itp c1 h
      refine wp_iconst (v := 0) dX9_init_523 (by decide) ?_
      refine wp_istore_n (L' := [some (vR 9 0), some (vI (0))]) dX9_init_524 rfl rfl ?_
      exact w9_init_525 hfr FU h
    · replace h := itn c1 h
      refine wp_aload_n dX9_init_510 rfl ?_
      refine wp_arrR (y := 1) (c := 201) hfr (by decide) rfl fl_X9_7 dX9_init_511 ?_
      refine wp_iload_n dX9_init_514 rfl ?_
      refine wp_iconst (v := 1) dX9_init_515 (by decide) ?_
      obtain ⟨c2, h⟩ := ock h
      refine wp_iastR (c := 201) (y := 1) rfl rfl (show vp_in (x1) (len 201) from c2) dX9_init_516 ?_
      obtain ⟨rho3, e4, h⟩ := wr_e h
      rw [e4]
      refine wp_iinc (v := x1 + 1) (L' := [some (vR 9 0), some (vI (x1 + 1))]) dX9_init_517 rfl rfl rfl ?_
      refine wp_goto (tgt := 504) dX9_init_520 (by decide) ?_
      exact ih h
def l9_init_482 : Nat → Int32 → RH → Option (Int32 × RH)
  | 0, _, _ => none
  | n + 1, x1, rho =>
  if 147 ≤ x1 then
    l9_init_504 FU (0) rho
  else
    if vq (x1) 147 then
    wr (up2 rho 15 (x1).toNatClampNeg ((-1))) fun rho3 =>
    l9_init_482 n (x1 + 1) rho3
    else none
theorem w9_init_482 {r : Int32} {rho9 : RH} (hfr : RA fr) : ∀ (n : Nat) {x1 : Int32} {rho : RH}, l9_init_482 n x1 rho = some (r, rho9) → WP mX9_init 1 0 482 [some (vR 9 0), some (vI (x1))] [] (lv, fr, fi, ai, ar, li, out, rho) (Po lv fr fi ai ar li out (none) rho9) NX := by
  intro n
  induction n with
  | zero =>
    intro x1 rho h
    rw [l9_init_482] at h
    cases h
  | succ n ih =>
    intro x1 rho h
    rw [l9_init_482] at h
    refine wp_iload_n dX9_init_482 rfl ?_
    refine wp_sipush (v := 147) dX9_init_483 (by decide) ?_
    refine wp_icmp_ge (tgt := 502) dX9_init_486 (by decide) (fun c1 => ?_) (fun c1 => ?_)
    · replace h := itp c1 h
      refine wp_iconst (v := 0) dX9_init_502 (by decide) ?_
      refine wp_istore_n (L' := [some (vR 9 0), some (vI (0))]) dX9_init_503 rfl rfl ?_
      exact w9_init_504 hfr FU h
    · replace h := itn c1 h
      refine wp_aload_n dX9_init_489 rfl ?_
      refine wp_arrR (y := 15) (c := 215) hfr (by decide) rfl fl_X9_50 dX9_init_490 ?_
      refine wp_iload_n dX9_init_493 rfl ?_
      refine wp_iconst (v := (-1)) dX9_init_494 (by decide) ?_
      obtain ⟨c2, h⟩ := ock h
      refine wp_iastR (c := 215) (y := 15) rfl rfl (show vp_in (x1) (len 215) from c2) dX9_init_495 ?_
      obtain ⟨rho3, e4, h⟩ := wr_e h
      rw [e4]
      refine wp_iinc (v := x1 + 1) (L' := [some (vR 9 0), some (vI (x1 + 1))]) dX9_init_496 rfl rfl rfl ?_
      refine wp_goto (tgt := 482) dX9_init_499 (by decide) ?_
      exact ih h
/-- the rows, by their fields -/
def ysR : List Nat := [63, 62, 61, 58, 57, 56, 55, 54, 53, 52, 50, 49, 48, 47, 46, 45, 44, 43, 42, 41, 40, 39, 38, 37, 36, 35, 34, 33, 32, 28, 27, 26, 25, 24, 23, 22, 21, 19, 18, 17, 16, 15, 14, 13, 12, 11, 10, 9, 8, 7, 5, 4, 3, 2, 1]
theorem RA_of {lv0 lv : Nat → Nat → Bool} {fr0 fr : Nat → Nat → Option Nat} (h : IA ysR lv0 lv fr0 fr) : RA fr := fun y hy ht => by
  refine h.1 y ?_
  have hall : ∀ y, y < 65 → tg 9 y ≠ 0 → y ∈ ysR := by decide +kernel
  exact hall y hy ht
theorem w9_init {r : Int32} {rho9 : RH} (hz : ∀ y j, rho y j = 0) (hl : ∀ c, 200 ≤ c → lv c 0 = false) (h : l9_init_482 FU 0 (up2 (up2 (up2 rho 20 0 3) 29 0 4) 30 0 30) = some (r, rho9)) : Spec mX9_init 1 55 [vR 9 0] (lv, fr, fi, ai, ar, li, out, rho) (fun r' S' => r' = none ∧ ∃ lv' fr', IA ysR lv lv' fr fr' ∧ S' = (lv', fr', fi, ai, ar, li, out, rho9)) NX := by
  refine spec_of (by decide) rfl (by simp [catS, cat1]) (Nat.le_of_ble_eq_true rfl) ?_
  show WP mX9_init 1 55 0 [some (vR 9 0), none] [] (lv, fr, fi, ai, ar, li, out, rho) _ NX
  have hI0 : IA [] lv lv fr fr := ⟨fun y h => (by cases h), fun _ _ _ => rfl, fun _ _ _ => rfl⟩
  refine wp_aload_n dX9_init_0 rfl ?_
  refine wp_objinit (by decide) ml_X9_1 dX9_init_1 (by decide) ?_
  refine wp_aload_n dX9_init_4 rfl ?_
  refine wp_bipush (v := 6) dX9_init_5 (by decide) ?_
  refine wp_fld (y := 1) (c := 201) (t := .int) hI0 (by decide) (hl 201 (by decide)) (hz 1) (by decide) (by decide) rfl (by decide) (by decide) (by decide) ac_int rfl rfl dX9_init_7 dX9_init_9 fl_X9_7 (Or.inr ⟨rfl, rfl⟩) (fun _ => rfl) rfl (fun _ => rfl) (fun lv1 fr1 hI1 => ?_)
  refine wp_aload_n dX9_init_12 rfl ?_
  refine wp_bipush (v := 6) dX9_init_13 (by decide) ?_
  refine wp_fld (y := 2) (c := 202) (t := .int) hI1 (by decide) (hl 202 (by decide)) (hz 2) (by decide) (by decide) rfl (by decide) (by decide) (by decide) ac_int rfl rfl dX9_init_15 dX9_init_17 fl_X9_13 (Or.inr ⟨rfl, rfl⟩) (fun _ => rfl) rfl (fun _ => rfl) (fun lv2 fr2 hI2 => ?_)
  refine wp_aload_n dX9_init_20 rfl ?_
  refine wp_bipush (v := 24) dX9_init_21 (by decide) ?_
  refine wp_fld (y := 3) (c := 203) (t := .int) hI2 (by decide) (hl 203 (by decide)) (hz 3) (by decide) (by decide) rfl (by decide) (by decide) (by decide) ac_int rfl rfl dX9_init_23 dX9_init_25 fl_X9_16 (Or.inr ⟨rfl, rfl⟩) (fun _ => rfl) rfl (fun _ => rfl) (fun lv3 fr3 hI3 => ?_)
  refine wp_aload_n dX9_init_28 rfl ?_
  refine wp_bipush (v := 24) dX9_init_29 (by decide) ?_
  refine wp_fld (y := 4) (c := 204) (t := .boolean) hI3 (by decide) (hl 204 (by decide)) (hz 4) (by decide) (by decide) rfl (by decide) (by decide) (by decide) ac_boolean rfl rfl dX9_init_31 dX9_init_33 fl_X9_19 (Or.inr ⟨rfl, rfl⟩) (fun _ => rfl) rfl (fun _ => rfl) (fun lv4 fr4 hI4 => ?_)
  refine wp_aload_n dX9_init_36 rfl ?_
  refine wp_bipush (v := 24) dX9_init_37 (by decide) ?_
  refine wp_fld (y := 5) (c := 205) (t := .int) hI4 (by decide) (hl 205 (by decide)) (hz 5) (by decide) (by decide) rfl (by decide) (by decide) (by decide) ac_int rfl rfl dX9_init_39 dX9_init_41 fl_X9_23 (Or.inr ⟨rfl, rfl⟩) (fun _ => rfl) rfl (fun _ => rfl) (fun lv5 fr5 hI5 => ?_)
  refine wp_aload_n dX9_init_44 rfl ?_
  refine wp_bipush (v := 12) dX9_init_45 (by decide) ?_
  refine wp_fld (y := 7) (c := 207) (t := .int) hI5 (by decide) (hl 207 (by decide)) (hz 7) (by decide) (by decide) rfl (by decide) (by decide) (by decide) ac_int rfl rfl dX9_init_47 dX9_init_49 fl_X9_26 (Or.inr ⟨rfl, rfl⟩) (fun _ => rfl) rfl (fun _ => rfl) (fun lv6 fr6 hI6 => ?_)
  refine wp_aload_n dX9_init_52 rfl ?_
  refine wp_bipush (v := 12) dX9_init_53 (by decide) ?_
  refine wp_fld (y := 8) (c := 208) (t := .int) hI6 (by decide) (hl 208 (by decide)) (hz 8) (by decide) (by decide) rfl (by decide) (by decide) (by decide) ac_int rfl rfl dX9_init_55 dX9_init_57 fl_X9_29 (Or.inr ⟨rfl, rfl⟩) (fun _ => rfl) rfl (fun _ => rfl) (fun lv7 fr7 hI7 => ?_)
  refine wp_aload_n dX9_init_60 rfl ?_
  refine wp_bipush (v := 12) dX9_init_61 (by decide) ?_
  refine wp_fld (y := 9) (c := 209) (t := .int) hI7 (by decide) (hl 209 (by decide)) (hz 9) (by decide) (by decide) rfl (by decide) (by decide) (by decide) ac_int rfl rfl dX9_init_63 dX9_init_65 fl_X9_32 (Or.inr ⟨rfl, rfl⟩) (fun _ => rfl) rfl (fun _ => rfl) (fun lv8 fr8 hI8 => ?_)
  refine wp_aload_n dX9_init_68 rfl ?_
  refine wp_bipush (v := 12) dX9_init_69 (by decide) ?_
  refine wp_fld (y := 10) (c := 210) (t := .int) hI8 (by decide) (hl 210 (by decide)) (hz 10) (by decide) (by decide) rfl (by decide) (by decide) (by decide) ac_int rfl rfl dX9_init_71 dX9_init_73 fl_X9_35 (Or.inr ⟨rfl, rfl⟩) (fun _ => rfl) rfl (fun _ => rfl) (fun lv9 fr9 hI9 => ?_)
  refine wp_aload_n dX9_init_76 rfl ?_
  refine wp_bipush (v := 12) dX9_init_77 (by decide) ?_
  refine wp_fld (y := 11) (c := 211) (t := .int) hI9 (by decide) (hl 211 (by decide)) (hz 11) (by decide) (by decide) rfl (by decide) (by decide) (by decide) ac_int rfl rfl dX9_init_79 dX9_init_81 fl_X9_38 (Or.inr ⟨rfl, rfl⟩) (fun _ => rfl) rfl (fun _ => rfl) (fun lv10 fr10 hI10 => ?_)
  refine wp_aload_n dX9_init_84 rfl ?_
  refine wp_bipush (v := 12) dX9_init_85 (by decide) ?_
  refine wp_fld (y := 12) (c := 212) (t := .int) hI10 (by decide) (hl 212 (by decide)) (hz 12) (by decide) (by decide) rfl (by decide) (by decide) (by decide) ac_int rfl rfl dX9_init_87 dX9_init_89 fl_X9_41 (Or.inr ⟨rfl, rfl⟩) (fun _ => rfl) rfl (fun _ => rfl) (fun lv11 fr11 hI11 => ?_)
  refine wp_aload_n dX9_init_92 rfl ?_
  refine wp_bipush (v := 48) dX9_init_93 (by decide) ?_
  refine wp_fld (y := 13) (c := 213) (t := .int) hI11 (by decide) (hl 213 (by decide)) (hz 13) (by decide) (by decide) rfl (by decide) (by decide) (by decide) ac_int rfl rfl dX9_init_95 dX9_init_97 fl_X9_44 (Or.inr ⟨rfl, rfl⟩) (fun _ => rfl) rfl (fun _ => rfl) (fun lv12 fr12 hI12 => ?_)
  refine wp_aload_n dX9_init_100 rfl ?_
  refine wp_bipush (v := 12) dX9_init_101 (by decide) ?_
  refine wp_fld (y := 14) (c := 214) (t := .int) hI12 (by decide) (hl 214 (by decide)) (hz 14) (by decide) (by decide) rfl (by decide) (by decide) (by decide) ac_int rfl rfl dX9_init_103 dX9_init_105 fl_X9_47 (Or.inr ⟨rfl, rfl⟩) (fun _ => rfl) rfl (fun _ => rfl) (fun lv13 fr13 hI13 => ?_)
  refine wp_aload_n dX9_init_108 rfl ?_
  refine wp_sipush (v := 147) dX9_init_109 (by decide) ?_
  refine wp_fld (y := 15) (c := 215) (t := .int) hI13 (by decide) (hl 215 (by decide)) (hz 15) (by decide) (by decide) rfl (by decide) (by decide) (by decide) ac_int rfl rfl dX9_init_112 dX9_init_114 fl_X9_50 (Or.inr ⟨rfl, rfl⟩) (fun _ => rfl) rfl (fun _ => rfl) (fun lv14 fr14 hI14 => ?_)
  refine wp_aload_n dX9_init_117 rfl ?_
  refine wp_bipush (v := 7) dX9_init_118 (by decide) ?_
  refine wp_fld (y := 16) (c := 216) (t := .int) hI14 (by decide) (hl 216 (by decide)) (hz 16) (by decide) (by decide) rfl (by decide) (by decide) (by decide) ac_int rfl rfl dX9_init_120 dX9_init_122 fl_X9_53 (Or.inr ⟨rfl, rfl⟩) (fun _ => rfl) rfl (fun _ => rfl) (fun lv15 fr15 hI15 => ?_)
  refine wp_aload_n dX9_init_125 rfl ?_
  refine wp_bipush (v := 7) dX9_init_126 (by decide) ?_
  refine wp_fld (y := 17) (c := 217) (t := .int) hI15 (by decide) (hl 217 (by decide)) (hz 17) (by decide) (by decide) rfl (by decide) (by decide) (by decide) ac_int rfl rfl dX9_init_128 dX9_init_130 fl_X9_56 (Or.inr ⟨rfl, rfl⟩) (fun _ => rfl) rfl (fun _ => rfl) (fun lv16 fr16 hI16 => ?_)
  refine wp_aload_n dX9_init_133 rfl ?_
  refine wp_bipush (v := 7) dX9_init_134 (by decide) ?_
  refine wp_fld (y := 18) (c := 218) (t := .int) hI16 (by decide) (hl 218 (by decide)) (hz 18) (by decide) (by decide) rfl (by decide) (by decide) (by decide) ac_int rfl rfl dX9_init_136 dX9_init_138 fl_X9_59 (Or.inr ⟨rfl, rfl⟩) (fun _ => rfl) rfl (fun _ => rfl) (fun lv17 fr17 hI17 => ?_)
  refine wp_aload_n dX9_init_141 rfl ?_
  refine wp_bipush (v := 7) dX9_init_142 (by decide) ?_
  refine wp_fld (y := 19) (c := 219) (t := .int) hI17 (by decide) (hl 219 (by decide)) (hz 19) (by decide) (by decide) rfl (by decide) (by decide) (by decide) ac_int rfl rfl dX9_init_144 dX9_init_146 fl_X9_62 (Or.inr ⟨rfl, rfl⟩) (fun _ => rfl) rfl (fun _ => rfl) (fun lv18 fr18 hI18 => ?_)
  refine wp_aload_n dX9_init_149 rfl ?_
  refine wp_iconst (v := 3) dX9_init_150 (by decide) ?_
  refine wp_putRI (y := 20) (by decide) rfl rfl fl_X9_65 dX9_init_151 rfl ?_
  refine wp_aload_n dX9_init_154 rfl ?_
  refine wp_bipush (v := 84) dX9_init_155 (by decide) ?_
  refine wp_fld (y := 21) (c := 221) (t := .int) hI18 (by decide) (hl 221 (by decide)) (fun j => by simp only [up2]; simp [hz]) (by decide) (by decide) rfl (by decide) (by decide) (by decide) ac_int rfl rfl dX9_init_157 dX9_init_159 fl_X9_69 (Or.inr ⟨rfl, rfl⟩) (fun _ => rfl) rfl (fun _ => rfl) (fun lv19 fr19 hI19 => ?_)
  refine wp_aload_n dX9_init_162 rfl ?_
  refine wp_bipush (v := 84) dX9_init_163 (by decide) ?_
  refine wp_fld (y := 22) (c := 222) (t := .int) hI19 (by decide) (hl 222 (by decide)) (fun j => by simp only [up2]; simp [hz]) (by decide) (by decide) rfl (by decide) (by decide) (by decide) ac_int rfl rfl dX9_init_165 dX9_init_167 fl_X9_72 (Or.inr ⟨rfl, rfl⟩) (fun _ => rfl) rfl (fun _ => rfl) (fun lv20 fr20 hI20 => ?_)
  refine wp_aload_n dX9_init_170 rfl ?_
  refine wp_bipush (v := 84) dX9_init_171 (by decide) ?_
  refine wp_fld (y := 23) (c := 223) (t := .int) hI20 (by decide) (hl 223 (by decide)) (fun j => by simp only [up2]; simp [hz]) (by decide) (by decide) rfl (by decide) (by decide) (by decide) ac_int rfl rfl dX9_init_173 dX9_init_175 fl_X9_75 (Or.inr ⟨rfl, rfl⟩) (fun _ => rfl) rfl (fun _ => rfl) (fun lv21 fr21 hI21 => ?_)
  refine wp_aload_n dX9_init_178 rfl ?_
  refine wp_bipush (v := 84) dX9_init_179 (by decide) ?_
  refine wp_fld (y := 24) (c := 224) (t := .int) hI21 (by decide) (hl 224 (by decide)) (fun j => by simp only [up2]; simp [hz]) (by decide) (by decide) rfl (by decide) (by decide) (by decide) ac_int rfl rfl dX9_init_181 dX9_init_183 fl_X9_78 (Or.inr ⟨rfl, rfl⟩) (fun _ => rfl) rfl (fun _ => rfl) (fun lv22 fr22 hI22 => ?_)
  refine wp_aload_n dX9_init_186 rfl ?_
  refine wp_bipush (v := 6) dX9_init_187 (by decide) ?_
  refine wp_fld (y := 25) (c := 225) (t := .int) hI22 (by decide) (hl 225 (by decide)) (fun j => by simp only [up2]; simp [hz]) (by decide) (by decide) rfl (by decide) (by decide) (by decide) ac_int rfl rfl dX9_init_189 dX9_init_191 fl_X9_81 (Or.inr ⟨rfl, rfl⟩) (fun _ => rfl) rfl (fun _ => rfl) (fun lv23 fr23 hI23 => ?_)
  refine wp_aload_n dX9_init_194 rfl ?_
  refine wp_bipush (v := 6) dX9_init_195 (by decide) ?_
  refine wp_fld (y := 26) (c := 226) (t := .int) hI23 (by decide) (hl 226 (by decide)) (fun j => by simp only [up2]; simp [hz]) (by decide) (by decide) rfl (by decide) (by decide) (by decide) ac_int rfl rfl dX9_init_197 dX9_init_199 fl_X9_84 (Or.inr ⟨rfl, rfl⟩) (fun _ => rfl) rfl (fun _ => rfl) (fun lv24 fr24 hI24 => ?_)
  refine wp_aload_n dX9_init_202 rfl ?_
  refine wp_bipush (v := 12) dX9_init_203 (by decide) ?_
  refine wp_fld (y := 27) (c := 227) (t := .int) hI24 (by decide) (hl 227 (by decide)) (fun j => by simp only [up2]; simp [hz]) (by decide) (by decide) rfl (by decide) (by decide) (by decide) ac_int rfl rfl dX9_init_205 dX9_init_207 fl_X9_87 (Or.inr ⟨rfl, rfl⟩) (fun _ => rfl) rfl (fun _ => rfl) (fun lv25 fr25 hI25 => ?_)
  refine wp_aload_n dX9_init_210 rfl ?_
  refine wp_bipush (v := 12) dX9_init_211 (by decide) ?_
  refine wp_fld (y := 28) (c := 228) (t := .int) hI25 (by decide) (hl 228 (by decide)) (fun j => by simp only [up2]; simp [hz]) (by decide) (by decide) rfl (by decide) (by decide) (by decide) ac_int rfl rfl dX9_init_213 dX9_init_215 fl_X9_90 (Or.inr ⟨rfl, rfl⟩) (fun _ => rfl) rfl (fun _ => rfl) (fun lv26 fr26 hI26 => ?_)
  refine wp_aload_n dX9_init_218 rfl ?_
  refine wp_iconst (v := 4) dX9_init_219 (by decide) ?_
  refine wp_putRI (y := 29) (by decide) rfl rfl fl_X9_93 dX9_init_220 rfl ?_
  refine wp_aload_n dX9_init_223 rfl ?_
  refine wp_bipush (v := 30) dX9_init_224 (by decide) ?_
  refine wp_putRI (y := 30) (by decide) rfl rfl fl_X9_96 dX9_init_226 rfl ?_
  refine wp_aload_n dX9_init_229 rfl ?_
  refine wp_sipush (v := 400) dX9_init_230 (by decide) ?_
  refine wp_fld (y := 32) (c := 232) (t := .int) hI26 (by decide) (hl 232 (by decide)) (fun j => by simp only [up2]; simp [hz]) (by decide) (by decide) rfl (by decide) (by decide) (by decide) ac_int rfl rfl dX9_init_233 dX9_init_235 fl_X9_99 (Or.inr ⟨rfl, rfl⟩) (fun _ => rfl) rfl (fun _ => rfl) (fun lv27 fr27 hI27 => ?_)
  refine wp_aload_n dX9_init_238 rfl ?_
  refine wp_sipush (v := 400) dX9_init_239 (by decide) ?_
  refine wp_fld (y := 33) (c := 233) (t := .int) hI27 (by decide) (hl 233 (by decide)) (fun j => by simp only [up2]; simp [hz]) (by decide) (by decide) rfl (by decide) (by decide) (by decide) ac_int rfl rfl dX9_init_242 dX9_init_244 fl_X9_102 (Or.inr ⟨rfl, rfl⟩) (fun _ => rfl) rfl (fun _ => rfl) (fun lv28 fr28 hI28 => ?_)
  refine wp_aload_n dX9_init_247 rfl ?_
  refine wp_sipush (v := 400) dX9_init_248 (by decide) ?_
  refine wp_fld (y := 34) (c := 234) (t := .int) hI28 (by decide) (hl 234 (by decide)) (fun j => by simp only [up2]; simp [hz]) (by decide) (by decide) rfl (by decide) (by decide) (by decide) ac_int rfl rfl dX9_init_251 dX9_init_253 fl_X9_105 (Or.inr ⟨rfl, rfl⟩) (fun _ => rfl) rfl (fun _ => rfl) (fun lv29 fr29 hI29 => ?_)
  refine wp_aload_n dX9_init_256 rfl ?_
  refine wp_sipush (v := 400) dX9_init_257 (by decide) ?_
  refine wp_fld (y := 35) (c := 235) (t := .int) hI29 (by decide) (hl 235 (by decide)) (fun j => by simp only [up2]; simp [hz]) (by decide) (by decide) rfl (by decide) (by decide) (by decide) ac_int rfl rfl dX9_init_260 dX9_init_262 fl_X9_108 (Or.inr ⟨rfl, rfl⟩) (fun _ => rfl) rfl (fun _ => rfl) (fun lv30 fr30 hI30 => ?_)
  refine wp_aload_n dX9_init_265 rfl ?_
  refine wp_sipush (v := 400) dX9_init_266 (by decide) ?_
  refine wp_fld (y := 36) (c := 236) (t := .int) hI30 (by decide) (hl 236 (by decide)) (fun j => by simp only [up2]; simp [hz]) (by decide) (by decide) rfl (by decide) (by decide) (by decide) ac_int rfl rfl dX9_init_269 dX9_init_271 fl_X9_111 (Or.inr ⟨rfl, rfl⟩) (fun _ => rfl) rfl (fun _ => rfl) (fun lv31 fr31 hI31 => ?_)
  refine wp_aload_n dX9_init_274 rfl ?_
  refine wp_sipush (v := 400) dX9_init_275 (by decide) ?_
  refine wp_fld (y := 37) (c := 237) (t := .int) hI31 (by decide) (hl 237 (by decide)) (fun j => by simp only [up2]; simp [hz]) (by decide) (by decide) rfl (by decide) (by decide) (by decide) ac_int rfl rfl dX9_init_278 dX9_init_280 fl_X9_114 (Or.inr ⟨rfl, rfl⟩) (fun _ => rfl) rfl (fun _ => rfl) (fun lv32 fr32 hI32 => ?_)
  refine wp_aload_n dX9_init_283 rfl ?_
  refine wp_sipush (v := 400) dX9_init_284 (by decide) ?_
  refine wp_fld (y := 38) (c := 238) (t := .int) hI32 (by decide) (hl 238 (by decide)) (fun j => by simp only [up2]; simp [hz]) (by decide) (by decide) rfl (by decide) (by decide) (by decide) ac_int rfl rfl dX9_init_287 dX9_init_289 fl_X9_117 (Or.inr ⟨rfl, rfl⟩) (fun _ => rfl) rfl (fun _ => rfl) (fun lv33 fr33 hI33 => ?_)
  refine wp_aload_n dX9_init_292 rfl ?_
  refine wp_sipush (v := 400) dX9_init_293 (by decide) ?_
  refine wp_fld (y := 39) (c := 239) (t := .int) hI33 (by decide) (hl 239 (by decide)) (fun j => by simp only [up2]; simp [hz]) (by decide) (by decide) rfl (by decide) (by decide) (by decide) ac_int rfl rfl dX9_init_296 dX9_init_298 fl_X9_120 (Or.inr ⟨rfl, rfl⟩) (fun _ => rfl) rfl (fun _ => rfl) (fun lv34 fr34 hI34 => ?_)
  refine wp_aload_n dX9_init_301 rfl ?_
  refine wp_sipush (v := 400) dX9_init_302 (by decide) ?_
  refine wp_fld (y := 40) (c := 240) (t := .int) hI34 (by decide) (hl 240 (by decide)) (fun j => by simp only [up2]; simp [hz]) (by decide) (by decide) rfl (by decide) (by decide) (by decide) ac_int rfl rfl dX9_init_305 dX9_init_307 fl_X9_123 (Or.inr ⟨rfl, rfl⟩) (fun _ => rfl) rfl (fun _ => rfl) (fun lv35 fr35 hI35 => ?_)
  refine wp_aload_n dX9_init_310 rfl ?_
  refine wp_sipush (v := 400) dX9_init_311 (by decide) ?_
  refine wp_fld (y := 41) (c := 241) (t := .boolean) hI35 (by decide) (hl 241 (by decide)) (fun j => by simp only [up2]; simp [hz]) (by decide) (by decide) rfl (by decide) (by decide) (by decide) ac_boolean rfl rfl dX9_init_314 dX9_init_316 fl_X9_126 (Or.inr ⟨rfl, rfl⟩) (fun _ => rfl) rfl (fun _ => rfl) (fun lv36 fr36 hI36 => ?_)
  refine wp_aload_n dX9_init_319 rfl ?_
  refine wp_sipush (v := 400) dX9_init_320 (by decide) ?_
  refine wp_fld (y := 42) (c := 242) (t := .boolean) hI36 (by decide) (hl 242 (by decide)) (fun j => by simp only [up2]; simp [hz]) (by decide) (by decide) rfl (by decide) (by decide) (by decide) ac_boolean rfl rfl dX9_init_323 dX9_init_325 fl_X9_129 (Or.inr ⟨rfl, rfl⟩) (fun _ => rfl) rfl (fun _ => rfl) (fun lv37 fr37 hI37 => ?_)
  refine wp_aload_n dX9_init_328 rfl ?_
  refine wp_sipush (v := 400) dX9_init_329 (by decide) ?_
  refine wp_fld (y := 43) (c := 243) (t := .boolean) hI37 (by decide) (hl 243 (by decide)) (fun j => by simp only [up2]; simp [hz]) (by decide) (by decide) rfl (by decide) (by decide) (by decide) ac_boolean rfl rfl dX9_init_332 dX9_init_334 fl_X9_132 (Or.inr ⟨rfl, rfl⟩) (fun _ => rfl) rfl (fun _ => rfl) (fun lv38 fr38 hI38 => ?_)
  refine wp_aload_n dX9_init_337 rfl ?_
  refine wp_sipush (v := 400) dX9_init_338 (by decide) ?_
  refine wp_fld (y := 44) (c := 244) (t := .boolean) hI38 (by decide) (hl 244 (by decide)) (fun j => by simp only [up2]; simp [hz]) (by decide) (by decide) rfl (by decide) (by decide) (by decide) ac_boolean rfl rfl dX9_init_341 dX9_init_343 fl_X9_135 (Or.inr ⟨rfl, rfl⟩) (fun _ => rfl) rfl (fun _ => rfl) (fun lv39 fr39 hI39 => ?_)
  refine wp_aload_n dX9_init_346 rfl ?_
  refine wp_sipush (v := 400) dX9_init_347 (by decide) ?_
  refine wp_fld (y := 45) (c := 245) (t := .int) hI39 (by decide) (hl 245 (by decide)) (fun j => by simp only [up2]; simp [hz]) (by decide) (by decide) rfl (by decide) (by decide) (by decide) ac_int rfl rfl dX9_init_350 dX9_init_352 fl_X9_138 (Or.inr ⟨rfl, rfl⟩) (fun _ => rfl) rfl (fun _ => rfl) (fun lv40 fr40 hI40 => ?_)
  refine wp_aload_n dX9_init_355 rfl ?_
  refine wp_sipush (v := 540) dX9_init_356 (by decide) ?_
  refine wp_fld (y := 46) (c := 246) (t := .int) hI40 (by decide) (hl 246 (by decide)) (fun j => by simp only [up2]; simp [hz]) (by decide) (by decide) rfl (by decide) (by decide) (by decide) ac_int rfl rfl dX9_init_359 dX9_init_361 fl_X9_141 (Or.inr ⟨rfl, rfl⟩) (fun _ => rfl) rfl (fun _ => rfl) (fun lv41 fr41 hI41 => ?_)
  refine wp_aload_n dX9_init_364 rfl ?_
  refine wp_sipush (v := 540) dX9_init_365 (by decide) ?_
  refine wp_fld (y := 47) (c := 247) (t := .int) hI41 (by decide) (hl 247 (by decide)) (fun j => by simp only [up2]; simp [hz]) (by decide) (by decide) rfl (by decide) (by decide) (by decide) ac_int rfl rfl dX9_init_368 dX9_init_370 fl_X9_144 (Or.inr ⟨rfl, rfl⟩) (fun _ => rfl) rfl (fun _ => rfl) (fun lv42 fr42 hI42 => ?_)
  refine wp_aload_n dX9_init_373 rfl ?_
  refine wp_sipush (v := 540) dX9_init_374 (by decide) ?_
  refine wp_fld (y := 48) (c := 248) (t := .int) hI42 (by decide) (hl 248 (by decide)) (fun j => by simp only [up2]; simp [hz]) (by decide) (by decide) rfl (by decide) (by decide) (by decide) ac_int rfl rfl dX9_init_377 dX9_init_379 fl_X9_147 (Or.inr ⟨rfl, rfl⟩) (fun _ => rfl) rfl (fun _ => rfl) (fun lv43 fr43 hI43 => ?_)
  refine wp_aload_n dX9_init_382 rfl ?_
  refine wp_sipush (v := 540) dX9_init_383 (by decide) ?_
  refine wp_fld (y := 49) (c := 249) (t := .int) hI43 (by decide) (hl 249 (by decide)) (fun j => by simp only [up2]; simp [hz]) (by decide) (by decide) rfl (by decide) (by decide) (by decide) ac_int rfl rfl dX9_init_386 dX9_init_388 fl_X9_150 (Or.inr ⟨rfl, rfl⟩) (fun _ => rfl) rfl (fun _ => rfl) (fun lv44 fr44 hI44 => ?_)
  refine wp_aload_n dX9_init_391 rfl ?_
  refine wp_sipush (v := 540) dX9_init_392 (by decide) ?_
  refine wp_fld (y := 50) (c := 250) (t := .int) hI44 (by decide) (hl 250 (by decide)) (fun j => by simp only [up2]; simp [hz]) (by decide) (by decide) rfl (by decide) (by decide) (by decide) ac_int rfl rfl dX9_init_395 dX9_init_397 fl_X9_153 (Or.inr ⟨rfl, rfl⟩) (fun _ => rfl) rfl (fun _ => rfl) (fun lv45 fr45 hI45 => ?_)
  refine wp_aload_n dX9_init_400 rfl ?_
  refine wp_bipush (v := 40) dX9_init_401 (by decide) ?_
  refine wp_fld (y := 52) (c := 252) (t := .int) hI45 (by decide) (hl 252 (by decide)) (fun j => by simp only [up2]; simp [hz]) (by decide) (by decide) rfl (by decide) (by decide) (by decide) ac_int rfl rfl dX9_init_403 dX9_init_405 fl_X9_156 (Or.inr ⟨rfl, rfl⟩) (fun _ => rfl) rfl (fun _ => rfl) (fun lv46 fr46 hI46 => ?_)
  refine wp_aload_n dX9_init_408 rfl ?_
  refine wp_bipush (v := 40) dX9_init_409 (by decide) ?_
  refine wp_fld (y := 53) (c := 253) (t := .boolean) hI46 (by decide) (hl 253 (by decide)) (fun j => by simp only [up2]; simp [hz]) (by decide) (by decide) rfl (by decide) (by decide) (by decide) ac_boolean rfl rfl dX9_init_411 dX9_init_413 fl_X9_159 (Or.inr ⟨rfl, rfl⟩) (fun _ => rfl) rfl (fun _ => rfl) (fun lv47 fr47 hI47 => ?_)
  refine wp_aload_n dX9_init_416 rfl ?_
  refine wp_bipush (v := 40) dX9_init_417 (by decide) ?_
  refine wp_fld (y := 54) (c := 254) (t := .int) hI47 (by decide) (hl 254 (by decide)) (fun j => by simp only [up2]; simp [hz]) (by decide) (by decide) rfl (by decide) (by decide) (by decide) ac_int rfl rfl dX9_init_419 dX9_init_421 fl_X9_162 (Or.inr ⟨rfl, rfl⟩) (fun _ => rfl) rfl (fun _ => rfl) (fun lv48 fr48 hI48 => ?_)
  refine wp_aload_n dX9_init_424 rfl ?_
  refine wp_bipush (v := 40) dX9_init_425 (by decide) ?_
  refine wp_fld (y := 55) (c := 255) (t := .int) hI48 (by decide) (hl 255 (by decide)) (fun j => by simp only [up2]; simp [hz]) (by decide) (by decide) rfl (by decide) (by decide) (by decide) ac_int rfl rfl dX9_init_427 dX9_init_429 fl_X9_165 (Or.inr ⟨rfl, rfl⟩) (fun _ => rfl) rfl (fun _ => rfl) (fun lv49 fr49 hI49 => ?_)
  refine wp_aload_n dX9_init_432 rfl ?_
  refine wp_bipush (v := 40) dX9_init_433 (by decide) ?_
  refine wp_fld (y := 56) (c := 256) (t := .int) hI49 (by decide) (hl 256 (by decide)) (fun j => by simp only [up2]; simp [hz]) (by decide) (by decide) rfl (by decide) (by decide) (by decide) ac_int rfl rfl dX9_init_435 dX9_init_437 fl_X9_168 (Or.inr ⟨rfl, rfl⟩) (fun _ => rfl) rfl (fun _ => rfl) (fun lv50 fr50 hI50 => ?_)
  refine wp_aload_n dX9_init_440 rfl ?_
  refine wp_bipush (v := 40) dX9_init_441 (by decide) ?_
  refine wp_fld (y := 57) (c := 257) (t := .int) hI50 (by decide) (hl 257 (by decide)) (fun j => by simp only [up2]; simp [hz]) (by decide) (by decide) rfl (by decide) (by decide) (by decide) ac_int rfl rfl dX9_init_443 dX9_init_445 fl_X9_171 (Or.inr ⟨rfl, rfl⟩) (fun _ => rfl) rfl (fun _ => rfl) (fun lv51 fr51 hI51 => ?_)
  refine wp_aload_n dX9_init_448 rfl ?_
  refine wp_bipush (v := 40) dX9_init_449 (by decide) ?_
  refine wp_fld (y := 58) (c := 258) (t := .boolean) hI51 (by decide) (hl 258 (by decide)) (fun j => by simp only [up2]; simp [hz]) (by decide) (by decide) rfl (by decide) (by decide) (by decide) ac_boolean rfl rfl dX9_init_451 dX9_init_453 fl_X9_174 (Or.inr ⟨rfl, rfl⟩) (fun _ => rfl) rfl (fun _ => rfl) (fun lv52 fr52 hI52 => ?_)
  refine wp_aload_n dX9_init_456 rfl ?_
  refine wp_bipush (v := 100) dX9_init_457 (by decide) ?_
  refine wp_fld (y := 61) (c := 261) (t := .int) hI52 (by decide) (hl 261 (by decide)) (fun j => by simp only [up2]; simp [hz]) (by decide) (by decide) rfl (by decide) (by decide) (by decide) ac_int rfl rfl dX9_init_459 dX9_init_461 fl_X9_177 (Or.inr ⟨rfl, rfl⟩) (fun _ => rfl) rfl (fun _ => rfl) (fun lv53 fr53 hI53 => ?_)
  refine wp_aload_n dX9_init_464 rfl ?_
  refine wp_bipush (v := 100) dX9_init_465 (by decide) ?_
  refine wp_fld (y := 62) (c := 262) (t := .int) hI53 (by decide) (hl 262 (by decide)) (fun j => by simp only [up2]; simp [hz]) (by decide) (by decide) rfl (by decide) (by decide) (by decide) ac_int rfl rfl dX9_init_467 dX9_init_469 fl_X9_180 (Or.inr ⟨rfl, rfl⟩) (fun _ => rfl) rfl (fun _ => rfl) (fun lv54 fr54 hI54 => ?_)
  refine wp_aload_n dX9_init_472 rfl ?_
  refine wp_bipush (v := 100) dX9_init_473 (by decide) ?_
  refine wp_fld (y := 63) (c := 263) (t := .boolean) hI54 (by decide) (hl 263 (by decide)) (fun j => by simp only [up2]; simp [hz]) (by decide) (by decide) rfl (by decide) (by decide) (by decide) ac_boolean rfl rfl dX9_init_475 dX9_init_477 fl_X9_183 (Or.inr ⟨rfl, rfl⟩) (fun _ => rfl) rfl (fun _ => rfl) (fun lv55 fr55 hI55 => ?_)
  refine wp_iconst (v := 0) dX9_init_480 (by decide) ?_
  refine wp_istore_n (L' := [some (vR 9 0), some (vI (0))]) dX9_init_481 rfl rfl ?_
  exact WP.mono (w9_init_482 (RA_of hI55) FU h) (fun r' S' z => ⟨z.1, lv55, fr55, hI55, z.2⟩) (fun _ _ z => z)
end I9
