section S8
variable {out : Int64} {rho : RH}
def l8_X8_choose_24 : Nat → Nat → Nat → Int32 → (Option Nat) → Int32 → Int32 → CM → CR (Option Nat)
  | 0, _, _, _, _, _, _, _ => none
  | n + 1, i0, i1, x2, o3, x4, x5, m =>
  od (gR m 1031 i0) fun j1 =>
  if (nI (gL m 50 j1).length) ≤ x5 then
    some (o3, m, 0)
  else
    if ¬ x5 < 0 then
    od ((gL m 50 j1)[(x5).toNatClampNeg]?) fun j5 =>
    if (gI m 513 j5) = (gI m 897 i1) then
      cb (f8_X8_canChoose i0 ((gI m 896 i1)) (j5) m) fun r8 m9 =>
      if r8 = 0 then
        l8_X8_choose_24 n (i0) (i1) (x2) (o3) (x4) (x5 + 1) m9
      else
        cb (f8_X4_burdenFor j5 ((gI m9 896 i1)) ((gI m9 900 i1)) m9) fun r15 m16 =>
        if x2 = (-1) then
          cb (f8_X7_hasTried i1 (j5) m16) fun r22 m23 =>
          if r22 = 0 then
            if o3 = none then
              l8_X8_choose_24 n (i0) (i1) (x2) (some (j5)) (r15) (x5 + 1) m23
            else
              if x4 ≤ r15 then
                l8_X8_choose_24 n (i0) (i1) (x2) (o3) (x4) (x5 + 1) m23
              else
                l8_X8_choose_24 n (i0) (i1) (x2) (some (j5)) (r15) (x5 + 1) m23
          else
            if o3 = none then
              l8_X8_choose_24 n (i0) (i1) (x2) (some (j5)) ((r15 + 2000000)) (x5 + 1) m23
            else
              if x4 ≤ (r15 + 2000000) then
                l8_X8_choose_24 n (i0) (i1) (x2) (o3) (x4) (x5 + 1) m23
              else
                l8_X8_choose_24 n (i0) (i1) (x2) (some (j5)) ((r15 + 2000000)) (x5 + 1) m23
        else
          if (gI m16 518 j5) = x2 then
            cb (f8_X7_hasTried i1 (j5) m16) fun r34 m35 =>
            if r34 = 0 then
              if o3 = none then
                l8_X8_choose_24 n (i0) (i1) (x2) (some (j5)) (r15) (x5 + 1) m35
              else
                if x4 ≤ r15 then
                  l8_X8_choose_24 n (i0) (i1) (x2) (o3) (x4) (x5 + 1) m35
                else
                  l8_X8_choose_24 n (i0) (i1) (x2) (some (j5)) (r15) (x5 + 1) m35
            else
              if o3 = none then
                l8_X8_choose_24 n (i0) (i1) (x2) (some (j5)) ((r15 + 2000000)) (x5 + 1) m35
              else
                if x4 ≤ (r15 + 2000000) then
                  l8_X8_choose_24 n (i0) (i1) (x2) (o3) (x4) (x5 + 1) m35
                else
                  l8_X8_choose_24 n (i0) (i1) (x2) (some (j5)) ((r15 + 2000000)) (x5 + 1) m35
          else
            cb (f8_X7_hasTried i1 (j5) m16) fun r45 m46 =>
            if r45 = 0 then
              if o3 = none then
                l8_X8_choose_24 n (i0) (i1) (x2) (some (j5)) ((r15 + 1000000)) (x5 + 1) m46
              else
                if x4 ≤ (r15 + 1000000) then
                  l8_X8_choose_24 n (i0) (i1) (x2) (o3) (x4) (x5 + 1) m46
                else
                  l8_X8_choose_24 n (i0) (i1) (x2) (some (j5)) ((r15 + 1000000)) (x5 + 1) m46
            else
              if o3 = none then
                l8_X8_choose_24 n (i0) (i1) (x2) (some (j5)) (((r15 + 1000000) + 2000000)) (x5 + 1) m46
              else
                if x4 ≤ ((r15 + 1000000) + 2000000) then
                  l8_X8_choose_24 n (i0) (i1) (x2) (o3) (x4) (x5 + 1) m46
                else
                  l8_X8_choose_24 n (i0) (i1) (x2) (some (j5)) (((r15 + 1000000) + 2000000)) (x5 + 1) m46
    else
      l8_X8_choose_24 n (i0) (i1) (x2) (o3) (x4) (x5 + 1) m
    else none
theorem w8_X8_choose_24 {r : Option Nat} {m9 : CM} : ∀ (n : Nat) {i0 : Nat} {i1 : Nat} {x2 : Int32} {o3 : Option Nat} {x4 : Int32} {x5 : Int32} {l6 : Option sV} {l7 : Option sV} {m : CM} {n9 : Nat}, l8_X8_choose_24 n i0 i1 x2 o3 x4 x5 m = some (r, m9, n9) → WP mX8_choose (10) n9 24 [some (vR 8 (i0)), some (vR 7 (i1)), some (vI (x2)), some (vO 4 (o3)), some (vI (x4)), some (vI (x5)), l6, l7] [] (cM m out rho) (Pc out rho (some (vO 4 r)) m9) NX := by
  intro n
  induction n with
  | zero =>
    intro i0 i1 x2 o3 x4 x5 l6 l7 m n9 h
    rw [l8_X8_choose_24] at h
    cases h
  | succ n ih =>
    intro i0 i1 x2 o3 x4 x5 l6 l7 m n9 h
    rw [l8_X8_choose_24] at h
    refine wp_iload dX8_choose_24 rfl ?_
    refine wp_aload_n dX8_choose_26 rfl ?_
    obtain ⟨j1, ho2, h⟩ := od_e h
    refine cp_getS (y := 7) (f := 1031) (t := 50) (by decide) (by decide) rfl rfl fl_X8_39 dX8_choose_27 ho2 ?_
    refine cp_size (c := 50) rfl (by decide) ml_X8_82 dX8_choose_30 (Nat.le_of_ble_eq_true rfl) ?_
    refine wp_icmp_ge (tgt := 156) dX8_choose_33 (by decide) (fun c3 => ?_) (fun c3 => ?_)
    · replace h := itp c3 h
      refine wp_aload_n dX8_choose_156 rfl ?_
      obtain ⟨q1, q2, q3⟩ := cs_e h
      subst q1
      subst q2
      exact wp_areturn rfl dX8_choose_157 ⟨rfl, rfl⟩
    · replace h := itn c3 h
      refine wp_aload_n dX8_choose_36 rfl ?_
      refine cp_getS (y := 7) (f := 1031) (t := 50) (by decide) (by decide) rfl rfl fl_X8_39 dX8_choose_37 ho2 ?_
      refine wp_iload dX8_choose_40 rfl ?_
      obtain ⟨c4, h⟩ := ock h
      obtain ⟨j5, ho6, h⟩ := od_e h
      refine cp_get (c := 50) (t := 4) rfl rfl (by decide) c4 ho6 ml_X8_98 dX8_choose_42 (Nat.le_of_ble_eq_true rfl) ?_
      refine cp_cast (c := 4) (by decide) kl_X8_86 dX8_choose_45 ?_
      refine wp_astore (L' := [some (vR 8 (i0)), some (vR 7 (i1)), some (vI (x2)), some (vO 4 (o3)), some (vI (x4)), some (vI (x5)), some (vR 4 (j5)), l7]) dX8_choose_48 rfl rfl ?_
      refine wp_aload dX8_choose_50 rfl ?_
      refine cp_getI (y := 1) (f := 513) (by decide) (by decide) rfl rfl fl_X8_430 dX8_choose_52 ?_
      refine wp_aload_n dX8_choose_55 rfl ?_
      refine cp_getI (y := 1) (f := 897) (by decide) (by decide) rfl rfl fl_X8_210 dX8_choose_56 ?_
      refine wp_icmp_ne (tgt := 150) dX8_choose_59 (by decide) (fun c7 => ?_) (fun c7 => ?_)
      · replace h := itn c7 h
        refine wp_iinc (v := x5 + 1) (L' := [some (vR 8 (i0)), some (vR 7 (i1)), some (vI (x2)), some (vO 4 (o3)), some (vI (x4)), some (vI (x5 + 1)), some (vR 4 (j5)), l7]) dX8_choose_150 rfl rfl rfl ?_
        refine wp_goto (tgt := 24) dX8_choose_153 (by decide) ?_
        exact ih h
      · replace h := itp c7 h
        refine wp_aload_n dX8_choose_62 rfl ?_
        refine wp_aload_n dX8_choose_63 rfl ?_
        refine cp_getI (y := 0) (f := 896) (by decide) (by decide) rfl rfl fl_X8_273 dX8_choose_64 ?_
        refine wp_aload dX8_choose_67 rfl ?_
        obtain ⟨r8, m9, n10, n11, hp12, h, en13⟩ := cb_e h
        refine wp_callV (k1 := n10) (k2 := n11) (As := [vI ((gI m 896 i1)), vR 4 (j5)]) (rest := []) (w8_X8_canChoose hp12) okX8_canChoose ivX8_canChoose rfl (by decide) ml_X8_433 dX8_choose_69 rfl (by decide) (Nat.le_of_eq en13) rfl (Nat.le_of_ble_eq_true rfl) (fun _ _ z => z.elim) (fun r' S' z => ?_)
        obtain ⟨rfl, rfl⟩ := z
        show WP _ _ _ _ [some (vR 8 (i0)), some (vR 7 (i1)), some (vI (x2)), some (vO 4 (o3)), some (vI (x4)), some (vI (x5)), some (vR 4 (j5)), l7] [vI (r8)] _ _ _
        refine wp_if_ne (tgt := 78) dX8_choose_72 (by decide) (fun c14 => ?_) (fun c14 => ?_)
        · replace h := itn c14 h
          refine wp_aload dX8_choose_78 rfl ?_
          refine wp_aload_n dX8_choose_80 rfl ?_
          refine cp_getI (y := 0) (f := 896) (by decide) (by decide) rfl rfl fl_X8_273 dX8_choose_81 ?_
          refine wp_aload_n dX8_choose_84 rfl ?_
          refine cp_getI (y := 4) (f := 900) (by decide) (by decide) rfl rfl fl_X8_322 dX8_choose_85 ?_
          obtain ⟨r15, m16, n17, n18, hp19, h, en20⟩ := cb_e h
          refine wp_callV (k1 := n17) (k2 := n18) (As := [vI ((gI m9 896 i1)), vI ((gI m9 900 i1))]) (rest := []) (w8_X4_burdenFor hp19) okX4_burdenFor ivX4_burdenFor rfl (by decide) ml_X8_437 dX8_choose_88 rfl (by decide) (Nat.le_of_eq en20) rfl (Nat.le_of_ble_eq_true rfl) (fun _ _ z => z.elim) (fun r' S' z => ?_)
          obtain ⟨rfl, rfl⟩ := z
          show WP _ _ _ _ [some (vR 8 (i0)), some (vR 7 (i1)), some (vI (x2)), some (vO 4 (o3)), some (vI (x4)), some (vI (x5)), some (vR 4 (j5)), l7] [vI (r15)] _ _ _
          refine wp_istore (L' := [some (vR 8 (i0)), some (vR 7 (i1)), some (vI (x2)), some (vO 4 (o3)), some (vI (x4)), some (vI (x5)), some (vR 4 (j5)), some (vI (r15))]) dX8_choose_91 rfl rfl ?_
          refine wp_iload_n dX8_choose_93 rfl ?_
          refine wp_iconst (v := (-1)) dX8_choose_94 (by decide) ?_
          refine wp_icmp_eq (tgt := 115) dX8_choose_95 (by decide) (fun c21 => ?_) (fun c21 => ?_)
          · replace h := itp c21 h
            refine wp_aload_n dX8_choose_115 rfl ?_
            refine wp_aload dX8_choose_116 rfl ?_
            obtain ⟨r22, m23, n24, n25, hp26, h, en27⟩ := cb_e h
            refine wp_callV (k1 := n24) (k2 := n25) (As := [vR 4 (j5)]) (rest := []) (w8_X7_hasTried hp26) okX7_hasTried ivX7_hasTried rfl (by decide) ml_X8_441 dX8_choose_118 rfl (by decide) (Nat.le_of_eq en27) rfl (Nat.le_of_ble_eq_true rfl) (fun _ _ z => z.elim) (fun r' S' z => ?_)
            obtain ⟨rfl, rfl⟩ := z
            show WP _ _ _ _ [some (vR 8 (i0)), some (vR 7 (i1)), some (vI (x2)), some (vO 4 (o3)), some (vI (x4)), some (vI (x5)), some (vR 4 (j5)), some (vI (r15))] [vI (r22)] _ _ _
            refine wp_if_eq (tgt := 132) dX8_choose_121 (by decide) (fun c28 => ?_) (fun c28 => ?_)
            · replace h := itp c28 h
              refine wp_aload_n dX8_choose_132 rfl ?_
              refine cp_ifnull (o := o3) (tgt := 143) dX8_choose_133 (by decide) (fun c29 => ?_) (fun c29 => ?_)
              · replace h := itp c29 h
                refine wp_aload dX8_choose_143 rfl ?_
                refine wp_astore_n (L' := [some (vR 8 (i0)), some (vR 7 (i1)), some (vI (x2)), some (vR 4 (j5)), some (vI (x4)), some (vI (x5)), some (vR 4 (j5)), some (vI (r15))]) dX8_choose_145 rfl rfl ?_
                refine wp_iload dX8_choose_146 rfl ?_
                refine wp_istore (L' := [some (vR 8 (i0)), some (vR 7 (i1)), some (vI (x2)), some (vR 4 (j5)), some (vI (r15)), some (vI (x5)), some (vR 4 (j5)), some (vI (r15))]) dX8_choose_148 rfl rfl ?_
                refine wp_iinc (v := x5 + 1) (L' := [some (vR 8 (i0)), some (vR 7 (i1)), some (vI (x2)), some (vR 4 (j5)), some (vI (r15)), some (vI (x5 + 1)), some (vR 4 (j5)), some (vI (r15))]) dX8_choose_150 rfl rfl rfl ?_
                refine wp_goto (tgt := 24) dX8_choose_153 (by decide) ?_
                exact ih h
              · replace h := itn c29 h
                refine wp_iload dX8_choose_136 rfl ?_
                refine wp_iload dX8_choose_138 rfl ?_
                refine wp_icmp_ge (tgt := 150) dX8_choose_140 (by decide) (fun c30 => ?_) (fun c30 => ?_)
                · replace h := itp c30 h
                  refine wp_iinc (v := x5 + 1) (L' := [some (vR 8 (i0)), some (vR 7 (i1)), some (vI (x2)), some (vO 4 (o3)), some (vI (x4)), some (vI (x5 + 1)), some (vR 4 (j5)), some (vI (r15))]) dX8_choose_150 rfl rfl rfl ?_
                  refine wp_goto (tgt := 24) dX8_choose_153 (by decide) ?_
                  exact ih h
                · replace h := itn c30 h
                  refine wp_aload dX8_choose_143 rfl ?_
                  refine wp_astore_n (L' := [some (vR 8 (i0)), some (vR 7 (i1)), some (vI (x2)), some (vR 4 (j5)), some (vI (x4)), some (vI (x5)), some (vR 4 (j5)), some (vI (r15))]) dX8_choose_145 rfl rfl ?_
                  refine wp_iload dX8_choose_146 rfl ?_
                  refine wp_istore (L' := [some (vR 8 (i0)), some (vR 7 (i1)), some (vI (x2)), some (vR 4 (j5)), some (vI (r15)), some (vI (x5)), some (vR 4 (j5)), some (vI (r15))]) dX8_choose_148 rfl rfl ?_
                  refine wp_iinc (v := x5 + 1) (L' := [some (vR 8 (i0)), some (vR 7 (i1)), some (vI (x2)), some (vR 4 (j5)), some (vI (r15)), some (vI (x5 + 1)), some (vR 4 (j5)), some (vI (r15))]) dX8_choose_150 rfl rfl rfl ?_
                  refine wp_goto (tgt := 24) dX8_choose_153 (by decide) ?_
                  exact ih h
            · replace h := itn c28 h
              refine wp_iload dX8_choose_124 rfl ?_
              refine wp_ldcw ct_X8_445 dX8_choose_126 ?_
              refine wp_iadd dX8_choose_129 ?_
              refine wp_istore (L' := [some (vR 8 (i0)), some (vR 7 (i1)), some (vI (x2)), some (vO 4 (o3)), some (vI (x4)), some (vI (x5)), some (vR 4 (j5)), some (vI ((r15 + 2000000)))]) dX8_choose_130 rfl rfl ?_
              refine wp_aload_n dX8_choose_132 rfl ?_
              refine cp_ifnull (o := o3) (tgt := 143) dX8_choose_133 (by decide) (fun c31 => ?_) (fun c31 => ?_)
              · replace h := itp c31 h
                refine wp_aload dX8_choose_143 rfl ?_
                refine wp_astore_n (L' := [some (vR 8 (i0)), some (vR 7 (i1)), some (vI (x2)), some (vR 4 (j5)), some (vI (x4)), some (vI (x5)), some (vR 4 (j5)), some (vI ((r15 + 2000000)))]) dX8_choose_145 rfl rfl ?_
                refine wp_iload dX8_choose_146 rfl ?_
                refine wp_istore (L' := [some (vR 8 (i0)), some (vR 7 (i1)), some (vI (x2)), some (vR 4 (j5)), some (vI ((r15 + 2000000))), some (vI (x5)), some (vR 4 (j5)), some (vI ((r15 + 2000000)))]) dX8_choose_148 rfl rfl ?_
                refine wp_iinc (v := x5 + 1) (L' := [some (vR 8 (i0)), some (vR 7 (i1)), some (vI (x2)), some (vR 4 (j5)), some (vI ((r15 + 2000000))), some (vI (x5 + 1)), some (vR 4 (j5)), some (vI ((r15 + 2000000)))]) dX8_choose_150 rfl rfl rfl ?_
                refine wp_goto (tgt := 24) dX8_choose_153 (by decide) ?_
                exact ih h
              · replace h := itn c31 h
                refine wp_iload dX8_choose_136 rfl ?_
                refine wp_iload dX8_choose_138 rfl ?_
                refine wp_icmp_ge (tgt := 150) dX8_choose_140 (by decide) (fun c32 => ?_) (fun c32 => ?_)
                · replace h := itp c32 h
                  refine wp_iinc (v := x5 + 1) (L' := [some (vR 8 (i0)), some (vR 7 (i1)), some (vI (x2)), some (vO 4 (o3)), some (vI (x4)), some (vI (x5 + 1)), some (vR 4 (j5)), some (vI ((r15 + 2000000)))]) dX8_choose_150 rfl rfl rfl ?_
                  refine wp_goto (tgt := 24) dX8_choose_153 (by decide) ?_
                  exact ih h
                · replace h := itn c32 h
                  refine wp_aload dX8_choose_143 rfl ?_
                  refine wp_astore_n (L' := [some (vR 8 (i0)), some (vR 7 (i1)), some (vI (x2)), some (vR 4 (j5)), some (vI (x4)), some (vI (x5)), some (vR 4 (j5)), some (vI ((r15 + 2000000)))]) dX8_choose_145 rfl rfl ?_
                  refine wp_iload dX8_choose_146 rfl ?_
                  refine wp_istore (L' := [some (vR 8 (i0)), some (vR 7 (i1)), some (vI (x2)), some (vR 4 (j5)), some (vI ((r15 + 2000000))), some (vI (x5)), some (vR 4 (j5)), some (vI ((r15 + 2000000)))]) dX8_choose_148 rfl rfl ?_
                  refine wp_iinc (v := x5 + 1) (L' := [some (vR 8 (i0)), some (vR 7 (i1)), some (vI (x2)), some (vR 4 (j5)), some (vI ((r15 + 2000000))), some (vI (x5 + 1)), some (vR 4 (j5)), some (vI ((r15 + 2000000)))]) dX8_choose_150 rfl rfl rfl ?_
                  refine wp_goto (tgt := 24) dX8_choose_153 (by decide) ?_
                  exact ih h
          · replace h := itn c21 h
            refine wp_aload dX8_choose_98 rfl ?_
            refine cp_getI (y := 6) (f := 518) (by decide) (by decide) rfl rfl fl_X8_393 dX8_choose_100 ?_
            refine wp_iload_n dX8_choose_103 rfl ?_
            refine wp_icmp_eq (tgt := 115) dX8_choose_104 (by decide) (fun c33 => ?_) (fun c33 => ?_)
            · replace h := itp c33 h
              refine wp_aload_n dX8_choose_115 rfl ?_
              refine wp_aload dX8_choose_116 rfl ?_
              obtain ⟨r34, m35, n36, n37, hp38, h, en39⟩ := cb_e h
              refine wp_callV (k1 := n36) (k2 := n37) (As := [vR 4 (j5)]) (rest := []) (w8_X7_hasTried hp38) okX7_hasTried ivX7_hasTried rfl (by decide) ml_X8_441 dX8_choose_118 rfl (by decide) (Nat.le_of_eq en39) rfl (Nat.le_of_ble_eq_true rfl) (fun _ _ z => z.elim) (fun r' S' z => ?_)
              obtain ⟨rfl, rfl⟩ := z
              show WP _ _ _ _ [some (vR 8 (i0)), some (vR 7 (i1)), some (vI (x2)), some (vO 4 (o3)), some (vI (x4)), some (vI (x5)), some (vR 4 (j5)), some (vI (r15))] [vI (r34)] _ _ _
              refine wp_if_eq (tgt := 132) dX8_choose_121 (by decide) (fun c40 => ?_) (fun c40 => ?_)
              · replace h := itp c40 h
                refine wp_aload_n dX8_choose_132 rfl ?_
                refine cp_ifnull (o := o3) (tgt := 143) dX8_choose_133 (by decide) (fun c41 => ?_) (fun c41 => ?_)
                · replace h := itp c41 h
                  refine wp_aload dX8_choose_143 rfl ?_
                  refine wp_astore_n (L' := [some (vR 8 (i0)), some (vR 7 (i1)), some (vI (x2)), some (vR 4 (j5)), some (vI (x4)), some (vI (x5)), some (vR 4 (j5)), some (vI (r15))]) dX8_choose_145 rfl rfl ?_
                  refine wp_iload dX8_choose_146 rfl ?_
                  refine wp_istore (L' := [some (vR 8 (i0)), some (vR 7 (i1)), some (vI (x2)), some (vR 4 (j5)), some (vI (r15)), some (vI (x5)), some (vR 4 (j5)), some (vI (r15))]) dX8_choose_148 rfl rfl ?_
                  refine wp_iinc (v := x5 + 1) (L' := [some (vR 8 (i0)), some (vR 7 (i1)), some (vI (x2)), some (vR 4 (j5)), some (vI (r15)), some (vI (x5 + 1)), some (vR 4 (j5)), some (vI (r15))]) dX8_choose_150 rfl rfl rfl ?_
                  refine wp_goto (tgt := 24) dX8_choose_153 (by decide) ?_
                  exact ih h
                · replace h := itn c41 h
                  refine wp_iload dX8_choose_136 rfl ?_
                  refine wp_iload dX8_choose_138 rfl ?_
                  refine wp_icmp_ge (tgt := 150) dX8_choose_140 (by decide) (fun c42 => ?_) (fun c42 => ?_)
                  · replace h := itp c42 h
                    refine wp_iinc (v := x5 + 1) (L' := [some (vR 8 (i0)), some (vR 7 (i1)), some (vI (x2)), some (vO 4 (o3)), some (vI (x4)), some (vI (x5 + 1)), some (vR 4 (j5)), some (vI (r15))]) dX8_choose_150 rfl rfl rfl ?_
                    refine wp_goto (tgt := 24) dX8_choose_153 (by decide) ?_
                    exact ih h
                  · replace h := itn c42 h
                    refine wp_aload dX8_choose_143 rfl ?_
                    refine wp_astore_n (L' := [some (vR 8 (i0)), some (vR 7 (i1)), some (vI (x2)), some (vR 4 (j5)), some (vI (x4)), some (vI (x5)), some (vR 4 (j5)), some (vI (r15))]) dX8_choose_145 rfl rfl ?_
                    refine wp_iload dX8_choose_146 rfl ?_
                    refine wp_istore (L' := [some (vR 8 (i0)), some (vR 7 (i1)), some (vI (x2)), some (vR 4 (j5)), some (vI (r15)), some (vI (x5)), some (vR 4 (j5)), some (vI (r15))]) dX8_choose_148 rfl rfl ?_
                    refine wp_iinc (v := x5 + 1) (L' := [some (vR 8 (i0)), some (vR 7 (i1)), some (vI (x2)), some (vR 4 (j5)), some (vI (r15)), some (vI (x5 + 1)), some (vR 4 (j5)), some (vI (r15))]) dX8_choose_150 rfl rfl rfl ?_
                    refine wp_goto (tgt := 24) dX8_choose_153 (by decide) ?_
                    exact ih h
              · replace h := itn c40 h
                refine wp_iload dX8_choose_124 rfl ?_
                refine wp_ldcw ct_X8_445 dX8_choose_126 ?_
                refine wp_iadd dX8_choose_129 ?_
                refine wp_istore (L' := [some (vR 8 (i0)), some (vR 7 (i1)), some (vI (x2)), some (vO 4 (o3)), some (vI (x4)), some (vI (x5)), some (vR 4 (j5)), some (vI ((r15 + 2000000)))]) dX8_choose_130 rfl rfl ?_
                refine wp_aload_n dX8_choose_132 rfl ?_
                refine cp_ifnull (o := o3) (tgt := 143) dX8_choose_133 (by decide) (fun c43 => ?_) (fun c43 => ?_)
                · replace h := itp c43 h
                  refine wp_aload dX8_choose_143 rfl ?_
                  refine wp_astore_n (L' := [some (vR 8 (i0)), some (vR 7 (i1)), some (vI (x2)), some (vR 4 (j5)), some (vI (x4)), some (vI (x5)), some (vR 4 (j5)), some (vI ((r15 + 2000000)))]) dX8_choose_145 rfl rfl ?_
                  refine wp_iload dX8_choose_146 rfl ?_
                  refine wp_istore (L' := [some (vR 8 (i0)), some (vR 7 (i1)), some (vI (x2)), some (vR 4 (j5)), some (vI ((r15 + 2000000))), some (vI (x5)), some (vR 4 (j5)), some (vI ((r15 + 2000000)))]) dX8_choose_148 rfl rfl ?_
                  refine wp_iinc (v := x5 + 1) (L' := [some (vR 8 (i0)), some (vR 7 (i1)), some (vI (x2)), some (vR 4 (j5)), some (vI ((r15 + 2000000))), some (vI (x5 + 1)), some (vR 4 (j5)), some (vI ((r15 + 2000000)))]) dX8_choose_150 rfl rfl rfl ?_
                  refine wp_goto (tgt := 24) dX8_choose_153 (by decide) ?_
                  exact ih h
                · replace h := itn c43 h
                  refine wp_iload dX8_choose_136 rfl ?_
                  refine wp_iload dX8_choose_138 rfl ?_
                  refine wp_icmp_ge (tgt := 150) dX8_choose_140 (by decide) (fun c44 => ?_) (fun c44 => ?_)
                  · replace h := itp c44 h
                    refine wp_iinc (v := x5 + 1) (L' := [some (vR 8 (i0)), some (vR 7 (i1)), some (vI (x2)), some (vO 4 (o3)), some (vI (x4)), some (vI (x5 + 1)), some (vR 4 (j5)), some (vI ((r15 + 2000000)))]) dX8_choose_150 rfl rfl rfl ?_
                    refine wp_goto (tgt := 24) dX8_choose_153 (by decide) ?_
                    exact ih h
                  · replace h := itn c44 h
                    refine wp_aload dX8_choose_143 rfl ?_
                    refine wp_astore_n (L' := [some (vR 8 (i0)), some (vR 7 (i1)), some (vI (x2)), some (vR 4 (j5)), some (vI (x4)), some (vI (x5)), some (vR 4 (j5)), some (vI ((r15 + 2000000)))]) dX8_choose_145 rfl rfl ?_
                    refine wp_iload dX8_choose_146 rfl ?_
                    refine wp_istore (L' := [some (vR 8 (i0)), some (vR 7 (i1)), some (vI (x2)), some (vR 4 (j5)), some (vI ((r15 + 2000000))), some (vI (x5)), some (vR 4 (j5)), some (vI ((r15 + 2000000)))]) dX8_choose_148 rfl rfl ?_
                    refine wp_iinc (v := x5 + 1) (L' := [some (vR 8 (i0)), some (vR 7 (i1)), some (vI (x2)), some (vR 4 (j5)), some (vI ((r15 + 2000000))), some (vI (x5 + 1)), some (vR 4 (j5)), some (vI ((r15 + 2000000)))]) dX8_choose_150 rfl rfl rfl ?_
                    refine wp_goto (tgt := 24) dX8_choose_153 (by decide) ?_
                    exact ih h
            · replace h := itn c33 h
              refine wp_iload dX8_choose_107 rfl ?_
              refine wp_ldcw ct_X8_440 dX8_choose_109 ?_
              refine wp_iadd dX8_choose_112 ?_
              refine wp_istore (L' := [some (vR 8 (i0)), some (vR 7 (i1)), some (vI (x2)), some (vO 4 (o3)), some (vI (x4)), some (vI (x5)), some (vR 4 (j5)), some (vI ((r15 + 1000000)))]) dX8_choose_113 rfl rfl ?_
              refine wp_aload_n dX8_choose_115 rfl ?_
              refine wp_aload dX8_choose_116 rfl ?_
              obtain ⟨r45, m46, n47, n48, hp49, h, en50⟩ := cb_e h
              refine wp_callV (k1 := n47) (k2 := n48) (As := [vR 4 (j5)]) (rest := []) (w8_X7_hasTried hp49) okX7_hasTried ivX7_hasTried rfl (by decide) ml_X8_441 dX8_choose_118 rfl (by decide) (Nat.le_of_eq en50) rfl (Nat.le_of_ble_eq_true rfl) (fun _ _ z => z.elim) (fun r' S' z => ?_)
              obtain ⟨rfl, rfl⟩ := z
              show WP _ _ _ _ [some (vR 8 (i0)), some (vR 7 (i1)), some (vI (x2)), some (vO 4 (o3)), some (vI (x4)), some (vI (x5)), some (vR 4 (j5)), some (vI ((r15 + 1000000)))] [vI (r45)] _ _ _
              refine wp_if_eq (tgt := 132) dX8_choose_121 (by decide) (fun c51 => ?_) (fun c51 => ?_)
              · replace h := itp c51 h
                refine wp_aload_n dX8_choose_132 rfl ?_
                refine cp_ifnull (o := o3) (tgt := 143) dX8_choose_133 (by decide) (fun c52 => ?_) (fun c52 => ?_)
                · replace h := itp c52 h
                  refine wp_aload dX8_choose_143 rfl ?_
                  refine wp_astore_n (L' := [some (vR 8 (i0)), some (vR 7 (i1)), some (vI (x2)), some (vR 4 (j5)), some (vI (x4)), some (vI (x5)), some (vR 4 (j5)), some (vI ((r15 + 1000000)))]) dX8_choose_145 rfl rfl ?_
                  refine wp_iload dX8_choose_146 rfl ?_
                  refine wp_istore (L' := [some (vR 8 (i0)), some (vR 7 (i1)), some (vI (x2)), some (vR 4 (j5)), some (vI ((r15 + 1000000))), some (vI (x5)), some (vR 4 (j5)), some (vI ((r15 + 1000000)))]) dX8_choose_148 rfl rfl ?_
                  refine wp_iinc (v := x5 + 1) (L' := [some (vR 8 (i0)), some (vR 7 (i1)), some (vI (x2)), some (vR 4 (j5)), some (vI ((r15 + 1000000))), some (vI (x5 + 1)), some (vR 4 (j5)), some (vI ((r15 + 1000000)))]) dX8_choose_150 rfl rfl rfl ?_
                  refine wp_goto (tgt := 24) dX8_choose_153 (by decide) ?_
                  exact ih h
                · replace h := itn c52 h
                  refine wp_iload dX8_choose_136 rfl ?_
                  refine wp_iload dX8_choose_138 rfl ?_
                  refine wp_icmp_ge (tgt := 150) dX8_choose_140 (by decide) (fun c53 => ?_) (fun c53 => ?_)
                  · replace h := itp c53 h
                    refine wp_iinc (v := x5 + 1) (L' := [some (vR 8 (i0)), some (vR 7 (i1)), some (vI (x2)), some (vO 4 (o3)), some (vI (x4)), some (vI (x5 + 1)), some (vR 4 (j5)), some (vI ((r15 + 1000000)))]) dX8_choose_150 rfl rfl rfl ?_
                    refine wp_goto (tgt := 24) dX8_choose_153 (by decide) ?_
                    exact ih h
                  · replace h := itn c53 h
                    refine wp_aload dX8_choose_143 rfl ?_
                    refine wp_astore_n (L' := [some (vR 8 (i0)), some (vR 7 (i1)), some (vI (x2)), some (vR 4 (j5)), some (vI (x4)), some (vI (x5)), some (vR 4 (j5)), some (vI ((r15 + 1000000)))]) dX8_choose_145 rfl rfl ?_
                    refine wp_iload dX8_choose_146 rfl ?_
                    refine wp_istore (L' := [some (vR 8 (i0)), some (vR 7 (i1)), some (vI (x2)), some (vR 4 (j5)), some (vI ((r15 + 1000000))), some (vI (x5)), some (vR 4 (j5)), some (vI ((r15 + 1000000)))]) dX8_choose_148 rfl rfl ?_
                    refine wp_iinc (v := x5 + 1) (L' := [some (vR 8 (i0)), some (vR 7 (i1)), some (vI (x2)), some (vR 4 (j5)), some (vI ((r15 + 1000000))), some (vI (x5 + 1)), some (vR 4 (j5)), some (vI ((r15 + 1000000)))]) dX8_choose_150 rfl rfl rfl ?_
                    refine wp_goto (tgt := 24) dX8_choose_153 (by decide) ?_
                    exact ih h
              · replace h := itn c51 h
                refine wp_iload dX8_choose_124 rfl ?_
                refine wp_ldcw ct_X8_445 dX8_choose_126 ?_
                refine wp_iadd dX8_choose_129 ?_
                refine wp_istore (L' := [some (vR 8 (i0)), some (vR 7 (i1)), some (vI (x2)), some (vO 4 (o3)), some (vI (x4)), some (vI (x5)), some (vR 4 (j5)), some (vI (((r15 + 1000000) + 2000000)))]) dX8_choose_130 rfl rfl ?_
                refine wp_aload_n dX8_choose_132 rfl ?_
                refine cp_ifnull (o := o3) (tgt := 143) dX8_choose_133 (by decide) (fun c54 => ?_) (fun c54 => ?_)
                · replace h := itp c54 h
                  refine wp_aload dX8_choose_143 rfl ?_
                  refine wp_astore_n (L' := [some (vR 8 (i0)), some (vR 7 (i1)), some (vI (x2)), some (vR 4 (j5)), some (vI (x4)), some (vI (x5)), some (vR 4 (j5)), some (vI (((r15 + 1000000) + 2000000)))]) dX8_choose_145 rfl rfl ?_
                  refine wp_iload dX8_choose_146 rfl ?_
                  refine wp_istore (L' := [some (vR 8 (i0)), some (vR 7 (i1)), some (vI (x2)), some (vR 4 (j5)), some (vI (((r15 + 1000000) + 2000000))), some (vI (x5)), some (vR 4 (j5)), some (vI (((r15 + 1000000) + 2000000)))]) dX8_choose_148 rfl rfl ?_
                  refine wp_iinc (v := x5 + 1) (L' := [some (vR 8 (i0)), some (vR 7 (i1)), some (vI (x2)), some (vR 4 (j5)), some (vI (((r15 + 1000000) + 2000000))), some (vI (x5 + 1)), some (vR 4 (j5)), some (vI (((r15 + 1000000) + 2000000)))]) dX8_choose_150 rfl rfl rfl ?_
                  refine wp_goto (tgt := 24) dX8_choose_153 (by decide) ?_
                  exact ih h
                · replace h := itn c54 h
                  refine wp_iload dX8_choose_136 rfl ?_
                  refine wp_iload dX8_choose_138 rfl ?_
                  refine wp_icmp_ge (tgt := 150) dX8_choose_140 (by decide) (fun c55 => ?_) (fun c55 => ?_)
                  · replace h := itp c55 h
                    refine wp_iinc (v := x5 + 1) (L' := [some (vR 8 (i0)), some (vR 7 (i1)), some (vI (x2)), some (vO 4 (o3)), some (vI (x4)), some (vI (x5 + 1)), some (vR 4 (j5)), some (vI (((r15 + 1000000) + 2000000)))]) dX8_choose_150 rfl rfl rfl ?_
                    refine wp_goto (tgt := 24) dX8_choose_153 (by decide) ?_
                    exact ih h
                  · replace h := itn c55 h
                    refine wp_aload dX8_choose_143 rfl ?_
                    refine wp_astore_n (L' := [some (vR 8 (i0)), some (vR 7 (i1)), some (vI (x2)), some (vR 4 (j5)), some (vI (x4)), some (vI (x5)), some (vR 4 (j5)), some (vI (((r15 + 1000000) + 2000000)))]) dX8_choose_145 rfl rfl ?_
                    refine wp_iload dX8_choose_146 rfl ?_
                    refine wp_istore (L' := [some (vR 8 (i0)), some (vR 7 (i1)), some (vI (x2)), some (vR 4 (j5)), some (vI (((r15 + 1000000) + 2000000))), some (vI (x5)), some (vR 4 (j5)), some (vI (((r15 + 1000000) + 2000000)))]) dX8_choose_148 rfl rfl ?_
                    refine wp_iinc (v := x5 + 1) (L' := [some (vR 8 (i0)), some (vR 7 (i1)), some (vI (x2)), some (vR 4 (j5)), some (vI (((r15 + 1000000) + 2000000))), some (vI (x5 + 1)), some (vR 4 (j5)), some (vI (((r15 + 1000000) + 2000000)))]) dX8_choose_150 rfl rfl rfl ?_
                    refine wp_goto (tgt := 24) dX8_choose_153 (by decide) ?_
                    exact ih h
        · replace h := itp c14 h
          refine wp_goto (tgt := 150) dX8_choose_75 (by decide) ?_
          refine wp_iinc (v := x5 + 1) (L' := [some (vR 8 (i0)), some (vR 7 (i1)), some (vI (x2)), some (vO 4 (o3)), some (vI (x4)), some (vI (x5 + 1)), some (vR 4 (j5)), l7]) dX8_choose_150 rfl rfl rfl ?_
          refine wp_goto (tgt := 24) dX8_choose_153 (by decide) ?_
          exact ih h
def f8_X8_choose (i0 : Nat) (i1 : Nat) (m : CM) : CR (Option Nat) :=
  od (gR m 1029 i0) fun j1 =>
  if vq ((gI m 897 i1)) 6 then
  od (gO m 41 j1 ((gI m 897 i1)).toNatClampNeg) fun j4 =>
  od (gR m 773 j4) fun j6 =>
  cb (f8_X3_nextVersion j6 m) fun r8 m9 =>
  l8_X8_choose_24 FU (i0) (i1) (r8) none (0) (0) m9
  else none
theorem w8_X8_choose {r : Option Nat} {m9 : CM} {i0 : Nat} {i1 : Nat} {m : CM} {n9 : Nat} (h : f8_X8_choose i0 i1 m = some (r, m9, n9)) : Spec mX8_choose (10) n9 [vR 8 (i0), vR 7 (i1)] (cM m out rho) (Pc out rho (some (vO 4 r)) m9) NX := by
  unfold f8_X8_choose at h
  refine spec_of (by decide) rfl (by simp [catS, cat1]) (Nat.le_of_ble_eq_true rfl) ?_
  show WP mX8_choose (10) n9 0 [some (vR 8 (i0)), some (vR 7 (i1)), none, none, none, none, none, none] [] (cM m out rho) (Pc out rho (some (vO 4 r)) m9) NX
  refine wp_aload_n dX8_choose_0 rfl ?_
  obtain ⟨j1, ho2, h⟩ := od_e h
  refine cp_getS (y := 5) (f := 1029) (t := 41) (by decide) (by decide) rfl rfl fl_X8_26 dX8_choose_1 ho2 ?_
  refine wp_aload_n dX8_choose_4 rfl ?_
  refine cp_getI (y := 1) (f := 897) (by decide) (by decide) rfl rfl fl_X8_210 dX8_choose_5 ?_
  obtain ⟨c3, h⟩ := ock h
  obtain ⟨j4, ho5, h⟩ := od_e h
  refine cp_aald (c := 41) (t := 6) rfl (by decide) rfl (show vp_in ((gI m 897 i1)) (len 41) from c3) dX8_choose_8 ho5 ?_
  obtain ⟨j6, ho7, h⟩ := od_e h
  refine cp_getS (y := 5) (f := 773) (t := 3) (by decide) (by decide) rfl rfl fl_X8_119 dX8_choose_9 ho7 ?_
  obtain ⟨r8, m9, n10, n11, hp12, h, en13⟩ := cb_e h
  refine wp_callV (k1 := n10) (k2 := n11) (As := []) (rest := []) (w8_X3_nextVersion hp12) okX3_nextVersion ivX3_nextVersion rfl (by decide) ml_X8_427 dX8_choose_12 rfl (by decide) (Nat.le_of_eq en13) rfl (Nat.le_of_ble_eq_true rfl) (fun _ _ z => z.elim) (fun r' S' z => ?_)
  obtain ⟨rfl, rfl⟩ := z
  show WP _ _ _ _ [some (vR 8 (i0)), some (vR 7 (i1)), none, none, none, none, none, none] [vI (r8)] _ _ _
  refine wp_istore_n (L' := [some (vR 8 (i0)), some (vR 7 (i1)), some (vI (r8)), none, none, none, none, none]) dX8_choose_15 rfl rfl ?_
  refine wp_null dX8_choose_16 ?_
  refine wp_astore_n (L' := [some (vR 8 (i0)), some (vR 7 (i1)), some (vI (r8)), some (vN), none, none, none, none]) dX8_choose_17 rfl rfl ?_
  refine wp_iconst (v := 0) dX8_choose_18 (by decide) ?_
  refine wp_istore (L' := [some (vR 8 (i0)), some (vR 7 (i1)), some (vI (r8)), some (vN), some (vI (0)), none, none, none]) dX8_choose_19 rfl rfl ?_
  refine wp_iconst (v := 0) dX8_choose_21 (by decide) ?_
  refine wp_istore (L' := [some (vR 8 (i0)), some (vR 7 (i1)), some (vI (r8)), some (vN), some (vI (0)), some (vI (0)), none, none]) dX8_choose_22 rfl rfl ?_
  exact w8_X8_choose_24 FU h
def f8_X8_policyOf (i0 : Nat) (i1 : Nat) (x2 : Int32) (m : CM) : CR (Int32) :=
  od (gR m 1028 i0) fun j1 =>
  if vq (x2) 3 then
  od (gO m 40 j1 (x2).toNatClampNeg) fun j4 =>
  cb (f8_X8_policyPlace ((gI m 896 i1)) ((gI m 897 i1)) m) fun r6 m7 =>
  if vq (r6) 49 then
  if (gA m7 37 j4 (r6).toNatClampNeg) = (-1) then
    cb (f8_X8_policyPlace ((-1)) ((gI m7 897 i1)) m7) fun r14 m15 =>
    if vq (r14) 49 then
    if (gA m15 37 j4 (r14).toNatClampNeg) = (-1) then
      cb (f8_X8_policyPlace ((-1)) ((-1)) m15) fun r22 m23 =>
      if vq (r22) 49 then
      if (gA m23 37 j4 (r22).toNatClampNeg) = (-1) then
        some ((polV 0 (x2).toNatClampNeg), m23, 0)
      else
        some ((gA m23 37 j4 (r22).toNatClampNeg), m23, 0)
      else none
    else
      some ((gA m15 37 j4 (r14).toNatClampNeg), m15, 0)
    else none
  else
    some ((gA m7 37 j4 (r6).toNatClampNeg), m7, 0)
  else none
  else none
theorem w8_X8_policyOf {r : Int32} {m9 : CM} {i0 : Nat} {i1 : Nat} {x2 : Int32} {m : CM} {n9 : Nat} (h : f8_X8_policyOf i0 i1 x2 m = some (r, m9, n9)) : Spec mX8_policyOf (1) n9 [vR 8 (i0), vR 7 (i1), vI (x2)] (cM m out rho) (Pc out rho (some (vI r)) m9) NX := by
  unfold f8_X8_policyOf at h
  refine spec_of (by decide) rfl (by simp [catS, cat1]) (Nat.le_of_ble_eq_true rfl) ?_
  show WP mX8_policyOf (1) n9 0 [some (vR 8 (i0)), some (vR 7 (i1)), some (vI (x2)), none, none, none, none] [] (cM m out rho) (Pc out rho (some (vI r)) m9) NX
  refine wp_aload_n dX8_policyOf_0 rfl ?_
  obtain ⟨j1, ho2, h⟩ := od_e h
  refine cp_getS (y := 4) (f := 1028) (t := 40) (by decide) (by decide) rfl rfl fl_X8_21 dX8_policyOf_1 ho2 ?_
  refine wp_iload_n dX8_policyOf_4 rfl ?_
  obtain ⟨c3, h⟩ := ock h
  obtain ⟨j4, ho5, h⟩ := od_e h
  refine cp_aald (c := 40) (t := 37) rfl (by decide) rfl (show vp_in (x2) (len 40) from c3) dX8_policyOf_5 ho5 ?_
  refine wp_astore_n (L' := [some (vR 8 (i0)), some (vR 7 (i1)), some (vI (x2)), some (vR 37 (j4)), none, none, none]) dX8_policyOf_6 rfl rfl ?_
  refine wp_aload_n dX8_policyOf_7 rfl ?_
  refine wp_aload_n dX8_policyOf_8 rfl ?_
  refine cp_getI (y := 0) (f := 896) (by decide) (by decide) rfl rfl fl_X8_273 dX8_policyOf_9 ?_
  refine wp_aload_n dX8_policyOf_12 rfl ?_
  refine cp_getI (y := 1) (f := 897) (by decide) (by decide) rfl rfl fl_X8_210 dX8_policyOf_13 ?_
  obtain ⟨r6, m7, n8, n9, hp10, h, en11⟩ := cb_e h
  refine wp_callS (k1 := n8) (k2 := n9) (As := [vI ((gI m 896 i1)), vI ((gI m 897 i1))]) (rest := [vR 37 (j4)]) (w8_X8_policyPlace hp10) okX8_policyPlace sm_X8_policyPlace rfl ml_X8_112 dX8_policyOf_16 rfl (by decide) (Nat.le_of_eq en11) rfl (Nat.le_of_ble_eq_true rfl) (fun _ _ z => z.elim) (fun r' S' z => ?_)
  obtain ⟨rfl, rfl⟩ := z
  show WP _ _ _ _ [some (vR 8 (i0)), some (vR 7 (i1)), some (vI (x2)), some (vR 37 (j4)), none, none, none] [vI (r6), vR 37 (j4)] _ _ _
  obtain ⟨c12, h⟩ := ock h
  refine cp_iald (c := 37) rfl (by decide) (show vp_in (r6) (len 37) from c12) dX8_policyOf_19 ?_
  refine wp_istore (L' := [some (vR 8 (i0)), some (vR 7 (i1)), some (vI (x2)), some (vR 37 (j4)), some (vI ((gA m7 37 j4 (r6).toNatClampNeg))), none, none]) dX8_policyOf_20 rfl rfl ?_
  refine wp_iload dX8_policyOf_22 rfl ?_
  refine wp_iconst (v := (-1)) dX8_policyOf_24 (by decide) ?_
  refine wp_icmp_eq (tgt := 31) dX8_policyOf_25 (by decide) (fun c13 => ?_) (fun c13 => ?_)
  · replace h := itp c13 h
    refine wp_aload_n dX8_policyOf_31 rfl ?_
    refine wp_iconst (v := (-1)) dX8_policyOf_32 (by decide) ?_
    refine wp_aload_n dX8_policyOf_33 rfl ?_
    refine cp_getI (y := 1) (f := 897) (by decide) (by decide) rfl rfl fl_X8_210 dX8_policyOf_34 ?_
    obtain ⟨r14, m15, n16, n17, hp18, h, en19⟩ := cb_e h
    refine wp_callS (k1 := n16) (k2 := n17) (As := [vI ((-1)), vI ((gI m7 897 i1))]) (rest := [vR 37 (j4)]) (w8_X8_policyPlace hp18) okX8_policyPlace sm_X8_policyPlace rfl ml_X8_112 dX8_policyOf_37 rfl (by decide) (Nat.le_of_eq en19) rfl (Nat.le_of_ble_eq_true rfl) (fun _ _ z => z.elim) (fun r' S' z => ?_)
    obtain ⟨rfl, rfl⟩ := z
    show WP _ _ _ _ [some (vR 8 (i0)), some (vR 7 (i1)), some (vI (x2)), some (vR 37 (j4)), some (vI ((gA m7 37 j4 (r6).toNatClampNeg))), none, none] [vI (r14), vR 37 (j4)] _ _ _
    obtain ⟨c20, h⟩ := ock h
    refine cp_iald (c := 37) rfl (by decide) (show vp_in (r14) (len 37) from c20) dX8_policyOf_40 ?_
    refine wp_istore (L' := [some (vR 8 (i0)), some (vR 7 (i1)), some (vI (x2)), some (vR 37 (j4)), some (vI ((gA m7 37 j4 (r6).toNatClampNeg))), some (vI ((gA m15 37 j4 (r14).toNatClampNeg))), none]) dX8_policyOf_41 rfl rfl ?_
    refine wp_iload dX8_policyOf_43 rfl ?_
    refine wp_iconst (v := (-1)) dX8_policyOf_45 (by decide) ?_
    refine wp_icmp_eq (tgt := 52) dX8_policyOf_46 (by decide) (fun c21 => ?_) (fun c21 => ?_)
    · replace h := itp c21 h
      refine wp_aload_n dX8_policyOf_52 rfl ?_
      refine wp_iconst (v := (-1)) dX8_policyOf_53 (by decide) ?_
      refine wp_iconst (v := (-1)) dX8_policyOf_54 (by decide) ?_
      obtain ⟨r22, m23, n24, n25, hp26, h, en27⟩ := cb_e h
      refine wp_callS (k1 := n24) (k2 := n25) (As := [vI ((-1)), vI ((-1))]) (rest := [vR 37 (j4)]) (w8_X8_policyPlace hp26) okX8_policyPlace sm_X8_policyPlace rfl ml_X8_112 dX8_policyOf_55 rfl (by decide) (Nat.le_of_eq en27) rfl (Nat.le_of_ble_eq_true rfl) (fun _ _ z => z.elim) (fun r' S' z => ?_)
      obtain ⟨rfl, rfl⟩ := z
      show WP _ _ _ _ [some (vR 8 (i0)), some (vR 7 (i1)), some (vI (x2)), some (vR 37 (j4)), some (vI ((gA m7 37 j4 (r6).toNatClampNeg))), some (vI ((gA m15 37 j4 (r14).toNatClampNeg))), none] [vI (r22), vR 37 (j4)] _ _ _
      obtain ⟨c28, h⟩ := ock h
      refine cp_iald (c := 37) rfl (by decide) (show vp_in (r22) (len 37) from c28) dX8_policyOf_58 ?_
      refine wp_istore (L' := [some (vR 8 (i0)), some (vR 7 (i1)), some (vI (x2)), some (vR 37 (j4)), some (vI ((gA m7 37 j4 (r6).toNatClampNeg))), some (vI ((gA m15 37 j4 (r14).toNatClampNeg))), some (vI ((gA m23 37 j4 (r22).toNatClampNeg)))]) dX8_policyOf_59 rfl rfl ?_
      refine wp_iload dX8_policyOf_61 rfl ?_
      refine wp_iconst (v := (-1)) dX8_policyOf_63 (by decide) ?_
      refine wp_icmp_eq (tgt := 72) dX8_policyOf_64 (by decide) (fun c29 => ?_) (fun c29 => ?_)
      · replace h := itp c29 h
        refine cp_gets (j := 0) (by decide) fl_X8_276 dX8_policyOf_72 ?_
        refine wp_iload_n dX8_policyOf_75 rfl ?_
        refine cp_ialdS (j := 0) (by decide) (show vp_in (x2) 3 from c3) dX8_policyOf_76 ?_
        obtain ⟨q1, q2, q3⟩ := cs_e h
        subst q1
        subst q2
        exact wp_ireturn rfl dX8_policyOf_77 ⟨rfl, rfl⟩
      · replace h := itn c29 h
        refine wp_iload dX8_policyOf_67 rfl ?_
        refine wp_goto (tgt := 77) dX8_policyOf_69 (by decide) ?_
        obtain ⟨q1, q2, q3⟩ := cs_e h
        subst q1
        subst q2
        exact wp_ireturn rfl dX8_policyOf_77 ⟨rfl, rfl⟩
    · replace h := itn c21 h
      refine wp_iload dX8_policyOf_49 rfl ?_
      obtain ⟨q1, q2, q3⟩ := cs_e h
      subst q1
      subst q2
      exact wp_ireturn rfl dX8_policyOf_51 ⟨rfl, rfl⟩
  · replace h := itn c13 h
    refine wp_iload dX8_policyOf_28 rfl ?_
    obtain ⟨q1, q2, q3⟩ := cs_e h
    subst q1
    subst q2
    exact wp_ireturn rfl dX8_policyOf_30 ⟨rfl, rfl⟩
def f8_X1_init (i0 : Nat) (x1 : Int32) (i2 : Nat) (i3 : Nat) (x4 : Int32) (m : CM) : CR (Int32) :=
  if gV m 56 i0 = false then
  cg 1 (
  wr (sNL m 56 i0) fun m4 =>
  wr (sR m4 132 i0 (some (i0))) fun m6 =>
  wr (sI m6 133 i0 ((-1))) fun m8 =>
  wr (sI m8 134 i0 (1000000)) fun m10 =>
  wr (sI m10 135 i0 ((-1))) fun m12 =>
  wr (sI m12 136 i0 (1000000)) fun m14 =>
  wr (sI m14 128 i0 (x1)) fun m16 =>
  wr (sR m16 129 i0 (some (i2))) fun m18 =>
  wr (sR m18 130 i0 (some (i3))) fun m20 =>
  wr (sI m20 131 i0 (x4)) fun m22 =>
  some (0, m22, 0))
  else none
theorem w8_X1_init {r : Int32} {m9 : CM} {i0 : Nat} {x1 : Int32} {i2 : Nat} {i3 : Nat} {x4 : Int32} {m : CM} {n9 : Nat} (h : f8_X1_init i0 x1 i2 i3 x4 m = some (r, m9, n9)) : Spec mX1_init (8) n9 [vR 1 (i0), vI (x1), vR 7 (i2), vR 4 (i3), vI (x4)] (cM m out rho) (Pc out rho none m9) NX := by
  unfold f8_X1_init at h
  refine spec_of (by decide) rfl (by simp [catS, cat1]) (Nat.le_of_ble_eq_true rfl) ?_
  show WP mX1_init (8) n9 0 [some (vR 1 (i0)), some (vI (x1)), some (vR 7 (i2)), some (vR 4 (i3)), some (vI (x4))] [] (cM m out rho) (Pc out rho none m9) NX
  refine wp_aload_n dX1_init_0 rfl ?_
  refine wp_objinit (by decide) ml_X1_3 dX1_init_1 (Nat.le_of_ble_eq_true rfl) ?_
  refine wp_aload_n dX1_init_4 rfl ?_
  obtain ⟨c1, h⟩ := ock h
  obtain ⟨n2, h, en3⟩ := cg_e h
  rw [← en3]
  obtain ⟨m4, e5, h⟩ := wr_e h
  refine cp_newlist (c := 56) e5 rfl c1 (by decide) kl_X1_9 ml_X1_11 dX1_init_5 dX1_init_8 dX1_init_9 (Nat.le_of_ble_eq_true rfl) ?_
  obtain ⟨m6, e7, h⟩ := wr_e h
  refine cp_putR (y := 4) (f := 132) (t := 56) (o := (some (i0))) e7 (by decide) (by decide) rfl rfl (Or.inr ⟨rfl, rfl⟩) fl_X1_12 dX1_init_12 (fun _ => rfl) rfl (fun _ => rfl) (by decide) ?_
  refine wp_aload_n dX1_init_15 rfl ?_
  refine wp_iconst (v := (-1)) dX1_init_16 (by decide) ?_
  obtain ⟨m8, e9, h⟩ := wr_e h
  refine cp_putI (y := 5) (f := 133) e9 (by decide) (by decide) rfl rfl (Or.inl rfl) fl_X1_18 dX1_init_17 rfl ?_
  refine wp_aload_n dX1_init_20 rfl ?_
  refine wp_ldc ct_X1_22 dX1_init_21 ?_
  obtain ⟨m10, e11, h⟩ := wr_e h
  refine cp_putI (y := 6) (f := 134) e11 (by decide) (by decide) rfl rfl (Or.inl rfl) fl_X1_23 dX1_init_23 rfl ?_
  refine wp_aload_n dX1_init_26 rfl ?_
  refine wp_iconst (v := (-1)) dX1_init_27 (by decide) ?_
  obtain ⟨m12, e13, h⟩ := wr_e h
  refine cp_putI (y := 7) (f := 135) e13 (by decide) (by decide) rfl rfl (Or.inl rfl) fl_X1_26 dX1_init_28 rfl ?_
  refine wp_aload_n dX1_init_31 rfl ?_
  refine wp_ldc ct_X1_22 dX1_init_32 ?_
  obtain ⟨m14, e15, h⟩ := wr_e h
  refine cp_putI (y := 8) (f := 136) e15 (by decide) (by decide) rfl rfl (Or.inl rfl) fl_X1_29 dX1_init_34 rfl ?_
  refine wp_aload_n dX1_init_37 rfl ?_
  refine wp_iload_n dX1_init_38 rfl ?_
  obtain ⟨m16, e17, h⟩ := wr_e h
  refine cp_putI (y := 0) (f := 128) e17 (by decide) (by decide) rfl rfl (Or.inr ⟨rfl, rfl⟩) fl_X1_32 dX1_init_39 rfl ?_
  refine wp_aload_n dX1_init_42 rfl ?_
  refine wp_aload_n dX1_init_43 rfl ?_
  obtain ⟨m18, e19, h⟩ := wr_e h
  refine cp_putR (y := 1) (f := 129) (t := 7) (o := (some (i2))) e19 (by decide) (by decide) rfl rfl (Or.inr ⟨rfl, rfl⟩) fl_X1_35 dX1_init_44 (fun _ => rfl) rfl (fun _ => rfl) (by decide) ?_
  refine wp_aload_n dX1_init_47 rfl ?_
  refine wp_aload_n dX1_init_48 rfl ?_
  obtain ⟨m20, e21, h⟩ := wr_e h
  refine cp_putR (y := 2) (f := 130) (t := 4) (o := (some (i3))) e21 (by decide) (by decide) rfl rfl (Or.inr ⟨rfl, rfl⟩) fl_X1_39 dX1_init_49 (fun _ => rfl) rfl (fun _ => rfl) (by decide) ?_
  refine wp_aload_n dX1_init_52 rfl ?_
  refine wp_iload dX1_init_53 rfl ?_
  obtain ⟨m22, e23, h⟩ := wr_e h
  refine cp_putI (y := 3) (f := 131) e23 (by decide) (by decide) rfl rfl (Or.inr ⟨rfl, rfl⟩) fl_X1_43 dX1_init_55 rfl ?_
  obtain ⟨q1, q2, q3⟩ := cs_e h
  clear q1
  subst q2
  exact wp_return rfl dX1_init_58 ⟨rfl, rfl⟩
def f8_X8_run (i0 : Nat) (i1 : Nat) (m : CM) : CR (Int32) :=
  wr (sI m 133 i1 (1)) fun m1 =>
  od (gR m1 130 i1) fun j3 =>
  wr (sI m1 523 j3 (((gI m1 523 j3) + 1))) fun m5 =>
  od (gR m5 129 i1) fun j7 =>
  wr (sI m5 910 j7 (1)) fun m9 =>
  od (gR m9 1029 i0) fun j11 =>
  od (gR m9 129 i1) fun j13 =>
  if vq ((gI m9 897 j13)) 6 then
  od (gO m9 41 j11 ((gI m9 897 j13)).toNatClampNeg) fun j16 =>
  od (gR m9 130 i1) fun j18 =>
  od (gR m9 519 j18) fun j20 =>
  wr (sI m9 134 i1 (((gI m9 1024 i0) + (if 1 < ((gI m9 768 j16) + (gA m9 30 j20 (0 : Int32).toNatClampNeg)) then ((gI m9 768 j16) + (gA m9 30 j20 (0 : Int32).toNatClampNeg)) else 1)))) fun m22 =>
  some (0, m22, 0)
  else none
theorem w8_X8_run {r : Int32} {m9 : CM} {i0 : Nat} {i1 : Nat} {m : CM} {n9 : Nat} (h : f8_X8_run i0 i1 m = some (r, m9, n9)) : Spec mX8_run (1) n9 [vR 8 (i0), vR 1 (i1)] (cM m out rho) (Pc out rho none m9) NX := by
  unfold f8_X8_run at h
  refine spec_of (by decide) rfl (by simp [catS, cat1]) (Nat.le_of_ble_eq_true rfl) ?_
  show WP mX8_run (1) n9 0 [some (vR 8 (i0)), some (vR 1 (i1)), none] [] (cM m out rho) (Pc out rho none m9) NX
  refine wp_aload_n dX8_run_0 rfl ?_
  refine wp_iconst (v := 1) dX8_run_1 (by decide) ?_
  obtain ⟨m1, e2, h⟩ := wr_e h
  refine cp_putI (y := 5) (f := 133) e2 (by decide) (by decide) rfl rfl (Or.inl rfl) fl_X8_217 dX8_run_2 rfl ?_
  refine wp_aload_n dX8_run_5 rfl ?_
  obtain ⟨j3, ho4, h⟩ := od_e h
  refine cp_getS (y := 2) (f := 130) (t := 4) (by decide) (by decide) rfl rfl fl_X8_213 dX8_run_6 ho4 ?_
  refine wp_dup dX8_run_9 trivial ?_
  refine cp_getI (y := 11) (f := 523) (by decide) (by decide) rfl rfl fl_X8_340 dX8_run_10 ?_
  refine wp_iconst (v := 1) dX8_run_13 (by decide) ?_
  refine wp_iadd dX8_run_14 ?_
  obtain ⟨m5, e6, h⟩ := wr_e h
  refine cp_putI (y := 11) (f := 523) e6 (by decide) (by decide) rfl rfl (Or.inl rfl) fl_X8_340 dX8_run_15 rfl ?_
  refine wp_aload_n dX8_run_18 rfl ?_
  obtain ⟨j7, ho8, h⟩ := od_e h
  refine cp_getS (y := 1) (f := 129) (t := 7) (by decide) (by decide) rfl rfl fl_X8_206 dX8_run_19 ho8 ?_
  refine wp_iconst (v := 1) dX8_run_22 (by decide) ?_
  obtain ⟨m9, e10, h⟩ := wr_e h
  refine cp_putB (y := 14) (f := 910) e10 (by decide) (by decide) rfl rfl (Or.inl rfl) fl_X8_458 dX8_run_23 rfl (by decide) ?_
  refine wp_aload_n dX8_run_26 rfl ?_
  obtain ⟨j11, ho12, h⟩ := od_e h
  refine cp_getS (y := 5) (f := 1029) (t := 41) (by decide) (by decide) rfl rfl fl_X8_26 dX8_run_27 ho12 ?_
  refine wp_aload_n dX8_run_30 rfl ?_
  obtain ⟨j13, ho14, h⟩ := od_e h
  refine cp_getS (y := 1) (f := 129) (t := 7) (by decide) (by decide) rfl rfl fl_X8_206 dX8_run_31 ho14 ?_
  refine cp_getI (y := 1) (f := 897) (by decide) (by decide) rfl rfl fl_X8_210 dX8_run_34 ?_
  obtain ⟨c15, h⟩ := ock h
  obtain ⟨j16, ho17, h⟩ := od_e h
  refine cp_aald (c := 41) (t := 6) rfl (by decide) rfl (show vp_in ((gI m9 897 j13)) (len 41) from c15) dX8_run_37 ho17 ?_
  refine cp_getI (y := 0) (f := 768) (by decide) (by decide) rfl rfl fl_X8_65 dX8_run_38 ?_
  refine wp_aload_n dX8_run_41 rfl ?_
  obtain ⟨j18, ho19, h⟩ := od_e h
  refine cp_getS (y := 2) (f := 130) (t := 4) (by decide) (by decide) rfl rfl fl_X8_213 dX8_run_42 ho19 ?_
  obtain ⟨j20, ho21, h⟩ := od_e h
  refine cp_getS (y := 7) (f := 519) (t := 30) (by decide) (by decide) rfl rfl fl_X8_102 dX8_run_45 ho21 ?_
  refine wp_iconst (v := 0) dX8_run_48 (by decide) ?_
  refine cp_iald (c := 30) rfl (by decide) (show vp_in (0) (len 30) from (by decide : vq (0) 4)) dX8_run_49 ?_
  refine wp_iadd dX8_run_50 ?_
  refine wp_istore_n (L' := [some (vR 8 (i0)), some (vR 1 (i1)), some (vI (((gI m9 768 j16) + (gA m9 30 j20 (0 : Int32).toNatClampNeg))))]) dX8_run_51 rfl rfl ?_
  refine wp_aload_n dX8_run_52 rfl ?_
  refine wp_aload_n dX8_run_53 rfl ?_
  refine cp_getI (y := 0) (f := 1024) (by decide) (by decide) rfl rfl fl_X8_140 dX8_run_54 ?_
  refine wp_iconst (v := 1) dX8_run_57 (by decide) ?_
  refine wp_iload_n dX8_run_58 rfl ?_
  refine wp_mmax ml_X8_461 sm_J9_max_7cf53 in_J9 cd_J9_max_7cf53 dX8_run_59 (by decide) (Nat.le_of_ble_eq_true rfl) ?_
  refine wp_iadd dX8_run_62 ?_
  obtain ⟨m22, e23, h⟩ := wr_e h
  refine cp_putI (y := 6) (f := 134) e23 (by decide) (by decide) rfl rfl (Or.inl rfl) fl_X8_289 dX8_run_63 rfl ?_
  obtain ⟨q1, q2, q3⟩ := cs_e h
  clear q1
  subst q2
  exact wp_return rfl dX8_run_66 ⟨rfl, rfl⟩
def f8_X1_learnEnd (i0 : Nat) (x1 : Int32) (m : CM) : CR (Int32) :=
  if (gI m 133 i0) = 7 then
    some (0, m, 0)
  else
    od (gR m 130 i0) fun j2 =>
    od (gR m 519 j2) fun j4 =>
    if (gA m 30 j4 (2 : Int32).toNatClampNeg) = 0 then
      wr (sI m 135 i0 ((gI m 133 i0))) fun m7 =>
      wr (sI m7 136 i0 (x1)) fun m9 =>
      some (0, m9, 0)
    else
      if (gI m 133 i0) = 5 then
        wr (sI m 135 i0 ((gI m 133 i0))) fun m12 =>
        wr (sI m12 136 i0 (x1)) fun m14 =>
        some (0, m14, 0)
      else
        wr (sI m 135 i0 (5)) fun m16 =>
        wr (sI m16 136 i0 ((gI m16 131 i0))) fun m18 =>
        some (0, m18, 0)
theorem w8_X1_learnEnd {r : Int32} {m9 : CM} {i0 : Nat} {x1 : Int32} {m : CM} {n9 : Nat} (h : f8_X1_learnEnd i0 x1 m = some (r, m9, n9)) : Spec mX1_learnEnd (0) n9 [vR 1 (i0), vI (x1)] (cM m out rho) (Pc out rho none m9) NX := by
  unfold f8_X1_learnEnd at h
  refine spec_of (by decide) rfl (by simp [catS, cat1]) (Nat.le_of_ble_eq_true rfl) ?_
  show WP mX1_learnEnd (0) n9 0 [some (vR 1 (i0)), some (vI (x1)), none] [] (cM m out rho) (Pc out rho none m9) NX
  refine wp_aload_n dX1_learnEnd_0 rfl ?_
  refine cp_getI (y := 5) (f := 133) (by decide) (by decide) rfl rfl fl_X1_18 dX1_learnEnd_1 ?_
  refine wp_bipush (v := 7) dX1_learnEnd_4 (by decide) ?_
  refine wp_icmp_ne (tgt := 10) dX1_learnEnd_6 (by decide) (fun c1 => ?_) (fun c1 => ?_)
  · replace h := itn c1 h
    refine wp_aload_n dX1_learnEnd_10 rfl ?_
    obtain ⟨j2, ho3, h⟩ := od_e h
    refine cp_getS (y := 2) (f := 130) (t := 4) (by decide) (by decide) rfl rfl fl_X1_39 dX1_learnEnd_11 ho3 ?_
    obtain ⟨j4, ho5, h⟩ := od_e h
    refine cp_getS (y := 7) (f := 519) (t := 30) (by decide) (by decide) rfl rfl fl_X1_60 dX1_learnEnd_14 ho5 ?_
    refine wp_iconst (v := 2) dX1_learnEnd_17 (by decide) ?_
    refine cp_iald (c := 30) rfl (by decide) (show vp_in (2) (len 30) from (by decide : vq (2) 4)) dX1_learnEnd_18 ?_
    refine wp_if_eq (tgt := 34) dX1_learnEnd_19 (by decide) (fun c6 => ?_) (fun c6 => ?_)
    · replace h := itp c6 h
      refine wp_iconst (v := 0) dX1_learnEnd_34 (by decide) ?_
      refine wp_istore_n (L' := [some (vR 1 (i0)), some (vI (x1)), some (vI (0))]) dX1_learnEnd_35 rfl rfl ?_
      refine wp_aload_n dX1_learnEnd_36 rfl ?_
      refine wp_iload_n dX1_learnEnd_37 rfl ?_
      refine wp_if_eq (tgt := 45) dX1_learnEnd_38 (by decide) (fun _ => ?_) (fun z => absurd (by decide) z)
      refine wp_aload_n dX1_learnEnd_45 rfl ?_
      refine cp_getI (y := 5) (f := 133) (by decide) (by decide) rfl rfl fl_X1_18 dX1_learnEnd_46 ?_
      obtain ⟨m7, e8, h⟩ := wr_e h
      refine cp_putI (y := 7) (f := 135) e8 (by decide) (by decide) rfl rfl (Or.inl rfl) fl_X1_26 dX1_learnEnd_49 rfl ?_
      refine wp_aload_n dX1_learnEnd_52 rfl ?_
      refine wp_iload_n dX1_learnEnd_53 rfl ?_
      refine wp_if_eq (tgt := 64) dX1_learnEnd_54 (by decide) (fun _ => ?_) (fun z => absurd (by decide) z)
      refine wp_iload_n dX1_learnEnd_64 rfl ?_
      obtain ⟨m9, e10, h⟩ := wr_e h
      refine cp_putI (y := 8) (f := 136) e10 (by decide) (by decide) rfl rfl (Or.inl rfl) fl_X1_29 dX1_learnEnd_65 rfl ?_
      obtain ⟨q1, q2, q3⟩ := cs_e h
      clear q1
      subst q2
      exact wp_return rfl dX1_learnEnd_68 ⟨rfl, rfl⟩
    · replace h := itn c6 h
      refine wp_aload_n dX1_learnEnd_22 rfl ?_
      refine cp_getI (y := 5) (f := 133) (by decide) (by decide) rfl rfl fl_X1_18 dX1_learnEnd_23 ?_
      refine wp_iconst (v := 5) dX1_learnEnd_26 (by decide) ?_
      refine wp_icmp_eq (tgt := 34) dX1_learnEnd_27 (by decide) (fun c11 => ?_) (fun c11 => ?_)
      · replace h := itp c11 h
        refine wp_iconst (v := 0) dX1_learnEnd_34 (by decide) ?_
        refine wp_istore_n (L' := [some (vR 1 (i0)), some (vI (x1)), some (vI (0))]) dX1_learnEnd_35 rfl rfl ?_
        refine wp_aload_n dX1_learnEnd_36 rfl ?_
        refine wp_iload_n dX1_learnEnd_37 rfl ?_
        refine wp_if_eq (tgt := 45) dX1_learnEnd_38 (by decide) (fun _ => ?_) (fun z => absurd (by decide) z)
        refine wp_aload_n dX1_learnEnd_45 rfl ?_
        refine cp_getI (y := 5) (f := 133) (by decide) (by decide) rfl rfl fl_X1_18 dX1_learnEnd_46 ?_
        obtain ⟨m12, e13, h⟩ := wr_e h
        refine cp_putI (y := 7) (f := 135) e13 (by decide) (by decide) rfl rfl (Or.inl rfl) fl_X1_26 dX1_learnEnd_49 rfl ?_
        refine wp_aload_n dX1_learnEnd_52 rfl ?_
        refine wp_iload_n dX1_learnEnd_53 rfl ?_
        refine wp_if_eq (tgt := 64) dX1_learnEnd_54 (by decide) (fun _ => ?_) (fun z => absurd (by decide) z)
        refine wp_iload_n dX1_learnEnd_64 rfl ?_
        obtain ⟨m14, e15, h⟩ := wr_e h
        refine cp_putI (y := 8) (f := 136) e15 (by decide) (by decide) rfl rfl (Or.inl rfl) fl_X1_29 dX1_learnEnd_65 rfl ?_
        obtain ⟨q1, q2, q3⟩ := cs_e h
        clear q1
        subst q2
        exact wp_return rfl dX1_learnEnd_68 ⟨rfl, rfl⟩
      · replace h := itn c11 h
        refine wp_iconst (v := 1) dX1_learnEnd_30 (by decide) ?_
        refine wp_goto (tgt := 35) dX1_learnEnd_31 (by decide) ?_
        refine wp_istore_n (L' := [some (vR 1 (i0)), some (vI (x1)), some (vI (1))]) dX1_learnEnd_35 rfl rfl ?_
        refine wp_aload_n dX1_learnEnd_36 rfl ?_
        refine wp_iload_n dX1_learnEnd_37 rfl ?_
        refine wp_if_eq (tgt := 45) dX1_learnEnd_38 (by decide) (fun z => absurd z (by decide)) (fun _ => ?_)
        refine wp_iconst (v := 5) dX1_learnEnd_41 (by decide) ?_
        refine wp_goto (tgt := 49) dX1_learnEnd_42 (by decide) ?_
        obtain ⟨m16, e17, h⟩ := wr_e h
        refine cp_putI (y := 7) (f := 135) e17 (by decide) (by decide) rfl rfl (Or.inl rfl) fl_X1_26 dX1_learnEnd_49 rfl ?_
        refine wp_aload_n dX1_learnEnd_52 rfl ?_
        refine wp_iload_n dX1_learnEnd_53 rfl ?_
        refine wp_if_eq (tgt := 64) dX1_learnEnd_54 (by decide) (fun z => absurd z (by decide)) (fun _ => ?_)
        refine wp_aload_n dX1_learnEnd_57 rfl ?_
        refine cp_getI (y := 3) (f := 131) (by decide) (by decide) rfl rfl fl_X1_43 dX1_learnEnd_58 ?_
        refine wp_goto (tgt := 65) dX1_learnEnd_61 (by decide) ?_
        obtain ⟨m18, e19, h⟩ := wr_e h
        refine cp_putI (y := 8) (f := 136) e19 (by decide) (by decide) rfl rfl (Or.inl rfl) fl_X1_29 dX1_learnEnd_65 rfl ?_
        obtain ⟨q1, q2, q3⟩ := cs_e h
        clear q1
        subst q2
        exact wp_return rfl dX1_learnEnd_68 ⟨rfl, rfl⟩
  · replace h := itp c1 h
    obtain ⟨q1, q2, q3⟩ := cs_e h
    clear q1
    subst q2
    exact wp_return rfl dX1_learnEnd_9 ⟨rfl, rfl⟩
def b8_X8_place_88 (i0 : Nat) (i1 : Nat) (m : CM) : CR (Int32) :=
  wr (sI m 133 i1 (6)) fun m1 =>
  cb (f8_X1_learnEnd i1 ((gI m1 1024 i0)) m1) fun _ m4 =>
  some (0, m4, 0)
theorem w8_X8_place_88 {r : Int32} {m9 : CM} {i0 : Nat} {i1 : Nat} {l2 : Option sV} {l3 : Option sV} {m : CM} {n9 : Nat} (h : b8_X8_place_88 i0 i1 m = some (r, m9, n9)) : WP mX8_place (8) n9 88 [some (vR 8 (i0)), some (vR 1 (i1)), l2, l3] [] (cM m out rho) (Pc out rho none m9) NX := by
  unfold b8_X8_place_88 at h
  refine wp_aload_n dX8_place_88 rfl ?_
  refine wp_bipush (v := 6) dX8_place_89 (by decide) ?_
  obtain ⟨m1, e2, h⟩ := wr_e h
  refine cp_putI (y := 5) (f := 133) e2 (by decide) (by decide) rfl rfl (Or.inl rfl) fl_X8_217 dX8_place_91 rfl ?_
  refine wp_aload_n dX8_place_94 rfl ?_
  refine wp_aload_n dX8_place_95 rfl ?_
  refine cp_getI (y := 0) (f := 1024) (by decide) (by decide) rfl rfl fl_X8_140 dX8_place_96 ?_
  obtain ⟨r3, m4, n5, n6, hp7, h, en8⟩ := cb_e h
  refine wp_callV (k1 := n5) (k2 := n6) (As := [vI ((gI m1 1024 i0))]) (rest := []) (w8_X1_learnEnd hp7) okX1_learnEnd ivX1_learnEnd rfl (by decide) ml_X8_455 dX8_place_99 rfl (by decide) (Nat.le_of_eq en8) rfl (Nat.le_of_ble_eq_true rfl) (fun _ _ z => z.elim) (fun r' S' z => ?_)
  obtain ⟨rfl, rfl⟩ := z
  show WP _ _ _ _ [some (vR 8 (i0)), some (vR 1 (i1)), l2, l3] [] _ _ _
  obtain ⟨q1, q2, q3⟩ := cs_e h
  clear q1
  subst q2
  exact wp_return rfl dX8_place_102 ⟨rfl, rfl⟩
def b8_X8_place_53 (i0 : Nat) (i1 : Nat) (i2 : Nat) (x3 : Int32) (m : CM) : CR (Int32) :=
  if x3 = 0 then
    od (gR m 522 i2) fun j2 =>
    if (gI m 517 i2) ≤ (nI (gL m 54 j2).length) then
      b8_X8_place_88 (i0) (i1) m
    else
      wr (sI m 133 i1 (0)) fun m5 =>
      od (gR m5 522 i2) fun j7 =>
      if (gL m5 54 j7).length ≤ 450 then
      cg 1 (
      wr (sL m5 54 j7 (gL m5 54 j7 ++ [i1])) fun m12 =>
      some (0, m12, 0))
      else none
  else
    b8_X8_place_88 (i0) (i1) m
theorem w8_X8_place_53 {r : Int32} {m9 : CM} {i0 : Nat} {i1 : Nat} {i2 : Nat} {x3 : Int32} {m : CM} {n9 : Nat} (h : b8_X8_place_53 i0 i1 i2 x3 m = some (r, m9, n9)) : WP mX8_place (8) n9 53 [some (vR 8 (i0)), some (vR 1 (i1)), some (vR 4 (i2)), some (vI (x3))] [] (cM m out rho) (Pc out rho none m9) NX := by
  unfold b8_X8_place_53 at h
  refine wp_iload_n dX8_place_53 rfl ?_
  refine wp_if_ne (tgt := 88) dX8_place_54 (by decide) (fun c1 => ?_) (fun c1 => ?_)
  · replace h := itn c1 h
    exact w8_X8_place_88 h
  · replace h := itp c1 h
    refine wp_aload_n dX8_place_57 rfl ?_
    obtain ⟨j2, ho3, h⟩ := od_e h
    refine cp_getS (y := 10) (f := 522) (t := 54) (by decide) (by decide) rfl rfl fl_X8_343 dX8_place_58 ho3 ?_
    refine cp_size (c := 54) rfl (by decide) ml_X8_82 dX8_place_61 (Nat.le_of_ble_eq_true rfl) ?_
    refine wp_aload_n dX8_place_64 rfl ?_
    refine cp_getI (y := 5) (f := 517) (by decide) (by decide) rfl rfl fl_X8_452 dX8_place_65 ?_
    refine wp_icmp_ge (tgt := 88) dX8_place_68 (by decide) (fun c4 => ?_) (fun c4 => ?_)
    · replace h := itp c4 h
      exact w8_X8_place_88 h
    · replace h := itn c4 h
      refine wp_aload_n dX8_place_71 rfl ?_
      refine wp_iconst (v := 0) dX8_place_72 (by decide) ?_
      obtain ⟨m5, e6, h⟩ := wr_e h
      refine cp_putI (y := 5) (f := 133) e6 (by decide) (by decide) rfl rfl (Or.inl rfl) fl_X8_217 dX8_place_73 rfl ?_
      refine wp_aload_n dX8_place_76 rfl ?_
      obtain ⟨j7, ho8, h⟩ := od_e h
      refine cp_getS (y := 10) (f := 522) (t := 54) (by decide) (by decide) rfl rfl fl_X8_343 dX8_place_77 ho8 ?_
      refine wp_aload_n dX8_place_80 rfl ?_
      obtain ⟨c9, h⟩ := ock h
      obtain ⟨n10, h, en11⟩ := cg_e h
      rw [← en11]
      obtain ⟨m12, e13, h⟩ := wr_e h
      refine cp_add (c := 54) (t := 1) e13 rfl rfl (by decide) c9 ml_X8_91 dX8_place_81 (Nat.le_of_ble_eq_true rfl) ?_
      refine wp_pop dX8_place_84 trivial ?_
      refine wp_goto (tgt := 102) dX8_place_85 (by decide) ?_
      obtain ⟨q1, q2, q3⟩ := cs_e h
      clear q1
      subst q2
      exact wp_return rfl dX8_place_102 ⟨rfl, rfl⟩
def b8_X8_place_19 (i0 : Nat) (i1 : Nat) (i2 : Nat) (s0 : Int32) (m : CM) : CR (Int32) :=
  if s0 = 0 then
    if (gI m 516 i2) ≤ (gI m 523 i2) then
      b8_X8_place_53 (i0) (i1) (i2) (s0) m
    else
      od (gR m 522 i2) fun j3 =>
      if (if nI (gL m 54 j3).length = 0 then (1 : Int32) else 0) = 0 then
        b8_X8_place_53 (i0) (i1) (i2) (s0) m
      else
        cb (f8_X8_run i0 (i1) m) fun _ m7 =>
        some (0, m7, 0)
  else
    b8_X8_place_53 (i0) (i1) (i2) (s0) m
theorem w8_X8_place_19 {r : Int32} {m9 : CM} {i0 : Nat} {i1 : Nat} {i2 : Nat} {s0 : Int32} {l3 : Option sV} {m : CM} {n9 : Nat} (h : b8_X8_place_19 i0 i1 i2 s0 m = some (r, m9, n9)) : WP mX8_place (8) n9 19 [some (vR 8 (i0)), some (vR 1 (i1)), some (vR 4 (i2)), l3] [vI (s0)] (cM m out rho) (Pc out rho none m9) NX := by
  unfold b8_X8_place_19 at h
  refine wp_istore_n (L' := [some (vR 8 (i0)), some (vR 1 (i1)), some (vR 4 (i2)), some (vI (s0))]) dX8_place_19 rfl rfl ?_
  refine wp_iload_n dX8_place_20 rfl ?_
  refine wp_if_ne (tgt := 53) dX8_place_21 (by decide) (fun c1 => ?_) (fun c1 => ?_)
  · replace h := itn c1 h
    exact w8_X8_place_53 h
  · replace h := itp c1 h
    refine wp_aload_n dX8_place_24 rfl ?_
    refine cp_getI (y := 11) (f := 523) (by decide) (by decide) rfl rfl fl_X8_340 dX8_place_25 ?_
    refine wp_aload_n dX8_place_28 rfl ?_
    refine cp_getI (y := 4) (f := 516) (by decide) (by decide) rfl rfl fl_X8_337 dX8_place_29 ?_
    refine wp_icmp_ge (tgt := 53) dX8_place_32 (by decide) (fun c2 => ?_) (fun c2 => ?_)
    · replace h := itp c2 h
      exact w8_X8_place_53 h
    · replace h := itn c2 h
      refine wp_aload_n dX8_place_35 rfl ?_
      obtain ⟨j3, ho4, h⟩ := od_e h
      refine cp_getS (y := 10) (f := 522) (t := 54) (by decide) (by decide) rfl rfl fl_X8_343 dX8_place_36 ho4 ?_
      refine cp_isEmpty (c := 54) rfl (by decide) ml_X8_71 dX8_place_39 (Nat.le_of_ble_eq_true rfl) ?_
      refine wp_if_eq (tgt := 53) dX8_place_42 (by decide) (fun c5 => ?_) (fun c5 => ?_)
      · replace h := itp c5 h
        exact w8_X8_place_53 h
      · replace h := itn c5 h
        refine wp_aload_n dX8_place_45 rfl ?_
        refine wp_aload_n dX8_place_46 rfl ?_
        obtain ⟨r6, m7, n8, n9, hp10, h, en11⟩ := cb_e h
        refine wp_callV (k1 := n8) (k2 := n9) (As := [vR 1 (i1)]) (rest := []) (w8_X8_run hp10) okX8_run ivX8_run rfl (by decide) ml_X8_349 dX8_place_47 rfl (by decide) (Nat.le_of_eq en11) rfl (Nat.le_of_ble_eq_true rfl) (fun _ _ z => z.elim) (fun r' S' z => ?_)
        obtain ⟨rfl, rfl⟩ := z
        show WP _ _ _ _ [some (vR 8 (i0)), some (vR 1 (i1)), some (vR 4 (i2)), some (vI (s0))] [] _ _ _
        refine wp_goto (tgt := 102) dX8_place_50 (by decide) ?_
        obtain ⟨q1, q2, q3⟩ := cs_e h
        clear q1
        subst q2
        exact wp_return rfl dX8_place_102 ⟨rfl, rfl⟩
def f8_X8_place (i0 : Nat) (i1 : Nat) (m : CM) : CR (Int32) :=
  od (gR m 130 i1) fun j1 =>
  od (gR m 519 j1) fun j3 =>
  if (gA m 30 j3 (3 : Int32).toNatClampNeg) = 0 then
    b8_X8_place_19 (i0) (i1) (j1) (0) m
  else
    b8_X8_place_19 (i0) (i1) (j1) (1) m
theorem w8_X8_place {r : Int32} {m9 : CM} {i0 : Nat} {i1 : Nat} {m : CM} {n9 : Nat} (h : f8_X8_place i0 i1 m = some (r, m9, n9)) : Spec mX8_place (8) n9 [vR 8 (i0), vR 1 (i1)] (cM m out rho) (Pc out rho none m9) NX := by
  unfold f8_X8_place at h
  refine spec_of (by decide) rfl (by simp [catS, cat1]) (Nat.le_of_ble_eq_true rfl) ?_
  show WP mX8_place (8) n9 0 [some (vR 8 (i0)), some (vR 1 (i1)), none, none] [] (cM m out rho) (Pc out rho none m9) NX
  refine wp_aload_n dX8_place_0 rfl ?_
  obtain ⟨j1, ho2, h⟩ := od_e h
  refine cp_getS (y := 2) (f := 130) (t := 4) (by decide) (by decide) rfl rfl fl_X8_213 dX8_place_1 ho2 ?_
  refine wp_astore_n (L' := [some (vR 8 (i0)), some (vR 1 (i1)), some (vR 4 (j1)), none]) dX8_place_4 rfl rfl ?_
  refine wp_aload_n dX8_place_5 rfl ?_
  obtain ⟨j3, ho4, h⟩ := od_e h
  refine cp_getS (y := 7) (f := 519) (t := 30) (by decide) (by decide) rfl rfl fl_X8_102 dX8_place_6 ho4 ?_
  refine wp_iconst (v := 3) dX8_place_9 (by decide) ?_
  refine cp_iald (c := 30) rfl (by decide) (show vp_in (3) (len 30) from (by decide : vq (3) 4)) dX8_place_10 ?_
  refine wp_if_eq (tgt := 18) dX8_place_11 (by decide) (fun c5 => ?_) (fun c5 => ?_)
  · replace h := itp c5 h
    refine wp_iconst (v := 0) dX8_place_18 (by decide) ?_
    exact w8_X8_place_19 h
  · replace h := itn c5 h
    refine wp_iconst (v := 1) dX8_place_14 (by decide) ?_
    refine wp_goto (tgt := 19) dX8_place_15 (by decide) ?_
    exact w8_X8_place_19 h
def b8_X8_tryOnce_36 (i0 : Nat) (i1 : Nat) (m : CM) : CR (Int32) :=
  wr (sI m 906 i1 (((gI m 906 i1) + 1))) fun m1 =>
  cb (f8_X8_choose i0 (i1) m1) fun r3 m4 =>
  if r3 = none then
    wr (sI m4 909 i1 (6)) fun m10 =>
    some (0, m10, 0)
  else
    od (gR m4 1033 i0) fun j12 =>
    if (nI (gL m4 52 j12).length) < 400 then
      cb (f8_X8_policyOf i0 (i1) (0) m4) fun r15 m16 =>
      if gV m16 1 ((gL m16 52 0).length) = false then
      cg 1 (
      wr (sN m16 1 ((gL m16 52 0).length)) fun m24 =>
      od (gR m24 1033 i0) fun j26 =>
      od (r3) fun j28 =>
      cb (f8_X1_init ((gL m16 52 0).length) ((nI (gL m24 52 j26).length)) (i1) (j28) ((if ((gI m4 1024 i0) + r15) < (gI m4 901 i1) then ((gI m4 1024 i0) + r15) else (gI m4 901 i1))) m24) fun _ m31 =>
      od (gR m31 1033 i0) fun j36 =>
      if (gL m31 52 j36).length ≤ 450 then
      cg 1 (
      wr (sL m31 52 j36 (gL m31 52 j36 ++ [((gL m16 52 0).length)])) fun m41 =>
      od (gR m41 905 i1) fun j43 =>
      if (gL m41 55 j43).length ≤ 450 then
      cg 1 (
      wr (sL m41 55 j43 (gL m41 55 j43 ++ [((gL m16 52 0).length)])) fun m48 =>
      od (gR m48 521 j28) fun j50 =>
      if vq ((gI m48 896 i1)) 7 then
      wr (sA m48 31 j50 ((gI m48 896 i1)).toNatClampNeg (((gA m48 31 j50 ((gI m48 896 i1)).toNatClampNeg) + 1))) fun m53 =>
      cb (f8_X8_place i0 (((gL m16 52 0).length)) m53) fun _ m56 =>
      some (0, m56, 0)
      else none)
      else none)
      else none)
      else none
    else
      wr (sI m4 909 i1 (6)) fun m61 =>
      some (0, m61, 0)
theorem w8_X8_tryOnce_36 {r : Int32} {m9 : CM} {i0 : Nat} {i1 : Nat} {l2 : Option sV} {l3 : Option sV} {l4 : Option sV} {l5 : Option sV} {m : CM} {n9 : Nat} (h : b8_X8_tryOnce_36 i0 i1 m = some (r, m9, n9)) : WP mX8_tryOnce (11) n9 36 [some (vR 8 (i0)), some (vR 7 (i1)), l2, l3, l4, l5] [] (cM m out rho) (Pc out rho none m9) NX := by
  unfold b8_X8_tryOnce_36 at h
  refine wp_aload_n dX8_tryOnce_36 rfl ?_
  refine wp_dup dX8_tryOnce_37 trivial ?_
  refine cp_getI (y := 10) (f := 906) (by decide) (by decide) rfl rfl fl_X8_400 dX8_tryOnce_38 ?_
  refine wp_iconst (v := 1) dX8_tryOnce_41 (by decide) ?_
  refine wp_iadd dX8_tryOnce_42 ?_
  obtain ⟨m1, e2, h⟩ := wr_e h
  refine cp_putI (y := 10) (f := 906) e2 (by decide) (by decide) rfl rfl (Or.inl rfl) fl_X8_400 dX8_tryOnce_43 rfl ?_
  refine wp_aload_n dX8_tryOnce_46 rfl ?_
  refine wp_aload_n dX8_tryOnce_47 rfl ?_
  obtain ⟨r3, m4, n5, n6, hp7, h, en8⟩ := cb_e h
  refine wp_callV (k1 := n5) (k2 := n6) (As := [vR 7 (i1)]) (rest := []) (w8_X8_choose hp7) okX8_choose ivX8_choose rfl (by decide) ml_X8_409 dX8_tryOnce_48 rfl (by decide) (Nat.le_of_eq en8) rfl (Nat.le_of_ble_eq_true rfl) (fun _ _ z => z.elim) (fun r' S' z => ?_)
  obtain ⟨rfl, rfl⟩ := z
  show WP _ _ _ _ [some (vR 8 (i0)), some (vR 7 (i1)), l2, l3, l4, l5] [vO 4 (r3)] _ _ _
  refine wp_astore_n (L' := [some (vR 8 (i0)), some (vR 7 (i1)), l2, some (vO 4 (r3)), l4, l5]) dX8_tryOnce_51 rfl rfl ?_
  refine wp_aload_n dX8_tryOnce_52 rfl ?_
  refine cp_ifnull (o := r3) (tgt := 69) dX8_tryOnce_53 (by decide) (fun c9 => ?_) (fun c9 => ?_)
  · replace h := itp c9 h
    refine wp_aload_n dX8_tryOnce_69 rfl ?_
    refine wp_bipush (v := 6) dX8_tryOnce_70 (by decide) ?_
    obtain ⟨m10, e11, h⟩ := wr_e h
    refine cp_putI (y := 13) (f := 909) e11 (by decide) (by decide) rfl rfl (Or.inl rfl) fl_X8_363 dX8_tryOnce_72 rfl ?_
    obtain ⟨q1, q2, q3⟩ := cs_e h
    clear q1
    subst q2
    exact wp_return rfl dX8_tryOnce_75 ⟨rfl, rfl⟩
  · replace h := itn c9 h
    refine wp_aload_n dX8_tryOnce_56 rfl ?_
    obtain ⟨j12, ho13, h⟩ := od_e h
    refine cp_getS (y := 9) (f := 1033) (t := 52) (by decide) (by decide) rfl rfl fl_X8_46 dX8_tryOnce_57 ho13 ?_
    refine cp_size (c := 52) rfl (by decide) ml_X8_82 dX8_tryOnce_60 (Nat.le_of_ble_eq_true rfl) ?_
    refine wp_sipush (v := 400) dX8_tryOnce_63 (by decide) ?_
    refine wp_icmp_lt (tgt := 76) dX8_tryOnce_66 (by decide) (fun c14 => ?_) (fun c14 => ?_)
    · replace h := itp c14 h
      refine wp_aload_n dX8_tryOnce_76 rfl ?_
      refine cp_getI (y := 5) (f := 901) (by decide) (by decide) rfl rfl fl_X8_143 dX8_tryOnce_77 ?_
      refine wp_aload_n dX8_tryOnce_80 rfl ?_
      refine cp_getI (y := 0) (f := 1024) (by decide) (by decide) rfl rfl fl_X8_140 dX8_tryOnce_81 ?_
      refine wp_aload_n dX8_tryOnce_84 rfl ?_
      refine wp_aload_n dX8_tryOnce_85 rfl ?_
      refine wp_iconst (v := 0) dX8_tryOnce_86 (by decide) ?_
      obtain ⟨r15, m16, n17, n18, hp19, h, en20⟩ := cb_e h
      refine wp_callV (k1 := n17) (k2 := n18) (As := [vR 7 (i1), vI (0)]) (rest := [vI ((gI m4 1024 i0)), vI ((gI m4 901 i1))]) (w8_X8_policyOf hp19) okX8_policyOf ivX8_policyOf rfl (by decide) ml_X8_359 dX8_tryOnce_87 rfl (by decide) (Nat.le_of_eq en20) rfl (Nat.le_of_ble_eq_true rfl) (fun _ _ z => z.elim) (fun r' S' z => ?_)
      obtain ⟨rfl, rfl⟩ := z
      show WP _ _ _ _ [some (vR 8 (i0)), some (vR 7 (i1)), l2, some (vO 4 (r3)), l4, l5] [vI (r15), vI ((gI m4 1024 i0)), vI ((gI m4 901 i1))] _ _ _
      refine wp_iadd dX8_tryOnce_90 ?_
      refine wp_mmin ml_X8_413 sm_J9_min_7cf53 in_J9 cd_J9_min_7cf53 dX8_tryOnce_91 (by decide) (Nat.le_of_ble_eq_true rfl) ?_
      refine wp_istore (L' := [some (vR 8 (i0)), some (vR 7 (i1)), l2, some (vO 4 (r3)), some (vI ((if ((gI m4 1024 i0) + r15) < (gI m4 901 i1) then ((gI m4 1024 i0) + r15) else (gI m4 901 i1)))), l5]) dX8_tryOnce_94 rfl rfl ?_
      obtain ⟨c21, h⟩ := ock h
      obtain ⟨n22, h, en23⟩ := cg_e h
      rw [← en23]
      obtain ⟨m24, e25, h⟩ := wr_e h
      refine cp_new (c := 1) (i := (gL m16 52 0).length) e25 (by decide) c21 kl_X8_204 it_X1 in_X1 dX8_tryOnce_96 ?_
      refine wp_dup dX8_tryOnce_99 trivial ?_
      refine wp_aload_n dX8_tryOnce_100 rfl ?_
      obtain ⟨j26, ho27, h⟩ := od_e h
      refine cp_getS (y := 9) (f := 1033) (t := 52) (by decide) (by decide) rfl rfl fl_X8_46 dX8_tryOnce_101 ho27 ?_
      refine cp_size (c := 52) rfl (by decide) ml_X8_82 dX8_tryOnce_104 (Nat.le_of_ble_eq_true rfl) ?_
      refine wp_aload_n dX8_tryOnce_107 rfl ?_
      refine wp_aload_n dX8_tryOnce_108 rfl ?_
      refine wp_iload dX8_tryOnce_109 rfl ?_
      obtain ⟨j28, ho29, h⟩ := od_e h
      rw [ho29]
      show WP _ _ _ _ [some (vR 8 (i0)), some (vR 7 (i1)), l2, some (vR 4 (j28)), some (vI ((if ((gI m4 1024 i0) + r15) < (gI m4 901 i1) then ((gI m4 1024 i0) + r15) else (gI m4 901 i1)))), l5] [vI ((if ((gI m4 1024 i0) + r15) < (gI m4 901 i1) then ((gI m4 1024 i0) + r15) else (gI m4 901 i1))), vR 4 (j28), vR 7 (i1), vI ((nI (gL m24 52 j26).length)), vR 1 (((gL m16 52 0).length)), vR 1 (((gL m16 52 0).length))] _ _ _
      obtain ⟨r30, m31, n32, n33, hp34, h, en35⟩ := cb_e h
      refine wp_callI (k1 := n32) (k2 := n33) (As := [vI ((nI (gL m24 52 j26).length)), vR 7 (i1), vR 4 (j28), vI ((if ((gI m4 1024 i0) + r15) < (gI m4 901 i1) then ((gI m4 1024 i0) + r15) else (gI m4 901 i1)))]) (rest := [vR 1 (((gL m16 52 0).length))]) (w8_X1_init hp34) okX1_init rfl rfl im_X1_init ml_X8_418 dX8_tryOnce_111 (by decide) (Nat.le_of_eq en35) rfl (Nat.le_of_ble_eq_true rfl) (fun r' S' z => ?_)
      obtain ⟨rfl, rfl⟩ := z
      show WP _ _ _ _ [some (vR 8 (i0)), some (vR 7 (i1)), l2, some (vR 4 (j28)), some (vI ((if ((gI m4 1024 i0) + r15) < (gI m4 901 i1) then ((gI m4 1024 i0) + r15) else (gI m4 901 i1)))), l5] [vR 1 (((gL m16 52 0).length))] _ _ _
      refine wp_astore (L' := [some (vR 8 (i0)), some (vR 7 (i1)), l2, some (vR 4 (j28)), some (vI ((if ((gI m4 1024 i0) + r15) < (gI m4 901 i1) then ((gI m4 1024 i0) + r15) else (gI m4 901 i1)))), some (vR 1 (((gL m16 52 0).length)))]) dX8_tryOnce_114 rfl rfl ?_
      refine wp_aload_n dX8_tryOnce_116 rfl ?_
      obtain ⟨j36, ho37, h⟩ := od_e h
      refine cp_getS (y := 9) (f := 1033) (t := 52) (by decide) (by decide) rfl rfl fl_X8_46 dX8_tryOnce_117 ho37 ?_
      refine wp_aload dX8_tryOnce_120 rfl ?_
      obtain ⟨c38, h⟩ := ock h
      obtain ⟨n39, h, en40⟩ := cg_e h
      rw [← en40]
      obtain ⟨m41, e42, h⟩ := wr_e h
      refine cp_add (c := 52) (t := 1) e42 rfl rfl (by decide) c38 ml_X8_91 dX8_tryOnce_122 (Nat.le_of_ble_eq_true rfl) ?_
      refine wp_pop dX8_tryOnce_125 trivial ?_
      refine wp_aload_n dX8_tryOnce_126 rfl ?_
      obtain ⟨j43, ho44, h⟩ := od_e h
      refine cp_getS (y := 9) (f := 905) (t := 55) (by decide) (by decide) rfl rfl fl_X8_377 dX8_tryOnce_127 ho44 ?_
      refine wp_aload dX8_tryOnce_130 rfl ?_
      obtain ⟨c45, h⟩ := ock h
      obtain ⟨n46, h, en47⟩ := cg_e h
      rw [← en47]
      obtain ⟨m48, e49, h⟩ := wr_e h
      refine cp_add (c := 55) (t := 1) e49 rfl rfl (by decide) c45 ml_X8_91 dX8_tryOnce_132 (Nat.le_of_ble_eq_true rfl) ?_
      refine wp_pop dX8_tryOnce_135 trivial ?_
      refine wp_aload_n dX8_tryOnce_136 rfl ?_
      obtain ⟨j50, ho51, h⟩ := od_e h
      refine cp_getS (y := 9) (f := 521) (t := 31) (by decide) (by decide) rfl rfl fl_X8_421 dX8_tryOnce_137 ho51 ?_
      refine wp_aload_n dX8_tryOnce_140 rfl ?_
      refine cp_getI (y := 0) (f := 896) (by decide) (by decide) rfl rfl fl_X8_273 dX8_tryOnce_141 ?_
      refine wp_dup2 dX8_tryOnce_144 trivial trivial ?_
      obtain ⟨c52, h⟩ := ock h
      refine cp_iald (c := 31) rfl (by decide) (show vp_in ((gI m48 896 i1)) (len 31) from c52) dX8_tryOnce_145 ?_
      refine wp_iconst (v := 1) dX8_tryOnce_146 (by decide) ?_
      refine wp_iadd dX8_tryOnce_147 ?_
      obtain ⟨m53, e54, h⟩ := wr_e h
      refine cp_iast (c := 31) e54 rfl (by decide) (show vp_in ((gI m48 896 i1)) (len 31) from c52) dX8_tryOnce_148 ?_
      refine wp_aload_n dX8_tryOnce_149 rfl ?_
      refine wp_aload dX8_tryOnce_150 rfl ?_
      obtain ⟨r55, m56, n57, n58, hp59, h, en60⟩ := cb_e h
      refine wp_callV (k1 := n57) (k2 := n58) (As := [vR 1 (((gL m16 52 0).length))]) (rest := []) (w8_X8_place hp59) okX8_place ivX8_place rfl (by decide) ml_X8_424 dX8_tryOnce_152 rfl (by decide) (Nat.le_of_eq en60) rfl (Nat.le_of_ble_eq_true rfl) (fun _ _ z => z.elim) (fun r' S' z => ?_)
      obtain ⟨rfl, rfl⟩ := z
      show WP _ _ _ _ [some (vR 8 (i0)), some (vR 7 (i1)), l2, some (vR 4 (j28)), some (vI ((if ((gI m4 1024 i0) + r15) < (gI m4 901 i1) then ((gI m4 1024 i0) + r15) else (gI m4 901 i1)))), some (vR 1 (((gL m16 52 0).length)))] [] _ _ _
      obtain ⟨q1, q2, q3⟩ := cs_e h
      clear q1
      subst q2
      exact wp_return rfl dX8_tryOnce_155 ⟨rfl, rfl⟩
    · replace h := itn c14 h
      refine wp_aload_n dX8_tryOnce_69 rfl ?_
      refine wp_bipush (v := 6) dX8_tryOnce_70 (by decide) ?_
      obtain ⟨m61, e62, h⟩ := wr_e h
      refine cp_putI (y := 13) (f := 909) e62 (by decide) (by decide) rfl rfl (Or.inl rfl) fl_X8_363 dX8_tryOnce_72 rfl ?_
      obtain ⟨q1, q2, q3⟩ := cs_e h
      clear q1
      subst q2
      exact wp_return rfl dX8_tryOnce_75 ⟨rfl, rfl⟩
def b8_X8_tryOnce_21 (i0 : Nat) (i1 : Nat) (m : CM) : CR (Int32) :=
  if (gI m 906 i1) = 0 then
    wr (sI m 908 i1 ((gI m 1024 i0))) fun m2 =>
    b8_X8_tryOnce_36 (i0) (i1) m2
  else
    b8_X8_tryOnce_36 (i0) (i1) m
theorem w8_X8_tryOnce_21 {r : Int32} {m9 : CM} {i0 : Nat} {i1 : Nat} {l2 : Option sV} {l3 : Option sV} {l4 : Option sV} {l5 : Option sV} {m : CM} {n9 : Nat} (h : b8_X8_tryOnce_21 i0 i1 m = some (r, m9, n9)) : WP mX8_tryOnce (11) n9 21 [some (vR 8 (i0)), some (vR 7 (i1)), l2, l3, l4, l5] [] (cM m out rho) (Pc out rho none m9) NX := by
  unfold b8_X8_tryOnce_21 at h
  refine wp_aload_n dX8_tryOnce_21 rfl ?_
  refine cp_getI (y := 10) (f := 906) (by decide) (by decide) rfl rfl fl_X8_400 dX8_tryOnce_22 ?_
  refine wp_if_ne (tgt := 36) dX8_tryOnce_25 (by decide) (fun c1 => ?_) (fun c1 => ?_)
  · replace h := itn c1 h
    exact w8_X8_tryOnce_36 h
  · replace h := itp c1 h
    refine wp_aload_n dX8_tryOnce_28 rfl ?_
    refine wp_aload_n dX8_tryOnce_29 rfl ?_
    refine cp_getI (y := 0) (f := 1024) (by decide) (by decide) rfl rfl fl_X8_140 dX8_tryOnce_30 ?_
    obtain ⟨m2, e3, h⟩ := wr_e h
    refine cp_putI (y := 12) (f := 908) e3 (by decide) (by decide) rfl rfl (Or.inl rfl) fl_X8_403 dX8_tryOnce_33 rfl ?_
    exact w8_X8_tryOnce_36 h
def f8_X8_tryOnce (i0 : Nat) (i1 : Nat) (x2 : Int32) (m : CM) : CR (Int32) :=
  if (gI m 903 i1) = (-1) then
    od (gR m 1030 i0) fun j2 =>
    if vq ((gI m 896 i1)) 7 then
    od (gO m 42 j2 ((gI m 896 i1)).toNatClampNeg) fun j5 =>
    cb (f8_X2_account j5 (x2) m) fun _ m8 =>
    b8_X8_tryOnce_21 (i0) (i1) m8
    else none
  else
    b8_X8_tryOnce_21 (i0) (i1) m
theorem w8_X8_tryOnce {r : Int32} {m9 : CM} {i0 : Nat} {i1 : Nat} {x2 : Int32} {m : CM} {n9 : Nat} (h : f8_X8_tryOnce i0 i1 x2 m = some (r, m9, n9)) : Spec mX8_tryOnce (11) n9 [vR 8 (i0), vR 7 (i1), vI (x2)] (cM m out rho) (Pc out rho none m9) NX := by
  unfold f8_X8_tryOnce at h
  refine spec_of (by decide) rfl (by simp [catS, cat1]) (Nat.le_of_ble_eq_true rfl) ?_
  show WP mX8_tryOnce (11) n9 0 [some (vR 8 (i0)), some (vR 7 (i1)), some (vI (x2)), none, none, none] [] (cM m out rho) (Pc out rho none m9) NX
  refine wp_aload_n dX8_tryOnce_0 rfl ?_
  refine cp_getI (y := 7) (f := 903) (by decide) (by decide) rfl rfl fl_X8_227 dX8_tryOnce_1 ?_
  refine wp_iconst (v := (-1)) dX8_tryOnce_4 (by decide) ?_
  refine wp_icmp_ne (tgt := 21) dX8_tryOnce_5 (by decide) (fun c1 => ?_) (fun c1 => ?_)
  · replace h := itn c1 h
    exact w8_X8_tryOnce_21 h
  · replace h := itp c1 h
    refine wp_aload_n dX8_tryOnce_8 rfl ?_
    obtain ⟨j2, ho3, h⟩ := od_e h
    refine cp_getS (y := 6) (f := 1030) (t := 42) (by decide) (by decide) rfl rfl fl_X8_32 dX8_tryOnce_9 ho3 ?_
    refine wp_aload_n dX8_tryOnce_12 rfl ?_
    refine cp_getI (y := 0) (f := 896) (by decide) (by decide) rfl rfl fl_X8_273 dX8_tryOnce_13 ?_
    obtain ⟨c4, h⟩ := ock h
    obtain ⟨j5, ho6, h⟩ := od_e h
    refine cp_aald (c := 42) (t := 2) rfl (by decide) rfl (show vp_in ((gI m 896 i1)) (len 42) from c4) dX8_tryOnce_16 ho6 ?_
    refine wp_iload_n dX8_tryOnce_17 rfl ?_
    obtain ⟨r7, m8, n9, n10, hp11, h, en12⟩ := cb_e h
    refine wp_callV (k1 := n9) (k2 := n10) (As := [vI (x2)]) (rest := []) (w8_X2_account hp11) okX2_account ivX2_account rfl (by decide) ml_X8_406 dX8_tryOnce_18 rfl (by decide) (Nat.le_of_eq en12) rfl (Nat.le_of_ble_eq_true rfl) (fun _ _ z => z.elim) (fun r' S' z => ?_)
    obtain ⟨rfl, rfl⟩ := z
    show WP _ _ _ _ [some (vR 8 (i0)), some (vR 7 (i1)), some (vI (x2)), none, none, none] [] _ _ _
    exact w8_X8_tryOnce_21 h
end S8
