section LL9
variable {out : Int64}
def bL_areLoads_375 (x6 : Int32) (x7 : Int32) (x8 : Int32) (u : LM) : LR :=
  if x6 = 0 then
    some (0, u, 0)
  else
    if x8 = x7 then
      lk (fW_first 0 (6) u.1) u fun r3 u4 =>
      if r3 = (gW u4 0 (1 : Int32).toNatClampNeg) then
        lk (f8_X8_repairs 0 (1) u4.1) u4 fun r11 u12 =>
        if r11 < (gW u12 0 (5 : Int32).toNatClampNeg) then
          some (0, u12, 0)
        else
          lk (f8_X8_repairs 0 (0) u12.1) u12 fun r19 u20 =>
          if r19 < (gW u20 0 (4 : Int32).toNatClampNeg) then
            some (0, u20, 0)
          else
            lk (f8_X8_repairs 0 (1) u20.1) u20 fun r27 u28 =>
            lk (f8_X8_repairs 0 (0) u28.1) u28 fun r34 u35 =>
            if r34 < r27 then
              some (0, u35, 0)
            else
              lk (f8_X8_repairs 0 (0) u35.1) u35 fun r42 u43 =>
              if 100 < r42 then
                some (0, u43, 0)
              else
                some (1, u43, 0)
      else
        some (0, u4, 0)
    else
      some (0, u, 0)
theorem wbL_areLoads_375 {r : Int32} {u9 : LM} {x6 : Int32} {x7 : Int32} {x8 : Int32} {l9 : Option sV} {l10 : Option sV} {l11 : Option sV} {l12 : Option sV} {u : LM} {n9 : Nat} (h : bL_areLoads_375 x6 x7 x8 u = some (r, u9, n9)) : WP mL_areLoads 11 n9 375 [some (vR 8 (0)), some (vR 200 (0)), some (vR 202 (0)), some (vR 203 (0)), some (vR 208 (0)), some (vR 209 (0)), some (vI (x6)), some (vI (x7)), some (vI (x8)), l9, l10, l11, l12] [] (cM u.1 out u.2) (PW out r u9) NX := by
  unfold bL_areLoads_375 at h
  refine wp_iload dL_areLoads_375 rfl ?_
  refine wp_if_eq (tgt := 448) dL_areLoads_377 (by decide) (fun c1 => ?_) (fun c1 => ?_)
  · replace h := itp c1 h
    refine wp_iconst (v := 0) dL_areLoads_448 (by decide) ?_
    obtain ⟨q1, q2, q3⟩ := ls_e h
    subst q1
    subst q2
    exact wp_zreturn rfl (by decide) dL_areLoads_449 ⟨rfl, rfl⟩
  · replace h := itn c1 h
    refine wp_iload dL_areLoads_380 rfl ?_
    refine wp_iload dL_areLoads_382 rfl ?_
    refine wp_icmp_ne (tgt := 448) dL_areLoads_384 (by decide) (fun c2 => ?_) (fun c2 => ?_)
    · replace h := itn c2 h
      refine wp_iconst (v := 0) dL_areLoads_448 (by decide) ?_
      obtain ⟨q1, q2, q3⟩ := ls_e h
      subst q1
      subst q2
      exact wp_zreturn rfl (by decide) dL_areLoads_449 ⟨rfl, rfl⟩
    · replace h := itp c2 h
      refine wp_aload_n dL_areLoads_387 rfl ?_
      refine wp_bipush (v := 6) dL_areLoads_388 (by decide) ?_
      obtain ⟨r3, u4, n5, n6, h7, hw8, h, en9⟩ := lk_e h
      refine wp_callSW (k1 := n5) (k2 := n6) (As := [vR 8 (0), vI (6)]) (rest := []) (wL_first h7) okL_first sm_L_first rfl ml_L_154 dL_areLoads_390 (by decide) (Nat.le_of_eq en9) rfl (Nat.le_of_ble_eq_true rfl) (fun r' S' z => ?_)
      obtain ⟨rfl, rfl⟩ := z
      show WP _ _ _ _ [some (vR 8 (0)), some (vR 200 (0)), some (vR 202 (0)), some (vR 203 (0)), some (vR 208 (0)), some (vR 209 (0)), some (vI (x6)), some (vI (x7)), some (vI (x8)), l9, l10, l11, l12] [vI (r3)] (cM u4.1 out u.2) _ _
      rw [hw8]
      refine wp_aload_n dL_areLoads_393 rfl ?_
      refine wp_iconst (v := 1) dL_areLoads_394 (by decide) ?_
      refine cq_ald (c := 200) (y := 0) rfl rfl (show vp_in (1) (len 200) from (by decide : vq (1) 6)) dL_areLoads_395 ?_
      refine wp_icmp_ne (tgt := 448) dL_areLoads_396 (by decide) (fun c10 => ?_) (fun c10 => ?_)
      · replace h := itn c10 h
        refine wp_iconst (v := 0) dL_areLoads_448 (by decide) ?_
        obtain ⟨q1, q2, q3⟩ := ls_e h
        subst q1
        subst q2
        exact wp_zreturn rfl (by decide) dL_areLoads_449 ⟨rfl, rfl⟩
      · replace h := itp c10 h
        refine wp_aload_n dL_areLoads_399 rfl ?_
        refine wp_iconst (v := 1) dL_areLoads_400 (by decide) ?_
        obtain ⟨r11, u12, n13, n14, h15, hw16, h, en17⟩ := lk_e h
        refine wp_callV (k1 := n13) (k2 := n14) (As := [vI (1)]) (rest := []) (w8_X8_repairs h15) okX8_repairs ivX8_repairs rfl (by decide) ml_L_138 dL_areLoads_401 rfl (by decide) (Nat.le_of_eq en17) rfl (Nat.le_of_ble_eq_true rfl) (fun _ _ z => z) (fun r' S' z => ?_)
        obtain ⟨rfl, rfl⟩ := z
        show WP _ _ _ _ [some (vR 8 (0)), some (vR 200 (0)), some (vR 202 (0)), some (vR 203 (0)), some (vR 208 (0)), some (vR 209 (0)), some (vI (x6)), some (vI (x7)), some (vI (x8)), l9, l10, l11, l12] [vI (r11)] (cM u12.1 out u4.2) _ _
        rw [hw16]
        refine wp_aload_n dL_areLoads_404 rfl ?_
        refine wp_iconst (v := 5) dL_areLoads_405 (by decide) ?_
        refine cq_ald (c := 200) (y := 0) rfl rfl (show vp_in (5) (len 200) from (by decide : vq (5) 6)) dL_areLoads_406 ?_
        refine wp_icmp_lt (tgt := 448) dL_areLoads_407 (by decide) (fun c18 => ?_) (fun c18 => ?_)
        · replace h := itp c18 h
          refine wp_iconst (v := 0) dL_areLoads_448 (by decide) ?_
          obtain ⟨q1, q2, q3⟩ := ls_e h
          subst q1
          subst q2
          exact wp_zreturn rfl (by decide) dL_areLoads_449 ⟨rfl, rfl⟩
        · replace h := itn c18 h
          refine wp_aload_n dL_areLoads_410 rfl ?_
          refine wp_iconst (v := 0) dL_areLoads_411 (by decide) ?_
          obtain ⟨r19, u20, n21, n22, h23, hw24, h, en25⟩ := lk_e h
          refine wp_callV (k1 := n21) (k2 := n22) (As := [vI (0)]) (rest := []) (w8_X8_repairs h23) okX8_repairs ivX8_repairs rfl (by decide) ml_L_138 dL_areLoads_412 rfl (by decide) (Nat.le_of_eq en25) rfl (Nat.le_of_ble_eq_true rfl) (fun _ _ z => z) (fun r' S' z => ?_)
          obtain ⟨rfl, rfl⟩ := z
          show WP _ _ _ _ [some (vR 8 (0)), some (vR 200 (0)), some (vR 202 (0)), some (vR 203 (0)), some (vR 208 (0)), some (vR 209 (0)), some (vI (x6)), some (vI (x7)), some (vI (x8)), l9, l10, l11, l12] [vI (r19)] (cM u20.1 out u12.2) _ _
          rw [hw24]
          refine wp_aload_n dL_areLoads_415 rfl ?_
          refine wp_iconst (v := 4) dL_areLoads_416 (by decide) ?_
          refine cq_ald (c := 200) (y := 0) rfl rfl (show vp_in (4) (len 200) from (by decide : vq (4) 6)) dL_areLoads_417 ?_
          refine wp_icmp_lt (tgt := 448) dL_areLoads_418 (by decide) (fun c26 => ?_) (fun c26 => ?_)
          · replace h := itp c26 h
            refine wp_iconst (v := 0) dL_areLoads_448 (by decide) ?_
            obtain ⟨q1, q2, q3⟩ := ls_e h
            subst q1
            subst q2
            exact wp_zreturn rfl (by decide) dL_areLoads_449 ⟨rfl, rfl⟩
          · replace h := itn c26 h
            refine wp_aload_n dL_areLoads_421 rfl ?_
            refine wp_iconst (v := 1) dL_areLoads_422 (by decide) ?_
            obtain ⟨r27, u28, n29, n30, h31, hw32, h, en33⟩ := lk_e h
            refine wp_callV (k1 := n29) (k2 := n30) (As := [vI (1)]) (rest := []) (w8_X8_repairs h31) okX8_repairs ivX8_repairs rfl (by decide) ml_L_138 dL_areLoads_423 rfl (by decide) (Nat.le_of_eq en33) rfl (Nat.le_of_ble_eq_true rfl) (fun _ _ z => z) (fun r' S' z => ?_)
            obtain ⟨rfl, rfl⟩ := z
            show WP _ _ _ _ [some (vR 8 (0)), some (vR 200 (0)), some (vR 202 (0)), some (vR 203 (0)), some (vR 208 (0)), some (vR 209 (0)), some (vI (x6)), some (vI (x7)), some (vI (x8)), l9, l10, l11, l12] [vI (r27)] (cM u28.1 out u20.2) _ _
            rw [hw32]
            refine wp_aload_n dL_areLoads_426 rfl ?_
            refine wp_iconst (v := 0) dL_areLoads_427 (by decide) ?_
            obtain ⟨r34, u35, n36, n37, h38, hw39, h, en40⟩ := lk_e h
            refine wp_callV (k1 := n36) (k2 := n37) (As := [vI (0)]) (rest := [vI (r27)]) (w8_X8_repairs h38) okX8_repairs ivX8_repairs rfl (by decide) ml_L_138 dL_areLoads_428 rfl (by decide) (Nat.le_of_eq en40) rfl (Nat.le_of_ble_eq_true rfl) (fun _ _ z => z) (fun r' S' z => ?_)
            obtain ⟨rfl, rfl⟩ := z
            show WP _ _ _ _ [some (vR 8 (0)), some (vR 200 (0)), some (vR 202 (0)), some (vR 203 (0)), some (vR 208 (0)), some (vR 209 (0)), some (vI (x6)), some (vI (x7)), some (vI (x8)), l9, l10, l11, l12] [vI (r34), vI (r27)] (cM u35.1 out u28.2) _ _
            rw [hw39]
            refine wp_icmp_gt (tgt := 448) dL_areLoads_431 (by decide) (fun c41 => ?_) (fun c41 => ?_)
            · replace h := itp c41 h
              refine wp_iconst (v := 0) dL_areLoads_448 (by decide) ?_
              obtain ⟨q1, q2, q3⟩ := ls_e h
              subst q1
              subst q2
              exact wp_zreturn rfl (by decide) dL_areLoads_449 ⟨rfl, rfl⟩
            · replace h := itn c41 h
              refine wp_aload_n dL_areLoads_434 rfl ?_
              refine wp_iconst (v := 0) dL_areLoads_435 (by decide) ?_
              obtain ⟨r42, u43, n44, n45, h46, hw47, h, en48⟩ := lk_e h
              refine wp_callV (k1 := n44) (k2 := n45) (As := [vI (0)]) (rest := []) (w8_X8_repairs h46) okX8_repairs ivX8_repairs rfl (by decide) ml_L_138 dL_areLoads_436 rfl (by decide) (Nat.le_of_eq en48) rfl (Nat.le_of_ble_eq_true rfl) (fun _ _ z => z) (fun r' S' z => ?_)
              obtain ⟨rfl, rfl⟩ := z
              show WP _ _ _ _ [some (vR 8 (0)), some (vR 200 (0)), some (vR 202 (0)), some (vR 203 (0)), some (vR 208 (0)), some (vR 209 (0)), some (vI (x6)), some (vI (x7)), some (vI (x8)), l9, l10, l11, l12] [vI (r42)] (cM u43.1 out u35.2) _ _
              rw [hw47]
              refine wp_bipush (v := 100) dL_areLoads_439 (by decide) ?_
              refine wp_icmp_gt (tgt := 448) dL_areLoads_441 (by decide) (fun c49 => ?_) (fun c49 => ?_)
              · replace h := itp c49 h
                refine wp_iconst (v := 0) dL_areLoads_448 (by decide) ?_
                obtain ⟨q1, q2, q3⟩ := ls_e h
                subst q1
                subst q2
                exact wp_zreturn rfl (by decide) dL_areLoads_449 ⟨rfl, rfl⟩
              · replace h := itn c49 h
                refine wp_iconst (v := 1) dL_areLoads_444 (by decide) ?_
                refine wp_goto (tgt := 449) dL_areLoads_445 (by decide) ?_
                obtain ⟨q1, q2, q3⟩ := ls_e h
                subst q1
                subst q2
                exact wp_zreturn rfl (by decide) dL_areLoads_449 ⟨rfl, rfl⟩
def bL_areLoads_353 (K238 : Int32 → Int32 → Int32 → Int32 → LM → LR) (x7 : Int32) (x8 : Int32) (x9 : Int32) (x10 : Int32) (x11 : Int32) (s0 : Int32) (u : LM) : LR :=
  if vq (x9) 7 then
  wr (sW u 8 (x9).toNatClampNeg (x10)) fun u2 =>
  wr (sW u2 9 (x9).toNatClampNeg (x11)) fun u4 =>
  K238 (s0) (x7) (x8) (x9 + 1) u4
  else none
theorem wbL_areLoads_353 {K238 : Int32 → Int32 → Int32 → Int32 → LM → LR} {r : Int32} {u9 : LM} (hK238 : ∀ {x6 : Int32} {x7 : Int32} {x8 : Int32} {x9 : Int32} {l10 : Option sV} {l11 : Option sV} {l12 : Option sV} {u : LM} {n9 : Nat}, K238 x6 x7 x8 x9 u = some (r, u9, n9) → WP mL_areLoads 11 n9 238 [some (vR 8 (0)), some (vR 200 (0)), some (vR 202 (0)), some (vR 203 (0)), some (vR 208 (0)), some (vR 209 (0)), some (vI (x6)), some (vI (x7)), some (vI (x8)), some (vI (x9)), l10, l11, l12] [] (cM u.1 out u.2) (PW out r u9) NX) {x7 : Int32} {x8 : Int32} {x9 : Int32} {x10 : Int32} {x11 : Int32} {s0 : Int32} {l6 : Option sV} {l12 : Option sV} {u : LM} {n9 : Nat} (h : bL_areLoads_353 K238 x7 x8 x9 x10 x11 s0 u = some (r, u9, n9)) : WP mL_areLoads 11 n9 353 [some (vR 8 (0)), some (vR 200 (0)), some (vR 202 (0)), some (vR 203 (0)), some (vR 208 (0)), some (vR 209 (0)), l6, some (vI (x7)), some (vI (x8)), some (vI (x9)), some (vI (x10)), some (vI (x11)), l12] [vI (s0)] (cM u.1 out u.2) (PW out r u9) NX := by
  unfold bL_areLoads_353 at h
  refine wp_istore (L' := [some (vR 8 (0)), some (vR 200 (0)), some (vR 202 (0)), some (vR 203 (0)), some (vR 208 (0)), some (vR 209 (0)), some (vI (s0)), some (vI (x7)), some (vI (x8)), some (vI (x9)), some (vI (x10)), some (vI (x11)), l12]) dL_areLoads_353 rfl rfl ?_
  refine wp_aload dL_areLoads_355 rfl ?_
  refine wp_iload dL_areLoads_357 rfl ?_
  refine wp_iload dL_areLoads_359 rfl ?_
  obtain ⟨c1, h⟩ := ock h
  obtain ⟨u2, e3, h⟩ := wr_e h
  refine cq_ast (c := 208) (y := 8) e3 rfl rfl (show vp_in (x9) (len 208) from c1) dL_areLoads_361 ?_
  refine wp_aload dL_areLoads_362 rfl ?_
  refine wp_iload dL_areLoads_364 rfl ?_
  refine wp_iload dL_areLoads_366 rfl ?_
  obtain ⟨u4, e5, h⟩ := wr_e h
  refine cq_ast (c := 209) (y := 9) e5 rfl rfl (show vp_in (x9) (len 209) from c1) dL_areLoads_368 ?_
  refine wp_iinc (v := x9 + 1) (L' := [some (vR 8 (0)), some (vR 200 (0)), some (vR 202 (0)), some (vR 203 (0)), some (vR 208 (0)), some (vR 209 (0)), some (vI (s0)), some (vI (x7)), some (vI (x8)), some (vI (x9 + 1)), some (vI (x10)), some (vI (x11)), l12]) dL_areLoads_369 rfl rfl rfl ?_
  refine wp_goto (tgt := 238) dL_areLoads_372 (by decide) ?_
  exact hK238 h
def lL_areLoads_238 : Nat → Int32 → Int32 → Int32 → Int32 → LM → LR
  | 0, _, _, _, _, _ => none
  | n + 1, x6, x7, x8, x9, u =>
  if 7 ≤ x9 then
    bL_areLoads_375 (x6) (x7) (x8) u
  else
    if x6 = 0 then
      bL_areLoads_375 (x6) (x7) (x8) u
    else
      lk (fW_first 0 (x9) u.1) u fun r3 u4 =>
      lk (fW_extra 0 (x9) u4.1) u4 fun r10 u11 =>
      lk (fW_budget 0 (x9) u11.1) u11 fun r17 u18 =>
      if r17 < 0 then
        bL_areLoads_353 (lL_areLoads_238 n) (x7) (x8) (x9) (r3) (r10) (0) u18
      else
        lk (fW_budget 0 (x9) u18.1) u18 fun r25 u26 =>
        if 1000 < r25 then
          bL_areLoads_353 (lL_areLoads_238 n) (x7) (x8) (x9) (r3) (r10) (0) u26
        else
          if vq (x9) 7 then
          if r3 < (gW u26 8 (x9).toNatClampNeg) then
            bL_areLoads_353 (lL_areLoads_238 n) (x7) (x8) (x9) (r3) (r10) (0) u26
          else
            if r10 < (gW u26 9 (x9).toNatClampNeg) then
              bL_areLoads_353 (lL_areLoads_238 n) (x7) (x8) (x9) (r3) (r10) (0) u26
            else
              if ((1000 : Int32) + ((100 : Int32) * r3)) < ((100 : Int32) * r10) then
                bL_areLoads_353 (lL_areLoads_238 n) (x7) (x8) (x9) (r3) (r10) (0) u26
              else
                lk (fW_budget 0 (x9) u26.1) u26 fun r37 u38 =>
                if (((1000 : Int32) + ((100 : Int32) * r3)) - ((100 : Int32) * r10)) < r37 then
                  bL_areLoads_353 (lL_areLoads_238 n) (x7) (x8) (x9) (r3) (r10) (0) u38
                else
                  bL_areLoads_353 (lL_areLoads_238 n) (x7) (x8) (x9) (r3) (r10) (1) u38
          else none
theorem wlL_areLoads_238 {r : Int32} {u9 : LM} : ∀ (n : Nat) {x6 : Int32} {x7 : Int32} {x8 : Int32} {x9 : Int32} {l10 : Option sV} {l11 : Option sV} {l12 : Option sV} {u : LM} {n9 : Nat}, lL_areLoads_238 n x6 x7 x8 x9 u = some (r, u9, n9) → WP mL_areLoads 11 n9 238 [some (vR 8 (0)), some (vR 200 (0)), some (vR 202 (0)), some (vR 203 (0)), some (vR 208 (0)), some (vR 209 (0)), some (vI (x6)), some (vI (x7)), some (vI (x8)), some (vI (x9)), l10, l11, l12] [] (cM u.1 out u.2) (PW out r u9) NX := by
  intro n
  induction n with
  | zero =>
    intro x6 x7 x8 x9 l10 l11 l12 u n9 h
    rw [lL_areLoads_238] at h
    cases h
  | succ n ih =>
    intro x6 x7 x8 x9 l10 l11 l12 u n9 h
    rw [lL_areLoads_238] at h
    refine wp_iload dL_areLoads_238 rfl ?_
    refine wp_bipush (v := 7) dL_areLoads_240 (by decide) ?_
    refine wp_icmp_ge (tgt := 375) dL_areLoads_242 (by decide) (fun c1 => ?_) (fun c1 => ?_)
    · replace h := itp c1 h
      exact wbL_areLoads_375 h
    · replace h := itn c1 h
      refine wp_iload dL_areLoads_245 rfl ?_
      refine wp_if_eq (tgt := 375) dL_areLoads_247 (by decide) (fun c2 => ?_) (fun c2 => ?_)
      · replace h := itp c2 h
        exact wbL_areLoads_375 h
      · replace h := itn c2 h
        refine wp_aload_n dL_areLoads_250 rfl ?_
        refine wp_iload dL_areLoads_251 rfl ?_
        obtain ⟨r3, u4, n5, n6, h7, hw8, h, en9⟩ := lk_e h
        refine wp_callSW (k1 := n5) (k2 := n6) (As := [vR 8 (0), vI (x9)]) (rest := []) (wL_first h7) okL_first sm_L_first rfl ml_L_154 dL_areLoads_253 (by decide) (Nat.le_of_eq en9) rfl (Nat.le_of_ble_eq_true rfl) (fun r' S' z => ?_)
        obtain ⟨rfl, rfl⟩ := z
        show WP _ _ _ _ [some (vR 8 (0)), some (vR 200 (0)), some (vR 202 (0)), some (vR 203 (0)), some (vR 208 (0)), some (vR 209 (0)), some (vI (x6)), some (vI (x7)), some (vI (x8)), some (vI (x9)), l10, l11, l12] [vI (r3)] (cM u4.1 out u.2) _ _
        rw [hw8]
        refine wp_istore (L' := [some (vR 8 (0)), some (vR 200 (0)), some (vR 202 (0)), some (vR 203 (0)), some (vR 208 (0)), some (vR 209 (0)), some (vI (x6)), some (vI (x7)), some (vI (x8)), some (vI (x9)), some (vI (r3)), l11, l12]) dL_areLoads_256 rfl rfl ?_
        refine wp_aload_n dL_areLoads_258 rfl ?_
        refine wp_iload dL_areLoads_259 rfl ?_
        obtain ⟨r10, u11, n12, n13, h14, hw15, h, en16⟩ := lk_e h
        refine wp_callSW (k1 := n12) (k2 := n13) (As := [vR 8 (0), vI (x9)]) (rest := []) (wL_extra h14) okL_extra sm_L_extra rfl ml_L_156 dL_areLoads_261 (by decide) (Nat.le_of_eq en16) rfl (Nat.le_of_ble_eq_true rfl) (fun r' S' z => ?_)
        obtain ⟨rfl, rfl⟩ := z
        show WP _ _ _ _ [some (vR 8 (0)), some (vR 200 (0)), some (vR 202 (0)), some (vR 203 (0)), some (vR 208 (0)), some (vR 209 (0)), some (vI (x6)), some (vI (x7)), some (vI (x8)), some (vI (x9)), some (vI (r3)), l11, l12] [vI (r10)] (cM u11.1 out u4.2) _ _
        rw [hw15]
        refine wp_istore (L' := [some (vR 8 (0)), some (vR 200 (0)), some (vR 202 (0)), some (vR 203 (0)), some (vR 208 (0)), some (vR 209 (0)), some (vI (x6)), some (vI (x7)), some (vI (x8)), some (vI (x9)), some (vI (r3)), some (vI (r10)), l12]) dL_areLoads_264 rfl rfl ?_
        refine wp_aload_n dL_areLoads_266 rfl ?_
        refine wp_iload dL_areLoads_267 rfl ?_
        obtain ⟨r17, u18, n19, n20, h21, hw22, h, en23⟩ := lk_e h
        refine wp_callSW (k1 := n19) (k2 := n20) (As := [vR 8 (0), vI (x9)]) (rest := []) (wL_budget h21) okL_budget sm_L_budget rfl ml_L_158 dL_areLoads_269 (by decide) (Nat.le_of_eq en23) rfl (Nat.le_of_ble_eq_true rfl) (fun r' S' z => ?_)
        obtain ⟨rfl, rfl⟩ := z
        show WP _ _ _ _ [some (vR 8 (0)), some (vR 200 (0)), some (vR 202 (0)), some (vR 203 (0)), some (vR 208 (0)), some (vR 209 (0)), some (vI (x6)), some (vI (x7)), some (vI (x8)), some (vI (x9)), some (vI (r3)), some (vI (r10)), l12] [vI (r17)] (cM u18.1 out u11.2) _ _
        rw [hw22]
        refine wp_if_lt (tgt := 352) dL_areLoads_272 (by decide) (fun c24 => ?_) (fun c24 => ?_)
        · replace h := itp c24 h
          refine wp_iconst (v := 0) dL_areLoads_352 (by decide) ?_
          exact wbL_areLoads_353 ih h
        · replace h := itn c24 h
          refine wp_aload_n dL_areLoads_275 rfl ?_
          refine wp_iload dL_areLoads_276 rfl ?_
          obtain ⟨r25, u26, n27, n28, h29, hw30, h, en31⟩ := lk_e h
          refine wp_callSW (k1 := n27) (k2 := n28) (As := [vR 8 (0), vI (x9)]) (rest := []) (wL_budget h29) okL_budget sm_L_budget rfl ml_L_158 dL_areLoads_278 (by decide) (Nat.le_of_eq en31) rfl (Nat.le_of_ble_eq_true rfl) (fun r' S' z => ?_)
          obtain ⟨rfl, rfl⟩ := z
          show WP _ _ _ _ [some (vR 8 (0)), some (vR 200 (0)), some (vR 202 (0)), some (vR 203 (0)), some (vR 208 (0)), some (vR 209 (0)), some (vI (x6)), some (vI (x7)), some (vI (x8)), some (vI (x9)), some (vI (r3)), some (vI (r10)), l12] [vI (r25)] (cM u26.1 out u18.2) _ _
          rw [hw30]
          refine wp_sipush (v := 1000) dL_areLoads_281 (by decide) ?_
          refine wp_icmp_gt (tgt := 352) dL_areLoads_284 (by decide) (fun c32 => ?_) (fun c32 => ?_)
          · replace h := itp c32 h
            refine wp_iconst (v := 0) dL_areLoads_352 (by decide) ?_
            exact wbL_areLoads_353 ih h
          · replace h := itn c32 h
            refine wp_iload dL_areLoads_287 rfl ?_
            refine wp_aload dL_areLoads_289 rfl ?_
            refine wp_iload dL_areLoads_291 rfl ?_
            obtain ⟨c33, h⟩ := ock h
            refine cq_ald (c := 208) (y := 8) rfl rfl (show vp_in (x9) (len 208) from c33) dL_areLoads_293 ?_
            refine wp_icmp_lt (tgt := 352) dL_areLoads_294 (by decide) (fun c34 => ?_) (fun c34 => ?_)
            · replace h := itp c34 h
              refine wp_iconst (v := 0) dL_areLoads_352 (by decide) ?_
              exact wbL_areLoads_353 ih h
            · replace h := itn c34 h
              refine wp_iload dL_areLoads_297 rfl ?_
              refine wp_aload dL_areLoads_299 rfl ?_
              refine wp_iload dL_areLoads_301 rfl ?_
              refine cq_ald (c := 209) (y := 9) rfl rfl (show vp_in (x9) (len 209) from c33) dL_areLoads_303 ?_
              refine wp_icmp_lt (tgt := 352) dL_areLoads_304 (by decide) (fun c35 => ?_) (fun c35 => ?_)
              · replace h := itp c35 h
                refine wp_iconst (v := 0) dL_areLoads_352 (by decide) ?_
                exact wbL_areLoads_353 ih h
              · replace h := itn c35 h
                refine wp_bipush (v := 100) dL_areLoads_307 (by decide) ?_
                refine wp_iload dL_areLoads_309 rfl ?_
                refine wp_imul dL_areLoads_311 ?_
                refine wp_sipush (v := 1000) dL_areLoads_312 (by decide) ?_
                refine wp_bipush (v := 100) dL_areLoads_315 (by decide) ?_
                refine wp_iload dL_areLoads_317 rfl ?_
                refine wp_imul dL_areLoads_319 ?_
                refine wp_iadd dL_areLoads_320 ?_
                refine wp_icmp_gt (tgt := 352) dL_areLoads_321 (by decide) (fun c36 => ?_) (fun c36 => ?_)
                · replace h := itp c36 h
                  refine wp_iconst (v := 0) dL_areLoads_352 (by decide) ?_
                  exact wbL_areLoads_353 ih h
                · replace h := itn c36 h
                  refine wp_aload_n dL_areLoads_324 rfl ?_
                  refine wp_iload dL_areLoads_325 rfl ?_
                  obtain ⟨r37, u38, n39, n40, h41, hw42, h, en43⟩ := lk_e h
                  refine wp_callSW (k1 := n39) (k2 := n40) (As := [vR 8 (0), vI (x9)]) (rest := []) (wL_budget h41) okL_budget sm_L_budget rfl ml_L_158 dL_areLoads_327 (by decide) (Nat.le_of_eq en43) rfl (Nat.le_of_ble_eq_true rfl) (fun r' S' z => ?_)
                  obtain ⟨rfl, rfl⟩ := z
                  show WP _ _ _ _ [some (vR 8 (0)), some (vR 200 (0)), some (vR 202 (0)), some (vR 203 (0)), some (vR 208 (0)), some (vR 209 (0)), some (vI (x6)), some (vI (x7)), some (vI (x8)), some (vI (x9)), some (vI (r3)), some (vI (r10)), l12] [vI (r37)] (cM u38.1 out u26.2) _ _
                  rw [hw42]
                  refine wp_sipush (v := 1000) dL_areLoads_330 (by decide) ?_
                  refine wp_bipush (v := 100) dL_areLoads_333 (by decide) ?_
                  refine wp_iload dL_areLoads_335 rfl ?_
                  refine wp_imul dL_areLoads_337 ?_
                  refine wp_iadd dL_areLoads_338 ?_
                  refine wp_bipush (v := 100) dL_areLoads_339 (by decide) ?_
                  refine wp_iload dL_areLoads_341 rfl ?_
                  refine wp_imul dL_areLoads_343 ?_
                  refine wp_isub dL_areLoads_344 ?_
                  refine wp_icmp_gt (tgt := 352) dL_areLoads_345 (by decide) (fun c44 => ?_) (fun c44 => ?_)
                  · replace h := itp c44 h
                    refine wp_iconst (v := 0) dL_areLoads_352 (by decide) ?_
                    exact wbL_areLoads_353 ih h
                  · replace h := itn c44 h
                    refine wp_iconst (v := 1) dL_areLoads_348 (by decide) ?_
                    refine wp_goto (tgt := 353) dL_areLoads_349 (by decide) ?_
                    exact wbL_areLoads_353 ih h
def bL_areLoads_226 (K199 : Int32 → Int32 → Int32 → Int32 → LM → LR) (x6 : Int32) (x7 : Int32) (x9 : Int32) (s0 : Int32) (s1 : Int32) (u : LM) : LR :=
  K199 (x6) (x7) ((s1 + s0)) (x9 + 1) u
theorem wbL_areLoads_226 {K199 : Int32 → Int32 → Int32 → Int32 → LM → LR} {r : Int32} {u9 : LM} (hK199 : ∀ {x6 : Int32} {x7 : Int32} {x8 : Int32} {x9 : Int32} {l10 : Option sV} {l11 : Option sV} {l12 : Option sV} {u : LM} {n9 : Nat}, K199 x6 x7 x8 x9 u = some (r, u9, n9) → WP mL_areLoads 11 n9 199 [some (vR 8 (0)), some (vR 200 (0)), some (vR 202 (0)), some (vR 203 (0)), some (vR 208 (0)), some (vR 209 (0)), some (vI (x6)), some (vI (x7)), some (vI (x8)), some (vI (x9)), l10, l11, l12] [] (cM u.1 out u.2) (PW out r u9) NX) {x6 : Int32} {x7 : Int32} {x9 : Int32} {s0 : Int32} {s1 : Int32} {l8 : Option sV} {l10 : Option sV} {l11 : Option sV} {l12 : Option sV} {u : LM} {n9 : Nat} (h : bL_areLoads_226 K199 x6 x7 x9 s0 s1 u = some (r, u9, n9)) : WP mL_areLoads 11 n9 226 [some (vR 8 (0)), some (vR 200 (0)), some (vR 202 (0)), some (vR 203 (0)), some (vR 208 (0)), some (vR 209 (0)), some (vI (x6)), some (vI (x7)), l8, some (vI (x9)), l10, l11, l12] [vI (s0), vI (s1)] (cM u.1 out u.2) (PW out r u9) NX := by
  unfold bL_areLoads_226 at h
  refine wp_iadd dL_areLoads_226 ?_
  refine wp_istore (L' := [some (vR 8 (0)), some (vR 200 (0)), some (vR 202 (0)), some (vR 203 (0)), some (vR 208 (0)), some (vR 209 (0)), some (vI (x6)), some (vI (x7)), some (vI ((s1 + s0))), some (vI (x9)), l10, l11, l12]) dL_areLoads_227 rfl rfl ?_
  refine wp_iinc (v := x9 + 1) (L' := [some (vR 8 (0)), some (vR 200 (0)), some (vR 202 (0)), some (vR 203 (0)), some (vR 208 (0)), some (vR 209 (0)), some (vI (x6)), some (vI (x7)), some (vI ((s1 + s0))), some (vI (x9 + 1)), l10, l11, l12]) dL_areLoads_229 rfl rfl rfl ?_
  refine wp_goto (tgt := 199) dL_areLoads_232 (by decide) ?_
  exact hK199 h
def lL_areLoads_199 : Nat → Int32 → Int32 → Int32 → Int32 → LM → LR
  | 0, _, _, _, _, _ => none
  | n + 1, x6, x7, x8, x9, u =>
  lk (f8_X8_calls 0  u.1) u fun r1 u2 =>
  if r1 ≤ x9 then
    lL_areLoads_238 FU (x6) (x7) (x8) (0) u2
  else
    lk (fW_call 0 (x9) (2) u2.1) u2 fun r9 u10 =>
    if 3 ≤ r9 then
      bL_areLoads_226 (lL_areLoads_199 n) (x6) (x7) (x9) (0) (x8) u10
    else
      bL_areLoads_226 (lL_areLoads_199 n) (x6) (x7) (x9) (1) (x8) u10
theorem wlL_areLoads_199 {r : Int32} {u9 : LM} : ∀ (n : Nat) {x6 : Int32} {x7 : Int32} {x8 : Int32} {x9 : Int32} {l10 : Option sV} {l11 : Option sV} {l12 : Option sV} {u : LM} {n9 : Nat}, lL_areLoads_199 n x6 x7 x8 x9 u = some (r, u9, n9) → WP mL_areLoads 11 n9 199 [some (vR 8 (0)), some (vR 200 (0)), some (vR 202 (0)), some (vR 203 (0)), some (vR 208 (0)), some (vR 209 (0)), some (vI (x6)), some (vI (x7)), some (vI (x8)), some (vI (x9)), l10, l11, l12] [] (cM u.1 out u.2) (PW out r u9) NX := by
  intro n
  induction n with
  | zero =>
    intro x6 x7 x8 x9 l10 l11 l12 u n9 h
    rw [lL_areLoads_199] at h
    cases h
  | succ n ih =>
    intro x6 x7 x8 x9 l10 l11 l12 u n9 h
    rw [lL_areLoads_199] at h
    refine wp_iload dL_areLoads_199 rfl ?_
    refine wp_aload_n dL_areLoads_201 rfl ?_
    obtain ⟨r1, u2, n3, n4, h5, hw6, h, en7⟩ := lk_e h
    refine wp_callV (k1 := n3) (k2 := n4) (As := []) (rest := [vI (x9)]) (w8_X8_calls h5) okX8_calls ivX8_calls rfl (by decide) ml_L_132 dL_areLoads_202 rfl (by decide) (Nat.le_of_eq en7) rfl (Nat.le_of_ble_eq_true rfl) (fun _ _ z => z) (fun r' S' z => ?_)
    obtain ⟨rfl, rfl⟩ := z
    show WP _ _ _ _ [some (vR 8 (0)), some (vR 200 (0)), some (vR 202 (0)), some (vR 203 (0)), some (vR 208 (0)), some (vR 209 (0)), some (vI (x6)), some (vI (x7)), some (vI (x8)), some (vI (x9)), l10, l11, l12] [vI (r1), vI (x9)] (cM u2.1 out u.2) _ _
    rw [hw6]
    refine wp_icmp_ge (tgt := 235) dL_areLoads_205 (by decide) (fun c8 => ?_) (fun c8 => ?_)
    · replace h := itp c8 h
      refine wp_iconst (v := 0) dL_areLoads_235 (by decide) ?_
      refine wp_istore (L' := [some (vR 8 (0)), some (vR 200 (0)), some (vR 202 (0)), some (vR 203 (0)), some (vR 208 (0)), some (vR 209 (0)), some (vI (x6)), some (vI (x7)), some (vI (x8)), some (vI (0)), l10, l11, l12]) dL_areLoads_236 rfl rfl ?_
      exact wlL_areLoads_238 FU h
    · replace h := itn c8 h
      refine wp_iload dL_areLoads_208 rfl ?_
      refine wp_aload_n dL_areLoads_210 rfl ?_
      refine wp_iload dL_areLoads_211 rfl ?_
      refine wp_iconst (v := 2) dL_areLoads_213 (by decide) ?_
      obtain ⟨r9, u10, n11, n12, h13, hw14, h, en15⟩ := lk_e h
      refine wp_callSW (k1 := n11) (k2 := n12) (As := [vR 8 (0), vI (x9), vI (2)]) (rest := [vI (x8)]) (wL_call h13) okL_call sm_L_call rfl ml_L_136 dL_areLoads_214 (by decide) (Nat.le_of_eq en15) rfl (Nat.le_of_ble_eq_true rfl) (fun r' S' z => ?_)
      obtain ⟨rfl, rfl⟩ := z
      show WP _ _ _ _ [some (vR 8 (0)), some (vR 200 (0)), some (vR 202 (0)), some (vR 203 (0)), some (vR 208 (0)), some (vR 209 (0)), some (vI (x6)), some (vI (x7)), some (vI (x8)), some (vI (x9)), l10, l11, l12] [vI (r9), vI (x8)] (cM u10.1 out u2.2) _ _
      rw [hw14]
      refine wp_iconst (v := 3) dL_areLoads_217 (by decide) ?_
      refine wp_icmp_ge (tgt := 225) dL_areLoads_218 (by decide) (fun c16 => ?_) (fun c16 => ?_)
      · replace h := itp c16 h
        refine wp_iconst (v := 0) dL_areLoads_225 (by decide) ?_
        exact wbL_areLoads_226 ih h
      · replace h := itn c16 h
        refine wp_iconst (v := 1) dL_areLoads_221 (by decide) ?_
        refine wp_goto (tgt := 226) dL_areLoads_222 (by decide) ?_
        exact wbL_areLoads_226 ih h
def bL_areLoads_193 (x6 : Int32) (x7 : Int32) (u : LM) : LR :=
  lL_areLoads_199 FU (x6) (x7) (0) (0) u
theorem wbL_areLoads_193 {r : Int32} {u9 : LM} {x6 : Int32} {x7 : Int32} {l8 : Option sV} {l9 : Option sV} {l10 : Option sV} {l11 : Option sV} {l12 : Option sV} {u : LM} {n9 : Nat} (h : bL_areLoads_193 x6 x7 u = some (r, u9, n9)) : WP mL_areLoads 11 n9 193 [some (vR 8 (0)), some (vR 200 (0)), some (vR 202 (0)), some (vR 203 (0)), some (vR 208 (0)), some (vR 209 (0)), some (vI (x6)), some (vI (x7)), l8, l9, l10, l11, l12] [] (cM u.1 out u.2) (PW out r u9) NX := by
  unfold bL_areLoads_193 at h
  refine wp_iconst (v := 0) dL_areLoads_193 (by decide) ?_
  refine wp_istore (L' := [some (vR 8 (0)), some (vR 200 (0)), some (vR 202 (0)), some (vR 203 (0)), some (vR 208 (0)), some (vR 209 (0)), some (vI (x6)), some (vI (x7)), some (vI (0)), l9, l10, l11, l12]) dL_areLoads_194 rfl rfl ?_
  refine wp_iconst (v := 0) dL_areLoads_196 (by decide) ?_
  refine wp_istore (L' := [some (vR 8 (0)), some (vR 200 (0)), some (vR 202 (0)), some (vR 203 (0)), some (vR 208 (0)), some (vR 209 (0)), some (vI (x6)), some (vI (x7)), some (vI (0)), some (vI (0)), l10, l11, l12]) dL_areLoads_197 rfl rfl ?_
  exact wlL_areLoads_199 FU h
def bL_areLoads_184 (K9 : Int32 → Int32 → Int32 → LM → LR) (x7 : Int32) (x8 : Int32) (u : LM) : LR :=
  K9 (0) (x7) (x8 + 1) u
theorem wbL_areLoads_184 {K9 : Int32 → Int32 → Int32 → LM → LR} {r : Int32} {u9 : LM} (hK9 : ∀ {x6 : Int32} {x7 : Int32} {x8 : Int32} {l9 : Option sV} {l10 : Option sV} {l11 : Option sV} {l12 : Option sV} {u : LM} {n9 : Nat}, K9 x6 x7 x8 u = some (r, u9, n9) → WP mL_areLoads 11 n9 9 [some (vR 8 (0)), some (vR 200 (0)), some (vR 202 (0)), some (vR 203 (0)), some (vR 208 (0)), some (vR 209 (0)), some (vI (x6)), some (vI (x7)), some (vI (x8)), l9, l10, l11, l12] [] (cM u.1 out u.2) (PW out r u9) NX) {x7 : Int32} {x8 : Int32} {l6 : Option sV} {l9 : Option sV} {l10 : Option sV} {l11 : Option sV} {l12 : Option sV} {u : LM} {n9 : Nat} (h : bL_areLoads_184 K9 x7 x8 u = some (r, u9, n9)) : WP mL_areLoads 11 n9 184 [some (vR 8 (0)), some (vR 200 (0)), some (vR 202 (0)), some (vR 203 (0)), some (vR 208 (0)), some (vR 209 (0)), l6, some (vI (x7)), some (vI (x8)), l9, l10, l11, l12] [] (cM u.1 out u.2) (PW out r u9) NX := by
  unfold bL_areLoads_184 at h
  refine wp_iconst (v := 0) dL_areLoads_184 (by decide) ?_
  refine wp_istore (L' := [some (vR 8 (0)), some (vR 200 (0)), some (vR 202 (0)), some (vR 203 (0)), some (vR 208 (0)), some (vR 209 (0)), some (vI (0)), some (vI (x7)), some (vI (x8)), l9, l10, l11, l12]) dL_areLoads_185 rfl rfl ?_
  refine wp_iinc (v := x8 + 1) (L' := [some (vR 8 (0)), some (vR 200 (0)), some (vR 202 (0)), some (vR 203 (0)), some (vR 208 (0)), some (vR 209 (0)), some (vI (0)), some (vI (x7)), some (vI (x8 + 1)), l9, l10, l11, l12]) dL_areLoads_187 rfl rfl rfl ?_
  refine wp_goto (tgt := 9) dL_areLoads_190 (by decide) ?_
  exact hK9 h
def bL_areLoads_180 (K9 : Int32 → Int32 → Int32 → LM → LR) (x7 : Int32) (x8 : Int32) (u : LM) : LR :=
  K9 (1) (x7) (x8 + 1) u
theorem wbL_areLoads_180 {K9 : Int32 → Int32 → Int32 → LM → LR} {r : Int32} {u9 : LM} (hK9 : ∀ {x6 : Int32} {x7 : Int32} {x8 : Int32} {l9 : Option sV} {l10 : Option sV} {l11 : Option sV} {l12 : Option sV} {u : LM} {n9 : Nat}, K9 x6 x7 x8 u = some (r, u9, n9) → WP mL_areLoads 11 n9 9 [some (vR 8 (0)), some (vR 200 (0)), some (vR 202 (0)), some (vR 203 (0)), some (vR 208 (0)), some (vR 209 (0)), some (vI (x6)), some (vI (x7)), some (vI (x8)), l9, l10, l11, l12] [] (cM u.1 out u.2) (PW out r u9) NX) {x7 : Int32} {x8 : Int32} {l6 : Option sV} {l9 : Option sV} {l10 : Option sV} {l11 : Option sV} {l12 : Option sV} {u : LM} {n9 : Nat} (h : bL_areLoads_180 K9 x7 x8 u = some (r, u9, n9)) : WP mL_areLoads 11 n9 180 [some (vR 8 (0)), some (vR 200 (0)), some (vR 202 (0)), some (vR 203 (0)), some (vR 208 (0)), some (vR 209 (0)), l6, some (vI (x7)), some (vI (x8)), l9, l10, l11, l12] [] (cM u.1 out u.2) (PW out r u9) NX := by
  unfold bL_areLoads_180 at h
  refine wp_iconst (v := 1) dL_areLoads_180 (by decide) ?_
  refine wp_goto (tgt := 185) dL_areLoads_181 (by decide) ?_
  refine wp_istore (L' := [some (vR 8 (0)), some (vR 200 (0)), some (vR 202 (0)), some (vR 203 (0)), some (vR 208 (0)), some (vR 209 (0)), some (vI (1)), some (vI (x7)), some (vI (x8)), l9, l10, l11, l12]) dL_areLoads_185 rfl rfl ?_
  refine wp_iinc (v := x8 + 1) (L' := [some (vR 8 (0)), some (vR 200 (0)), some (vR 202 (0)), some (vR 203 (0)), some (vR 208 (0)), some (vR 209 (0)), some (vI (1)), some (vI (x7)), some (vI (x8 + 1)), l9, l10, l11, l12]) dL_areLoads_187 rfl rfl rfl ?_
  refine wp_goto (tgt := 9) dL_areLoads_190 (by decide) ?_
  exact hK9 h
def bL_areLoads_152 (K9 : Int32 → Int32 → Int32 → LM → LR) (K99 : Int32 → Int32 → Int32 → Int32 → Int32 → LM → LR) (x7 : Int32) (x8 : Int32) (x10 : Int32) (x11 : Int32) (u : LM) : LR :=
  K99 (0) (x7) (x8) (x10) (x11 + 1) u
theorem wbL_areLoads_152 {K9 : Int32 → Int32 → Int32 → LM → LR} {K99 : Int32 → Int32 → Int32 → Int32 → Int32 → LM → LR} {r : Int32} {u9 : LM} (hK9 : ∀ {x6 : Int32} {x7 : Int32} {x8 : Int32} {l9 : Option sV} {l10 : Option sV} {l11 : Option sV} {l12 : Option sV} {u : LM} {n9 : Nat}, K9 x6 x7 x8 u = some (r, u9, n9) → WP mL_areLoads 11 n9 9 [some (vR 8 (0)), some (vR 200 (0)), some (vR 202 (0)), some (vR 203 (0)), some (vR 208 (0)), some (vR 209 (0)), some (vI (x6)), some (vI (x7)), some (vI (x8)), l9, l10, l11, l12] [] (cM u.1 out u.2) (PW out r u9) NX) (hK99 : ∀ {x6 : Int32} {x7 : Int32} {x8 : Int32} {x10 : Int32} {x11 : Int32} {l9 : Option sV} {l12 : Option sV} {u : LM} {n9 : Nat}, K99 x6 x7 x8 x10 x11 u = some (r, u9, n9) → WP mL_areLoads 11 n9 99 [some (vR 8 (0)), some (vR 200 (0)), some (vR 202 (0)), some (vR 203 (0)), some (vR 208 (0)), some (vR 209 (0)), some (vI (x6)), some (vI (x7)), some (vI (x8)), l9, some (vI (x10)), some (vI (x11)), l12] [] (cM u.1 out u.2) (PW out r u9) NX) {x7 : Int32} {x8 : Int32} {x10 : Int32} {x11 : Int32} {l6 : Option sV} {l9 : Option sV} {l12 : Option sV} {u : LM} {n9 : Nat} (h : bL_areLoads_152 K9 K99 x7 x8 x10 x11 u = some (r, u9, n9)) : WP mL_areLoads 11 n9 152 [some (vR 8 (0)), some (vR 200 (0)), some (vR 202 (0)), some (vR 203 (0)), some (vR 208 (0)), some (vR 209 (0)), l6, some (vI (x7)), some (vI (x8)), l9, some (vI (x10)), some (vI (x11)), l12] [] (cM u.1 out u.2) (PW out r u9) NX := by
  unfold bL_areLoads_152 at h
  refine wp_iconst (v := 0) dL_areLoads_152 (by decide) ?_
  refine wp_istore (L' := [some (vR 8 (0)), some (vR 200 (0)), some (vR 202 (0)), some (vR 203 (0)), some (vR 208 (0)), some (vR 209 (0)), some (vI (0)), some (vI (x7)), some (vI (x8)), l9, some (vI (x10)), some (vI (x11)), l12]) dL_areLoads_153 rfl rfl ?_
  refine wp_iinc (v := x11 + 1) (L' := [some (vR 8 (0)), some (vR 200 (0)), some (vR 202 (0)), some (vR 203 (0)), some (vR 208 (0)), some (vR 209 (0)), some (vI (0)), some (vI (x7)), some (vI (x8)), l9, some (vI (x10)), some (vI (x11 + 1)), l12]) dL_areLoads_155 rfl rfl rfl ?_
  refine wp_goto (tgt := 99) dL_areLoads_158 (by decide) ?_
  exact hK99 h
def bL_areLoads_129 (K9 : Int32 → Int32 → Int32 → LM → LR) (K99 : Int32 → Int32 → Int32 → Int32 → Int32 → LM → LR) (x6 : Int32) (x7 : Int32) (x8 : Int32) (x11 : Int32) (x12 : Int32) (s0 : Int32) (s1 : Int32) (u : LM) : LR :=
  if x6 = 0 then
    bL_areLoads_152 K9 K99 (x7) (x8) ((s1 + s0)) (x11) u
  else
    if x12 < 0 then
      bL_areLoads_152 K9 K99 (x7) (x8) ((s1 + s0)) (x11) u
    else
      if 3 ≤ x12 then
        bL_areLoads_152 K9 K99 (x7) (x8) ((s1 + s0)) (x11) u
      else
        K99 (1) (x7) (x8) ((s1 + s0)) (x11 + 1) u
theorem wbL_areLoads_129 {K9 : Int32 → Int32 → Int32 → LM → LR} {K99 : Int32 → Int32 → Int32 → Int32 → Int32 → LM → LR} {r : Int32} {u9 : LM} (hK9 : ∀ {x6 : Int32} {x7 : Int32} {x8 : Int32} {l9 : Option sV} {l10 : Option sV} {l11 : Option sV} {l12 : Option sV} {u : LM} {n9 : Nat}, K9 x6 x7 x8 u = some (r, u9, n9) → WP mL_areLoads 11 n9 9 [some (vR 8 (0)), some (vR 200 (0)), some (vR 202 (0)), some (vR 203 (0)), some (vR 208 (0)), some (vR 209 (0)), some (vI (x6)), some (vI (x7)), some (vI (x8)), l9, l10, l11, l12] [] (cM u.1 out u.2) (PW out r u9) NX) (hK99 : ∀ {x6 : Int32} {x7 : Int32} {x8 : Int32} {x10 : Int32} {x11 : Int32} {l9 : Option sV} {l12 : Option sV} {u : LM} {n9 : Nat}, K99 x6 x7 x8 x10 x11 u = some (r, u9, n9) → WP mL_areLoads 11 n9 99 [some (vR 8 (0)), some (vR 200 (0)), some (vR 202 (0)), some (vR 203 (0)), some (vR 208 (0)), some (vR 209 (0)), some (vI (x6)), some (vI (x7)), some (vI (x8)), l9, some (vI (x10)), some (vI (x11)), l12] [] (cM u.1 out u.2) (PW out r u9) NX) {x6 : Int32} {x7 : Int32} {x8 : Int32} {x11 : Int32} {x12 : Int32} {s0 : Int32} {s1 : Int32} {l9 : Option sV} {l10 : Option sV} {u : LM} {n9 : Nat} (h : bL_areLoads_129 K9 K99 x6 x7 x8 x11 x12 s0 s1 u = some (r, u9, n9)) : WP mL_areLoads 11 n9 129 [some (vR 8 (0)), some (vR 200 (0)), some (vR 202 (0)), some (vR 203 (0)), some (vR 208 (0)), some (vR 209 (0)), some (vI (x6)), some (vI (x7)), some (vI (x8)), l9, l10, some (vI (x11)), some (vI (x12))] [vI (s0), vI (s1)] (cM u.1 out u.2) (PW out r u9) NX := by
  unfold bL_areLoads_129 at h
  refine wp_iadd dL_areLoads_129 ?_
  refine wp_istore (L' := [some (vR 8 (0)), some (vR 200 (0)), some (vR 202 (0)), some (vR 203 (0)), some (vR 208 (0)), some (vR 209 (0)), some (vI (x6)), some (vI (x7)), some (vI (x8)), l9, some (vI ((s1 + s0))), some (vI (x11)), some (vI (x12))]) dL_areLoads_130 rfl rfl ?_
  refine wp_iload dL_areLoads_132 rfl ?_
  refine wp_if_eq (tgt := 152) dL_areLoads_134 (by decide) (fun c1 => ?_) (fun c1 => ?_)
  · replace h := itp c1 h
    exact wbL_areLoads_152 hK9 hK99 h
  · replace h := itn c1 h
    refine wp_iload dL_areLoads_137 rfl ?_
    refine wp_if_lt (tgt := 152) dL_areLoads_139 (by decide) (fun c2 => ?_) (fun c2 => ?_)
    · replace h := itp c2 h
      exact wbL_areLoads_152 hK9 hK99 h
    · replace h := itn c2 h
      refine wp_iload dL_areLoads_142 rfl ?_
      refine wp_iconst (v := 3) dL_areLoads_144 (by decide) ?_
      refine wp_icmp_ge (tgt := 152) dL_areLoads_145 (by decide) (fun c3 => ?_) (fun c3 => ?_)
      · replace h := itp c3 h
        exact wbL_areLoads_152 hK9 hK99 h
      · replace h := itn c3 h
        refine wp_iconst (v := 1) dL_areLoads_148 (by decide) ?_
        refine wp_goto (tgt := 153) dL_areLoads_149 (by decide) ?_
        refine wp_istore (L' := [some (vR 8 (0)), some (vR 200 (0)), some (vR 202 (0)), some (vR 203 (0)), some (vR 208 (0)), some (vR 209 (0)), some (vI (1)), some (vI (x7)), some (vI (x8)), l9, some (vI ((s1 + s0))), some (vI (x11)), some (vI (x12))]) dL_areLoads_153 rfl rfl ?_
        refine wp_iinc (v := x11 + 1) (L' := [some (vR 8 (0)), some (vR 200 (0)), some (vR 202 (0)), some (vR 203 (0)), some (vR 208 (0)), some (vR 209 (0)), some (vI (1)), some (vI (x7)), some (vI (x8)), l9, some (vI ((s1 + s0))), some (vI (x11 + 1)), some (vI (x12))]) dL_areLoads_155 rfl rfl rfl ?_
        refine wp_goto (tgt := 99) dL_areLoads_158 (by decide) ?_
        exact hK99 h
def lL_areLoads_99 (K9 : Int32 → Int32 → Int32 → LM → LR) : Nat → Int32 → Int32 → Int32 → Int32 → Int32 → LM → LR
  | 0, _, _, _, _, _, _ => none
  | n + 1, x6, x7, x8, x10, x11, u =>
  if 7 ≤ x11 then
    if x6 = 0 then
      bL_areLoads_184 K9 (x7) (x8) u
    else
      if 0 < x10 then
        bL_areLoads_180 K9 (x7) (x8) u
      else
        lk (fW_isShunned 0 (x8) u.1) u fun r4 u5 =>
        if r4 = 0 then
          bL_areLoads_180 K9 (x7) (x8) u5
        else
          bL_areLoads_184 K9 (x7) (x8) u5
  else
    lk (fW_breaker 0 (x11) (x8) u.1) u fun r12 u13 =>
    if r12 = 1 then
      bL_areLoads_129 K9 (lL_areLoads_99 K9 n) (x6) (x7) (x8) (x11) (r12) (1) (x10) u13
    else
      bL_areLoads_129 K9 (lL_areLoads_99 K9 n) (x6) (x7) (x8) (x11) (r12) (0) (x10) u13
theorem wlL_areLoads_99 {K9 : Int32 → Int32 → Int32 → LM → LR} {r : Int32} {u9 : LM} (hK9 : ∀ {x6 : Int32} {x7 : Int32} {x8 : Int32} {l9 : Option sV} {l10 : Option sV} {l11 : Option sV} {l12 : Option sV} {u : LM} {n9 : Nat}, K9 x6 x7 x8 u = some (r, u9, n9) → WP mL_areLoads 11 n9 9 [some (vR 8 (0)), some (vR 200 (0)), some (vR 202 (0)), some (vR 203 (0)), some (vR 208 (0)), some (vR 209 (0)), some (vI (x6)), some (vI (x7)), some (vI (x8)), l9, l10, l11, l12] [] (cM u.1 out u.2) (PW out r u9) NX) : ∀ (n : Nat) {x6 : Int32} {x7 : Int32} {x8 : Int32} {x10 : Int32} {x11 : Int32} {l9 : Option sV} {l12 : Option sV} {u : LM} {n9 : Nat}, lL_areLoads_99 K9 n x6 x7 x8 x10 x11 u = some (r, u9, n9) → WP mL_areLoads 11 n9 99 [some (vR 8 (0)), some (vR 200 (0)), some (vR 202 (0)), some (vR 203 (0)), some (vR 208 (0)), some (vR 209 (0)), some (vI (x6)), some (vI (x7)), some (vI (x8)), l9, some (vI (x10)), some (vI (x11)), l12] [] (cM u.1 out u.2) (PW out r u9) NX := by
  intro n
  induction n with
  | zero =>
    intro x6 x7 x8 x10 x11 l9 l12 u n9 h
    rw [lL_areLoads_99] at h
    cases h
  | succ n ih =>
    intro x6 x7 x8 x10 x11 l9 l12 u n9 h
    rw [lL_areLoads_99] at h
    refine wp_iload dL_areLoads_99 rfl ?_
    refine wp_bipush (v := 7) dL_areLoads_101 (by decide) ?_
    refine wp_icmp_ge (tgt := 161) dL_areLoads_103 (by decide) (fun c1 => ?_) (fun c1 => ?_)
    · replace h := itp c1 h
      refine wp_iload dL_areLoads_161 rfl ?_
      refine wp_if_eq (tgt := 184) dL_areLoads_163 (by decide) (fun c2 => ?_) (fun c2 => ?_)
      · replace h := itp c2 h
        exact wbL_areLoads_184 hK9 h
      · replace h := itn c2 h
        refine wp_iload dL_areLoads_166 rfl ?_
        refine wp_if_gt (tgt := 180) dL_areLoads_168 (by decide) (fun c3 => ?_) (fun c3 => ?_)
        · replace h := itp c3 h
          exact wbL_areLoads_180 hK9 h
        · replace h := itn c3 h
          refine wp_aload_n dL_areLoads_171 rfl ?_
          refine wp_iload dL_areLoads_172 rfl ?_
          obtain ⟨r4, u5, n6, n7, h8, hw9, h, en10⟩ := lk_e h
          refine wp_callSW (k1 := n6) (k2 := n7) (As := [vR 8 (0), vI (x8)]) (rest := []) (wL_isShunned h8) okL_isShunned sm_L_isShunned rfl ml_L_152 dL_areLoads_174 (by decide) (Nat.le_of_eq en10) rfl (Nat.le_of_ble_eq_true rfl) (fun r' S' z => ?_)
          obtain ⟨rfl, rfl⟩ := z
          show WP _ _ _ _ [some (vR 8 (0)), some (vR 200 (0)), some (vR 202 (0)), some (vR 203 (0)), some (vR 208 (0)), some (vR 209 (0)), some (vI (x6)), some (vI (x7)), some (vI (x8)), l9, some (vI (x10)), some (vI (x11)), l12] [vI (r4)] (cM u5.1 out u.2) _ _
          rw [hw9]
          refine wp_if_ne (tgt := 184) dL_areLoads_177 (by decide) (fun c11 => ?_) (fun c11 => ?_)
          · replace h := itn c11 h
            exact wbL_areLoads_184 hK9 h
          · replace h := itp c11 h
            exact wbL_areLoads_180 hK9 h
    · replace h := itn c1 h
      refine wp_aload_n dL_areLoads_106 rfl ?_
      refine wp_iload dL_areLoads_107 rfl ?_
      refine wp_iload dL_areLoads_109 rfl ?_
      obtain ⟨r12, u13, n14, n15, h16, hw17, h, en18⟩ := lk_e h
      refine wp_callSW (k1 := n14) (k2 := n15) (As := [vR 8 (0), vI (x11), vI (x8)]) (rest := []) (wL_breaker h16) okL_breaker sm_L_breaker rfl ml_L_150 dL_areLoads_111 (by decide) (Nat.le_of_eq en18) rfl (Nat.le_of_ble_eq_true rfl) (fun r' S' z => ?_)
      obtain ⟨rfl, rfl⟩ := z
      show WP _ _ _ _ [some (vR 8 (0)), some (vR 200 (0)), some (vR 202 (0)), some (vR 203 (0)), some (vR 208 (0)), some (vR 209 (0)), some (vI (x6)), some (vI (x7)), some (vI (x8)), l9, some (vI (x10)), some (vI (x11)), l12] [vI (r12)] (cM u13.1 out u.2) _ _
      rw [hw17]
      refine wp_istore (L' := [some (vR 8 (0)), some (vR 200 (0)), some (vR 202 (0)), some (vR 203 (0)), some (vR 208 (0)), some (vR 209 (0)), some (vI (x6)), some (vI (x7)), some (vI (x8)), l9, some (vI (x10)), some (vI (x11)), some (vI (r12))]) dL_areLoads_114 rfl rfl ?_
      refine wp_iload dL_areLoads_116 rfl ?_
      refine wp_iload dL_areLoads_118 rfl ?_
      refine wp_iconst (v := 1) dL_areLoads_120 (by decide) ?_
      refine wp_icmp_ne (tgt := 128) dL_areLoads_121 (by decide) (fun c19 => ?_) (fun c19 => ?_)
      · replace h := itn c19 h
        refine wp_iconst (v := 0) dL_areLoads_128 (by decide) ?_
        exact wbL_areLoads_129 hK9 ih h
      · replace h := itp c19 h
        refine wp_iconst (v := 1) dL_areLoads_124 (by decide) ?_
        refine wp_goto (tgt := 129) dL_areLoads_125 (by decide) ?_
        exact wbL_areLoads_129 hK9 ih h
def bL_areLoads_91 (K9 : Int32 → Int32 → Int32 → LM → LR) (x7 : Int32) (x8 : Int32) (s0 : Int32) (u : LM) : LR :=
  lL_areLoads_99 K9 FU (s0) (x7) (x8) (0) (0) u
theorem wbL_areLoads_91 {K9 : Int32 → Int32 → Int32 → LM → LR} {r : Int32} {u9 : LM} (hK9 : ∀ {x6 : Int32} {x7 : Int32} {x8 : Int32} {l9 : Option sV} {l10 : Option sV} {l11 : Option sV} {l12 : Option sV} {u : LM} {n9 : Nat}, K9 x6 x7 x8 u = some (r, u9, n9) → WP mL_areLoads 11 n9 9 [some (vR 8 (0)), some (vR 200 (0)), some (vR 202 (0)), some (vR 203 (0)), some (vR 208 (0)), some (vR 209 (0)), some (vI (x6)), some (vI (x7)), some (vI (x8)), l9, l10, l11, l12] [] (cM u.1 out u.2) (PW out r u9) NX) {x7 : Int32} {x8 : Int32} {s0 : Int32} {l6 : Option sV} {l9 : Option sV} {l10 : Option sV} {l11 : Option sV} {l12 : Option sV} {u : LM} {n9 : Nat} (h : bL_areLoads_91 K9 x7 x8 s0 u = some (r, u9, n9)) : WP mL_areLoads 11 n9 91 [some (vR 8 (0)), some (vR 200 (0)), some (vR 202 (0)), some (vR 203 (0)), some (vR 208 (0)), some (vR 209 (0)), l6, some (vI (x7)), some (vI (x8)), l9, l10, l11, l12] [vI (s0)] (cM u.1 out u.2) (PW out r u9) NX := by
  unfold bL_areLoads_91 at h
  refine wp_istore (L' := [some (vR 8 (0)), some (vR 200 (0)), some (vR 202 (0)), some (vR 203 (0)), some (vR 208 (0)), some (vR 209 (0)), some (vI (s0)), some (vI (x7)), some (vI (x8)), l9, l10, l11, l12]) dL_areLoads_91 rfl rfl ?_
  refine wp_iconst (v := 0) dL_areLoads_93 (by decide) ?_
  refine wp_istore (L' := [some (vR 8 (0)), some (vR 200 (0)), some (vR 202 (0)), some (vR 203 (0)), some (vR 208 (0)), some (vR 209 (0)), some (vI (s0)), some (vI (x7)), some (vI (x8)), l9, some (vI (0)), l11, l12]) dL_areLoads_94 rfl rfl ?_
  refine wp_iconst (v := 0) dL_areLoads_96 (by decide) ?_
  refine wp_istore (L' := [some (vR 8 (0)), some (vR 200 (0)), some (vR 202 (0)), some (vR 203 (0)), some (vR 208 (0)), some (vR 209 (0)), some (vI (s0)), some (vI (x7)), some (vI (x8)), l9, some (vI (0)), some (vI (0)), l12]) dL_areLoads_97 rfl rfl ?_
  exact wlL_areLoads_99 hK9 FU h
def lL_areLoads_9 : Nat → Int32 → Int32 → Int32 → LM → LR
  | 0, _, _, _, _ => none
  | n + 1, x6, x7, x8, u =>
  if (gW u 0 (0 : Int32).toNatClampNeg) ≤ x8 then
    bL_areLoads_193 (x6) (x7) u
  else
    if x6 = 0 then
      bL_areLoads_193 (x6) (x7) u
    else
      lk (fW_load 0 (x8) (1) u.1) u fun r3 u4 =>
      if r3 < 0 then
        bL_areLoads_91 (lL_areLoads_9 n) ((x7 + r3)) (x8) (0) u4
      else
        if vq (x8) 12 then
        if ((gW u4 2 (x8).toNatClampNeg) + (gW u4 3 (x8).toNatClampNeg)) < r3 then
          bL_areLoads_91 (lL_areLoads_9 n) ((x7 + r3)) (x8) (0) u4
        else
          lk (fW_load 0 (x8) (0) u4.1) u4 fun r13 u14 =>
          if ((gW u14 2 (x8).toNatClampNeg) + (gW u14 3 (x8).toNatClampNeg)) < r13 then
            bL_areLoads_91 (lL_areLoads_9 n) ((x7 + r3)) (x8) (0) u14
          else
            lk (fW_load 0 (x8) (0) u14.1) u14 fun r21 u22 =>
            if r21 < 0 then
              bL_areLoads_91 (lL_areLoads_9 n) ((x7 + r3)) (x8) (0) u22
            else
              bL_areLoads_91 (lL_areLoads_9 n) ((x7 + r3)) (x8) (1) u22
        else none
theorem wlL_areLoads_9 {r : Int32} {u9 : LM} : ∀ (n : Nat) {x6 : Int32} {x7 : Int32} {x8 : Int32} {l9 : Option sV} {l10 : Option sV} {l11 : Option sV} {l12 : Option sV} {u : LM} {n9 : Nat}, lL_areLoads_9 n x6 x7 x8 u = some (r, u9, n9) → WP mL_areLoads 11 n9 9 [some (vR 8 (0)), some (vR 200 (0)), some (vR 202 (0)), some (vR 203 (0)), some (vR 208 (0)), some (vR 209 (0)), some (vI (x6)), some (vI (x7)), some (vI (x8)), l9, l10, l11, l12] [] (cM u.1 out u.2) (PW out r u9) NX := by
  intro n
  induction n with
  | zero =>
    intro x6 x7 x8 l9 l10 l11 l12 u n9 h
    rw [lL_areLoads_9] at h
    cases h
  | succ n ih =>
    intro x6 x7 x8 l9 l10 l11 l12 u n9 h
    rw [lL_areLoads_9] at h
    refine wp_iload dL_areLoads_9 rfl ?_
    refine wp_aload_n dL_areLoads_11 rfl ?_
    refine wp_iconst (v := 0) dL_areLoads_12 (by decide) ?_
    refine cq_ald (c := 200) (y := 0) rfl rfl (show vp_in (0) (len 200) from (by decide : vq (0) 6)) dL_areLoads_13 ?_
    refine wp_icmp_ge (tgt := 193) dL_areLoads_14 (by decide) (fun c1 => ?_) (fun c1 => ?_)
    · replace h := itp c1 h
      exact wbL_areLoads_193 h
    · replace h := itn c1 h
      refine wp_iload dL_areLoads_17 rfl ?_
      refine wp_if_eq (tgt := 193) dL_areLoads_19 (by decide) (fun c2 => ?_) (fun c2 => ?_)
      · replace h := itp c2 h
        exact wbL_areLoads_193 h
      · replace h := itn c2 h
        refine wp_aload_n dL_areLoads_22 rfl ?_
        refine wp_iload dL_areLoads_23 rfl ?_
        refine wp_iconst (v := 1) dL_areLoads_25 (by decide) ?_
        obtain ⟨r3, u4, n5, n6, h7, hw8, h, en9⟩ := lk_e h
        refine wp_callSW (k1 := n5) (k2 := n6) (As := [vR 8 (0), vI (x8), vI (1)]) (rest := []) (wL_load h7) okL_load sm_L_load rfl ml_L_111 dL_areLoads_26 (by decide) (Nat.le_of_eq en9) rfl (Nat.le_of_ble_eq_true rfl) (fun r' S' z => ?_)
        obtain ⟨rfl, rfl⟩ := z
        show WP _ _ _ _ [some (vR 8 (0)), some (vR 200 (0)), some (vR 202 (0)), some (vR 203 (0)), some (vR 208 (0)), some (vR 209 (0)), some (vI (x6)), some (vI (x7)), some (vI (x8)), l9, l10, l11, l12] [vI (r3)] (cM u4.1 out u.2) _ _
        rw [hw8]
        refine wp_istore (L' := [some (vR 8 (0)), some (vR 200 (0)), some (vR 202 (0)), some (vR 203 (0)), some (vR 208 (0)), some (vR 209 (0)), some (vI (x6)), some (vI (x7)), some (vI (x8)), some (vI (r3)), l10, l11, l12]) dL_areLoads_29 rfl rfl ?_
        refine wp_iload dL_areLoads_31 rfl ?_
        refine wp_iload dL_areLoads_33 rfl ?_
        refine wp_iadd dL_areLoads_35 ?_
        refine wp_istore (L' := [some (vR 8 (0)), some (vR 200 (0)), some (vR 202 (0)), some (vR 203 (0)), some (vR 208 (0)), some (vR 209 (0)), some (vI (x6)), some (vI ((x7 + r3))), some (vI (x8)), some (vI (r3)), l10, l11, l12]) dL_areLoads_36 rfl rfl ?_
        refine wp_iload dL_areLoads_38 rfl ?_
        refine wp_if_lt (tgt := 90) dL_areLoads_40 (by decide) (fun c10 => ?_) (fun c10 => ?_)
        · replace h := itp c10 h
          refine wp_iconst (v := 0) dL_areLoads_90 (by decide) ?_
          exact wbL_areLoads_91 ih h
        · replace h := itn c10 h
          refine wp_iload dL_areLoads_43 rfl ?_
          refine wp_aload_n dL_areLoads_45 rfl ?_
          refine wp_iload dL_areLoads_46 rfl ?_
          obtain ⟨c11, h⟩ := ock h
          refine cq_ald (c := 202) (y := 2) rfl rfl (show vp_in (x8) (len 202) from c11) dL_areLoads_48 ?_
          refine wp_aload_n dL_areLoads_49 rfl ?_
          refine wp_iload dL_areLoads_50 rfl ?_
          refine cq_ald (c := 203) (y := 3) rfl rfl (show vp_in (x8) (len 203) from c11) dL_areLoads_52 ?_
          refine wp_iadd dL_areLoads_53 ?_
          refine wp_icmp_gt (tgt := 90) dL_areLoads_54 (by decide) (fun c12 => ?_) (fun c12 => ?_)
          · replace h := itp c12 h
            refine wp_iconst (v := 0) dL_areLoads_90 (by decide) ?_
            exact wbL_areLoads_91 ih h
          · replace h := itn c12 h
            refine wp_aload_n dL_areLoads_57 rfl ?_
            refine wp_iload dL_areLoads_58 rfl ?_
            refine wp_iconst (v := 0) dL_areLoads_60 (by decide) ?_
            obtain ⟨r13, u14, n15, n16, h17, hw18, h, en19⟩ := lk_e h
            refine wp_callSW (k1 := n15) (k2 := n16) (As := [vR 8 (0), vI (x8), vI (0)]) (rest := []) (wL_load h17) okL_load sm_L_load rfl ml_L_111 dL_areLoads_61 (by decide) (Nat.le_of_eq en19) rfl (Nat.le_of_ble_eq_true rfl) (fun r' S' z => ?_)
            obtain ⟨rfl, rfl⟩ := z
            show WP _ _ _ _ [some (vR 8 (0)), some (vR 200 (0)), some (vR 202 (0)), some (vR 203 (0)), some (vR 208 (0)), some (vR 209 (0)), some (vI (x6)), some (vI ((x7 + r3))), some (vI (x8)), some (vI (r3)), l10, l11, l12] [vI (r13)] (cM u14.1 out u4.2) _ _
            rw [hw18]
            refine wp_aload_n dL_areLoads_64 rfl ?_
            refine wp_iload dL_areLoads_65 rfl ?_
            refine cq_ald (c := 202) (y := 2) rfl rfl (show vp_in (x8) (len 202) from c11) dL_areLoads_67 ?_
            refine wp_aload_n dL_areLoads_68 rfl ?_
            refine wp_iload dL_areLoads_69 rfl ?_
            refine cq_ald (c := 203) (y := 3) rfl rfl (show vp_in (x8) (len 203) from c11) dL_areLoads_71 ?_
            refine wp_iadd dL_areLoads_72 ?_
            refine wp_icmp_gt (tgt := 90) dL_areLoads_73 (by decide) (fun c20 => ?_) (fun c20 => ?_)
            · replace h := itp c20 h
              refine wp_iconst (v := 0) dL_areLoads_90 (by decide) ?_
              exact wbL_areLoads_91 ih h
            · replace h := itn c20 h
              refine wp_aload_n dL_areLoads_76 rfl ?_
              refine wp_iload dL_areLoads_77 rfl ?_
              refine wp_iconst (v := 0) dL_areLoads_79 (by decide) ?_
              obtain ⟨r21, u22, n23, n24, h25, hw26, h, en27⟩ := lk_e h
              refine wp_callSW (k1 := n23) (k2 := n24) (As := [vR 8 (0), vI (x8), vI (0)]) (rest := []) (wL_load h25) okL_load sm_L_load rfl ml_L_111 dL_areLoads_80 (by decide) (Nat.le_of_eq en27) rfl (Nat.le_of_ble_eq_true rfl) (fun r' S' z => ?_)
              obtain ⟨rfl, rfl⟩ := z
              show WP _ _ _ _ [some (vR 8 (0)), some (vR 200 (0)), some (vR 202 (0)), some (vR 203 (0)), some (vR 208 (0)), some (vR 209 (0)), some (vI (x6)), some (vI ((x7 + r3))), some (vI (x8)), some (vI (r3)), l10, l11, l12] [vI (r21)] (cM u22.1 out u14.2) _ _
              rw [hw26]
              refine wp_if_lt (tgt := 90) dL_areLoads_83 (by decide) (fun c28 => ?_) (fun c28 => ?_)
              · replace h := itp c28 h
                refine wp_iconst (v := 0) dL_areLoads_90 (by decide) ?_
                exact wbL_areLoads_91 ih h
              · replace h := itn c28 h
                refine wp_iconst (v := 1) dL_areLoads_86 (by decide) ?_
                refine wp_goto (tgt := 91) dL_areLoads_87 (by decide) ?_
                exact wbL_areLoads_91 ih h
def fL_areLoads (u : LM) : LR :=
  lL_areLoads_9 FU (1) (0) (0) u
theorem wfL_areLoads {r : Int32} {u9 : LM} {u : LM} {n9 : Nat} (h : fL_areLoads  u = some (r, u9, n9)) : Spec mL_areLoads 11 n9 [vR 8 (0), vR 200 (0), vR 202 (0), vR 203 (0), vR 208 (0), vR 209 (0)] (cM u.1 out u.2) (PW out r u9) NX := by
  unfold fL_areLoads at h
  refine spec_of (by decide) rfl (by simp [catS, cat1]) (Nat.le_of_ble_eq_true rfl) ?_
  show WP mL_areLoads 11 n9 0 [some (vR 8 (0)), some (vR 200 (0)), some (vR 202 (0)), some (vR 203 (0)), some (vR 208 (0)), some (vR 209 (0)), none, none, none, none, none, none, none] [] (cM u.1 out u.2) (PW out r u9) NX
  refine wp_iconst (v := 1) dL_areLoads_0 (by decide) ?_
  refine wp_istore (L' := [some (vR 8 (0)), some (vR 200 (0)), some (vR 202 (0)), some (vR 203 (0)), some (vR 208 (0)), some (vR 209 (0)), some (vI (1)), none, none, none, none, none, none]) dL_areLoads_1 rfl rfl ?_
  refine wp_iconst (v := 0) dL_areLoads_3 (by decide) ?_
  refine wp_istore (L' := [some (vR 8 (0)), some (vR 200 (0)), some (vR 202 (0)), some (vR 203 (0)), some (vR 208 (0)), some (vR 209 (0)), some (vI (1)), some (vI (0)), none, none, none, none, none]) dL_areLoads_4 rfl rfl ?_
  refine wp_iconst (v := 0) dL_areLoads_6 (by decide) ?_
  refine wp_istore (L' := [some (vR 8 (0)), some (vR 200 (0)), some (vR 202 (0)), some (vR 203 (0)), some (vR 208 (0)), some (vR 209 (0)), some (vI (1)), some (vI (0)), some (vI (0)), none, none, none, none]) dL_areLoads_7 rfl rfl ?_
  exact wlL_areLoads_9 FU h
def bL_acts_264 (s0 : Int32) (u : LM) : LR :=
  lk (f8_X8_repairs 0 (0) u.1) u fun r1 u2 =>
  wr (sW u2 0 (4 : Int32).toNatClampNeg (r1)) fun u8 =>
  lk (f8_X8_repairs 0 (1) u8.1) u8 fun r10 u11 =>
  wr (sW u11 0 (5 : Int32).toNatClampNeg (r10)) fun u17 =>
  if (s0 = 0 ∨ s0 = 1) then
  some (s0, u17, 0)
  else none
theorem wbL_acts_264 {r : Int32} {u9 : LM} {s0 : Int32} {l11 : Option sV} {l12 : Option sV} {l13 : Option sV} {l14 : Option sV} {u : LM} {n9 : Nat} (h : bL_acts_264 s0 u = some (r, u9, n9)) : WP mL_acts 43 n9 264 [some (vR 8 (0)), some (vR 200 (0)), some (vR 201 (0)), some (vR 202 (0)), some (vR 203 (0)), some (vR 204 (0)), some (vR 205 (0)), some (vR 206 (0)), some (vR 207 (0)), some (vR 208 (0)), some (vR 209 (0)), l11, l12, l13, l14] [vI (s0)] (cM u.1 out u.2) (PW out r u9) NX := by
  unfold bL_acts_264 at h
  refine wp_istore (L' := [some (vR 8 (0)), some (vR 200 (0)), some (vR 201 (0)), some (vR 202 (0)), some (vR 203 (0)), some (vR 204 (0)), some (vR 205 (0)), some (vR 206 (0)), some (vR 207 (0)), some (vR 208 (0)), some (vR 209 (0)), l11, l12, l13, some (vI (s0))]) dL_acts_264 rfl rfl ?_
  refine wp_aload_n dL_acts_266 rfl ?_
  refine wp_iconst (v := 4) dL_acts_267 (by decide) ?_
  refine wp_aload_n dL_acts_268 rfl ?_
  refine wp_iconst (v := 0) dL_acts_269 (by decide) ?_
  obtain ⟨r1, u2, n3, n4, h5, hw6, h, en7⟩ := lk_e h
  refine wp_callV (k1 := n3) (k2 := n4) (As := [vI (0)]) (rest := [vI (4), vR 200 (0)]) (w8_X8_repairs h5) okX8_repairs ivX8_repairs rfl (by decide) ml_L_138 dL_acts_270 rfl (by decide) (Nat.le_of_eq en7) rfl (Nat.le_of_ble_eq_true rfl) (fun _ _ z => z) (fun r' S' z => ?_)
  obtain ⟨rfl, rfl⟩ := z
  show WP _ _ _ _ [some (vR 8 (0)), some (vR 200 (0)), some (vR 201 (0)), some (vR 202 (0)), some (vR 203 (0)), some (vR 204 (0)), some (vR 205 (0)), some (vR 206 (0)), some (vR 207 (0)), some (vR 208 (0)), some (vR 209 (0)), l11, l12, l13, some (vI (s0))] [vI (r1), vI (4), vR 200 (0)] (cM u2.1 out u.2) _ _
  rw [hw6]
  obtain ⟨u8, e9, h⟩ := wr_e h
  refine cq_ast (c := 200) (y := 0) e9 rfl rfl (show vp_in (4) (len 200) from (by decide : vq (4) 6)) dL_acts_273 ?_
  refine wp_aload_n dL_acts_274 rfl ?_
  refine wp_iconst (v := 5) dL_acts_275 (by decide) ?_
  refine wp_aload_n dL_acts_276 rfl ?_
  refine wp_iconst (v := 1) dL_acts_277 (by decide) ?_
  obtain ⟨r10, u11, n12, n13, h14, hw15, h, en16⟩ := lk_e h
  refine wp_callV (k1 := n12) (k2 := n13) (As := [vI (1)]) (rest := [vI (5), vR 200 (0)]) (w8_X8_repairs h14) okX8_repairs ivX8_repairs rfl (by decide) ml_L_138 dL_acts_278 rfl (by decide) (Nat.le_of_eq en16) rfl (Nat.le_of_ble_eq_true rfl) (fun _ _ z => z) (fun r' S' z => ?_)
  obtain ⟨rfl, rfl⟩ := z
  show WP _ _ _ _ [some (vR 8 (0)), some (vR 200 (0)), some (vR 201 (0)), some (vR 202 (0)), some (vR 203 (0)), some (vR 204 (0)), some (vR 205 (0)), some (vR 206 (0)), some (vR 207 (0)), some (vR 208 (0)), some (vR 209 (0)), l11, l12, l13, some (vI (s0))] [vI (r10), vI (5), vR 200 (0)] (cM u11.1 out u8.2) _ _
  rw [hw15]
  obtain ⟨u17, e18, h⟩ := wr_e h
  refine cq_ast (c := 200) (y := 0) e18 rfl rfl (show vp_in (5) (len 200) from (by decide : vq (5) 6)) dL_acts_281 ?_
  refine wp_iload dL_acts_282 rfl ?_
  obtain ⟨c19, h⟩ := ock h
  obtain ⟨q1, q2, q3⟩ := ls_e h
  subst q1
  subst q2
  exact wp_zreturn rfl c19 dL_acts_284 ⟨rfl, rfl⟩
def bL_acts_122 (x12 : Int32) (s0 : Int32) (s1 : Int32) (u : LM) : LR :=
  lk (fW_request 0 (s1) (s0) (((1 : Int32) + (lowV ((x12 >>> ((1 : Int32) &&& 31))) (40)))) u.1) u fun r1 u2 =>
  if r1 = ((gW u2 0 (1 : Int32).toNatClampNeg) - (1 : Int32)) then
    lk (fW_requestTicks 0 (((gW u2 0 (1 : Int32).toNatClampNeg) - (1 : Int32))) u2.1) u2 fun r9 u10 =>
    if r9 = 0 then
      some (1, u10, 0)
    else
      some (0, u10, 0)
  else
    some (0, u2, 0)
theorem wbL_acts_122 {r : Int32} {u9 : LM} {x12 : Int32} {s0 : Int32} {s1 : Int32} {l11 : Option sV} {l13 : Option sV} {l14 : Option sV} {u : LM} {n9 : Nat} (h : bL_acts_122 x12 s0 s1 u = some (r, u9, n9)) : WP mL_acts 43 n9 122 [some (vR 8 (0)), some (vR 200 (0)), some (vR 201 (0)), some (vR 202 (0)), some (vR 203 (0)), some (vR 204 (0)), some (vR 205 (0)), some (vR 206 (0)), some (vR 207 (0)), some (vR 208 (0)), some (vR 209 (0)), l11, some (vI (x12)), l13, l14] [vI (s0), vI (s1), vR 8 (0)] (cM u.1 out u.2) (PW out r u9) NX := by
  unfold bL_acts_122 at h
  refine wp_iconst (v := 1) dL_acts_122 (by decide) ?_
  refine wp_iload dL_acts_123 rfl ?_
  refine wp_iconst (v := 1) dL_acts_125 (by decide) ?_
  refine wp_ishr dL_acts_126 ?_
  refine wp_bipush (v := 40) dL_acts_127 (by decide) ?_
  refine wp_callS24 (k1 := 0) (k2 := _) (As := [vI ((x12 >>> ((1 : Int32) &&& 31))), vI (40)]) (rest := [vI (1), vI (s0), vI (s1), vR 8 (0)]) (wL_low (v := (x12 >>> ((1 : Int32) &&& 31))) (n := 40) (by decide)) okL_low (by decide) sm_L_low rfl ml_L_100 dL_acts_129 rfl (by decide) (Nat.le_of_eq (Nat.zero_add _)) rfl (Nat.le_of_ble_eq_true rfl) (fun _ _ z => z) (fun r' S' z => ?_)
  obtain ⟨rfl, rfl⟩ := z
  show WP _ _ _ _ [some (vR 8 (0)), some (vR 200 (0)), some (vR 201 (0)), some (vR 202 (0)), some (vR 203 (0)), some (vR 204 (0)), some (vR 205 (0)), some (vR 206 (0)), some (vR 207 (0)), some (vR 208 (0)), some (vR 209 (0)), l11, some (vI (x12)), l13, l14] [vI ((lowV ((x12 >>> ((1 : Int32) &&& 31))) (40))), vI (1), vI (s0), vI (s1), vR 8 (0)] (cM u.1 out u.2) _ _
  refine wp_iadd dL_acts_132 ?_
  obtain ⟨r1, u2, n3, n4, h5, hw6, h, en7⟩ := lk_e h
  refine wp_callSW (k1 := n3) (k2 := n4) (As := [vR 8 (0), vI (s1), vI (s0), vI (((1 : Int32) + (lowV ((x12 >>> ((1 : Int32) &&& 31))) (40))))]) (rest := []) (wL_request h5) okL_request sm_L_request rfl ml_L_168 dL_acts_133 (by decide) (Nat.le_of_eq en7) rfl (Nat.le_of_ble_eq_true rfl) (fun r' S' z => ?_)
  obtain ⟨rfl, rfl⟩ := z
  show WP _ _ _ _ [some (vR 8 (0)), some (vR 200 (0)), some (vR 201 (0)), some (vR 202 (0)), some (vR 203 (0)), some (vR 204 (0)), some (vR 205 (0)), some (vR 206 (0)), some (vR 207 (0)), some (vR 208 (0)), some (vR 209 (0)), l11, some (vI (x12)), l13, l14] [vI (r1)] (cM u2.1 out u.2) _ _
  rw [hw6]
  refine wp_aload_n dL_acts_136 rfl ?_
  refine wp_iconst (v := 1) dL_acts_137 (by decide) ?_
  refine cq_ald (c := 200) (y := 0) rfl rfl (show vp_in (1) (len 200) from (by decide : vq (1) 6)) dL_acts_138 ?_
  refine wp_iconst (v := 1) dL_acts_139 (by decide) ?_
  refine wp_isub dL_acts_140 ?_
  refine wp_icmp_ne (tgt := 160) dL_acts_141 (by decide) (fun c8 => ?_) (fun c8 => ?_)
  · replace h := itn c8 h
    refine wp_iconst (v := 0) dL_acts_160 (by decide) ?_
    obtain ⟨q1, q2, q3⟩ := ls_e h
    subst q1
    subst q2
    exact wp_zreturn rfl (by decide) dL_acts_161 ⟨rfl, rfl⟩
  · replace h := itp c8 h
    refine wp_aload_n dL_acts_144 rfl ?_
    refine wp_aload_n dL_acts_145 rfl ?_
    refine wp_iconst (v := 1) dL_acts_146 (by decide) ?_
    refine cq_ald (c := 200) (y := 0) rfl rfl (show vp_in (1) (len 200) from (by decide : vq (1) 6)) dL_acts_147 ?_
    refine wp_iconst (v := 1) dL_acts_148 (by decide) ?_
    refine wp_isub dL_acts_149 ?_
    obtain ⟨r9, u10, n11, n12, h13, hw14, h, en15⟩ := lk_e h
    refine wp_callSW (k1 := n11) (k2 := n12) (As := [vR 8 (0), vI (((gW u2 0 (1 : Int32).toNatClampNeg) - (1 : Int32)))]) (rest := []) (wL_requestTicks h13) okL_requestTicks sm_L_requestTicks rfl ml_L_146 dL_acts_150 (by decide) (Nat.le_of_eq en15) rfl (Nat.le_of_ble_eq_true rfl) (fun r' S' z => ?_)
    obtain ⟨rfl, rfl⟩ := z
    show WP _ _ _ _ [some (vR 8 (0)), some (vR 200 (0)), some (vR 201 (0)), some (vR 202 (0)), some (vR 203 (0)), some (vR 204 (0)), some (vR 205 (0)), some (vR 206 (0)), some (vR 207 (0)), some (vR 208 (0)), some (vR 209 (0)), l11, some (vI (x12)), l13, l14] [vI (r9)] (cM u10.1 out u2.2) _ _
    rw [hw14]
    refine wp_if_ne (tgt := 160) dL_acts_153 (by decide) (fun c16 => ?_) (fun c16 => ?_)
    · replace h := itn c16 h
      refine wp_iconst (v := 0) dL_acts_160 (by decide) ?_
      obtain ⟨q1, q2, q3⟩ := ls_e h
      subst q1
      subst q2
      exact wp_zreturn rfl (by decide) dL_acts_161 ⟨rfl, rfl⟩
    · replace h := itp c16 h
      refine wp_iconst (v := 1) dL_acts_156 (by decide) ?_
      refine wp_goto (tgt := 161) dL_acts_157 (by decide) ?_
      obtain ⟨q1, q2, q3⟩ := ls_e h
      subst q1
      subst q2
      exact wp_zreturn rfl (by decide) dL_acts_161 ⟨rfl, rfl⟩
def bL_acts_22 (x11 : Int32) (x12 : Int32) (u : LM) : LR :=
  lb (fL_makes ((x11 >>> ((4 : Int32) &&& 31))) (x12) u) fun r1 u2 =>
  if (r1 = 0 ∨ r1 = 1) then
  some (r1, u2, 0)
  else none
theorem wbL_acts_22 {r : Int32} {u9 : LM} {x11 : Int32} {x12 : Int32} {l13 : Option sV} {l14 : Option sV} {u : LM} {n9 : Nat} (h : bL_acts_22 x11 x12 u = some (r, u9, n9)) : WP mL_acts 43 n9 22 [some (vR 8 (0)), some (vR 200 (0)), some (vR 201 (0)), some (vR 202 (0)), some (vR 203 (0)), some (vR 204 (0)), some (vR 205 (0)), some (vR 206 (0)), some (vR 207 (0)), some (vR 208 (0)), some (vR 209 (0)), some (vI (x11)), some (vI (x12)), l13, l14] [] (cM u.1 out u.2) (PW out r u9) NX := by
  unfold bL_acts_22 at h
  refine wp_aload_n dL_acts_22 rfl ?_
  refine wp_aload_n dL_acts_23 rfl ?_
  refine wp_aload_n dL_acts_24 rfl ?_
  refine wp_aload_n dL_acts_25 rfl ?_
  refine wp_aload dL_acts_26 rfl ?_
  refine wp_aload dL_acts_28 rfl ?_
  refine wp_iload dL_acts_30 rfl ?_
  refine wp_iconst (v := 4) dL_acts_32 (by decide) ?_
  refine wp_ishr dL_acts_33 ?_
  refine wp_iload dL_acts_34 rfl ?_
  obtain ⟨r1, u2, n3, n4, h5, h, en7⟩ := lb_e h
  refine wp_callS24 (k1 := n3) (k2 := n4) (As := [vR 8 (0), vR 200 (0), vR 201 (0), vR 202 (0), vR 203 (0), vR 204 (0), vI ((x11 >>> ((4 : Int32) &&& 31))), vI (x12)]) (rest := []) (wfL_makes h5) okL_makes (by decide) sm_L_makes rfl ml_L_160 dL_acts_36 rfl (by decide) (Nat.le_of_eq en7) rfl (Nat.le_of_ble_eq_true rfl) (fun _ _ z => z) (fun r' S' z => ?_)
  obtain ⟨rfl, rfl⟩ := z
  show WP _ _ _ _ [some (vR 8 (0)), some (vR 200 (0)), some (vR 201 (0)), some (vR 202 (0)), some (vR 203 (0)), some (vR 204 (0)), some (vR 205 (0)), some (vR 206 (0)), some (vR 207 (0)), some (vR 208 (0)), some (vR 209 (0)), some (vI (x11)), some (vI (x12)), l13, l14] [vI (r1)] (cM u2.1 out u2.2) _ _
  obtain ⟨c8, h⟩ := ock h
  obtain ⟨q1, q2, q3⟩ := ls_e h
  subst q1
  subst q2
  exact wp_zreturn rfl c8 dL_acts_39 ⟨rfl, rfl⟩
def fL_acts (x11 : Int32) (x12 : Int32) (u : LM) : LR :=
  if (gW u 0 (0 : Int32).toNatClampNeg) < 6 then
    bL_acts_22 (x11) (x12) u
  else
    if (lowV (x11) (12)) = 0 then
      bL_acts_22 (x11) (x12) u
    else
      if 3 ≤ (lowV (x11) (12)) then
        if 6 ≤ (lowV (x11) (12)) then
          if 9 ≤ (lowV (x11) (12)) then
            if (lowV (x11) (12)) = 9 then
              lb (fL_areCalls  u) fun r7 u8 =>
              bL_acts_264 (r7) u8
            else
              if (lowV (x11) (12)) = 10 then
                lb (fL_areRequests  u) fun r15 u16 =>
                bL_acts_264 (r15) u16
              else
                lb (fL_areLoads  u) fun r22 u23 =>
                bL_acts_264 (r22) u23
          else
            wr (sW u 0 (2 : Int32).toNatClampNeg (((gW u 0 (2 : Int32).toNatClampNeg) + ((1 : Int32) + (lowV (x12) (4)))))) fun u29 =>
            lk (fW_pass 0 (((1 : Int32) + (lowV (x12) (4)))) u29.1) u29 fun r31 u32 =>
            if r31 = (gW u32 0 (2 : Int32).toNatClampNeg) then
              lk (f8_X8_tick 0  u32.1) u32 fun r39 u40 =>
              if r39 = (gW u40 0 (2 : Int32).toNatClampNeg) then
                some (1, u40, 0)
              else
                some (0, u40, 0)
            else
              some (0, u32, 0)
        else
          if (gW u 0 (1 : Int32).toNatClampNeg) = 40 then
            lk (fW_request 0 (0) (1) (1) u.1) u fun r48 u49 =>
            if r48 = (-1000003) then
              some (1, u49, 0)
            else
              some (0, u49, 0)
          else
            wr (sW u 0 (1 : Int32).toNatClampNeg (((gW u 0 (1 : Int32).toNatClampNeg) + (1 : Int32)))) fun u56 =>
            if (lowV (x12) (2)) = 0 then
              bL_acts_122 (x12) (1) ((lowV ((x11 >>> ((4 : Int32) &&& 31))) (6))) u56
            else
              bL_acts_122 (x12) (0) ((lowV ((x11 >>> ((4 : Int32) &&& 31))) (6))) u56
      else
        lb (fL_sets ((x11 >>> ((4 : Int32) &&& 31))) (x12) u) fun r59 u60 =>
        if (r59 = 0 ∨ r59 = 1) then
        some (r59, u60, 0)
        else none
theorem wfL_acts {r : Int32} {u9 : LM} {x11 : Int32} {x12 : Int32} {u : LM} {n9 : Nat} (h : fL_acts x11 x12 u = some (r, u9, n9)) : Spec mL_acts 43 n9 [vR 8 (0), vR 200 (0), vR 201 (0), vR 202 (0), vR 203 (0), vR 204 (0), vR 205 (0), vR 206 (0), vR 207 (0), vR 208 (0), vR 209 (0), vI (x11), vI (x12)] (cM u.1 out u.2) (PW out r u9) NX := by
  unfold fL_acts at h
  refine spec_of (by decide) rfl (by simp [catS, cat1]) (Nat.le_of_ble_eq_true rfl) ?_
  show WP mL_acts 43 n9 0 [some (vR 8 (0)), some (vR 200 (0)), some (vR 201 (0)), some (vR 202 (0)), some (vR 203 (0)), some (vR 204 (0)), some (vR 205 (0)), some (vR 206 (0)), some (vR 207 (0)), some (vR 208 (0)), some (vR 209 (0)), some (vI (x11)), some (vI (x12)), none, none] [] (cM u.1 out u.2) (PW out r u9) NX
  refine wp_iload dL_acts_0 rfl ?_
  refine wp_bipush (v := 12) dL_acts_2 (by decide) ?_
  refine wp_callS24 (k1 := 0) (k2 := _) (As := [vI (x11), vI (12)]) (rest := []) (wL_low (v := x11) (n := 12) (by decide)) okL_low (by decide) sm_L_low rfl ml_L_100 dL_acts_4 rfl (by decide) (Nat.le_of_eq (Nat.zero_add _)) rfl (Nat.le_of_ble_eq_true rfl) (fun _ _ z => z) (fun r' S' z => ?_)
  obtain ⟨rfl, rfl⟩ := z
  show WP _ _ _ _ [some (vR 8 (0)), some (vR 200 (0)), some (vR 201 (0)), some (vR 202 (0)), some (vR 203 (0)), some (vR 204 (0)), some (vR 205 (0)), some (vR 206 (0)), some (vR 207 (0)), some (vR 208 (0)), some (vR 209 (0)), some (vI (x11)), some (vI (x12)), none, none] [vI ((lowV (x11) (12)))] (cM u.1 out u.2) _ _
  refine wp_istore (L' := [some (vR 8 (0)), some (vR 200 (0)), some (vR 201 (0)), some (vR 202 (0)), some (vR 203 (0)), some (vR 204 (0)), some (vR 205 (0)), some (vR 206 (0)), some (vR 207 (0)), some (vR 208 (0)), some (vR 209 (0)), some (vI (x11)), some (vI (x12)), some (vI ((lowV (x11) (12)))), none]) dL_acts_7 rfl rfl ?_
  refine wp_aload_n dL_acts_9 rfl ?_
  refine wp_iconst (v := 0) dL_acts_10 (by decide) ?_
  refine cq_ald (c := 200) (y := 0) rfl rfl (show vp_in (0) (len 200) from (by decide : vq (0) 6)) dL_acts_11 ?_
  refine wp_bipush (v := 6) dL_acts_12 (by decide) ?_
  refine wp_icmp_lt (tgt := 22) dL_acts_14 (by decide) (fun c1 => ?_) (fun c1 => ?_)
  · replace h := itp c1 h
    exact wbL_acts_22 h
  · replace h := itn c1 h
    refine wp_iload dL_acts_17 rfl ?_
    refine wp_if_ne (tgt := 40) dL_acts_19 (by decide) (fun c2 => ?_) (fun c2 => ?_)
    · replace h := itn c2 h
      refine wp_iload dL_acts_40 rfl ?_
      refine wp_iconst (v := 3) dL_acts_42 (by decide) ?_
      refine wp_icmp_ge (tgt := 58) dL_acts_43 (by decide) (fun c3 => ?_) (fun c3 => ?_)
      · replace h := itp c3 h
        refine wp_iload dL_acts_58 rfl ?_
        refine wp_bipush (v := 6) dL_acts_60 (by decide) ?_
        refine wp_icmp_ge (tgt := 162) dL_acts_62 (by decide) (fun c4 => ?_) (fun c4 => ?_)
        · replace h := itp c4 h
          refine wp_iload dL_acts_162 rfl ?_
          refine wp_bipush (v := 9) dL_acts_164 (by decide) ?_
          refine wp_icmp_ge (tgt := 215) dL_acts_166 (by decide) (fun c5 => ?_) (fun c5 => ?_)
          · replace h := itp c5 h
            refine wp_iload dL_acts_215 rfl ?_
            refine wp_bipush (v := 9) dL_acts_217 (by decide) ?_
            refine wp_icmp_ne (tgt := 235) dL_acts_219 (by decide) (fun c6 => ?_) (fun c6 => ?_)
            · replace h := itn c6 h
              refine wp_iload dL_acts_235 rfl ?_
              refine wp_bipush (v := 10) dL_acts_237 (by decide) ?_
              refine wp_icmp_ne (tgt := 252) dL_acts_239 (by decide) (fun c14 => ?_) (fun c14 => ?_)
              · replace h := itn c14 h
                refine wp_aload_n dL_acts_252 rfl ?_
                refine wp_aload_n dL_acts_253 rfl ?_
                refine wp_aload_n dL_acts_254 rfl ?_
                refine wp_aload dL_acts_255 rfl ?_
                refine wp_aload dL_acts_257 rfl ?_
                refine wp_aload dL_acts_259 rfl ?_
                obtain ⟨r22, u23, n24, n25, h26, h, en28⟩ := lb_e h
                refine wp_callS24 (k1 := n24) (k2 := n25) (As := [vR 8 (0), vR 200 (0), vR 202 (0), vR 203 (0), vR 208 (0), vR 209 (0)]) (rest := []) (wfL_areLoads h26) okL_areLoads (by decide) sm_L_areLoads rfl ml_L_184 dL_acts_261 rfl (by decide) (Nat.le_of_eq en28) rfl (Nat.le_of_ble_eq_true rfl) (fun _ _ z => z) (fun r' S' z => ?_)
                obtain ⟨rfl, rfl⟩ := z
                show WP _ _ _ _ [some (vR 8 (0)), some (vR 200 (0)), some (vR 201 (0)), some (vR 202 (0)), some (vR 203 (0)), some (vR 204 (0)), some (vR 205 (0)), some (vR 206 (0)), some (vR 207 (0)), some (vR 208 (0)), some (vR 209 (0)), some (vI (x11)), some (vI (x12)), some (vI ((lowV (x11) (12)))), none] [vI (r22)] (cM u23.1 out u23.2) _ _
                exact wbL_acts_264 h
              · replace h := itp c14 h
                refine wp_aload_n dL_acts_242 rfl ?_
                refine wp_aload_n dL_acts_243 rfl ?_
                refine wp_aload dL_acts_244 rfl ?_
                obtain ⟨r15, u16, n17, n18, h19, h, en21⟩ := lb_e h
                refine wp_callS24 (k1 := n17) (k2 := n18) (As := [vR 8 (0), vR 200 (0), vR 207 (0)]) (rest := []) (wfL_areRequests h19) okL_areRequests (by decide) sm_L_areRequests rfl ml_L_180 dL_acts_246 rfl (by decide) (Nat.le_of_eq en21) rfl (Nat.le_of_ble_eq_true rfl) (fun _ _ z => z) (fun r' S' z => ?_)
                obtain ⟨rfl, rfl⟩ := z
                show WP _ _ _ _ [some (vR 8 (0)), some (vR 200 (0)), some (vR 201 (0)), some (vR 202 (0)), some (vR 203 (0)), some (vR 204 (0)), some (vR 205 (0)), some (vR 206 (0)), some (vR 207 (0)), some (vR 208 (0)), some (vR 209 (0)), some (vI (x11)), some (vI (x12)), some (vI ((lowV (x11) (12)))), none] [vI (r15)] (cM u16.1 out u16.2) _ _
                refine wp_goto (tgt := 264) dL_acts_249 (by decide) ?_
                exact wbL_acts_264 h
            · replace h := itp c6 h
              refine wp_aload_n dL_acts_222 rfl ?_
              refine wp_aload_n dL_acts_223 rfl ?_
              refine wp_aload_n dL_acts_224 rfl ?_
              refine wp_aload dL_acts_225 rfl ?_
              refine wp_aload dL_acts_227 rfl ?_
              obtain ⟨r7, u8, n9, n10, h11, h, en13⟩ := lb_e h
              refine wp_callS24 (k1 := n9) (k2 := n10) (As := [vR 8 (0), vR 200 (0), vR 201 (0), vR 205 (0), vR 206 (0)]) (rest := []) (wfL_areCalls h11) okL_areCalls (by decide) sm_L_areCalls rfl ml_L_176 dL_acts_229 rfl (by decide) (Nat.le_of_eq en13) rfl (Nat.le_of_ble_eq_true rfl) (fun _ _ z => z) (fun r' S' z => ?_)
              obtain ⟨rfl, rfl⟩ := z
              show WP _ _ _ _ [some (vR 8 (0)), some (vR 200 (0)), some (vR 201 (0)), some (vR 202 (0)), some (vR 203 (0)), some (vR 204 (0)), some (vR 205 (0)), some (vR 206 (0)), some (vR 207 (0)), some (vR 208 (0)), some (vR 209 (0)), some (vI (x11)), some (vI (x12)), some (vI ((lowV (x11) (12)))), none] [vI (r7)] (cM u8.1 out u8.2) _ _
              refine wp_goto (tgt := 264) dL_acts_232 (by decide) ?_
              exact wbL_acts_264 h
          · replace h := itn c5 h
            refine wp_iconst (v := 1) dL_acts_169 (by decide) ?_
            refine wp_iload dL_acts_170 rfl ?_
            refine wp_iconst (v := 4) dL_acts_172 (by decide) ?_
            refine wp_callS24 (k1 := 0) (k2 := _) (As := [vI (x12), vI (4)]) (rest := [vI (1)]) (wL_low (v := x12) (n := 4) (by decide)) okL_low (by decide) sm_L_low rfl ml_L_100 dL_acts_173 rfl (by decide) (Nat.le_of_eq (Nat.zero_add _)) rfl (Nat.le_of_ble_eq_true rfl) (fun _ _ z => z) (fun r' S' z => ?_)
            obtain ⟨rfl, rfl⟩ := z
            show WP _ _ _ _ [some (vR 8 (0)), some (vR 200 (0)), some (vR 201 (0)), some (vR 202 (0)), some (vR 203 (0)), some (vR 204 (0)), some (vR 205 (0)), some (vR 206 (0)), some (vR 207 (0)), some (vR 208 (0)), some (vR 209 (0)), some (vI (x11)), some (vI (x12)), some (vI ((lowV (x11) (12)))), none] [vI ((lowV (x12) (4))), vI (1)] (cM u.1 out u.2) _ _
            refine wp_iadd dL_acts_176 ?_
            refine wp_istore (L' := [some (vR 8 (0)), some (vR 200 (0)), some (vR 201 (0)), some (vR 202 (0)), some (vR 203 (0)), some (vR 204 (0)), some (vR 205 (0)), some (vR 206 (0)), some (vR 207 (0)), some (vR 208 (0)), some (vR 209 (0)), some (vI (x11)), some (vI (x12)), some (vI ((lowV (x11) (12)))), some (vI (((1 : Int32) + (lowV (x12) (4)))))]) dL_acts_177 rfl rfl ?_
            refine wp_aload_n dL_acts_179 rfl ?_
            refine wp_iconst (v := 2) dL_acts_180 (by decide) ?_
            refine wp_dup2 dL_acts_181 trivial trivial ?_
            refine cq_ald (c := 200) (y := 0) rfl rfl (show vp_in (2) (len 200) from (by decide : vq (2) 6)) dL_acts_182 ?_
            refine wp_iload dL_acts_183 rfl ?_
            refine wp_iadd dL_acts_185 ?_
            obtain ⟨u29, e30, h⟩ := wr_e h
            refine cq_ast (c := 200) (y := 0) e30 rfl rfl (show vp_in (2) (len 200) from (by decide : vq (2) 6)) dL_acts_186 ?_
            refine wp_aload_n dL_acts_187 rfl ?_
            refine wp_iload dL_acts_188 rfl ?_
            obtain ⟨r31, u32, n33, n34, h35, hw36, h, en37⟩ := lk_e h
            refine wp_callSW (k1 := n33) (k2 := n34) (As := [vR 8 (0), vI (((1 : Int32) + (lowV (x12) (4))))]) (rest := []) (wL_pass h35) okL_pass sm_L_pass rfl ml_L_171 dL_acts_190 (by decide) (Nat.le_of_eq en37) rfl (Nat.le_of_ble_eq_true rfl) (fun r' S' z => ?_)
            obtain ⟨rfl, rfl⟩ := z
            show WP _ _ _ _ [some (vR 8 (0)), some (vR 200 (0)), some (vR 201 (0)), some (vR 202 (0)), some (vR 203 (0)), some (vR 204 (0)), some (vR 205 (0)), some (vR 206 (0)), some (vR 207 (0)), some (vR 208 (0)), some (vR 209 (0)), some (vI (x11)), some (vI (x12)), some (vI ((lowV (x11) (12)))), some (vI (((1 : Int32) + (lowV (x12) (4)))))] [vI (r31)] (cM u32.1 out u29.2) _ _
            rw [hw36]
            refine wp_aload_n dL_acts_193 rfl ?_
            refine wp_iconst (v := 2) dL_acts_194 (by decide) ?_
            refine cq_ald (c := 200) (y := 0) rfl rfl (show vp_in (2) (len 200) from (by decide : vq (2) 6)) dL_acts_195 ?_
            refine wp_icmp_ne (tgt := 213) dL_acts_196 (by decide) (fun c38 => ?_) (fun c38 => ?_)
            · replace h := itn c38 h
              refine wp_iconst (v := 0) dL_acts_213 (by decide) ?_
              obtain ⟨q1, q2, q3⟩ := ls_e h
              subst q1
              subst q2
              exact wp_zreturn rfl (by decide) dL_acts_214 ⟨rfl, rfl⟩
            · replace h := itp c38 h
              refine wp_aload_n dL_acts_199 rfl ?_
              obtain ⟨r39, u40, n41, n42, h43, hw44, h, en45⟩ := lk_e h
              refine wp_callV (k1 := n41) (k2 := n42) (As := []) (rest := []) (w8_X8_tick h43) okX8_tick ivX8_tick rfl (by decide) ml_L_173 dL_acts_200 rfl (by decide) (Nat.le_of_eq en45) rfl (Nat.le_of_ble_eq_true rfl) (fun _ _ z => z) (fun r' S' z => ?_)
              obtain ⟨rfl, rfl⟩ := z
              show WP _ _ _ _ [some (vR 8 (0)), some (vR 200 (0)), some (vR 201 (0)), some (vR 202 (0)), some (vR 203 (0)), some (vR 204 (0)), some (vR 205 (0)), some (vR 206 (0)), some (vR 207 (0)), some (vR 208 (0)), some (vR 209 (0)), some (vI (x11)), some (vI (x12)), some (vI ((lowV (x11) (12)))), some (vI (((1 : Int32) + (lowV (x12) (4)))))] [vI (r39)] (cM u40.1 out u32.2) _ _
              rw [hw44]
              refine wp_aload_n dL_acts_203 rfl ?_
              refine wp_iconst (v := 2) dL_acts_204 (by decide) ?_
              refine cq_ald (c := 200) (y := 0) rfl rfl (show vp_in (2) (len 200) from (by decide : vq (2) 6)) dL_acts_205 ?_
              refine wp_icmp_ne (tgt := 213) dL_acts_206 (by decide) (fun c46 => ?_) (fun c46 => ?_)
              · replace h := itn c46 h
                refine wp_iconst (v := 0) dL_acts_213 (by decide) ?_
                obtain ⟨q1, q2, q3⟩ := ls_e h
                subst q1
                subst q2
                exact wp_zreturn rfl (by decide) dL_acts_214 ⟨rfl, rfl⟩
              · replace h := itp c46 h
                refine wp_iconst (v := 1) dL_acts_209 (by decide) ?_
                refine wp_goto (tgt := 214) dL_acts_210 (by decide) ?_
                obtain ⟨q1, q2, q3⟩ := ls_e h
                subst q1
                subst q2
                exact wp_zreturn rfl (by decide) dL_acts_214 ⟨rfl, rfl⟩
        · replace h := itn c4 h
          refine wp_aload_n dL_acts_65 rfl ?_
          refine wp_iconst (v := 1) dL_acts_66 (by decide) ?_
          refine cq_ald (c := 200) (y := 0) rfl rfl (show vp_in (1) (len 200) from (by decide : vq (1) 6)) dL_acts_67 ?_
          refine wp_bipush (v := 40) dL_acts_68 (by decide) ?_
          refine wp_icmp_ne (tgt := 91) dL_acts_70 (by decide) (fun c47 => ?_) (fun c47 => ?_)
          · replace h := itn c47 h
            refine wp_aload_n dL_acts_91 rfl ?_
            refine wp_iconst (v := 1) dL_acts_92 (by decide) ?_
            refine wp_dup2 dL_acts_93 trivial trivial ?_
            refine cq_ald (c := 200) (y := 0) rfl rfl (show vp_in (1) (len 200) from (by decide : vq (1) 6)) dL_acts_94 ?_
            refine wp_iconst (v := 1) dL_acts_95 (by decide) ?_
            refine wp_iadd dL_acts_96 ?_
            obtain ⟨u56, e57, h⟩ := wr_e h
            refine cq_ast (c := 200) (y := 0) e57 rfl rfl (show vp_in (1) (len 200) from (by decide : vq (1) 6)) dL_acts_97 ?_
            refine wp_aload_n dL_acts_98 rfl ?_
            refine wp_iload dL_acts_99 rfl ?_
            refine wp_iconst (v := 4) dL_acts_101 (by decide) ?_
            refine wp_ishr dL_acts_102 ?_
            refine wp_bipush (v := 6) dL_acts_103 (by decide) ?_
            refine wp_callS24 (k1 := 0) (k2 := _) (As := [vI ((x11 >>> ((4 : Int32) &&& 31))), vI (6)]) (rest := [vR 8 (0)]) (wL_low (v := (x11 >>> ((4 : Int32) &&& 31))) (n := 6) (by decide)) okL_low (by decide) sm_L_low rfl ml_L_100 dL_acts_105 rfl (by decide) (Nat.le_of_eq (Nat.zero_add _)) rfl (Nat.le_of_ble_eq_true rfl) (fun _ _ z => z) (fun r' S' z => ?_)
            obtain ⟨rfl, rfl⟩ := z
            show WP _ _ _ _ [some (vR 8 (0)), some (vR 200 (0)), some (vR 201 (0)), some (vR 202 (0)), some (vR 203 (0)), some (vR 204 (0)), some (vR 205 (0)), some (vR 206 (0)), some (vR 207 (0)), some (vR 208 (0)), some (vR 209 (0)), some (vI (x11)), some (vI (x12)), some (vI ((lowV (x11) (12)))), none] [vI ((lowV ((x11 >>> ((4 : Int32) &&& 31))) (6))), vR 8 (0)] (cM u56.1 out u56.2) _ _
            refine wp_iload dL_acts_108 rfl ?_
            refine wp_iconst (v := 2) dL_acts_110 (by decide) ?_
            refine wp_callS24 (k1 := 0) (k2 := _) (As := [vI (x12), vI (2)]) (rest := [vI ((lowV ((x11 >>> ((4 : Int32) &&& 31))) (6))), vR 8 (0)]) (wL_low (v := x12) (n := 2) (by decide)) okL_low (by decide) sm_L_low rfl ml_L_100 dL_acts_111 rfl (by decide) (Nat.le_of_eq (Nat.zero_add _)) rfl (Nat.le_of_ble_eq_true rfl) (fun _ _ z => z) (fun r' S' z => ?_)
            obtain ⟨rfl, rfl⟩ := z
            show WP _ _ _ _ [some (vR 8 (0)), some (vR 200 (0)), some (vR 201 (0)), some (vR 202 (0)), some (vR 203 (0)), some (vR 204 (0)), some (vR 205 (0)), some (vR 206 (0)), some (vR 207 (0)), some (vR 208 (0)), some (vR 209 (0)), some (vI (x11)), some (vI (x12)), some (vI ((lowV (x11) (12)))), none] [vI ((lowV (x12) (2))), vI ((lowV ((x11 >>> ((4 : Int32) &&& 31))) (6))), vR 8 (0)] (cM u56.1 out u56.2) _ _
            refine wp_if_ne (tgt := 121) dL_acts_114 (by decide) (fun c58 => ?_) (fun c58 => ?_)
            · replace h := itn c58 h
              refine wp_iconst (v := 0) dL_acts_121 (by decide) ?_
              exact wbL_acts_122 h
            · replace h := itp c58 h
              refine wp_iconst (v := 1) dL_acts_117 (by decide) ?_
              refine wp_goto (tgt := 122) dL_acts_118 (by decide) ?_
              exact wbL_acts_122 h
          · replace h := itp c47 h
            refine wp_aload_n dL_acts_73 rfl ?_
            refine wp_iconst (v := 0) dL_acts_74 (by decide) ?_
            refine wp_iconst (v := 1) dL_acts_75 (by decide) ?_
            refine wp_iconst (v := 1) dL_acts_76 (by decide) ?_
            obtain ⟨r48, u49, n50, n51, h52, hw53, h, en54⟩ := lk_e h
            refine wp_callSW (k1 := n50) (k2 := n51) (As := [vR 8 (0), vI (0), vI (1), vI (1)]) (rest := []) (wL_request h52) okL_request sm_L_request rfl ml_L_168 dL_acts_77 (by decide) (Nat.le_of_eq en54) rfl (Nat.le_of_ble_eq_true rfl) (fun r' S' z => ?_)
            obtain ⟨rfl, rfl⟩ := z
            show WP _ _ _ _ [some (vR 8 (0)), some (vR 200 (0)), some (vR 201 (0)), some (vR 202 (0)), some (vR 203 (0)), some (vR 204 (0)), some (vR 205 (0)), some (vR 206 (0)), some (vR 207 (0)), some (vR 208 (0)), some (vR 209 (0)), some (vI (x11)), some (vI (x12)), some (vI ((lowV (x11) (12)))), none] [vI (r48)] (cM u49.1 out u.2) _ _
            rw [hw53]
            refine wp_ldc ct_L_28 dL_acts_80 ?_
            refine wp_icmp_ne (tgt := 89) dL_acts_82 (by decide) (fun c55 => ?_) (fun c55 => ?_)
            · replace h := itn c55 h
              refine wp_iconst (v := 0) dL_acts_89 (by decide) ?_
              obtain ⟨q1, q2, q3⟩ := ls_e h
              subst q1
              subst q2
              exact wp_zreturn rfl (by decide) dL_acts_90 ⟨rfl, rfl⟩
            · replace h := itp c55 h
              refine wp_iconst (v := 1) dL_acts_85 (by decide) ?_
              refine wp_goto (tgt := 90) dL_acts_86 (by decide) ?_
              obtain ⟨q1, q2, q3⟩ := ls_e h
              subst q1
              subst q2
              exact wp_zreturn rfl (by decide) dL_acts_90 ⟨rfl, rfl⟩
      · replace h := itn c3 h
        refine wp_aload_n dL_acts_46 rfl ?_
        refine wp_aload_n dL_acts_47 rfl ?_
        refine wp_iload dL_acts_48 rfl ?_
        refine wp_iconst (v := 4) dL_acts_50 (by decide) ?_
        refine wp_ishr dL_acts_51 ?_
        refine wp_iload dL_acts_52 rfl ?_
        obtain ⟨r59, u60, n61, n62, h63, h, en65⟩ := lb_e h
        refine wp_callS24 (k1 := n61) (k2 := n62) (As := [vR 8 (0), vR 200 (0), vI ((x11 >>> ((4 : Int32) &&& 31))), vI (x12)]) (rest := []) (wfL_sets h63) okL_sets (by decide) sm_L_sets rfl ml_L_164 dL_acts_54 rfl (by decide) (Nat.le_of_eq en65) rfl (Nat.le_of_ble_eq_true rfl) (fun _ _ z => z) (fun r' S' z => ?_)
        obtain ⟨rfl, rfl⟩ := z
        show WP _ _ _ _ [some (vR 8 (0)), some (vR 200 (0)), some (vR 201 (0)), some (vR 202 (0)), some (vR 203 (0)), some (vR 204 (0)), some (vR 205 (0)), some (vR 206 (0)), some (vR 207 (0)), some (vR 208 (0)), some (vR 209 (0)), some (vI (x11)), some (vI (x12)), some (vI ((lowV (x11) (12)))), none] [vI (r59)] (cM u60.1 out u60.2) _ _
        obtain ⟨c66, h⟩ := ock h
        obtain ⟨q1, q2, q3⟩ := ls_e h
        subst q1
        subst q2
        exact wp_zreturn rfl c66 dL_acts_57 ⟨rfl, rfl⟩
    · replace h := itp c2 h
      exact wbL_acts_22 h
end LL9
