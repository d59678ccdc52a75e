section LL9
variable {out : Int64}
def bL_areCalls_361 (x5 : Int32) (u : LM) : LR :=
  lk (f8_X8_calls 0  u.1) u fun r1 u2 =>
  wr (sW u2 0 (3 : Int32).toNatClampNeg (r1)) fun u8 =>
  if (x5 = 0 ∨ x5 = 1) then
  some (x5, u8, 0)
  else none
theorem wbL_areCalls_361 {r : Int32} {u9 : LM} {x5 : Int32} {l6 : Option sV} {l7 : Option sV} {l8 : Option sV} {l9 : Option sV} {l10 : Option sV} {l11 : Option sV} {l12 : Option sV} {u : LM} {n9 : Nat} (h : bL_areCalls_361 x5 u = some (r, u9, n9)) : WP mL_areCalls 11 n9 361 [some (vR 8 (0)), some (vR 200 (0)), some (vR 201 (0)), some (vR 205 (0)), some (vR 206 (0)), some (vI (x5)), l6, l7, l8, l9, l10, l11, l12] [] (cM u.1 out u.2) (PW out r u9) NX := by
  unfold bL_areCalls_361 at h
  refine wp_aload_n dL_areCalls_361 rfl ?_
  refine wp_iconst (v := 3) dL_areCalls_362 (by decide) ?_
  refine wp_aload_n dL_areCalls_363 rfl ?_
  obtain ⟨r1, u2, n3, n4, h5, hw6, h, en7⟩ := lk_e h
  refine wp_callV (k1 := n3) (k2 := n4) (As := []) (rest := [vI (3), vR 200 (0)]) (w8_X8_calls h5) okX8_calls ivX8_calls rfl (by decide) ml_L_132 dL_areCalls_364 rfl (by decide) (Nat.le_of_eq en7) rfl (Nat.le_of_ble_eq_true rfl) (fun _ _ z => z) (fun r' S' z => ?_)
  obtain ⟨rfl, rfl⟩ := z
  show WP _ _ _ _ [some (vR 8 (0)), some (vR 200 (0)), some (vR 201 (0)), some (vR 205 (0)), some (vR 206 (0)), some (vI (x5)), l6, l7, l8, l9, l10, l11, l12] [vI (r1), vI (3), vR 200 (0)] (cM u2.1 out u.2) _ _
  rw [hw6]
  obtain ⟨u8, e9, h⟩ := wr_e h
  refine cq_ast (c := 200) (y := 0) e9 rfl rfl (show vp_in (3) (len 200) from (by decide : vq (3) 6)) dL_areCalls_367 ?_
  refine wp_iload dL_areCalls_368 rfl ?_
  obtain ⟨c10, h⟩ := ock h
  obtain ⟨q1, q2, q3⟩ := ls_e h
  subst q1
  subst q2
  exact wp_zreturn rfl c10 dL_areCalls_370 ⟨rfl, rfl⟩
def bL_areCalls_338 (K64 : Int32 → Int32 → Int32 → LM → LR) (x6 : Int32) (x7 : Int32) (x8 : Int32) (x11 : Int32) (s0 : Int32) (u : LM) : LR :=
  if vq (x7) 60 then
  wr (sW u 5 (x7).toNatClampNeg ((x8 + (1 : Int32)))) fun u2 =>
  wr (sW u2 6 (x7).toNatClampNeg (x11)) fun u4 =>
  K64 (s0) (x6) (x7 + 1) u4
  else none
theorem wbL_areCalls_338 {K64 : Int32 → Int32 → Int32 → LM → LR} {r : Int32} {u9 : LM} (hK64 : ∀ {x5 : Int32} {x6 : Int32} {x7 : Int32} {l8 : Option sV} {l9 : Option sV} {l10 : Option sV} {l11 : Option sV} {l12 : Option sV} {u : LM} {n9 : Nat}, K64 x5 x6 x7 u = some (r, u9, n9) → WP mL_areCalls 11 n9 64 [some (vR 8 (0)), some (vR 200 (0)), some (vR 201 (0)), some (vR 205 (0)), some (vR 206 (0)), some (vI (x5)), some (vI (x6)), some (vI (x7)), l8, l9, l10, l11, l12] [] (cM u.1 out u.2) (PW out r u9) NX) {x6 : Int32} {x7 : Int32} {x8 : Int32} {x11 : Int32} {s0 : Int32} {l5 : Option sV} {l9 : Option sV} {l10 : Option sV} {l12 : Option sV} {u : LM} {n9 : Nat} (h : bL_areCalls_338 K64 x6 x7 x8 x11 s0 u = some (r, u9, n9)) : WP mL_areCalls 11 n9 338 [some (vR 8 (0)), some (vR 200 (0)), some (vR 201 (0)), some (vR 205 (0)), some (vR 206 (0)), l5, some (vI (x6)), some (vI (x7)), some (vI (x8)), l9, l10, some (vI (x11)), l12] [vI (s0)] (cM u.1 out u.2) (PW out r u9) NX := by
  unfold bL_areCalls_338 at h
  refine wp_istore (L' := [some (vR 8 (0)), some (vR 200 (0)), some (vR 201 (0)), some (vR 205 (0)), some (vR 206 (0)), some (vI (s0)), some (vI (x6)), some (vI (x7)), some (vI (x8)), l9, l10, some (vI (x11)), l12]) dL_areCalls_338 rfl rfl ?_
  refine wp_aload_n dL_areCalls_340 rfl ?_
  refine wp_iload dL_areCalls_341 rfl ?_
  refine wp_iload dL_areCalls_343 rfl ?_
  refine wp_iconst (v := 1) dL_areCalls_345 (by decide) ?_
  refine wp_iadd dL_areCalls_346 ?_
  obtain ⟨c1, h⟩ := ock h
  obtain ⟨u2, e3, h⟩ := wr_e h
  refine cq_ast (c := 205) (y := 5) e3 rfl rfl (show vp_in (x7) (len 205) from c1) dL_areCalls_347 ?_
  refine wp_aload dL_areCalls_348 rfl ?_
  refine wp_iload dL_areCalls_350 rfl ?_
  refine wp_iload dL_areCalls_352 rfl ?_
  obtain ⟨u4, e5, h⟩ := wr_e h
  refine cq_ast (c := 206) (y := 6) e5 rfl rfl (show vp_in (x7) (len 206) from c1) dL_areCalls_354 ?_
  refine wp_iinc (v := x7 + 1) (L' := [some (vR 8 (0)), some (vR 200 (0)), some (vR 201 (0)), some (vR 205 (0)), some (vR 206 (0)), some (vI (s0)), some (vI (x6)), some (vI (x7 + 1)), some (vI (x8)), l9, l10, some (vI (x11)), l12]) dL_areCalls_355 rfl rfl rfl ?_
  refine wp_goto (tgt := 64) dL_areCalls_358 (by decide) ?_
  exact hK64 h
def bL_areCalls_294 (K64 : Int32 → Int32 → Int32 → LM → LR) (x6 : Int32) (x7 : Int32) (x8 : Int32) (x9 : Int32) (x10 : Int32) (x11 : Int32) (u : LM) : LR :=
  lk (fW_call 0 (x7) (7) u.1) u fun r1 u2 =>
  lk (f8_X8_repairs 0 (0) u2.1) u2 fun r8 u9 =>
  if r8 ≤ r1 then
    bL_areCalls_338 K64 (x6) (x7) (x8) (x11) (0) u9
  else
    lk (fW_call 0 (x7) (7) u9.1) u9 fun r16 u17 =>
    if r16 < 0 then
      bL_areCalls_338 K64 (x6) (x7) (x8) (x11) (1) u17
    else
      if x9 = (-1) then
        if x10 = (-1) then
          bL_areCalls_338 K64 (x6) (x7) (x8) (x11) (1) u17
        else
          bL_areCalls_338 K64 (x6) (x7) (x8) (x11) (0) u17
      else
        bL_areCalls_338 K64 (x6) (x7) (x8) (x11) (0) u17
theorem wbL_areCalls_294 {K64 : Int32 → Int32 → Int32 → LM → LR} {r : Int32} {u9 : LM} (hK64 : ∀ {x5 : Int32} {x6 : Int32} {x7 : Int32} {l8 : Option sV} {l9 : Option sV} {l10 : Option sV} {l11 : Option sV} {l12 : Option sV} {u : LM} {n9 : Nat}, K64 x5 x6 x7 u = some (r, u9, n9) → WP mL_areCalls 11 n9 64 [some (vR 8 (0)), some (vR 200 (0)), some (vR 201 (0)), some (vR 205 (0)), some (vR 206 (0)), some (vI (x5)), some (vI (x6)), some (vI (x7)), l8, l9, l10, l11, l12] [] (cM u.1 out u.2) (PW out r u9) NX) {x6 : Int32} {x7 : Int32} {x8 : Int32} {x9 : Int32} {x10 : Int32} {x11 : Int32} {l5 : Option sV} {l12 : Option sV} {u : LM} {n9 : Nat} (h : bL_areCalls_294 K64 x6 x7 x8 x9 x10 x11 u = some (r, u9, n9)) : WP mL_areCalls 11 n9 294 [some (vR 8 (0)), some (vR 200 (0)), some (vR 201 (0)), some (vR 205 (0)), some (vR 206 (0)), l5, some (vI (x6)), some (vI (x7)), some (vI (x8)), some (vI (x9)), some (vI (x10)), some (vI (x11)), l12] [] (cM u.1 out u.2) (PW out r u9) NX := by
  unfold bL_areCalls_294 at h
  refine wp_aload_n dL_areCalls_294 rfl ?_
  refine wp_iload dL_areCalls_295 rfl ?_
  refine wp_bipush (v := 7) dL_areCalls_297 (by decide) ?_
  obtain ⟨r1, u2, n3, n4, h5, hw6, h, en7⟩ := lk_e h
  refine wp_callSW (k1 := n3) (k2 := n4) (As := [vR 8 (0), vI (x7), vI (7)]) (rest := []) (wL_call h5) okL_call sm_L_call rfl ml_L_136 dL_areCalls_299 (by decide) (Nat.le_of_eq en7) rfl (Nat.le_of_ble_eq_true rfl) (fun r' S' z => ?_)
  obtain ⟨rfl, rfl⟩ := z
  show WP _ _ _ _ [some (vR 8 (0)), some (vR 200 (0)), some (vR 201 (0)), some (vR 205 (0)), some (vR 206 (0)), l5, some (vI (x6)), some (vI (x7)), some (vI (x8)), some (vI (x9)), some (vI (x10)), some (vI (x11)), l12] [vI (r1)] (cM u2.1 out u.2) _ _
  rw [hw6]
  refine wp_aload_n dL_areCalls_302 rfl ?_
  refine wp_iconst (v := 0) dL_areCalls_303 (by decide) ?_
  obtain ⟨r8, u9, n10, n11, h12, hw13, h, en14⟩ := lk_e h
  refine wp_callV (k1 := n10) (k2 := n11) (As := [vI (0)]) (rest := [vI (r1)]) (w8_X8_repairs h12) okX8_repairs ivX8_repairs rfl (by decide) ml_L_138 dL_areCalls_304 rfl (by decide) (Nat.le_of_eq en14) rfl (Nat.le_of_ble_eq_true rfl) (fun _ _ z => z) (fun r' S' z => ?_)
  obtain ⟨rfl, rfl⟩ := z
  show WP _ _ _ _ [some (vR 8 (0)), some (vR 200 (0)), some (vR 201 (0)), some (vR 205 (0)), some (vR 206 (0)), l5, some (vI (x6)), some (vI (x7)), some (vI (x8)), some (vI (x9)), some (vI (x10)), some (vI (x11)), l12] [vI (r8), vI (r1)] (cM u9.1 out u2.2) _ _
  rw [hw13]
  refine wp_icmp_ge (tgt := 337) dL_areCalls_307 (by decide) (fun c15 => ?_) (fun c15 => ?_)
  · replace h := itp c15 h
    refine wp_iconst (v := 0) dL_areCalls_337 (by decide) ?_
    exact wbL_areCalls_338 hK64 h
  · replace h := itn c15 h
    refine wp_aload_n dL_areCalls_310 rfl ?_
    refine wp_iload dL_areCalls_311 rfl ?_
    refine wp_bipush (v := 7) dL_areCalls_313 (by decide) ?_
    obtain ⟨r16, u17, n18, n19, h20, hw21, h, en22⟩ := lk_e h
    refine wp_callSW (k1 := n18) (k2 := n19) (As := [vR 8 (0), vI (x7), vI (7)]) (rest := []) (wL_call h20) okL_call sm_L_call rfl ml_L_136 dL_areCalls_315 (by decide) (Nat.le_of_eq en22) rfl (Nat.le_of_ble_eq_true rfl) (fun r' S' z => ?_)
    obtain ⟨rfl, rfl⟩ := z
    show WP _ _ _ _ [some (vR 8 (0)), some (vR 200 (0)), some (vR 201 (0)), some (vR 205 (0)), some (vR 206 (0)), l5, some (vI (x6)), some (vI (x7)), some (vI (x8)), some (vI (x9)), some (vI (x10)), some (vI (x11)), l12] [vI (r16)] (cM u17.1 out u9.2) _ _
    rw [hw21]
    refine wp_if_lt (tgt := 333) dL_areCalls_318 (by decide) (fun c23 => ?_) (fun c23 => ?_)
    · replace h := itp c23 h
      refine wp_iconst (v := 1) dL_areCalls_333 (by decide) ?_
      refine wp_goto (tgt := 338) dL_areCalls_334 (by decide) ?_
      exact wbL_areCalls_338 hK64 h
    · replace h := itn c23 h
      refine wp_iload dL_areCalls_321 rfl ?_
      refine wp_iconst (v := (-1)) dL_areCalls_323 (by decide) ?_
      refine wp_icmp_ne (tgt := 337) dL_areCalls_324 (by decide) (fun c24 => ?_) (fun c24 => ?_)
      · replace h := itn c24 h
        refine wp_iconst (v := 0) dL_areCalls_337 (by decide) ?_
        exact wbL_areCalls_338 hK64 h
      · replace h := itp c24 h
        refine wp_iload dL_areCalls_327 rfl ?_
        refine wp_iconst (v := (-1)) dL_areCalls_329 (by decide) ?_
        refine wp_icmp_ne (tgt := 337) dL_areCalls_330 (by decide) (fun c25 => ?_) (fun c25 => ?_)
        · replace h := itn c25 h
          refine wp_iconst (v := 0) dL_areCalls_337 (by decide) ?_
          exact wbL_areCalls_338 hK64 h
        · replace h := itp c25 h
          refine wp_iconst (v := 1) dL_areCalls_333 (by decide) ?_
          refine wp_goto (tgt := 338) dL_areCalls_334 (by decide) ?_
          exact wbL_areCalls_338 hK64 h
def bL_areCalls_272 (K64 : Int32 → Int32 → Int32 → LM → LR) (x6 : Int32) (x7 : Int32) (x8 : Int32) (x9 : Int32) (x10 : Int32) (x11 : Int32) (u : LM) : LR :=
  if x9 < 0 then
    bL_areCalls_294 K64 (x6) (x7) (x8) (x9) (x10) (x11) u
  else
    if 2 < x8 then
      bL_areCalls_294 K64 (x6) (x7) (x8) (x9) (x10) (x11) u
    else
      lk (fW_call 0 (x9) (2) u.1) u fun r3 u4 =>
      if r3 = 2 then
        bL_areCalls_294 K64 (x6) (x7) (x8) (x9) (x10) (x11) u4
      else
        bL_areCalls_338 K64 (x6) (x7) (x8) (x11) (0) u4
theorem wbL_areCalls_272 {K64 : Int32 → Int32 → Int32 → LM → LR} {r : Int32} {u9 : LM} (hK64 : ∀ {x5 : Int32} {x6 : Int32} {x7 : Int32} {l8 : Option sV} {l9 : Option sV} {l10 : Option sV} {l11 : Option sV} {l12 : Option sV} {u : LM} {n9 : Nat}, K64 x5 x6 x7 u = some (r, u9, n9) → WP mL_areCalls 11 n9 64 [some (vR 8 (0)), some (vR 200 (0)), some (vR 201 (0)), some (vR 205 (0)), some (vR 206 (0)), some (vI (x5)), some (vI (x6)), some (vI (x7)), l8, l9, l10, l11, l12] [] (cM u.1 out u.2) (PW out r u9) NX) {x6 : Int32} {x7 : Int32} {x8 : Int32} {x9 : Int32} {x10 : Int32} {x11 : Int32} {l5 : Option sV} {l12 : Option sV} {u : LM} {n9 : Nat} (h : bL_areCalls_272 K64 x6 x7 x8 x9 x10 x11 u = some (r, u9, n9)) : WP mL_areCalls 11 n9 272 [some (vR 8 (0)), some (vR 200 (0)), some (vR 201 (0)), some (vR 205 (0)), some (vR 206 (0)), l5, some (vI (x6)), some (vI (x7)), some (vI (x8)), some (vI (x9)), some (vI (x10)), some (vI (x11)), l12] [] (cM u.1 out u.2) (PW out r u9) NX := by
  unfold bL_areCalls_272 at h
  refine wp_iload dL_areCalls_272 rfl ?_
  refine wp_if_lt (tgt := 294) dL_areCalls_274 (by decide) (fun c1 => ?_) (fun c1 => ?_)
  · replace h := itp c1 h
    exact wbL_areCalls_294 hK64 h
  · replace h := itn c1 h
    refine wp_iload dL_areCalls_277 rfl ?_
    refine wp_iconst (v := 2) dL_areCalls_279 (by decide) ?_
    refine wp_icmp_gt (tgt := 294) dL_areCalls_280 (by decide) (fun c2 => ?_) (fun c2 => ?_)
    · replace h := itp c2 h
      exact wbL_areCalls_294 hK64 h
    · replace h := itn c2 h
      refine wp_aload_n dL_areCalls_283 rfl ?_
      refine wp_iload dL_areCalls_284 rfl ?_
      refine wp_iconst (v := 2) dL_areCalls_286 (by decide) ?_
      obtain ⟨r3, u4, n5, n6, h7, hw8, h, en9⟩ := lk_e h
      refine wp_callSW (k1 := n5) (k2 := n6) (As := [vR 8 (0), vI (x9), vI (2)]) (rest := []) (wL_call h7) okL_call sm_L_call rfl ml_L_136 dL_areCalls_287 (by decide) (Nat.le_of_eq en9) rfl (Nat.le_of_ble_eq_true rfl) (fun r' S' z => ?_)
      obtain ⟨rfl, rfl⟩ := z
      show WP _ _ _ _ [some (vR 8 (0)), some (vR 200 (0)), some (vR 201 (0)), some (vR 205 (0)), some (vR 206 (0)), l5, some (vI (x6)), some (vI (x7)), some (vI (x8)), some (vI (x9)), some (vI (x10)), some (vI (x11)), l12] [vI (r3)] (cM u4.1 out u.2) _ _
      rw [hw8]
      refine wp_iconst (v := 2) dL_areCalls_290 (by decide) ?_
      refine wp_icmp_ne (tgt := 337) dL_areCalls_291 (by decide) (fun c10 => ?_) (fun c10 => ?_)
      · replace h := itn c10 h
        refine wp_iconst (v := 0) dL_areCalls_337 (by decide) ?_
        exact wbL_areCalls_338 hK64 h
      · replace h := itp c10 h
        exact wbL_areCalls_294 hK64 h
def bL_areCalls_258 (K64 : Int32 → Int32 → Int32 → LM → LR) (x6 : Int32) (x7 : Int32) (x8 : Int32) (x9 : Int32) (x10 : Int32) (x11 : Int32) (u : LM) : LR :=
  if 2 < x8 then
    bL_areCalls_272 K64 (x6) (x7) (x8) (x9) (x10) (x11) u
  else
    if x11 ≤ (gW u 0 (2 : Int32).toNatClampNeg) then
      bL_areCalls_338 K64 (x6) (x7) (x8) (x11) (0) u
    else
      bL_areCalls_272 K64 (x6) (x7) (x8) (x9) (x10) (x11) u
theorem wbL_areCalls_258 {K64 : Int32 → Int32 → Int32 → LM → LR} {r : Int32} {u9 : LM} (hK64 : ∀ {x5 : Int32} {x6 : Int32} {x7 : Int32} {l8 : Option sV} {l9 : Option sV} {l10 : Option sV} {l11 : Option sV} {l12 : Option sV} {u : LM} {n9 : Nat}, K64 x5 x6 x7 u = some (r, u9, n9) → WP mL_areCalls 11 n9 64 [some (vR 8 (0)), some (vR 200 (0)), some (vR 201 (0)), some (vR 205 (0)), some (vR 206 (0)), some (vI (x5)), some (vI (x6)), some (vI (x7)), l8, l9, l10, l11, l12] [] (cM u.1 out u.2) (PW out r u9) NX) {x6 : Int32} {x7 : Int32} {x8 : Int32} {x9 : Int32} {x10 : Int32} {x11 : Int32} {l5 : Option sV} {l12 : Option sV} {u : LM} {n9 : Nat} (h : bL_areCalls_258 K64 x6 x7 x8 x9 x10 x11 u = some (r, u9, n9)) : WP mL_areCalls 11 n9 258 [some (vR 8 (0)), some (vR 200 (0)), some (vR 201 (0)), some (vR 205 (0)), some (vR 206 (0)), l5, some (vI (x6)), some (vI (x7)), some (vI (x8)), some (vI (x9)), some (vI (x10)), some (vI (x11)), l12] [] (cM u.1 out u.2) (PW out r u9) NX := by
  unfold bL_areCalls_258 at h
  refine wp_iload dL_areCalls_258 rfl ?_
  refine wp_iconst (v := 2) dL_areCalls_260 (by decide) ?_
  refine wp_icmp_gt (tgt := 272) dL_areCalls_261 (by decide) (fun c1 => ?_) (fun c1 => ?_)
  · replace h := itp c1 h
    exact wbL_areCalls_272 hK64 h
  · replace h := itn c1 h
    refine wp_iload dL_areCalls_264 rfl ?_
    refine wp_aload_n dL_areCalls_266 rfl ?_
    refine wp_iconst (v := 2) dL_areCalls_267 (by decide) ?_
    refine cq_ald (c := 200) (y := 0) rfl rfl (show vp_in (2) (len 200) from (by decide : vq (2) 6)) dL_areCalls_268 ?_
    refine wp_icmp_le (tgt := 337) dL_areCalls_269 (by decide) (fun c2 => ?_) (fun c2 => ?_)
    · replace h := itp c2 h
      refine wp_iconst (v := 0) dL_areCalls_337 (by decide) ?_
      exact wbL_areCalls_338 hK64 h
    · replace h := itn c2 h
      exact wbL_areCalls_272 hK64 h
def bL_areCalls_213 (K64 : Int32 → Int32 → Int32 → LM → LR) (x6 : Int32) (x7 : Int32) (x8 : Int32) (x9 : Int32) (x10 : Int32) (x11 : Int32) (x12 : Int32) (u : LM) : LR :=
  if x12 < 0 then
    bL_areCalls_338 K64 (x6) (x7) (x8) (x11) (0) u
  else
    if (gW u 0 (0 : Int32).toNatClampNeg) ≤ x12 then
      bL_areCalls_338 K64 (x6) (x7) (x8) (x11) (0) u
    else
      if vq (x12) 12 then
      lk (fW_call 0 (x7) (0) u.1) u fun r4 u5 =>
      if (gW u 1 (x12).toNatClampNeg) = r4 then
        if vq (x7) 60 then
        if (gW u5 6 (x7).toNatClampNeg) = 0 then
          bL_areCalls_258 K64 (x6) (x7) (x8) (x9) (x10) (x11) u5
        else
          if x11 = (gW u5 6 (x7).toNatClampNeg) then
            bL_areCalls_258 K64 (x6) (x7) (x8) (x9) (x10) (x11) u5
          else
            bL_areCalls_338 K64 (x6) (x7) (x8) (x11) (0) u5
        else none
      else
        bL_areCalls_338 K64 (x6) (x7) (x8) (x11) (0) u5
      else none
theorem wbL_areCalls_213 {K64 : Int32 → Int32 → Int32 → LM → LR} {r : Int32} {u9 : LM} (hK64 : ∀ {x5 : Int32} {x6 : Int32} {x7 : Int32} {l8 : Option sV} {l9 : Option sV} {l10 : Option sV} {l11 : Option sV} {l12 : Option sV} {u : LM} {n9 : Nat}, K64 x5 x6 x7 u = some (r, u9, n9) → WP mL_areCalls 11 n9 64 [some (vR 8 (0)), some (vR 200 (0)), some (vR 201 (0)), some (vR 205 (0)), some (vR 206 (0)), some (vI (x5)), some (vI (x6)), some (vI (x7)), l8, l9, l10, l11, l12] [] (cM u.1 out u.2) (PW out r u9) NX) {x6 : Int32} {x7 : Int32} {x8 : Int32} {x9 : Int32} {x10 : Int32} {x11 : Int32} {x12 : Int32} {l5 : Option sV} {u : LM} {n9 : Nat} (h : bL_areCalls_213 K64 x6 x7 x8 x9 x10 x11 x12 u = some (r, u9, n9)) : WP mL_areCalls 11 n9 213 [some (vR 8 (0)), some (vR 200 (0)), some (vR 201 (0)), some (vR 205 (0)), some (vR 206 (0)), l5, some (vI (x6)), some (vI (x7)), some (vI (x8)), some (vI (x9)), some (vI (x10)), some (vI (x11)), some (vI (x12))] [] (cM u.1 out u.2) (PW out r u9) NX := by
  unfold bL_areCalls_213 at h
  refine wp_iload dL_areCalls_213 rfl ?_
  refine wp_if_lt (tgt := 337) dL_areCalls_215 (by decide) (fun c1 => ?_) (fun c1 => ?_)
  · replace h := itp c1 h
    refine wp_iconst (v := 0) dL_areCalls_337 (by decide) ?_
    exact wbL_areCalls_338 hK64 h
  · replace h := itn c1 h
    refine wp_iload dL_areCalls_218 rfl ?_
    refine wp_aload_n dL_areCalls_220 rfl ?_
    refine wp_iconst (v := 0) dL_areCalls_221 (by decide) ?_
    refine cq_ald (c := 200) (y := 0) rfl rfl (show vp_in (0) (len 200) from (by decide : vq (0) 6)) dL_areCalls_222 ?_
    refine wp_icmp_ge (tgt := 337) dL_areCalls_223 (by decide) (fun c2 => ?_) (fun c2 => ?_)
    · replace h := itp c2 h
      refine wp_iconst (v := 0) dL_areCalls_337 (by decide) ?_
      exact wbL_areCalls_338 hK64 h
    · replace h := itn c2 h
      refine wp_aload_n dL_areCalls_226 rfl ?_
      refine wp_iload dL_areCalls_227 rfl ?_
      obtain ⟨c3, h⟩ := ock h
      refine cq_ald (c := 201) (y := 1) rfl rfl (show vp_in (x12) (len 201) from c3) dL_areCalls_229 ?_
      refine wp_aload_n dL_areCalls_230 rfl ?_
      refine wp_iload dL_areCalls_231 rfl ?_
      refine wp_iconst (v := 0) dL_areCalls_233 (by decide) ?_
      obtain ⟨r4, u5, n6, n7, h8, hw9, h, en10⟩ := lk_e h
      refine wp_callSW (k1 := n6) (k2 := n7) (As := [vR 8 (0), vI (x7), vI (0)]) (rest := [vI ((gW u 1 (x12).toNatClampNeg))]) (wL_call h8) okL_call sm_L_call rfl ml_L_136 dL_areCalls_234 (by decide) (Nat.le_of_eq en10) rfl (Nat.le_of_ble_eq_true rfl) (fun r' S' z => ?_)
      obtain ⟨rfl, rfl⟩ := z
      show WP _ _ _ _ [some (vR 8 (0)), some (vR 200 (0)), some (vR 201 (0)), some (vR 205 (0)), some (vR 206 (0)), l5, some (vI (x6)), some (vI (x7)), some (vI (x8)), some (vI (x9)), some (vI (x10)), some (vI (x11)), some (vI (x12))] [vI (r4), vI ((gW u 1 (x12).toNatClampNeg))] (cM u5.1 out u.2) _ _
      rw [hw9]
      refine wp_icmp_ne (tgt := 337) dL_areCalls_237 (by decide) (fun c11 => ?_) (fun c11 => ?_)
      · replace h := itn c11 h
        refine wp_iconst (v := 0) dL_areCalls_337 (by decide) ?_
        exact wbL_areCalls_338 hK64 h
      · replace h := itp c11 h
        refine wp_aload dL_areCalls_240 rfl ?_
        refine wp_iload dL_areCalls_242 rfl ?_
        obtain ⟨c12, h⟩ := ock h
        refine cq_ald (c := 206) (y := 6) rfl rfl (show vp_in (x7) (len 206) from c12) dL_areCalls_244 ?_
        refine wp_if_eq (tgt := 258) dL_areCalls_245 (by decide) (fun c13 => ?_) (fun c13 => ?_)
        · replace h := itp c13 h
          exact wbL_areCalls_258 hK64 h
        · replace h := itn c13 h
          refine wp_iload dL_areCalls_248 rfl ?_
          refine wp_aload dL_areCalls_250 rfl ?_
          refine wp_iload dL_areCalls_252 rfl ?_
          refine cq_ald (c := 206) (y := 6) rfl rfl (show vp_in (x7) (len 206) from c12) dL_areCalls_254 ?_
          refine wp_icmp_ne (tgt := 337) dL_areCalls_255 (by decide) (fun c14 => ?_) (fun c14 => ?_)
          · replace h := itn c14 h
            refine wp_iconst (v := 0) dL_areCalls_337 (by decide) ?_
            exact wbL_areCalls_338 hK64 h
          · replace h := itp c14 h
            exact wbL_areCalls_258 hK64 h
def bL_areCalls_152 (K64 : Int32 → Int32 → Int32 → LM → LR) (x6 : Int32) (x7 : Int32) (x8 : Int32) (x9 : Int32) (x10 : Int32) (x11 : Int32) (x12 : Int32) (u : LM) : LR :=
  if x7 ≤ x9 then
    bL_areCalls_338 K64 (x6) (x7) (x8) (x11) (0) u
  else
    if (gW u 0 (1 : Int32).toNatClampNeg) ≤ x10 then
      bL_areCalls_338 K64 (x6) (x7) (x8) (x11) (0) u
    else
      if x9 < 0 then
        bL_areCalls_213 K64 (x6) (x7) (x8) (x9) (x10) (x11) (x12) u
      else
        lk (fW_call 0 (x9) (3) u.1) u fun r4 u5 =>
        if r4 < x11 then
          bL_areCalls_338 K64 (x6) (x7) (x8) (x11) (0) u5
        else
          lk (fW_call 0 (x9) (5) u5.1) u5 fun r12 u13 =>
          if r12 = x10 then
            lk (fW_call 0 (x7) (0) u13.1) u13 fun r20 u21 =>
            lk (fW_call 0 (x9) (0) u21.1) u21 fun r27 u28 =>
            if r20 ≤ r27 then
              bL_areCalls_338 K64 (x6) (x7) (x8) (x11) (0) u28
            else
              bL_areCalls_213 K64 (x6) (x7) (x8) (x9) (x10) (x11) (x12) u28
          else
            bL_areCalls_338 K64 (x6) (x7) (x8) (x11) (0) u13
theorem wbL_areCalls_152 {K64 : Int32 → Int32 → Int32 → LM → LR} {r : Int32} {u9 : LM} (hK64 : ∀ {x5 : Int32} {x6 : Int32} {x7 : Int32} {l8 : Option sV} {l9 : Option sV} {l10 : Option sV} {l11 : Option sV} {l12 : Option sV} {u : LM} {n9 : Nat}, K64 x5 x6 x7 u = some (r, u9, n9) → WP mL_areCalls 11 n9 64 [some (vR 8 (0)), some (vR 200 (0)), some (vR 201 (0)), some (vR 205 (0)), some (vR 206 (0)), some (vI (x5)), some (vI (x6)), some (vI (x7)), l8, l9, l10, l11, l12] [] (cM u.1 out u.2) (PW out r u9) NX) {x6 : Int32} {x7 : Int32} {x8 : Int32} {x9 : Int32} {x10 : Int32} {x11 : Int32} {x12 : Int32} {l5 : Option sV} {u : LM} {n9 : Nat} (h : bL_areCalls_152 K64 x6 x7 x8 x9 x10 x11 x12 u = some (r, u9, n9)) : WP mL_areCalls 11 n9 152 [some (vR 8 (0)), some (vR 200 (0)), some (vR 201 (0)), some (vR 205 (0)), some (vR 206 (0)), l5, some (vI (x6)), some (vI (x7)), some (vI (x8)), some (vI (x9)), some (vI (x10)), some (vI (x11)), some (vI (x12))] [] (cM u.1 out u.2) (PW out r u9) NX := by
  unfold bL_areCalls_152 at h
  refine wp_iload dL_areCalls_152 rfl ?_
  refine wp_iload dL_areCalls_154 rfl ?_
  refine wp_icmp_ge (tgt := 337) dL_areCalls_156 (by decide) (fun c1 => ?_) (fun c1 => ?_)
  · replace h := itp c1 h
    refine wp_iconst (v := 0) dL_areCalls_337 (by decide) ?_
    exact wbL_areCalls_338 hK64 h
  · replace h := itn c1 h
    refine wp_iload dL_areCalls_159 rfl ?_
    refine wp_aload_n dL_areCalls_161 rfl ?_
    refine wp_iconst (v := 1) dL_areCalls_162 (by decide) ?_
    refine cq_ald (c := 200) (y := 0) rfl rfl (show vp_in (1) (len 200) from (by decide : vq (1) 6)) dL_areCalls_163 ?_
    refine wp_icmp_ge (tgt := 337) dL_areCalls_164 (by decide) (fun c2 => ?_) (fun c2 => ?_)
    · replace h := itp c2 h
      refine wp_iconst (v := 0) dL_areCalls_337 (by decide) ?_
      exact wbL_areCalls_338 hK64 h
    · replace h := itn c2 h
      refine wp_iload dL_areCalls_167 rfl ?_
      refine wp_if_lt (tgt := 213) dL_areCalls_169 (by decide) (fun c3 => ?_) (fun c3 => ?_)
      · replace h := itp c3 h
        exact wbL_areCalls_213 hK64 h
      · replace h := itn c3 h
        refine wp_iload dL_areCalls_172 rfl ?_
        refine wp_aload_n dL_areCalls_174 rfl ?_
        refine wp_iload dL_areCalls_175 rfl ?_
        refine wp_iconst (v := 3) dL_areCalls_177 (by decide) ?_
        obtain ⟨r4, u5, n6, n7, h8, hw9, h, en10⟩ := lk_e h
        refine wp_callSW (k1 := n6) (k2 := n7) (As := [vR 8 (0), vI (x9), vI (3)]) (rest := [vI (x11)]) (wL_call h8) okL_call sm_L_call rfl ml_L_136 dL_areCalls_178 (by decide) (Nat.le_of_eq en10) rfl (Nat.le_of_ble_eq_true rfl) (fun r' S' z => ?_)
        obtain ⟨rfl, rfl⟩ := z
        show WP _ _ _ _ [some (vR 8 (0)), some (vR 200 (0)), some (vR 201 (0)), some (vR 205 (0)), some (vR 206 (0)), l5, some (vI (x6)), some (vI (x7)), some (vI (x8)), some (vI (x9)), some (vI (x10)), some (vI (x11)), some (vI (x12))] [vI (r4), vI (x11)] (cM u5.1 out u.2) _ _
        rw [hw9]
        refine wp_icmp_gt (tgt := 337) dL_areCalls_181 (by decide) (fun c11 => ?_) (fun c11 => ?_)
        · replace h := itp c11 h
          refine wp_iconst (v := 0) dL_areCalls_337 (by decide) ?_
          exact wbL_areCalls_338 hK64 h
        · replace h := itn c11 h
          refine wp_aload_n dL_areCalls_184 rfl ?_
          refine wp_iload dL_areCalls_185 rfl ?_
          refine wp_iconst (v := 5) dL_areCalls_187 (by decide) ?_
          obtain ⟨r12, u13, n14, n15, h16, hw17, h, en18⟩ := lk_e h
          refine wp_callSW (k1 := n14) (k2 := n15) (As := [vR 8 (0), vI (x9), vI (5)]) (rest := []) (wL_call h16) okL_call sm_L_call rfl ml_L_136 dL_areCalls_188 (by decide) (Nat.le_of_eq en18) rfl (Nat.le_of_ble_eq_true rfl) (fun r' S' z => ?_)
          obtain ⟨rfl, rfl⟩ := z
          show WP _ _ _ _ [some (vR 8 (0)), some (vR 200 (0)), some (vR 201 (0)), some (vR 205 (0)), some (vR 206 (0)), l5, some (vI (x6)), some (vI (x7)), some (vI (x8)), some (vI (x9)), some (vI (x10)), some (vI (x11)), some (vI (x12))] [vI (r12)] (cM u13.1 out u5.2) _ _
          rw [hw17]
          refine wp_iload dL_areCalls_191 rfl ?_
          refine wp_icmp_ne (tgt := 337) dL_areCalls_193 (by decide) (fun c19 => ?_) (fun c19 => ?_)
          · replace h := itn c19 h
            refine wp_iconst (v := 0) dL_areCalls_337 (by decide) ?_
            exact wbL_areCalls_338 hK64 h
          · replace h := itp c19 h
            refine wp_aload_n dL_areCalls_196 rfl ?_
            refine wp_iload dL_areCalls_197 rfl ?_
            refine wp_iconst (v := 0) dL_areCalls_199 (by decide) ?_
            obtain ⟨r20, u21, n22, n23, h24, hw25, h, en26⟩ := lk_e h
            refine wp_callSW (k1 := n22) (k2 := n23) (As := [vR 8 (0), vI (x7), vI (0)]) (rest := []) (wL_call h24) okL_call sm_L_call rfl ml_L_136 dL_areCalls_200 (by decide) (Nat.le_of_eq en26) rfl (Nat.le_of_ble_eq_true rfl) (fun r' S' z => ?_)
            obtain ⟨rfl, rfl⟩ := z
            show WP _ _ _ _ [some (vR 8 (0)), some (vR 200 (0)), some (vR 201 (0)), some (vR 205 (0)), some (vR 206 (0)), l5, some (vI (x6)), some (vI (x7)), some (vI (x8)), some (vI (x9)), some (vI (x10)), some (vI (x11)), some (vI (x12))] [vI (r20)] (cM u21.1 out u13.2) _ _
            rw [hw25]
            refine wp_aload_n dL_areCalls_203 rfl ?_
            refine wp_iload dL_areCalls_204 rfl ?_
            refine wp_iconst (v := 0) dL_areCalls_206 (by decide) ?_
            obtain ⟨r27, u28, n29, n30, h31, hw32, h, en33⟩ := lk_e h
            refine wp_callSW (k1 := n29) (k2 := n30) (As := [vR 8 (0), vI (x9), vI (0)]) (rest := [vI (r20)]) (wL_call h31) okL_call sm_L_call rfl ml_L_136 dL_areCalls_207 (by decide) (Nat.le_of_eq en33) rfl (Nat.le_of_ble_eq_true rfl) (fun r' S' z => ?_)
            obtain ⟨rfl, rfl⟩ := z
            show WP _ _ _ _ [some (vR 8 (0)), some (vR 200 (0)), some (vR 201 (0)), some (vR 205 (0)), some (vR 206 (0)), l5, some (vI (x6)), some (vI (x7)), some (vI (x8)), some (vI (x9)), some (vI (x10)), some (vI (x11)), some (vI (x12))] [vI (r27), vI (r20)] (cM u28.1 out u21.2) _ _
            rw [hw32]
            refine wp_icmp_le (tgt := 337) dL_areCalls_210 (by decide) (fun c34 => ?_) (fun c34 => ?_)
            · replace h := itp c34 h
              refine wp_iconst (v := 0) dL_areCalls_337 (by decide) ?_
              exact wbL_areCalls_338 hK64 h
            · replace h := itn c34 h
              exact wbL_areCalls_213 hK64 h
def lL_areCalls_64 : Nat → Int32 → Int32 → Int32 → LM → LR
  | 0, _, _, _, _ => none
  | n + 1, x5, x6, x7, u =>
  if x6 ≤ x7 then
    bL_areCalls_361 (x5) u
  else
    if x5 = 0 then
      bL_areCalls_361 (x5) u
    else
      lk (fW_call 0 (x7) (2) u.1) u fun r3 u4 =>
      lk (fW_call 0 (x7) (4) u4.1) u4 fun r10 u11 =>
      lk (fW_call 0 (x7) (5) u11.1) u11 fun r17 u18 =>
      lk (fW_call 0 (x7) (3) u18.1) u18 fun r24 u25 =>
      lk (fW_call 0 (x7) (1) u25.1) u25 fun r31 u32 =>
      if r3 < 0 then
        bL_areCalls_338 (lL_areCalls_64 n) (x6) (x7) (r3) (r24) (0) u32
      else
        if 8 ≤ r3 then
          bL_areCalls_338 (lL_areCalls_64 n) (x6) (x7) (r3) (r24) (0) u32
        else
          if vq (x7) 60 then
          if (gW u32 5 (x7).toNatClampNeg) < 4 then
            bL_areCalls_152 (lL_areCalls_64 n) (x6) (x7) (r3) (r10) (r17) (r24) (r31) u32
          else
            if r3 = ((gW u32 5 (x7).toNatClampNeg) - (1 : Int32)) then
              bL_areCalls_152 (lL_areCalls_64 n) (x6) (x7) (r3) (r10) (r17) (r24) (r31) u32
            else
              bL_areCalls_338 (lL_areCalls_64 n) (x6) (x7) (r3) (r24) (0) u32
          else none
theorem wlL_areCalls_64 {r : Int32} {u9 : LM} : ∀ (n : Nat) {x5 : Int32} {x6 : Int32} {x7 : Int32} {l8 : Option sV} {l9 : Option sV} {l10 : Option sV} {l11 : Option sV} {l12 : Option sV} {u : LM} {n9 : Nat}, lL_areCalls_64 n x5 x6 x7 u = some (r, u9, n9) → WP mL_areCalls 11 n9 64 [some (vR 8 (0)), some (vR 200 (0)), some (vR 201 (0)), some (vR 205 (0)), some (vR 206 (0)), some (vI (x5)), some (vI (x6)), some (vI (x7)), l8, l9, l10, l11, l12] [] (cM u.1 out u.2) (PW out r u9) NX := by
  intro n
  induction n with
  | zero =>
    intro x5 x6 x7 l8 l9 l10 l11 l12 u n9 h
    rw [lL_areCalls_64] at h
    cases h
  | succ n ih =>
    intro x5 x6 x7 l8 l9 l10 l11 l12 u n9 h
    rw [lL_areCalls_64] at h
    refine wp_iload dL_areCalls_64 rfl ?_
    refine wp_iload dL_areCalls_66 rfl ?_
    refine wp_icmp_ge (tgt := 361) dL_areCalls_68 (by decide) (fun c1 => ?_) (fun c1 => ?_)
    · replace h := itp c1 h
      exact wbL_areCalls_361 h
    · replace h := itn c1 h
      refine wp_iload dL_areCalls_71 rfl ?_
      refine wp_if_eq (tgt := 361) dL_areCalls_73 (by decide) (fun c2 => ?_) (fun c2 => ?_)
      · replace h := itp c2 h
        exact wbL_areCalls_361 h
      · replace h := itn c2 h
        refine wp_aload_n dL_areCalls_76 rfl ?_
        refine wp_iload dL_areCalls_77 rfl ?_
        refine wp_iconst (v := 2) dL_areCalls_79 (by decide) ?_
        obtain ⟨r3, u4, n5, n6, h7, hw8, h, en9⟩ := lk_e h
        refine wp_callSW (k1 := n5) (k2 := n6) (As := [vR 8 (0), vI (x7), vI (2)]) (rest := []) (wL_call h7) okL_call sm_L_call rfl ml_L_136 dL_areCalls_80 (by decide) (Nat.le_of_eq en9) rfl (Nat.le_of_ble_eq_true rfl) (fun r' S' z => ?_)
        obtain ⟨rfl, rfl⟩ := z
        show WP _ _ _ _ [some (vR 8 (0)), some (vR 200 (0)), some (vR 201 (0)), some (vR 205 (0)), some (vR 206 (0)), some (vI (x5)), some (vI (x6)), some (vI (x7)), l8, l9, l10, l11, l12] [vI (r3)] (cM u4.1 out u.2) _ _
        rw [hw8]
        refine wp_istore (L' := [some (vR 8 (0)), some (vR 200 (0)), some (vR 201 (0)), some (vR 205 (0)), some (vR 206 (0)), some (vI (x5)), some (vI (x6)), some (vI (x7)), some (vI (r3)), l9, l10, l11, l12]) dL_areCalls_83 rfl rfl ?_
        refine wp_aload_n dL_areCalls_85 rfl ?_
        refine wp_iload dL_areCalls_86 rfl ?_
        refine wp_iconst (v := 4) dL_areCalls_88 (by decide) ?_
        obtain ⟨r10, u11, n12, n13, h14, hw15, h, en16⟩ := lk_e h
        refine wp_callSW (k1 := n12) (k2 := n13) (As := [vR 8 (0), vI (x7), vI (4)]) (rest := []) (wL_call h14) okL_call sm_L_call rfl ml_L_136 dL_areCalls_89 (by decide) (Nat.le_of_eq en16) rfl (Nat.le_of_ble_eq_true rfl) (fun r' S' z => ?_)
        obtain ⟨rfl, rfl⟩ := z
        show WP _ _ _ _ [some (vR 8 (0)), some (vR 200 (0)), some (vR 201 (0)), some (vR 205 (0)), some (vR 206 (0)), some (vI (x5)), some (vI (x6)), some (vI (x7)), some (vI (r3)), l9, l10, l11, l12] [vI (r10)] (cM u11.1 out u4.2) _ _
        rw [hw15]
        refine wp_istore (L' := [some (vR 8 (0)), some (vR 200 (0)), some (vR 201 (0)), some (vR 205 (0)), some (vR 206 (0)), some (vI (x5)), some (vI (x6)), some (vI (x7)), some (vI (r3)), some (vI (r10)), l10, l11, l12]) dL_areCalls_92 rfl rfl ?_
        refine wp_aload_n dL_areCalls_94 rfl ?_
        refine wp_iload dL_areCalls_95 rfl ?_
        refine wp_iconst (v := 5) dL_areCalls_97 (by decide) ?_
        obtain ⟨r17, u18, n19, n20, h21, hw22, h, en23⟩ := lk_e h
        refine wp_callSW (k1 := n19) (k2 := n20) (As := [vR 8 (0), vI (x7), vI (5)]) (rest := []) (wL_call h21) okL_call sm_L_call rfl ml_L_136 dL_areCalls_98 (by decide) (Nat.le_of_eq en23) rfl (Nat.le_of_ble_eq_true rfl) (fun r' S' z => ?_)
        obtain ⟨rfl, rfl⟩ := z
        show WP _ _ _ _ [some (vR 8 (0)), some (vR 200 (0)), some (vR 201 (0)), some (vR 205 (0)), some (vR 206 (0)), some (vI (x5)), some (vI (x6)), some (vI (x7)), some (vI (r3)), some (vI (r10)), l10, l11, l12] [vI (r17)] (cM u18.1 out u11.2) _ _
        rw [hw22]
        refine wp_istore (L' := [some (vR 8 (0)), some (vR 200 (0)), some (vR 201 (0)), some (vR 205 (0)), some (vR 206 (0)), some (vI (x5)), some (vI (x6)), some (vI (x7)), some (vI (r3)), some (vI (r10)), some (vI (r17)), l11, l12]) dL_areCalls_101 rfl rfl ?_
        refine wp_aload_n dL_areCalls_103 rfl ?_
        refine wp_iload dL_areCalls_104 rfl ?_
        refine wp_iconst (v := 3) dL_areCalls_106 (by decide) ?_
        obtain ⟨r24, u25, n26, n27, h28, hw29, h, en30⟩ := lk_e h
        refine wp_callSW (k1 := n26) (k2 := n27) (As := [vR 8 (0), vI (x7), vI (3)]) (rest := []) (wL_call h28) okL_call sm_L_call rfl ml_L_136 dL_areCalls_107 (by decide) (Nat.le_of_eq en30) rfl (Nat.le_of_ble_eq_true rfl) (fun r' S' z => ?_)
        obtain ⟨rfl, rfl⟩ := z
        show WP _ _ _ _ [some (vR 8 (0)), some (vR 200 (0)), some (vR 201 (0)), some (vR 205 (0)), some (vR 206 (0)), some (vI (x5)), some (vI (x6)), some (vI (x7)), some (vI (r3)), some (vI (r10)), some (vI (r17)), l11, l12] [vI (r24)] (cM u25.1 out u18.2) _ _
        rw [hw29]
        refine wp_istore (L' := [some (vR 8 (0)), some (vR 200 (0)), some (vR 201 (0)), some (vR 205 (0)), some (vR 206 (0)), some (vI (x5)), some (vI (x6)), some (vI (x7)), some (vI (r3)), some (vI (r10)), some (vI (r17)), some (vI (r24)), l12]) dL_areCalls_110 rfl rfl ?_
        refine wp_aload_n dL_areCalls_112 rfl ?_
        refine wp_iload dL_areCalls_113 rfl ?_
        refine wp_iconst (v := 1) dL_areCalls_115 (by decide) ?_
        obtain ⟨r31, u32, n33, n34, h35, hw36, h, en37⟩ := lk_e h
        refine wp_callSW (k1 := n33) (k2 := n34) (As := [vR 8 (0), vI (x7), vI (1)]) (rest := []) (wL_call h35) okL_call sm_L_call rfl ml_L_136 dL_areCalls_116 (by decide) (Nat.le_of_eq en37) rfl (Nat.le_of_ble_eq_true rfl) (fun r' S' z => ?_)
        obtain ⟨rfl, rfl⟩ := z
        show WP _ _ _ _ [some (vR 8 (0)), some (vR 200 (0)), some (vR 201 (0)), some (vR 205 (0)), some (vR 206 (0)), some (vI (x5)), some (vI (x6)), some (vI (x7)), some (vI (r3)), some (vI (r10)), some (vI (r17)), some (vI (r24)), l12] [vI (r31)] (cM u32.1 out u25.2) _ _
        rw [hw36]
        refine wp_istore (L' := [some (vR 8 (0)), some (vR 200 (0)), some (vR 201 (0)), some (vR 205 (0)), some (vR 206 (0)), some (vI (x5)), some (vI (x6)), some (vI (x7)), some (vI (r3)), some (vI (r10)), some (vI (r17)), some (vI (r24)), some (vI (r31))]) dL_areCalls_119 rfl rfl ?_
        refine wp_iload dL_areCalls_121 rfl ?_
        refine wp_if_lt (tgt := 337) dL_areCalls_123 (by decide) (fun c38 => ?_) (fun c38 => ?_)
        · replace h := itp c38 h
          refine wp_iconst (v := 0) dL_areCalls_337 (by decide) ?_
          exact wbL_areCalls_338 ih h
        · replace h := itn c38 h
          refine wp_iload dL_areCalls_126 rfl ?_
          refine wp_bipush (v := 8) dL_areCalls_128 (by decide) ?_
          refine wp_icmp_ge (tgt := 337) dL_areCalls_130 (by decide) (fun c39 => ?_) (fun c39 => ?_)
          · replace h := itp c39 h
            refine wp_iconst (v := 0) dL_areCalls_337 (by decide) ?_
            exact wbL_areCalls_338 ih h
          · replace h := itn c39 h
            refine wp_aload_n dL_areCalls_133 rfl ?_
            refine wp_iload dL_areCalls_134 rfl ?_
            obtain ⟨c40, h⟩ := ock h
            refine cq_ald (c := 205) (y := 5) rfl rfl (show vp_in (x7) (len 205) from c40) dL_areCalls_136 ?_
            refine wp_iconst (v := 4) dL_areCalls_137 (by decide) ?_
            refine wp_icmp_lt (tgt := 152) dL_areCalls_138 (by decide) (fun c41 => ?_) (fun c41 => ?_)
            · replace h := itp c41 h
              exact wbL_areCalls_152 ih h
            · replace h := itn c41 h
              refine wp_iload dL_areCalls_141 rfl ?_
              refine wp_aload_n dL_areCalls_143 rfl ?_
              refine wp_iload dL_areCalls_144 rfl ?_
              refine cq_ald (c := 205) (y := 5) rfl rfl (show vp_in (x7) (len 205) from c40) dL_areCalls_146 ?_
              refine wp_iconst (v := 1) dL_areCalls_147 (by decide) ?_
              refine wp_isub dL_areCalls_148 ?_
              refine wp_icmp_ne (tgt := 337) dL_areCalls_149 (by decide) (fun c42 => ?_) (fun c42 => ?_)
              · replace h := itn c42 h
                refine wp_iconst (v := 0) dL_areCalls_337 (by decide) ?_
                exact wbL_areCalls_338 ih h
              · replace h := itp c42 h
                exact wbL_areCalls_152 ih h
def bL_areCalls_39 (s0 : Int32) (u : LM) : LR :=
  lk (f8_X8_calls 0  u.1) u fun r1 u2 =>
  if 60 ≤ r1 then
    lL_areCalls_64 FU (s0) (60) (0) u2
  else
    lk (f8_X8_calls 0  u2.1) u2 fun r9 u10 =>
    lL_areCalls_64 FU (s0) (r9) (0) u10
theorem wbL_areCalls_39 {r : Int32} {u9 : LM} {s0 : Int32} {l5 : Option sV} {l6 : Option sV} {l7 : Option sV} {l8 : Option sV} {l9 : Option sV} {l10 : Option sV} {l11 : Option sV} {l12 : Option sV} {u : LM} {n9 : Nat} (h : bL_areCalls_39 s0 u = some (r, u9, n9)) : WP mL_areCalls 11 n9 39 [some (vR 8 (0)), some (vR 200 (0)), some (vR 201 (0)), some (vR 205 (0)), some (vR 206 (0)), l5, l6, l7, l8, l9, l10, l11, l12] [vI (s0)] (cM u.1 out u.2) (PW out r u9) NX := by
  unfold bL_areCalls_39 at h
  refine wp_istore (L' := [some (vR 8 (0)), some (vR 200 (0)), some (vR 201 (0)), some (vR 205 (0)), some (vR 206 (0)), some (vI (s0)), l6, l7, l8, l9, l10, l11, l12]) dL_areCalls_39 rfl rfl ?_
  refine wp_aload_n dL_areCalls_41 rfl ?_
  obtain ⟨r1, u2, n3, n4, h5, hw6, h, en7⟩ := lk_e h
  refine wp_callV (k1 := n3) (k2 := n4) (As := []) (rest := []) (w8_X8_calls h5) okX8_calls ivX8_calls rfl (by decide) ml_L_132 dL_areCalls_42 rfl (by decide) (Nat.le_of_eq en7) rfl (Nat.le_of_ble_eq_true rfl) (fun _ _ z => z) (fun r' S' z => ?_)
  obtain ⟨rfl, rfl⟩ := z
  show WP _ _ _ _ [some (vR 8 (0)), some (vR 200 (0)), some (vR 201 (0)), some (vR 205 (0)), some (vR 206 (0)), some (vI (s0)), l6, l7, l8, l9, l10, l11, l12] [vI (r1)] (cM u2.1 out u.2) _ _
  rw [hw6]
  refine wp_bipush (v := 60) dL_areCalls_45 (by decide) ?_
  refine wp_icmp_ge (tgt := 57) dL_areCalls_47 (by decide) (fun c8 => ?_) (fun c8 => ?_)
  · replace h := itp c8 h
    refine wp_bipush (v := 60) dL_areCalls_57 (by decide) ?_
    refine wp_istore (L' := [some (vR 8 (0)), some (vR 200 (0)), some (vR 201 (0)), some (vR 205 (0)), some (vR 206 (0)), some (vI (s0)), some (vI (60)), l7, l8, l9, l10, l11, l12]) dL_areCalls_59 rfl rfl ?_
    refine wp_iconst (v := 0) dL_areCalls_61 (by decide) ?_
    refine wp_istore (L' := [some (vR 8 (0)), some (vR 200 (0)), some (vR 201 (0)), some (vR 205 (0)), some (vR 206 (0)), some (vI (s0)), some (vI (60)), some (vI (0)), l8, l9, l10, l11, l12]) dL_areCalls_62 rfl rfl ?_
    exact wlL_areCalls_64 FU h
  · replace h := itn c8 h
    refine wp_aload_n dL_areCalls_50 rfl ?_
    obtain ⟨r9, u10, n11, n12, h13, hw14, h, en15⟩ := lk_e h
    refine wp_callV (k1 := n11) (k2 := n12) (As := []) (rest := []) (w8_X8_calls h13) okX8_calls ivX8_calls rfl (by decide) ml_L_132 dL_areCalls_51 rfl (by decide) (Nat.le_of_eq en15) rfl (Nat.le_of_ble_eq_true rfl) (fun _ _ z => z) (fun r' S' z => ?_)
    obtain ⟨rfl, rfl⟩ := z
    show WP _ _ _ _ [some (vR 8 (0)), some (vR 200 (0)), some (vR 201 (0)), some (vR 205 (0)), some (vR 206 (0)), some (vI (s0)), l6, l7, l8, l9, l10, l11, l12] [vI (r9)] (cM u10.1 out u2.2) _ _
    rw [hw14]
    refine wp_goto (tgt := 59) dL_areCalls_54 (by decide) ?_
    refine wp_istore (L' := [some (vR 8 (0)), some (vR 200 (0)), some (vR 201 (0)), some (vR 205 (0)), some (vR 206 (0)), some (vI (s0)), some (vI (r9)), l7, l8, l9, l10, l11, l12]) dL_areCalls_59 rfl rfl ?_
    refine wp_iconst (v := 0) dL_areCalls_61 (by decide) ?_
    refine wp_istore (L' := [some (vR 8 (0)), some (vR 200 (0)), some (vR 201 (0)), some (vR 205 (0)), some (vR 206 (0)), some (vI (s0)), some (vI (r9)), some (vI (0)), l8, l9, l10, l11, l12]) dL_areCalls_62 rfl rfl ?_
    exact wlL_areCalls_64 FU h
def fL_areCalls (u : LM) : LR :=
  lk (f8_X8_calls 0  u.1) u fun r1 u2 =>
  if r1 < (gW u2 0 (3 : Int32).toNatClampNeg) then
    bL_areCalls_39 (0) u2
  else
    lk (f8_X8_calls 0  u2.1) u2 fun r9 u10 =>
    if 400 < r9 then
      bL_areCalls_39 (0) u10
    else
      lk (f8_X8_calls 0  u10.1) u10 fun r17 u18 =>
      lk (fW_call 0 (r17) (0) u18.1) u18 fun r24 u25 =>
      if r24 = (-1000001) then
        bL_areCalls_39 (1) u25
      else
        bL_areCalls_39 (0) u25
theorem wfL_areCalls {r : Int32} {u9 : LM} {u : LM} {n9 : Nat} (h : fL_areCalls  u = some (r, u9, n9)) : Spec mL_areCalls 11 n9 [vR 8 (0), vR 200 (0), vR 201 (0), vR 205 (0), vR 206 (0)] (cM u.1 out u.2) (PW out r u9) NX := by
  unfold fL_areCalls at h
  refine spec_of (by decide) rfl (by simp [catS, cat1]) (Nat.le_of_ble_eq_true rfl) ?_
  show WP mL_areCalls 11 n9 0 [some (vR 8 (0)), some (vR 200 (0)), some (vR 201 (0)), some (vR 205 (0)), some (vR 206 (0)), none, none, none, none, none, none, none, none] [] (cM u.1 out u.2) (PW out r u9) NX
  refine wp_aload_n dL_areCalls_0 rfl ?_
  obtain ⟨r1, u2, n3, n4, h5, hw6, h, en7⟩ := lk_e h
  refine wp_callV (k1 := n3) (k2 := n4) (As := []) (rest := []) (w8_X8_calls h5) okX8_calls ivX8_calls rfl (by decide) ml_L_132 dL_areCalls_1 rfl (by decide) (Nat.le_of_eq en7) rfl (Nat.le_of_ble_eq_true rfl) (fun _ _ z => z) (fun r' S' z => ?_)
  obtain ⟨rfl, rfl⟩ := z
  show WP _ _ _ _ [some (vR 8 (0)), some (vR 200 (0)), some (vR 201 (0)), some (vR 205 (0)), some (vR 206 (0)), none, none, none, none, none, none, none, none] [vI (r1)] (cM u2.1 out u.2) _ _
  rw [hw6]
  refine wp_aload_n dL_areCalls_4 rfl ?_
  refine wp_iconst (v := 3) dL_areCalls_5 (by decide) ?_
  refine cq_ald (c := 200) (y := 0) rfl rfl (show vp_in (3) (len 200) from (by decide : vq (3) 6)) dL_areCalls_6 ?_
  refine wp_icmp_lt (tgt := 38) dL_areCalls_7 (by decide) (fun c8 => ?_) (fun c8 => ?_)
  · replace h := itp c8 h
    refine wp_iconst (v := 0) dL_areCalls_38 (by decide) ?_
    exact wbL_areCalls_39 h
  · replace h := itn c8 h
    refine wp_aload_n dL_areCalls_10 rfl ?_
    obtain ⟨r9, u10, n11, n12, h13, hw14, h, en15⟩ := lk_e h
    refine wp_callV (k1 := n11) (k2 := n12) (As := []) (rest := []) (w8_X8_calls h13) okX8_calls ivX8_calls rfl (by decide) ml_L_132 dL_areCalls_11 rfl (by decide) (Nat.le_of_eq en15) rfl (Nat.le_of_ble_eq_true rfl) (fun _ _ z => z) (fun r' S' z => ?_)
    obtain ⟨rfl, rfl⟩ := z
    show WP _ _ _ _ [some (vR 8 (0)), some (vR 200 (0)), some (vR 201 (0)), some (vR 205 (0)), some (vR 206 (0)), none, none, none, none, none, none, none, none] [vI (r9)] (cM u10.1 out u2.2) _ _
    rw [hw14]
    refine wp_sipush (v := 400) dL_areCalls_14 (by decide) ?_
    refine wp_icmp_gt (tgt := 38) dL_areCalls_17 (by decide) (fun c16 => ?_) (fun c16 => ?_)
    · replace h := itp c16 h
      refine wp_iconst (v := 0) dL_areCalls_38 (by decide) ?_
      exact wbL_areCalls_39 h
    · replace h := itn c16 h
      refine wp_aload_n dL_areCalls_20 rfl ?_
      refine wp_aload_n dL_areCalls_21 rfl ?_
      obtain ⟨r17, u18, n19, n20, h21, hw22, h, en23⟩ := lk_e h
      refine wp_callV (k1 := n19) (k2 := n20) (As := []) (rest := [vR 8 (0)]) (w8_X8_calls h21) okX8_calls ivX8_calls rfl (by decide) ml_L_132 dL_areCalls_22 rfl (by decide) (Nat.le_of_eq en23) rfl (Nat.le_of_ble_eq_true rfl) (fun _ _ z => z) (fun r' S' z => ?_)
      obtain ⟨rfl, rfl⟩ := z
      show WP _ _ _ _ [some (vR 8 (0)), some (vR 200 (0)), some (vR 201 (0)), some (vR 205 (0)), some (vR 206 (0)), none, none, none, none, none, none, none, none] [vI (r17), vR 8 (0)] (cM u18.1 out u10.2) _ _
      rw [hw22]
      refine wp_iconst (v := 0) dL_areCalls_25 (by decide) ?_
      obtain ⟨r24, u25, n26, n27, h28, hw29, h, en30⟩ := lk_e h
      refine wp_callSW (k1 := n26) (k2 := n27) (As := [vR 8 (0), vI (r17), vI (0)]) (rest := []) (wL_call h28) okL_call sm_L_call rfl ml_L_136 dL_areCalls_26 (by decide) (Nat.le_of_eq en30) rfl (Nat.le_of_ble_eq_true rfl) (fun r' S' z => ?_)
      obtain ⟨rfl, rfl⟩ := z
      show WP _ _ _ _ [some (vR 8 (0)), some (vR 200 (0)), some (vR 201 (0)), some (vR 205 (0)), some (vR 206 (0)), none, none, none, none, none, none, none, none] [vI (r24)] (cM u25.1 out u18.2) _ _
      rw [hw29]
      refine wp_ldc ct_L_18 dL_areCalls_29 ?_
      refine wp_icmp_ne (tgt := 38) dL_areCalls_31 (by decide) (fun c31 => ?_) (fun c31 => ?_)
      · replace h := itn c31 h
        refine wp_iconst (v := 0) dL_areCalls_38 (by decide) ?_
        exact wbL_areCalls_39 h
      · replace h := itp c31 h
        refine wp_iconst (v := 1) dL_areCalls_34 (by decide) ?_
        refine wp_goto (tgt := 39) dL_areCalls_35 (by decide) ?_
        exact wbL_areCalls_39 h
def bL_areRequests_187 (x3 : Int32) (x4 : Int32) (u : LM) : LR :=
  if x3 = 0 then
    some (0, u, 0)
  else
    lk (f8_X8_calls 0  u.1) u fun r2 u3 =>
    if r2 < x4 then
      some (0, u3, 0)
    else
      some (1, u3, 0)
theorem wbL_areRequests_187 {r : Int32} {u9 : LM} {x3 : Int32} {x4 : Int32} {l5 : Option sV} {l6 : Option sV} {l7 : Option sV} {u : LM} {n9 : Nat} (h : bL_areRequests_187 x3 x4 u = some (r, u9, n9)) : WP mL_areRequests 11 n9 187 [some (vR 8 (0)), some (vR 200 (0)), some (vR 207 (0)), some (vI (x3)), some (vI (x4)), l5, l6, l7] [] (cM u.1 out u.2) (PW out r u9) NX := by
  unfold bL_areRequests_187 at h
  refine wp_iload_n dL_areRequests_187 rfl ?_
  refine wp_if_eq (tgt := 204) dL_areRequests_188 (by decide) (fun c1 => ?_) (fun c1 => ?_)
  · replace h := itp c1 h
    refine wp_iconst (v := 0) dL_areRequests_204 (by decide) ?_
    obtain ⟨q1, q2, q3⟩ := ls_e h
    subst q1
    subst q2
    exact wp_zreturn rfl (by decide) dL_areRequests_205 ⟨rfl, rfl⟩
  · replace h := itn c1 h
    refine wp_iload dL_areRequests_191 rfl ?_
    refine wp_aload_n dL_areRequests_193 rfl ?_
    obtain ⟨r2, u3, n4, n5, h6, hw7, h, en8⟩ := lk_e h
    refine wp_callV (k1 := n4) (k2 := n5) (As := []) (rest := [vI (x4)]) (w8_X8_calls h6) okX8_calls ivX8_calls rfl (by decide) ml_L_132 dL_areRequests_194 rfl (by decide) (Nat.le_of_eq en8) rfl (Nat.le_of_ble_eq_true rfl) (fun _ _ z => z) (fun r' S' z => ?_)
    obtain ⟨rfl, rfl⟩ := z
    show WP _ _ _ _ [some (vR 8 (0)), some (vR 200 (0)), some (vR 207 (0)), some (vI (x3)), some (vI (x4)), l5, l6, l7] [vI (r2), vI (x4)] (cM u3.1 out u.2) _ _
    rw [hw7]
    refine wp_icmp_gt (tgt := 204) dL_areRequests_197 (by decide) (fun c9 => ?_) (fun c9 => ?_)
    · replace h := itp c9 h
      refine wp_iconst (v := 0) dL_areRequests_204 (by decide) ?_
      obtain ⟨q1, q2, q3⟩ := ls_e h
      subst q1
      subst q2
      exact wp_zreturn rfl (by decide) dL_areRequests_205 ⟨rfl, rfl⟩
    · replace h := itn c9 h
      refine wp_iconst (v := 1) dL_areRequests_200 (by decide) ?_
      refine wp_goto (tgt := 205) dL_areRequests_201 (by decide) ?_
      obtain ⟨q1, q2, q3⟩ := ls_e h
      subst q1
      subst q2
      exact wp_zreturn rfl (by decide) dL_areRequests_205 ⟨rfl, rfl⟩
def bL_areRequests_174 (K24 : Int32 → Int32 → Int32 → LM → LR) (x4 : Int32) (x5 : Int32) (x6 : Int32) (s0 : Int32) (u : LM) : LR :=
  if vq (x5) 40 then
  wr (sW u 7 (x5).toNatClampNeg (x6)) fun u2 =>
  K24 (s0) (x4) (x5 + 1) u2
  else none
theorem wbL_areRequests_174 {K24 : Int32 → Int32 → Int32 → LM → LR} {r : Int32} {u9 : LM} (hK24 : ∀ {x3 : Int32} {x4 : Int32} {x5 : Int32} {l6 : Option sV} {l7 : Option sV} {u : LM} {n9 : Nat}, K24 x3 x4 x5 u = some (r, u9, n9) → WP mL_areRequests 11 n9 24 [some (vR 8 (0)), some (vR 200 (0)), some (vR 207 (0)), some (vI (x3)), some (vI (x4)), some (vI (x5)), l6, l7] [] (cM u.1 out u.2) (PW out r u9) NX) {x4 : Int32} {x5 : Int32} {x6 : Int32} {s0 : Int32} {l3 : Option sV} {l7 : Option sV} {u : LM} {n9 : Nat} (h : bL_areRequests_174 K24 x4 x5 x6 s0 u = some (r, u9, n9)) : WP mL_areRequests 11 n9 174 [some (vR 8 (0)), some (vR 200 (0)), some (vR 207 (0)), l3, some (vI (x4)), some (vI (x5)), some (vI (x6)), l7] [vI (s0)] (cM u.1 out u.2) (PW out r u9) NX := by
  unfold bL_areRequests_174 at h
  refine wp_istore_n (L' := [some (vR 8 (0)), some (vR 200 (0)), some (vR 207 (0)), some (vI (s0)), some (vI (x4)), some (vI (x5)), some (vI (x6)), l7]) dL_areRequests_174 rfl rfl ?_
  refine wp_aload_n dL_areRequests_175 rfl ?_
  refine wp_iload dL_areRequests_176 rfl ?_
  refine wp_iload dL_areRequests_178 rfl ?_
  obtain ⟨c1, h⟩ := ock h
  obtain ⟨u2, e3, h⟩ := wr_e h
  refine cq_ast (c := 207) (y := 7) e3 rfl rfl (show vp_in (x5) (len 207) from c1) dL_areRequests_180 ?_
  refine wp_iinc (v := x5 + 1) (L' := [some (vR 8 (0)), some (vR 200 (0)), some (vR 207 (0)), some (vI (s0)), some (vI (x4)), some (vI (x5 + 1)), some (vI (x6)), l7]) dL_areRequests_181 rfl rfl rfl ?_
  refine wp_goto (tgt := 24) dL_areRequests_184 (by decide) ?_
  exact hK24 h
def bL_areRequests_146 (K24 : Int32 → Int32 → Int32 → LM → LR) (x4 : Int32) (x5 : Int32) (x6 : Int32) (u : LM) : LR :=
  if x6 = 3 then
    bL_areRequests_174 K24 (x4) (x5) (x6) (1) u
  else
    if x6 = 8 then
      bL_areRequests_174 K24 (x4) (x5) (x6) (1) u
    else
      lk (fW_isKept 0 (x5) u.1) u fun r3 u4 =>
      if r3 = 1 then
        bL_areRequests_174 K24 (x4) (x5) (x6) (1) u4
      else
        bL_areRequests_174 K24 (x4) (x5) (x6) (0) u4
theorem wbL_areRequests_146 {K24 : Int32 → Int32 → Int32 → LM → LR} {r : Int32} {u9 : LM} (hK24 : ∀ {x3 : Int32} {x4 : Int32} {x5 : Int32} {l6 : Option sV} {l7 : Option sV} {u : LM} {n9 : Nat}, K24 x3 x4 x5 u = some (r, u9, n9) → WP mL_areRequests 11 n9 24 [some (vR 8 (0)), some (vR 200 (0)), some (vR 207 (0)), some (vI (x3)), some (vI (x4)), some (vI (x5)), l6, l7] [] (cM u.1 out u.2) (PW out r u9) NX) {x4 : Int32} {x5 : Int32} {x6 : Int32} {l3 : Option sV} {l7 : Option sV} {u : LM} {n9 : Nat} (h : bL_areRequests_146 K24 x4 x5 x6 u = some (r, u9, n9)) : WP mL_areRequests 11 n9 146 [some (vR 8 (0)), some (vR 200 (0)), some (vR 207 (0)), l3, some (vI (x4)), some (vI (x5)), some (vI (x6)), l7] [] (cM u.1 out u.2) (PW out r u9) NX := by
  unfold bL_areRequests_146 at h
  refine wp_iload dL_areRequests_146 rfl ?_
  refine wp_iconst (v := 3) dL_areRequests_148 (by decide) ?_
  refine wp_icmp_eq (tgt := 169) dL_areRequests_149 (by decide) (fun c1 => ?_) (fun c1 => ?_)
  · replace h := itp c1 h
    refine wp_iconst (v := 1) dL_areRequests_169 (by decide) ?_
    refine wp_goto (tgt := 174) dL_areRequests_170 (by decide) ?_
    exact wbL_areRequests_174 hK24 h
  · replace h := itn c1 h
    refine wp_iload dL_areRequests_152 rfl ?_
    refine wp_bipush (v := 8) dL_areRequests_154 (by decide) ?_
    refine wp_icmp_eq (tgt := 169) dL_areRequests_156 (by decide) (fun c2 => ?_) (fun c2 => ?_)
    · replace h := itp c2 h
      refine wp_iconst (v := 1) dL_areRequests_169 (by decide) ?_
      refine wp_goto (tgt := 174) dL_areRequests_170 (by decide) ?_
      exact wbL_areRequests_174 hK24 h
    · replace h := itn c2 h
      refine wp_aload_n dL_areRequests_159 rfl ?_
      refine wp_iload dL_areRequests_160 rfl ?_
      obtain ⟨r3, u4, n5, n6, h7, hw8, h, en9⟩ := lk_e h
      refine wp_callSW (k1 := n5) (k2 := n6) (As := [vR 8 (0), vI (x5)]) (rest := []) (wL_isKept h7) okL_isKept sm_L_isKept rfl ml_L_148 dL_areRequests_162 (by decide) (Nat.le_of_eq en9) rfl (Nat.le_of_ble_eq_true rfl) (fun r' S' z => ?_)
      obtain ⟨rfl, rfl⟩ := z
      show WP _ _ _ _ [some (vR 8 (0)), some (vR 200 (0)), some (vR 207 (0)), l3, some (vI (x4)), some (vI (x5)), some (vI (x6)), l7] [vI (r3)] (cM u4.1 out u.2) _ _
      rw [hw8]
      refine wp_iconst (v := 1) dL_areRequests_165 (by decide) ?_
      refine wp_icmp_ne (tgt := 173) dL_areRequests_166 (by decide) (fun c10 => ?_) (fun c10 => ?_)
      · replace h := itn c10 h
        refine wp_iconst (v := 0) dL_areRequests_173 (by decide) ?_
        exact wbL_areRequests_174 hK24 h
      · replace h := itp c10 h
        refine wp_iconst (v := 1) dL_areRequests_169 (by decide) ?_
        refine wp_goto (tgt := 174) dL_areRequests_170 (by decide) ?_
        exact wbL_areRequests_174 hK24 h
def bL_areRequests_109 (K24 : Int32 → Int32 → Int32 → LM → LR) (x4 : Int32) (x5 : Int32) (x6 : Int32) (x7 : Int32) (u : LM) : LR :=
  lk (fW_requestTicks 0 (x5) u.1) u fun r1 u2 =>
  if r1 < 0 then
    bL_areRequests_174 K24 (x4) (x5) (x6) (0) u2
  else
    lk (fW_requestTicks 0 (x5) u2.1) u2 fun r9 u10 =>
    if 200 < r9 then
      bL_areRequests_174 K24 (x4) (x5) (x6) (0) u10
    else
      if x7 < 0 then
        bL_areRequests_174 K24 (x4) (x5) (x6) (0) u10
      else
        if x6 = 3 then
          if x7 ≤ 0 then
            bL_areRequests_174 K24 (x4) (x5) (x6) (0) u10
          else
            bL_areRequests_146 K24 (x4) (x5) (x6) u10
        else
          bL_areRequests_146 K24 (x4) (x5) (x6) u10
theorem wbL_areRequests_109 {K24 : Int32 → Int32 → Int32 → LM → LR} {r : Int32} {u9 : LM} (hK24 : ∀ {x3 : Int32} {x4 : Int32} {x5 : Int32} {l6 : Option sV} {l7 : Option sV} {u : LM} {n9 : Nat}, K24 x3 x4 x5 u = some (r, u9, n9) → WP mL_areRequests 11 n9 24 [some (vR 8 (0)), some (vR 200 (0)), some (vR 207 (0)), some (vI (x3)), some (vI (x4)), some (vI (x5)), l6, l7] [] (cM u.1 out u.2) (PW out r u9) NX) {x4 : Int32} {x5 : Int32} {x6 : Int32} {x7 : Int32} {l3 : Option sV} {u : LM} {n9 : Nat} (h : bL_areRequests_109 K24 x4 x5 x6 x7 u = some (r, u9, n9)) : WP mL_areRequests 11 n9 109 [some (vR 8 (0)), some (vR 200 (0)), some (vR 207 (0)), l3, some (vI (x4)), some (vI (x5)), some (vI (x6)), some (vI (x7))] [] (cM u.1 out u.2) (PW out r u9) NX := by
  unfold bL_areRequests_109 at h
  refine wp_aload_n dL_areRequests_109 rfl ?_
  refine wp_iload dL_areRequests_110 rfl ?_
  obtain ⟨r1, u2, n3, n4, h5, hw6, h, en7⟩ := lk_e h
  refine wp_callSW (k1 := n3) (k2 := n4) (As := [vR 8 (0), vI (x5)]) (rest := []) (wL_requestTicks h5) okL_requestTicks sm_L_requestTicks rfl ml_L_146 dL_areRequests_112 (by decide) (Nat.le_of_eq en7) rfl (Nat.le_of_ble_eq_true rfl) (fun r' S' z => ?_)
  obtain ⟨rfl, rfl⟩ := z
  show WP _ _ _ _ [some (vR 8 (0)), some (vR 200 (0)), some (vR 207 (0)), l3, some (vI (x4)), some (vI (x5)), some (vI (x6)), some (vI (x7))] [vI (r1)] (cM u2.1 out u.2) _ _
  rw [hw6]
  refine wp_if_lt (tgt := 173) dL_areRequests_115 (by decide) (fun c8 => ?_) (fun c8 => ?_)
  · replace h := itp c8 h
    refine wp_iconst (v := 0) dL_areRequests_173 (by decide) ?_
    exact wbL_areRequests_174 hK24 h
  · replace h := itn c8 h
    refine wp_aload_n dL_areRequests_118 rfl ?_
    refine wp_iload dL_areRequests_119 rfl ?_
    obtain ⟨r9, u10, n11, n12, h13, hw14, h, en15⟩ := lk_e h
    refine wp_callSW (k1 := n11) (k2 := n12) (As := [vR 8 (0), vI (x5)]) (rest := []) (wL_requestTicks h13) okL_requestTicks sm_L_requestTicks rfl ml_L_146 dL_areRequests_121 (by decide) (Nat.le_of_eq en15) rfl (Nat.le_of_ble_eq_true rfl) (fun r' S' z => ?_)
    obtain ⟨rfl, rfl⟩ := z
    show WP _ _ _ _ [some (vR 8 (0)), some (vR 200 (0)), some (vR 207 (0)), l3, some (vI (x4)), some (vI (x5)), some (vI (x6)), some (vI (x7))] [vI (r9)] (cM u10.1 out u2.2) _ _
    rw [hw14]
    refine wp_sipush (v := 200) dL_areRequests_124 (by decide) ?_
    refine wp_icmp_gt (tgt := 173) dL_areRequests_127 (by decide) (fun c16 => ?_) (fun c16 => ?_)
    · replace h := itp c16 h
      refine wp_iconst (v := 0) dL_areRequests_173 (by decide) ?_
      exact wbL_areRequests_174 hK24 h
    · replace h := itn c16 h
      refine wp_iload dL_areRequests_130 rfl ?_
      refine wp_if_lt (tgt := 173) dL_areRequests_132 (by decide) (fun c17 => ?_) (fun c17 => ?_)
      · replace h := itp c17 h
        refine wp_iconst (v := 0) dL_areRequests_173 (by decide) ?_
        exact wbL_areRequests_174 hK24 h
      · replace h := itn c17 h
        refine wp_iload dL_areRequests_135 rfl ?_
        refine wp_iconst (v := 3) dL_areRequests_137 (by decide) ?_
        refine wp_icmp_ne (tgt := 146) dL_areRequests_138 (by decide) (fun c18 => ?_) (fun c18 => ?_)
        · replace h := itn c18 h
          exact wbL_areRequests_146 hK24 h
        · replace h := itp c18 h
          refine wp_iload dL_areRequests_141 rfl ?_
          refine wp_if_le (tgt := 173) dL_areRequests_143 (by decide) (fun c19 => ?_) (fun c19 => ?_)
          · replace h := itp c19 h
            refine wp_iconst (v := 0) dL_areRequests_173 (by decide) ?_
            exact wbL_areRequests_174 hK24 h
          · replace h := itn c19 h
            exact wbL_areRequests_146 hK24 h
def bL_areRequests_84 (K24 : Int32 → Int32 → Int32 → LM → LR) (x4 : Int32) (x5 : Int32) (x6 : Int32) (x7 : Int32) (u : LM) : LR :=
  if vq (x5) 40 then
  if (gW u 7 (x5).toNatClampNeg) = 0 then
    bL_areRequests_109 K24 (x4) (x5) (x6) (x7) u
  else
    if (gW u 7 (x5).toNatClampNeg) = 8 then
      bL_areRequests_109 K24 (x4) (x5) (x6) (x7) u
    else
      if x6 = (gW u 7 (x5).toNatClampNeg) then
        bL_areRequests_109 K24 (x4) (x5) (x6) (x7) u
      else
        bL_areRequests_174 K24 (x4) (x5) (x6) (0) u
  else none
theorem wbL_areRequests_84 {K24 : Int32 → Int32 → Int32 → LM → LR} {r : Int32} {u9 : LM} (hK24 : ∀ {x3 : Int32} {x4 : Int32} {x5 : Int32} {l6 : Option sV} {l7 : Option sV} {u : LM} {n9 : Nat}, K24 x3 x4 x5 u = some (r, u9, n9) → WP mL_areRequests 11 n9 24 [some (vR 8 (0)), some (vR 200 (0)), some (vR 207 (0)), some (vI (x3)), some (vI (x4)), some (vI (x5)), l6, l7] [] (cM u.1 out u.2) (PW out r u9) NX) {x4 : Int32} {x5 : Int32} {x6 : Int32} {x7 : Int32} {l3 : Option sV} {u : LM} {n9 : Nat} (h : bL_areRequests_84 K24 x4 x5 x6 x7 u = some (r, u9, n9)) : WP mL_areRequests 11 n9 84 [some (vR 8 (0)), some (vR 200 (0)), some (vR 207 (0)), l3, some (vI (x4)), some (vI (x5)), some (vI (x6)), some (vI (x7))] [] (cM u.1 out u.2) (PW out r u9) NX := by
  unfold bL_areRequests_84 at h
  refine wp_aload_n dL_areRequests_84 rfl ?_
  refine wp_iload dL_areRequests_85 rfl ?_
  obtain ⟨c1, h⟩ := ock h
  refine cq_ald (c := 207) (y := 7) rfl rfl (show vp_in (x5) (len 207) from c1) dL_areRequests_87 ?_
  refine wp_if_eq (tgt := 109) dL_areRequests_88 (by decide) (fun c2 => ?_) (fun c2 => ?_)
  · replace h := itp c2 h
    exact wbL_areRequests_109 hK24 h
  · replace h := itn c2 h
    refine wp_aload_n dL_areRequests_91 rfl ?_
    refine wp_iload dL_areRequests_92 rfl ?_
    refine cq_ald (c := 207) (y := 7) rfl rfl (show vp_in (x5) (len 207) from c1) dL_areRequests_94 ?_
    refine wp_bipush (v := 8) dL_areRequests_95 (by decide) ?_
    refine wp_icmp_eq (tgt := 109) dL_areRequests_97 (by decide) (fun c3 => ?_) (fun c3 => ?_)
    · replace h := itp c3 h
      exact wbL_areRequests_109 hK24 h
    · replace h := itn c3 h
      refine wp_iload dL_areRequests_100 rfl ?_
      refine wp_aload_n dL_areRequests_102 rfl ?_
      refine wp_iload dL_areRequests_103 rfl ?_
      refine cq_ald (c := 207) (y := 7) rfl rfl (show vp_in (x5) (len 207) from c1) dL_areRequests_105 ?_
      refine wp_icmp_ne (tgt := 173) dL_areRequests_106 (by decide) (fun c4 => ?_) (fun c4 => ?_)
      · replace h := itn c4 h
        refine wp_iconst (v := 0) dL_areRequests_173 (by decide) ?_
        exact wbL_areRequests_174 hK24 h
      · replace h := itp c4 h
        exact wbL_areRequests_109 hK24 h
def lL_areRequests_24 : Nat → Int32 → Int32 → Int32 → LM → LR
  | 0, _, _, _, _ => none
  | n + 1, x3, x4, x5, u =>
  if (gW u 0 (1 : Int32).toNatClampNeg) ≤ x5 then
    bL_areRequests_187 (x3) (x4) u
  else
    if x3 = 0 then
      bL_areRequests_187 (x3) (x4) u
    else
      lk (fW_requestState 0 (x5) u.1) u fun r3 u4 =>
      lk (fW_callsOf 0 (x5) u4.1) u4 fun r10 u11 =>
      if r3 = 3 then
        bL_areRequests_84 (lL_areRequests_24 n) ((x4 + r10)) (x5) (r3) (r10) u11
      else
        if r3 = 4 then
          bL_areRequests_84 (lL_areRequests_24 n) ((x4 + r10)) (x5) (r3) (r10) u11
        else
          if r3 = 5 then
            bL_areRequests_84 (lL_areRequests_24 n) ((x4 + r10)) (x5) (r3) (r10) u11
          else
            if r3 = 8 then
              bL_areRequests_84 (lL_areRequests_24 n) ((x4 + r10)) (x5) (r3) (r10) u11
            else
              bL_areRequests_174 (lL_areRequests_24 n) ((x4 + r10)) (x5) (r3) (0) u11
theorem wlL_areRequests_24 {r : Int32} {u9 : LM} : ∀ (n : Nat) {x3 : Int32} {x4 : Int32} {x5 : Int32} {l6 : Option sV} {l7 : Option sV} {u : LM} {n9 : Nat}, lL_areRequests_24 n x3 x4 x5 u = some (r, u9, n9) → WP mL_areRequests 11 n9 24 [some (vR 8 (0)), some (vR 200 (0)), some (vR 207 (0)), some (vI (x3)), some (vI (x4)), some (vI (x5)), l6, l7] [] (cM u.1 out u.2) (PW out r u9) NX := by
  intro n
  induction n with
  | zero =>
    intro x3 x4 x5 l6 l7 u n9 h
    rw [lL_areRequests_24] at h
    cases h
  | succ n ih =>
    intro x3 x4 x5 l6 l7 u n9 h
    rw [lL_areRequests_24] at h
    refine wp_iload dL_areRequests_24 rfl ?_
    refine wp_aload_n dL_areRequests_26 rfl ?_
    refine wp_iconst (v := 1) dL_areRequests_27 (by decide) ?_
    refine cq_ald (c := 200) (y := 0) rfl rfl (show vp_in (1) (len 200) from (by decide : vq (1) 6)) dL_areRequests_28 ?_
    refine wp_icmp_ge (tgt := 187) dL_areRequests_29 (by decide) (fun c1 => ?_) (fun c1 => ?_)
    · replace h := itp c1 h
      exact wbL_areRequests_187 h
    · replace h := itn c1 h
      refine wp_iload_n dL_areRequests_32 rfl ?_
      refine wp_if_eq (tgt := 187) dL_areRequests_33 (by decide) (fun c2 => ?_) (fun c2 => ?_)
      · replace h := itp c2 h
        exact wbL_areRequests_187 h
      · replace h := itn c2 h
        refine wp_aload_n dL_areRequests_36 rfl ?_
        refine wp_iload dL_areRequests_37 rfl ?_
        obtain ⟨r3, u4, n5, n6, h7, hw8, h, en9⟩ := lk_e h
        refine wp_callSW (k1 := n5) (k2 := n6) (As := [vR 8 (0), vI (x5)]) (rest := []) (wL_requestState h7) okL_requestState sm_L_requestState rfl ml_L_142 dL_areRequests_39 (by decide) (Nat.le_of_eq en9) rfl (Nat.le_of_ble_eq_true rfl) (fun r' S' z => ?_)
        obtain ⟨rfl, rfl⟩ := z
        show WP _ _ _ _ [some (vR 8 (0)), some (vR 200 (0)), some (vR 207 (0)), some (vI (x3)), some (vI (x4)), some (vI (x5)), l6, l7] [vI (r3)] (cM u4.1 out u.2) _ _
        rw [hw8]
        refine wp_istore (L' := [some (vR 8 (0)), some (vR 200 (0)), some (vR 207 (0)), some (vI (x3)), some (vI (x4)), some (vI (x5)), some (vI (r3)), l7]) dL_areRequests_42 rfl rfl ?_
        refine wp_aload_n dL_areRequests_44 rfl ?_
        refine wp_iload dL_areRequests_45 rfl ?_
        obtain ⟨r10, u11, n12, n13, h14, hw15, h, en16⟩ := lk_e h
        refine wp_callSW (k1 := n12) (k2 := n13) (As := [vR 8 (0), vI (x5)]) (rest := []) (wL_callsOf h14) okL_callsOf sm_L_callsOf rfl ml_L_144 dL_areRequests_47 (by decide) (Nat.le_of_eq en16) rfl (Nat.le_of_ble_eq_true rfl) (fun r' S' z => ?_)
        obtain ⟨rfl, rfl⟩ := z
        show WP _ _ _ _ [some (vR 8 (0)), some (vR 200 (0)), some (vR 207 (0)), some (vI (x3)), some (vI (x4)), some (vI (x5)), some (vI (r3)), l7] [vI (r10)] (cM u11.1 out u4.2) _ _
        rw [hw15]
        refine wp_istore (L' := [some (vR 8 (0)), some (vR 200 (0)), some (vR 207 (0)), some (vI (x3)), some (vI (x4)), some (vI (x5)), some (vI (r3)), some (vI (r10))]) dL_areRequests_50 rfl rfl ?_
        refine wp_iload dL_areRequests_52 rfl ?_
        refine wp_iload dL_areRequests_54 rfl ?_
        refine wp_iadd dL_areRequests_56 ?_
        refine wp_istore (L' := [some (vR 8 (0)), some (vR 200 (0)), some (vR 207 (0)), some (vI (x3)), some (vI ((x4 + r10))), some (vI (x5)), some (vI (r3)), some (vI (r10))]) dL_areRequests_57 rfl rfl ?_
        refine wp_iload dL_areRequests_59 rfl ?_
        refine wp_iconst (v := 3) dL_areRequests_61 (by decide) ?_
        refine wp_icmp_eq (tgt := 84) dL_areRequests_62 (by decide) (fun c17 => ?_) (fun c17 => ?_)
        · replace h := itp c17 h
          exact wbL_areRequests_84 ih h
        · replace h := itn c17 h
          refine wp_iload dL_areRequests_65 rfl ?_
          refine wp_iconst (v := 4) dL_areRequests_67 (by decide) ?_
          refine wp_icmp_eq (tgt := 84) dL_areRequests_68 (by decide) (fun c18 => ?_) (fun c18 => ?_)
          · replace h := itp c18 h
            exact wbL_areRequests_84 ih h
          · replace h := itn c18 h
            refine wp_iload dL_areRequests_71 rfl ?_
            refine wp_iconst (v := 5) dL_areRequests_73 (by decide) ?_
            refine wp_icmp_eq (tgt := 84) dL_areRequests_74 (by decide) (fun c19 => ?_) (fun c19 => ?_)
            · replace h := itp c19 h
              exact wbL_areRequests_84 ih h
            · replace h := itn c19 h
              refine wp_iload dL_areRequests_77 rfl ?_
              refine wp_bipush (v := 8) dL_areRequests_79 (by decide) ?_
              refine wp_icmp_ne (tgt := 173) dL_areRequests_81 (by decide) (fun c20 => ?_) (fun c20 => ?_)
              · replace h := itn c20 h
                refine wp_iconst (v := 0) dL_areRequests_173 (by decide) ?_
                exact wbL_areRequests_174 ih h
              · replace h := itp c20 h
                exact wbL_areRequests_84 ih h
def bL_areRequests_17 (s0 : Int32) (u : LM) : LR :=
  lL_areRequests_24 FU (s0) (0) (0) u
theorem wbL_areRequests_17 {r : Int32} {u9 : LM} {s0 : Int32} {l3 : Option sV} {l4 : Option sV} {l5 : Option sV} {l6 : Option sV} {l7 : Option sV} {u : LM} {n9 : Nat} (h : bL_areRequests_17 s0 u = some (r, u9, n9)) : WP mL_areRequests 11 n9 17 [some (vR 8 (0)), some (vR 200 (0)), some (vR 207 (0)), l3, l4, l5, l6, l7] [vI (s0)] (cM u.1 out u.2) (PW out r u9) NX := by
  unfold bL_areRequests_17 at h
  refine wp_istore_n (L' := [some (vR 8 (0)), some (vR 200 (0)), some (vR 207 (0)), some (vI (s0)), l4, l5, l6, l7]) dL_areRequests_17 rfl rfl ?_
  refine wp_iconst (v := 0) dL_areRequests_18 (by decide) ?_
  refine wp_istore (L' := [some (vR 8 (0)), some (vR 200 (0)), some (vR 207 (0)), some (vI (s0)), some (vI (0)), l5, l6, l7]) dL_areRequests_19 rfl rfl ?_
  refine wp_iconst (v := 0) dL_areRequests_21 (by decide) ?_
  refine wp_istore (L' := [some (vR 8 (0)), some (vR 200 (0)), some (vR 207 (0)), some (vI (s0)), some (vI (0)), some (vI (0)), l6, l7]) dL_areRequests_22 rfl rfl ?_
  exact wlL_areRequests_24 FU h
def fL_areRequests (u : LM) : LR :=
  lk (fW_requestState 0 ((gW u 0 (1 : Int32).toNatClampNeg)) u.1) u fun r1 u2 =>
  if r1 = (-1000001) then
    bL_areRequests_17 (1) u2
  else
    bL_areRequests_17 (0) u2
theorem wfL_areRequests {r : Int32} {u9 : LM} {u : LM} {n9 : Nat} (h : fL_areRequests  u = some (r, u9, n9)) : Spec mL_areRequests 11 n9 [vR 8 (0), vR 200 (0), vR 207 (0)] (cM u.1 out u.2) (PW out r u9) NX := by
  unfold fL_areRequests at h
  refine spec_of (by decide) rfl (by simp [catS, cat1]) (Nat.le_of_ble_eq_true rfl) ?_
  show WP mL_areRequests 11 n9 0 [some (vR 8 (0)), some (vR 200 (0)), some (vR 207 (0)), none, none, none, none, none] [] (cM u.1 out u.2) (PW out r u9) NX
  refine wp_aload_n dL_areRequests_0 rfl ?_
  refine wp_aload_n dL_areRequests_1 rfl ?_
  refine wp_iconst (v := 1) dL_areRequests_2 (by decide) ?_
  refine cq_ald (c := 200) (y := 0) rfl rfl (show vp_in (1) (len 200) from (by decide : vq (1) 6)) dL_areRequests_3 ?_
  obtain ⟨r1, u2, n3, n4, h5, hw6, h, en7⟩ := lk_e h
  refine wp_callSW (k1 := n3) (k2 := n4) (As := [vR 8 (0), vI ((gW u 0 (1 : Int32).toNatClampNeg))]) (rest := []) (wL_requestState h5) okL_requestState sm_L_requestState rfl ml_L_142 dL_areRequests_4 (by decide) (Nat.le_of_eq en7) rfl (Nat.le_of_ble_eq_true rfl) (fun r' S' z => ?_)
  obtain ⟨rfl, rfl⟩ := z
  show WP _ _ _ _ [some (vR 8 (0)), some (vR 200 (0)), some (vR 207 (0)), none, none, none, none, none] [vI (r1)] (cM u2.1 out u.2) _ _
  rw [hw6]
  refine wp_ldc ct_L_18 dL_areRequests_7 ?_
  refine wp_icmp_ne (tgt := 16) dL_areRequests_9 (by decide) (fun c8 => ?_) (fun c8 => ?_)
  · replace h := itn c8 h
    refine wp_iconst (v := 0) dL_areRequests_16 (by decide) ?_
    exact wbL_areRequests_17 h
  · replace h := itp c8 h
    refine wp_iconst (v := 1) dL_areRequests_12 (by decide) ?_
    refine wp_goto (tgt := 17) dL_areRequests_13 (by decide) ?_
    exact wbL_areRequests_17 h
end LL9
