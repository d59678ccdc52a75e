/-! the law's methods that ask, and its makes and sets: what they are as functions -/
section LL9
variable {out : Int64}
def bL_makes_168 (x6 : Int32) (x7 : Int32) (u : LM) : LR :=
  if (gW u 0 (0 : Int32).toNatClampNeg) = 12 then
    lk (fW_instance 0 (0) (0) (1) (1) (0) (0) u.1) u fun r2 u3 =>
    if r2 = (-1000003) then
      some (1, u3, 0)
    else
      some (0, u3, 0)
  else
    if vq ((gW u 0 (0 : Int32).toNatClampNeg)) 12 then
    wr (sW u 1 ((gW u 0 (0 : Int32).toNatClampNeg)).toNatClampNeg ((lowV (x6) (6)))) fun u11 =>
    if vq ((gW u11 0 (0 : Int32).toNatClampNeg)) 12 then
    wr (sW u11 2 ((gW u11 0 (0 : Int32).toNatClampNeg)).toNatClampNeg (((1 : Int32) + (lowV (x7) (3))))) fun u14 =>
    if vq ((gW u14 0 (0 : Int32).toNatClampNeg)) 12 then
    wr (sW u14 3 ((gW u14 0 (0 : Int32).toNatClampNeg)).toNatClampNeg ((lowV ((x7 >>> ((2 : Int32) &&& 31))) (3)))) fun u17 =>
    wr (sW u17 0 (0 : Int32).toNatClampNeg (((gW u17 0 (0 : Int32).toNatClampNeg) + (1 : Int32)))) fun u19 =>
    if vq (((gW u19 0 (0 : Int32).toNatClampNeg) - (1 : Int32))) 12 then
    lk (fW_instance 0 ((lowV (x6) (6))) ((lowV ((x7 >>> ((4 : Int32) &&& 31))) (3))) (((1 : Int32) + (lowV ((x7 >>> ((6 : Int32) &&& 31))) (9)))) ((gW u19 2 (((gW u19 0 (0 : Int32).toNatClampNeg) - (1 : Int32))).toNatClampNeg)) ((gW u19 3 (((gW u19 0 (0 : Int32).toNatClampNeg) - (1 : Int32))).toNatClampNeg)) ((lowV ((x7 >>> ((10 : Int32) &&& 31))) (2))) u19.1) u19 fun r22 u23 =>
    if r22 = ((gW u23 0 (0 : Int32).toNatClampNeg) - (1 : Int32)) then
      lk (fW_load 0 (((gW u23 0 (0 : Int32).toNatClampNeg) - (1 : Int32))) (0) u23.1) u23 fun r30 u31 =>
      if r30 = 0 then
        some (1, u31, 0)
      else
        some (0, u31, 0)
    else
      some (0, u23, 0)
    else none
    else none
    else none
    else none
theorem wbL_makes_168 {r : Int32} {u9 : LM} {x6 : Int32} {x7 : Int32} {l8 : Option sV} {l9 : Option sV} {l10 : Option sV} {l11 : Option sV} {u : LM} {n9 : Nat} (h : bL_makes_168 x6 x7 u = some (r, u9, n9)) : WP mL_makes 11 n9 168 [some (vR 8 (0)), some (vR 200 (0)), some (vR 201 (0)), some (vR 202 (0)), some (vR 203 (0)), some (vR 204 (0)), some (vI (x6)), some (vI (x7)), l8, l9, l10, l11] [] (cM u.1 out u.2) (PW out r u9) NX := by
  unfold bL_makes_168 at h
  refine wp_aload_n dL_makes_168 rfl ?_
  refine wp_iconst (v := 0) dL_makes_169 (by decide) ?_
  refine cq_ald (c := 200) (y := 0) rfl rfl (show vp_in (0) (len 200) from (by decide : vq (0) 6)) dL_makes_170 ?_
  refine wp_bipush (v := 12) dL_makes_171 (by decide) ?_
  refine wp_icmp_ne (tgt := 197) dL_makes_173 (by decide) (fun c1 => ?_) (fun c1 => ?_)
  · replace h := itn c1 h
    refine wp_iload dL_makes_197 rfl ?_
    refine wp_bipush (v := 6) dL_makes_199 (by decide) ?_
    refine wp_callS24 (k1 := 0) (k2 := _) (As := [vI (x6), vI (6)]) (rest := []) (wL_low (v := x6) (n := 6) (by decide)) okL_low (by decide) sm_L_low rfl ml_L_100 dL_makes_201 rfl (by decide) (Nat.le_of_eq (Nat.zero_add _)) rfl (Nat.le_of_ble_eq_true rfl) (fun _ _ z => z) (fun r' S' z => ?_)
    obtain ⟨rfl, rfl⟩ := z
    show WP _ _ _ _ [some (vR 8 (0)), some (vR 200 (0)), some (vR 201 (0)), some (vR 202 (0)), some (vR 203 (0)), some (vR 204 (0)), some (vI (x6)), some (vI (x7)), l8, l9, l10, l11] [vI ((lowV (x6) (6)))] (cM u.1 out u.2) _ _
    refine wp_istore (L' := [some (vR 8 (0)), some (vR 200 (0)), some (vR 201 (0)), some (vR 202 (0)), some (vR 203 (0)), some (vR 204 (0)), some (vI (x6)), some (vI (x7)), l8, some (vI ((lowV (x6) (6)))), l10, l11]) dL_makes_204 rfl rfl ?_
    refine wp_aload_n dL_makes_206 rfl ?_
    refine wp_aload_n dL_makes_207 rfl ?_
    refine wp_iconst (v := 0) dL_makes_208 (by decide) ?_
    refine cq_ald (c := 200) (y := 0) rfl rfl (show vp_in (0) (len 200) from (by decide : vq (0) 6)) dL_makes_209 ?_
    refine wp_iload dL_makes_210 rfl ?_
    obtain ⟨c10, h⟩ := ock h
    obtain ⟨u11, e12, h⟩ := wr_e h
    refine cq_ast (c := 201) (y := 1) e12 rfl rfl (show vp_in ((gW u 0 (0 : Int32).toNatClampNeg)) (len 201) from c10) dL_makes_212 ?_
    refine wp_aload_n dL_makes_213 rfl ?_
    refine wp_aload_n dL_makes_214 rfl ?_
    refine wp_iconst (v := 0) dL_makes_215 (by decide) ?_
    refine cq_ald (c := 200) (y := 0) rfl rfl (show vp_in (0) (len 200) from (by decide : vq (0) 6)) dL_makes_216 ?_
    refine wp_iconst (v := 1) dL_makes_217 (by decide) ?_
    refine wp_iload dL_makes_218 rfl ?_
    refine wp_iconst (v := 3) dL_makes_220 (by decide) ?_
    refine wp_callS24 (k1 := 0) (k2 := _) (As := [vI (x7), vI (3)]) (rest := [vI (1), vI ((gW u11 0 (0 : Int32).toNatClampNeg)), vR 202 (0)]) (wL_low (v := x7) (n := 3) (by decide)) okL_low (by decide) sm_L_low rfl ml_L_100 dL_makes_221 rfl (by decide) (Nat.le_of_eq (Nat.zero_add _)) rfl (Nat.le_of_ble_eq_true rfl) (fun _ _ z => z) (fun r' S' z => ?_)
    obtain ⟨rfl, rfl⟩ := z
    show WP _ _ _ _ [some (vR 8 (0)), some (vR 200 (0)), some (vR 201 (0)), some (vR 202 (0)), some (vR 203 (0)), some (vR 204 (0)), some (vI (x6)), some (vI (x7)), l8, some (vI ((lowV (x6) (6)))), l10, l11] [vI ((lowV (x7) (3))), vI (1), vI ((gW u11 0 (0 : Int32).toNatClampNeg)), vR 202 (0)] (cM u11.1 out u11.2) _ _
    refine wp_iadd dL_makes_224 ?_
    obtain ⟨c13, h⟩ := ock h
    obtain ⟨u14, e15, h⟩ := wr_e h
    refine cq_ast (c := 202) (y := 2) e15 rfl rfl (show vp_in ((gW u11 0 (0 : Int32).toNatClampNeg)) (len 202) from c13) dL_makes_225 ?_
    refine wp_aload dL_makes_226 rfl ?_
    refine wp_aload_n dL_makes_228 rfl ?_
    refine wp_iconst (v := 0) dL_makes_229 (by decide) ?_
    refine cq_ald (c := 200) (y := 0) rfl rfl (show vp_in (0) (len 200) from (by decide : vq (0) 6)) dL_makes_230 ?_
    refine wp_iload dL_makes_231 rfl ?_
    refine wp_iconst (v := 2) dL_makes_233 (by decide) ?_
    refine wp_ishr dL_makes_234 ?_
    refine wp_iconst (v := 3) dL_makes_235 (by decide) ?_
    refine wp_callS24 (k1 := 0) (k2 := _) (As := [vI ((x7 >>> ((2 : Int32) &&& 31))), vI (3)]) (rest := [vI ((gW u14 0 (0 : Int32).toNatClampNeg)), vR 203 (0)]) (wL_low (v := (x7 >>> ((2 : Int32) &&& 31))) (n := 3) (by decide)) okL_low (by decide) sm_L_low rfl ml_L_100 dL_makes_236 rfl (by decide) (Nat.le_of_eq (Nat.zero_add _)) rfl (Nat.le_of_ble_eq_true rfl) (fun _ _ z => z) (fun r' S' z => ?_)
    obtain ⟨rfl, rfl⟩ := z
    show WP _ _ _ _ [some (vR 8 (0)), some (vR 200 (0)), some (vR 201 (0)), some (vR 202 (0)), some (vR 203 (0)), some (vR 204 (0)), some (vI (x6)), some (vI (x7)), l8, some (vI ((lowV (x6) (6)))), l10, l11] [vI ((lowV ((x7 >>> ((2 : Int32) &&& 31))) (3))), vI ((gW u14 0 (0 : Int32).toNatClampNeg)), vR 203 (0)] (cM u14.1 out u14.2) _ _
    obtain ⟨c16, h⟩ := ock h
    obtain ⟨u17, e18, h⟩ := wr_e h
    refine cq_ast (c := 203) (y := 3) e18 rfl rfl (show vp_in ((gW u14 0 (0 : Int32).toNatClampNeg)) (len 203) from c16) dL_makes_239 ?_
    refine wp_aload_n dL_makes_240 rfl ?_
    refine wp_iconst (v := 0) dL_makes_241 (by decide) ?_
    refine wp_dup2 dL_makes_242 trivial trivial ?_
    refine cq_ald (c := 200) (y := 0) rfl rfl (show vp_in (0) (len 200) from (by decide : vq (0) 6)) dL_makes_243 ?_
    refine wp_iconst (v := 1) dL_makes_244 (by decide) ?_
    refine wp_iadd dL_makes_245 ?_
    obtain ⟨u19, e20, h⟩ := wr_e h
    refine cq_ast (c := 200) (y := 0) e20 rfl rfl (show vp_in (0) (len 200) from (by decide : vq (0) 6)) dL_makes_246 ?_
    refine wp_aload_n dL_makes_247 rfl ?_
    refine wp_iload dL_makes_248 rfl ?_
    refine wp_iload dL_makes_250 rfl ?_
    refine wp_iconst (v := 4) dL_makes_252 (by decide) ?_
    refine wp_ishr dL_makes_253 ?_
    refine wp_iconst (v := 3) dL_makes_254 (by decide) ?_
    refine wp_callS24 (k1 := 0) (k2 := _) (As := [vI ((x7 >>> ((4 : Int32) &&& 31))), vI (3)]) (rest := [vI ((lowV (x6) (6))), vR 8 (0)]) (wL_low (v := (x7 >>> ((4 : Int32) &&& 31))) (n := 3) (by decide)) okL_low (by decide) sm_L_low rfl ml_L_100 dL_makes_255 rfl (by decide) (Nat.le_of_eq (Nat.zero_add _)) rfl (Nat.le_of_ble_eq_true rfl) (fun _ _ z => z) (fun r' S' z => ?_)
    obtain ⟨rfl, rfl⟩ := z
    show WP _ _ _ _ [some (vR 8 (0)), some (vR 200 (0)), some (vR 201 (0)), some (vR 202 (0)), some (vR 203 (0)), some (vR 204 (0)), some (vI (x6)), some (vI (x7)), l8, some (vI ((lowV (x6) (6)))), l10, l11] [vI ((lowV ((x7 >>> ((4 : Int32) &&& 31))) (3))), vI ((lowV (x6) (6))), vR 8 (0)] (cM u19.1 out u19.2) _ _
    refine wp_iconst (v := 1) dL_makes_258 (by decide) ?_
    refine wp_iload dL_makes_259 rfl ?_
    refine wp_bipush (v := 6) dL_makes_261 (by decide) ?_
    refine wp_ishr dL_makes_263 ?_
    refine wp_bipush (v := 9) dL_makes_264 (by decide) ?_
    refine wp_callS24 (k1 := 0) (k2 := _) (As := [vI ((x7 >>> ((6 : Int32) &&& 31))), vI (9)]) (rest := [vI (1), vI ((lowV ((x7 >>> ((4 : Int32) &&& 31))) (3))), vI ((lowV (x6) (6))), vR 8 (0)]) (wL_low (v := (x7 >>> ((6 : Int32) &&& 31))) (n := 9) (by decide)) okL_low (by decide) sm_L_low rfl ml_L_100 dL_makes_266 rfl (by decide) (Nat.le_of_eq (Nat.zero_add _)) rfl (Nat.le_of_ble_eq_true rfl) (fun _ _ z => z) (fun r' S' z => ?_)
    obtain ⟨rfl, rfl⟩ := z
    show WP _ _ _ _ [some (vR 8 (0)), some (vR 200 (0)), some (vR 201 (0)), some (vR 202 (0)), some (vR 203 (0)), some (vR 204 (0)), some (vI (x6)), some (vI (x7)), l8, some (vI ((lowV (x6) (6)))), l10, l11] [vI ((lowV ((x7 >>> ((6 : Int32) &&& 31))) (9))), vI (1), vI ((lowV ((x7 >>> ((4 : Int32) &&& 31))) (3))), vI ((lowV (x6) (6))), vR 8 (0)] (cM u19.1 out u19.2) _ _
    refine wp_iadd dL_makes_269 ?_
    refine wp_aload_n dL_makes_270 rfl ?_
    refine wp_aload_n dL_makes_271 rfl ?_
    refine wp_iconst (v := 0) dL_makes_272 (by decide) ?_
    refine cq_ald (c := 200) (y := 0) rfl rfl (show vp_in (0) (len 200) from (by decide : vq (0) 6)) dL_makes_273 ?_
    refine wp_iconst (v := 1) dL_makes_274 (by decide) ?_
    refine wp_isub dL_makes_275 ?_
    obtain ⟨c21, h⟩ := ock h
    refine cq_ald (c := 202) (y := 2) rfl rfl (show vp_in (((gW u19 0 (0 : Int32).toNatClampNeg) - (1 : Int32))) (len 202) from c21) dL_makes_276 ?_
    refine wp_aload dL_makes_277 rfl ?_
    refine wp_aload_n dL_makes_279 rfl ?_
    refine wp_iconst (v := 0) dL_makes_280 (by decide) ?_
    refine cq_ald (c := 200) (y := 0) rfl rfl (show vp_in (0) (len 200) from (by decide : vq (0) 6)) dL_makes_281 ?_
    refine wp_iconst (v := 1) dL_makes_282 (by decide) ?_
    refine wp_isub dL_makes_283 ?_
    refine cq_ald (c := 203) (y := 3) rfl rfl (show vp_in (((gW u19 0 (0 : Int32).toNatClampNeg) - (1 : Int32))) (len 203) from c21) dL_makes_284 ?_
    refine wp_iload dL_makes_285 rfl ?_
    refine wp_bipush (v := 10) dL_makes_287 (by decide) ?_
    refine wp_ishr dL_makes_289 ?_
    refine wp_iconst (v := 2) dL_makes_290 (by decide) ?_
    refine wp_callS24 (k1 := 0) (k2 := _) (As := [vI ((x7 >>> ((10 : Int32) &&& 31))), vI (2)]) (rest := [vI ((gW u19 3 (((gW u19 0 (0 : Int32).toNatClampNeg) - (1 : Int32))).toNatClampNeg)), vI ((gW u19 2 (((gW u19 0 (0 : Int32).toNatClampNeg) - (1 : Int32))).toNatClampNeg)), vI (((1 : Int32) + (lowV ((x7 >>> ((6 : Int32) &&& 31))) (9)))), vI ((lowV ((x7 >>> ((4 : Int32) &&& 31))) (3))), vI ((lowV (x6) (6))), vR 8 (0)]) (wL_low (v := (x7 >>> ((10 : Int32) &&& 31))) (n := 2) (by decide)) okL_low (by decide) sm_L_low rfl ml_L_100 dL_makes_291 rfl (by decide) (Nat.le_of_eq (Nat.zero_add _)) rfl (Nat.le_of_ble_eq_true rfl) (fun _ _ z => z) (fun r' S' z => ?_)
    obtain ⟨rfl, rfl⟩ := z
    show WP _ _ _ _ [some (vR 8 (0)), some (vR 200 (0)), some (vR 201 (0)), some (vR 202 (0)), some (vR 203 (0)), some (vR 204 (0)), some (vI (x6)), some (vI (x7)), l8, some (vI ((lowV (x6) (6)))), l10, l11] [vI ((lowV ((x7 >>> ((10 : Int32) &&& 31))) (2))), vI ((gW u19 3 (((gW u19 0 (0 : Int32).toNatClampNeg) - (1 : Int32))).toNatClampNeg)), vI ((gW u19 2 (((gW u19 0 (0 : Int32).toNatClampNeg) - (1 : Int32))).toNatClampNeg)), vI (((1 : Int32) + (lowV ((x7 >>> ((6 : Int32) &&& 31))) (9)))), vI ((lowV ((x7 >>> ((4 : Int32) &&& 31))) (3))), vI ((lowV (x6) (6))), vR 8 (0)] (cM u19.1 out u19.2) _ _
    obtain ⟨r22, u23, n24, n25, h26, hw27, h, en28⟩ := lk_e h
    refine wp_callSW (k1 := n24) (k2 := n25) (As := [vR 8 (0), vI ((lowV (x6) (6))), vI ((lowV ((x7 >>> ((4 : Int32) &&& 31))) (3))), vI (((1 : Int32) + (lowV ((x7 >>> ((6 : Int32) &&& 31))) (9)))), vI ((gW u19 2 (((gW u19 0 (0 : Int32).toNatClampNeg) - (1 : Int32))).toNatClampNeg)), vI ((gW u19 3 (((gW u19 0 (0 : Int32).toNatClampNeg) - (1 : Int32))).toNatClampNeg)), vI ((lowV ((x7 >>> ((10 : Int32) &&& 31))) (2)))]) (rest := []) (wL_instance h26) okL_instance sm_L_instance rfl ml_L_108 dL_makes_294 (by decide) (Nat.le_of_eq en28) rfl (Nat.le_of_ble_eq_true rfl) (fun r' S' z => ?_)
    obtain ⟨rfl, rfl⟩ := z
    show WP _ _ _ _ [some (vR 8 (0)), some (vR 200 (0)), some (vR 201 (0)), some (vR 202 (0)), some (vR 203 (0)), some (vR 204 (0)), some (vI (x6)), some (vI (x7)), l8, some (vI ((lowV (x6) (6)))), l10, l11] [vI (r22)] (cM u23.1 out u19.2) _ _
    rw [hw27]
    refine wp_aload_n dL_makes_297 rfl ?_
    refine wp_iconst (v := 0) dL_makes_298 (by decide) ?_
    refine cq_ald (c := 200) (y := 0) rfl rfl (show vp_in (0) (len 200) from (by decide : vq (0) 6)) dL_makes_299 ?_
    refine wp_iconst (v := 1) dL_makes_300 (by decide) ?_
    refine wp_isub dL_makes_301 ?_
    refine wp_icmp_ne (tgt := 322) dL_makes_302 (by decide) (fun c29 => ?_) (fun c29 => ?_)
    · replace h := itn c29 h
      refine wp_iconst (v := 0) dL_makes_322 (by decide) ?_
      obtain ⟨q1, q2, q3⟩ := ls_e h
      subst q1
      subst q2
      exact wp_zreturn rfl (by decide) dL_makes_323 ⟨rfl, rfl⟩
    · replace h := itp c29 h
      refine wp_aload_n dL_makes_305 rfl ?_
      refine wp_aload_n dL_makes_306 rfl ?_
      refine wp_iconst (v := 0) dL_makes_307 (by decide) ?_
      refine cq_ald (c := 200) (y := 0) rfl rfl (show vp_in (0) (len 200) from (by decide : vq (0) 6)) dL_makes_308 ?_
      refine wp_iconst (v := 1) dL_makes_309 (by decide) ?_
      refine wp_isub dL_makes_310 ?_
      refine wp_iconst (v := 0) dL_makes_311 (by decide) ?_
      obtain ⟨r30, u31, n32, n33, h34, hw35, h, en36⟩ := lk_e h
      refine wp_callSW (k1 := n32) (k2 := n33) (As := [vR 8 (0), vI (((gW u23 0 (0 : Int32).toNatClampNeg) - (1 : Int32))), vI (0)]) (rest := []) (wL_load h34) okL_load sm_L_load rfl ml_L_111 dL_makes_312 (by decide) (Nat.le_of_eq en36) rfl (Nat.le_of_ble_eq_true rfl) (fun r' S' z => ?_)
      obtain ⟨rfl, rfl⟩ := z
      show WP _ _ _ _ [some (vR 8 (0)), some (vR 200 (0)), some (vR 201 (0)), some (vR 202 (0)), some (vR 203 (0)), some (vR 204 (0)), some (vI (x6)), some (vI (x7)), l8, some (vI ((lowV (x6) (6)))), l10, l11] [vI (r30)] (cM u31.1 out u23.2) _ _
      rw [hw35]
      refine wp_if_ne (tgt := 322) dL_makes_315 (by decide) (fun c37 => ?_) (fun c37 => ?_)
      · replace h := itn c37 h
        refine wp_iconst (v := 0) dL_makes_322 (by decide) ?_
        obtain ⟨q1, q2, q3⟩ := ls_e h
        subst q1
        subst q2
        exact wp_zreturn rfl (by decide) dL_makes_323 ⟨rfl, rfl⟩
      · replace h := itp c37 h
        refine wp_iconst (v := 1) dL_makes_318 (by decide) ?_
        refine wp_goto (tgt := 323) dL_makes_319 (by decide) ?_
        obtain ⟨q1, q2, q3⟩ := ls_e h
        subst q1
        subst q2
        exact wp_zreturn rfl (by decide) dL_makes_323 ⟨rfl, rfl⟩
  · replace h := itp c1 h
    refine wp_aload_n dL_makes_176 rfl ?_
    refine wp_iconst (v := 0) dL_makes_177 (by decide) ?_
    refine wp_iconst (v := 0) dL_makes_178 (by decide) ?_
    refine wp_iconst (v := 1) dL_makes_179 (by decide) ?_
    refine wp_iconst (v := 1) dL_makes_180 (by decide) ?_
    refine wp_iconst (v := 0) dL_makes_181 (by decide) ?_
    refine wp_iconst (v := 0) dL_makes_182 (by decide) ?_
    obtain ⟨r2, u3, n4, n5, h6, hw7, h, en8⟩ := lk_e h
    refine wp_callSW (k1 := n4) (k2 := n5) (As := [vR 8 (0), vI (0), vI (0), vI (1), vI (1), vI (0), vI (0)]) (rest := []) (wL_instance h6) okL_instance sm_L_instance rfl ml_L_108 dL_makes_183 (by decide) (Nat.le_of_eq en8) rfl (Nat.le_of_ble_eq_true rfl) (fun r' S' z => ?_)
    obtain ⟨rfl, rfl⟩ := z
    show WP _ _ _ _ [some (vR 8 (0)), some (vR 200 (0)), some (vR 201 (0)), some (vR 202 (0)), some (vR 203 (0)), some (vR 204 (0)), some (vI (x6)), some (vI (x7)), l8, l9, l10, l11] [vI (r2)] (cM u3.1 out u.2) _ _
    rw [hw7]
    refine wp_ldc ct_L_28 dL_makes_186 ?_
    refine wp_icmp_ne (tgt := 195) dL_makes_188 (by decide) (fun c9 => ?_) (fun c9 => ?_)
    · replace h := itn c9 h
      refine wp_iconst (v := 0) dL_makes_195 (by decide) ?_
      obtain ⟨q1, q2, q3⟩ := ls_e h
      subst q1
      subst q2
      exact wp_zreturn rfl (by decide) dL_makes_196 ⟨rfl, rfl⟩
    · replace h := itp c9 h
      refine wp_iconst (v := 1) dL_makes_191 (by decide) ?_
      refine wp_goto (tgt := 196) dL_makes_192 (by decide) ?_
      obtain ⟨q1, q2, q3⟩ := ls_e h
      subst q1
      subst q2
      exact wp_zreturn rfl (by decide) dL_makes_196 ⟨rfl, rfl⟩
def bL_makes_134 (x8 : Int32) (x11 : Int32) (s0 : Int32) (s1 : Int32) (s2 : Int32) (u : LM) : LR :=
  if vq (s2) 6 then
  wr (sW u 4 (s2).toNatClampNeg ((s1 + s0))) fun u2 =>
  if vq (x8) 6 then
  if x11 = (gW u2 4 (x8).toNatClampNeg) then
    some (1, u2, 0)
  else
    if x11 = (-1000003) then
      if (gW u2 4 (x8).toNatClampNeg) = 4 then
        some (1, u2, 0)
      else
        some (0, u2, 0)
    else
      some (0, u2, 0)
  else none
  else none
theorem wbL_makes_134 {r : Int32} {u9 : LM} {x8 : Int32} {x11 : Int32} {s0 : Int32} {s1 : Int32} {s2 : Int32} {l6 : Option sV} {l7 : Option sV} {l9 : Option sV} {l10 : Option sV} {u : LM} {n9 : Nat} (h : bL_makes_134 x8 x11 s0 s1 s2 u = some (r, u9, n9)) : WP mL_makes 11 n9 134 [some (vR 8 (0)), some (vR 200 (0)), some (vR 201 (0)), some (vR 202 (0)), some (vR 203 (0)), some (vR 204 (0)), l6, l7, some (vI (x8)), l9, l10, some (vI (x11))] [vI (s0), vI (s1), vI (s2), vR 204 (0)] (cM u.1 out u.2) (PW out r u9) NX := by
  unfold bL_makes_134 at h
  refine wp_iadd dL_makes_134 ?_
  obtain ⟨c1, h⟩ := ock h
  obtain ⟨u2, e3, h⟩ := wr_e h
  refine cq_ast (c := 204) (y := 4) e3 rfl rfl (show vp_in (s2) (len 204) from c1) dL_makes_135 ?_
  refine wp_iload dL_makes_136 rfl ?_
  refine wp_aload dL_makes_138 rfl ?_
  refine wp_iload dL_makes_140 rfl ?_
  obtain ⟨c4, h⟩ := ock h
  refine cq_ald (c := 204) (y := 4) rfl rfl (show vp_in (x8) (len 204) from c4) dL_makes_142 ?_
  refine wp_icmp_eq (tgt := 162) dL_makes_143 (by decide) (fun c5 => ?_) (fun c5 => ?_)
  · replace h := itp c5 h
    refine wp_iconst (v := 1) dL_makes_162 (by decide) ?_
    refine wp_goto (tgt := 167) dL_makes_163 (by decide) ?_
    obtain ⟨q1, q2, q3⟩ := ls_e h
    subst q1
    subst q2
    exact wp_zreturn rfl (by decide) dL_makes_167 ⟨rfl, rfl⟩
  · replace h := itn c5 h
    refine wp_iload dL_makes_146 rfl ?_
    refine wp_ldc ct_L_28 dL_makes_148 ?_
    refine wp_icmp_ne (tgt := 166) dL_makes_150 (by decide) (fun c6 => ?_) (fun c6 => ?_)
    · replace h := itn c6 h
      refine wp_iconst (v := 0) dL_makes_166 (by decide) ?_
      obtain ⟨q1, q2, q3⟩ := ls_e h
      subst q1
      subst q2
      exact wp_zreturn rfl (by decide) dL_makes_167 ⟨rfl, rfl⟩
    · replace h := itp c6 h
      refine wp_aload dL_makes_153 rfl ?_
      refine wp_iload dL_makes_155 rfl ?_
      refine cq_ald (c := 204) (y := 4) rfl rfl (show vp_in (x8) (len 204) from c4) dL_makes_157 ?_
      refine wp_iconst (v := 4) dL_makes_158 (by decide) ?_
      refine wp_icmp_ne (tgt := 166) dL_makes_159 (by decide) (fun c7 => ?_) (fun c7 => ?_)
      · replace h := itn c7 h
        refine wp_iconst (v := 0) dL_makes_166 (by decide) ?_
        obtain ⟨q1, q2, q3⟩ := ls_e h
        subst q1
        subst q2
        exact wp_zreturn rfl (by decide) dL_makes_167 ⟨rfl, rfl⟩
      · replace h := itp c7 h
        refine wp_iconst (v := 1) dL_makes_162 (by decide) ?_
        refine wp_goto (tgt := 167) dL_makes_163 (by decide) ?_
        obtain ⟨q1, q2, q3⟩ := ls_e h
        subst q1
        subst q2
        exact wp_zreturn rfl (by decide) dL_makes_167 ⟨rfl, rfl⟩
def bL_makes_123 (x8 : Int32) (x11 : Int32) (s0 : Int32) (s1 : Int32) (u : LM) : LR :=
  if x11 = 4 then
    bL_makes_134 (x8) (x11) (1) (s0) (s1) u
  else
    bL_makes_134 (x8) (x11) (0) (s0) (s1) u
theorem wbL_makes_123 {r : Int32} {u9 : LM} {x8 : Int32} {x11 : Int32} {s0 : Int32} {s1 : Int32} {l6 : Option sV} {l7 : Option sV} {l9 : Option sV} {l10 : Option sV} {u : LM} {n9 : Nat} (h : bL_makes_123 x8 x11 s0 s1 u = some (r, u9, n9)) : WP mL_makes 11 n9 123 [some (vR 8 (0)), some (vR 200 (0)), some (vR 201 (0)), some (vR 202 (0)), some (vR 203 (0)), some (vR 204 (0)), l6, l7, some (vI (x8)), l9, l10, some (vI (x11))] [vI (s0), vI (s1), vR 204 (0)] (cM u.1 out u.2) (PW out r u9) NX := by
  unfold bL_makes_123 at h
  refine wp_iload dL_makes_123 rfl ?_
  refine wp_iconst (v := 4) dL_makes_125 (by decide) ?_
  refine wp_icmp_ne (tgt := 133) dL_makes_126 (by decide) (fun c1 => ?_) (fun c1 => ?_)
  · replace h := itn c1 h
    refine wp_iconst (v := 0) dL_makes_133 (by decide) ?_
    exact wbL_makes_134 h
  · replace h := itp c1 h
    refine wp_iconst (v := 1) dL_makes_129 (by decide) ?_
    refine wp_goto (tgt := 134) dL_makes_130 (by decide) ?_
    exact wbL_makes_134 h
def bL_makes_96 (x8 : Int32) (x10 : Int32) (s0 : Int32) (s1 : Int32) (s2 : Int32) (u : LM) : LR :=
  lk (fW_step 0 (s2) (s1) (s0) (x10) u.1) u fun r1 u2 =>
  if vq (x8) 6 then
  if 3 ≤ (gW u2 4 (x8).toNatClampNeg) then
    bL_makes_123 (x8) (r1) ((gW u2 4 (x8).toNatClampNeg)) (x8) u2
  else
    if 0 < r1 then
      bL_makes_134 (x8) (r1) (1) ((gW u2 4 (x8).toNatClampNeg)) (x8) u2
    else
      bL_makes_123 (x8) (r1) ((gW u2 4 (x8).toNatClampNeg)) (x8) u2
  else none
theorem wbL_makes_96 {r : Int32} {u9 : LM} {x8 : Int32} {x10 : Int32} {s0 : Int32} {s1 : Int32} {s2 : Int32} {l6 : Option sV} {l7 : Option sV} {l9 : Option sV} {l11 : Option sV} {u : LM} {n9 : Nat} (h : bL_makes_96 x8 x10 s0 s1 s2 u = some (r, u9, n9)) : WP mL_makes 11 n9 96 [some (vR 8 (0)), some (vR 200 (0)), some (vR 201 (0)), some (vR 202 (0)), some (vR 203 (0)), some (vR 204 (0)), l6, l7, some (vI (x8)), l9, some (vI (x10)), l11] [vI (s0), vI (s1), vI (s2), vR 8 (0)] (cM u.1 out u.2) (PW out r u9) NX := by
  unfold bL_makes_96 at h
  refine wp_iload dL_makes_96 rfl ?_
  obtain ⟨r1, u2, n3, n4, h5, hw6, h, en7⟩ := lk_e h
  refine wp_callSW (k1 := n3) (k2 := n4) (As := [vR 8 (0), vI (s2), vI (s1), vI (s0), vI (x10)]) (rest := []) (wL_step h5) okL_step sm_L_step rfl ml_L_105 dL_makes_98 (by decide) (Nat.le_of_eq en7) rfl (Nat.le_of_ble_eq_true rfl) (fun r' S' z => ?_)
  obtain ⟨rfl, rfl⟩ := z
  show WP _ _ _ _ [some (vR 8 (0)), some (vR 200 (0)), some (vR 201 (0)), some (vR 202 (0)), some (vR 203 (0)), some (vR 204 (0)), l6, l7, some (vI (x8)), l9, some (vI (x10)), l11] [vI (r1)] (cM u2.1 out u.2) _ _
  rw [hw6]
  refine wp_istore (L' := [some (vR 8 (0)), some (vR 200 (0)), some (vR 201 (0)), some (vR 202 (0)), some (vR 203 (0)), some (vR 204 (0)), l6, l7, some (vI (x8)), l9, some (vI (x10)), some (vI (r1))]) dL_makes_101 rfl rfl ?_
  refine wp_aload dL_makes_103 rfl ?_
  refine wp_iload dL_makes_105 rfl ?_
  refine wp_dup2 dL_makes_107 trivial trivial ?_
  obtain ⟨c8, h⟩ := ock h
  refine cq_ald (c := 204) (y := 4) rfl rfl (show vp_in (x8) (len 204) from c8) dL_makes_108 ?_
  refine wp_aload dL_makes_109 rfl ?_
  refine wp_iload dL_makes_111 rfl ?_
  refine cq_ald (c := 204) (y := 4) rfl rfl (show vp_in (x8) (len 204) from c8) dL_makes_113 ?_
  refine wp_iconst (v := 3) dL_makes_114 (by decide) ?_
  refine wp_icmp_ge (tgt := 123) dL_makes_115 (by decide) (fun c9 => ?_) (fun c9 => ?_)
  · replace h := itp c9 h
    exact wbL_makes_123 h
  · replace h := itn c9 h
    refine wp_iload dL_makes_118 rfl ?_
    refine wp_if_gt (tgt := 129) dL_makes_120 (by decide) (fun c10 => ?_) (fun c10 => ?_)
    · replace h := itp c10 h
      refine wp_iconst (v := 1) dL_makes_129 (by decide) ?_
      refine wp_goto (tgt := 134) dL_makes_130 (by decide) ?_
      exact wbL_makes_134 h
    · replace h := itn c10 h
      exact wbL_makes_123 h
def bL_makes_72 (x7 : Int32) (x8 : Int32) (x9 : Int32) (s0 : Int32) (u : LM) : LR :=
  if (lowV ((x7 >>> ((7 : Int32) &&& 31))) (2)) = 0 then
    bL_makes_96 (x8) (s0) (1) (x9) (x8) u
  else
    bL_makes_96 (x8) (s0) (0) (x9) (x8) u
theorem wbL_makes_72 {r : Int32} {u9 : LM} {x7 : Int32} {x8 : Int32} {x9 : Int32} {s0 : Int32} {l6 : Option sV} {l10 : Option sV} {l11 : Option sV} {u : LM} {n9 : Nat} (h : bL_makes_72 x7 x8 x9 s0 u = some (r, u9, n9)) : WP mL_makes 11 n9 72 [some (vR 8 (0)), some (vR 200 (0)), some (vR 201 (0)), some (vR 202 (0)), some (vR 203 (0)), some (vR 204 (0)), l6, some (vI (x7)), some (vI (x8)), some (vI (x9)), l10, l11] [vI (s0)] (cM u.1 out u.2) (PW out r u9) NX := by
  unfold bL_makes_72 at h
  refine wp_istore (L' := [some (vR 8 (0)), some (vR 200 (0)), some (vR 201 (0)), some (vR 202 (0)), some (vR 203 (0)), some (vR 204 (0)), l6, some (vI (x7)), some (vI (x8)), some (vI (x9)), some (vI (s0)), l11]) dL_makes_72 rfl rfl ?_
  refine wp_aload_n dL_makes_74 rfl ?_
  refine wp_iload dL_makes_75 rfl ?_
  refine wp_iload dL_makes_77 rfl ?_
  refine wp_iload dL_makes_79 rfl ?_
  refine wp_bipush (v := 7) dL_makes_81 (by decide) ?_
  refine wp_ishr dL_makes_83 ?_
  refine wp_iconst (v := 2) dL_makes_84 (by decide) ?_
  refine wp_callS24 (k1 := 0) (k2 := _) (As := [vI ((x7 >>> ((7 : Int32) &&& 31))), vI (2)]) (rest := [vI (x9), vI (x8), vR 8 (0)]) (wL_low (v := (x7 >>> ((7 : Int32) &&& 31))) (n := 2) (by decide)) okL_low (by decide) sm_L_low rfl ml_L_100 dL_makes_85 rfl (by decide) (Nat.le_of_eq (Nat.zero_add _)) rfl (Nat.le_of_ble_eq_true rfl) (fun _ _ z => z) (fun r' S' z => ?_)
  obtain ⟨rfl, rfl⟩ := z
  show WP _ _ _ _ [some (vR 8 (0)), some (vR 200 (0)), some (vR 201 (0)), some (vR 202 (0)), some (vR 203 (0)), some (vR 204 (0)), l6, some (vI (x7)), some (vI (x8)), some (vI (x9)), some (vI (s0)), l11] [vI ((lowV ((x7 >>> ((7 : Int32) &&& 31))) (2))), vI (x9), vI (x8), vR 8 (0)] (cM u.1 out u.2) _ _
  refine wp_if_ne (tgt := 95) dL_makes_88 (by decide) (fun c1 => ?_) (fun c1 => ?_)
  · replace h := itn c1 h
    refine wp_iconst (v := 0) dL_makes_95 (by decide) ?_
    exact wbL_makes_96 h
  · replace h := itp c1 h
    refine wp_iconst (v := 1) dL_makes_91 (by decide) ?_
    refine wp_goto (tgt := 96) dL_makes_92 (by decide) ?_
    exact wbL_makes_96 h
def fL_makes (x6 : Int32) (x7 : Int32) (u : LM) : LR :=
  if (lowV ((x6 >>> ((2 : Int32) &&& 31))) (3)) = 0 then
    if (gW u 0 (1 : Int32).toNatClampNeg) = 0 then
      if ¬ ((5 : Int32) - (lowV (x6) (4))) = 0 then
      if (lowV ((x7 >>> ((3 : Int32) &&& 31))) (2)) = 0 then
        bL_makes_72 (x7) ((lowV (x6) (4))) ((((lowV (x6) (4)) + (1 : Int32)) + (lowV (x7) (((5 : Int32) - (lowV (x6) (4))))))) ((-1)) u
      else
        bL_makes_72 (x7) ((lowV (x6) (4))) ((((lowV (x6) (4)) + (1 : Int32)) + (lowV (x7) (((5 : Int32) - (lowV (x6) (4))))))) ((((lowV (x6) (4)) + (1 : Int32)) + (lowV ((x7 >>> ((4 : Int32) &&& 31))) (((5 : Int32) - (lowV (x6) (4))))))) u
      else none
    else
      bL_makes_168 (x6) (x7) u
  else
    bL_makes_168 (x6) (x7) u
theorem wfL_makes {r : Int32} {u9 : LM} {x6 : Int32} {x7 : Int32} {u : LM} {n9 : Nat} (h : fL_makes x6 x7 u = some (r, u9, n9)) : Spec mL_makes 11 n9 [vR 8 (0), vR 200 (0), vR 201 (0), vR 202 (0), vR 203 (0), vR 204 (0), vI (x6), vI (x7)] (cM u.1 out u.2) (PW out r u9) NX := by
  unfold fL_makes at h
  refine spec_of (by decide) rfl (by simp [catS, cat1]) (Nat.le_of_ble_eq_true rfl) ?_
  show WP mL_makes 11 n9 0 [some (vR 8 (0)), some (vR 200 (0)), some (vR 201 (0)), some (vR 202 (0)), some (vR 203 (0)), some (vR 204 (0)), some (vI (x6)), some (vI (x7)), none, none, none, none] [] (cM u.1 out u.2) (PW out r u9) NX
  refine wp_iload dL_makes_0 rfl ?_
  refine wp_iconst (v := 4) dL_makes_2 (by decide) ?_
  refine wp_callS24 (k1 := 0) (k2 := _) (As := [vI (x6), vI (4)]) (rest := []) (wL_low (v := x6) (n := 4) (by decide)) okL_low (by decide) sm_L_low rfl ml_L_100 dL_makes_3 rfl (by decide) (Nat.le_of_eq (Nat.zero_add _)) rfl (Nat.le_of_ble_eq_true rfl) (fun _ _ z => z) (fun r' S' z => ?_)
  obtain ⟨rfl, rfl⟩ := z
  show WP _ _ _ _ [some (vR 8 (0)), some (vR 200 (0)), some (vR 201 (0)), some (vR 202 (0)), some (vR 203 (0)), some (vR 204 (0)), some (vI (x6)), some (vI (x7)), none, none, none, none] [vI ((lowV (x6) (4)))] (cM u.1 out u.2) _ _
  refine wp_istore (L' := [some (vR 8 (0)), some (vR 200 (0)), some (vR 201 (0)), some (vR 202 (0)), some (vR 203 (0)), some (vR 204 (0)), some (vI (x6)), some (vI (x7)), some (vI ((lowV (x6) (4)))), none, none, none]) dL_makes_6 rfl rfl ?_
  refine wp_iload dL_makes_8 rfl ?_
  refine wp_iconst (v := 2) dL_makes_10 (by decide) ?_
  refine wp_ishr dL_makes_11 ?_
  refine wp_iconst (v := 3) dL_makes_12 (by decide) ?_
  refine wp_callS24 (k1 := 0) (k2 := _) (As := [vI ((x6 >>> ((2 : Int32) &&& 31))), vI (3)]) (rest := []) (wL_low (v := (x6 >>> ((2 : Int32) &&& 31))) (n := 3) (by decide)) okL_low (by decide) sm_L_low rfl ml_L_100 dL_makes_13 rfl (by decide) (Nat.le_of_eq (Nat.zero_add _)) rfl (Nat.le_of_ble_eq_true rfl) (fun _ _ z => z) (fun r' S' z => ?_)
  obtain ⟨rfl, rfl⟩ := z
  show WP _ _ _ _ [some (vR 8 (0)), some (vR 200 (0)), some (vR 201 (0)), some (vR 202 (0)), some (vR 203 (0)), some (vR 204 (0)), some (vI (x6)), some (vI (x7)), some (vI ((lowV (x6) (4)))), none, none, none] [vI ((lowV ((x6 >>> ((2 : Int32) &&& 31))) (3)))] (cM u.1 out u.2) _ _
  refine wp_if_ne (tgt := 168) dL_makes_16 (by decide) (fun c1 => ?_) (fun c1 => ?_)
  · replace h := itn c1 h
    exact wbL_makes_168 h
  · replace h := itp c1 h
    refine wp_aload_n dL_makes_19 rfl ?_
    refine wp_iconst (v := 1) dL_makes_20 (by decide) ?_
    refine cq_ald (c := 200) (y := 0) rfl rfl (show vp_in (1) (len 200) from (by decide : vq (1) 6)) dL_makes_21 ?_
    refine wp_if_ne (tgt := 168) dL_makes_22 (by decide) (fun c2 => ?_) (fun c2 => ?_)
    · replace h := itn c2 h
      exact wbL_makes_168 h
    · replace h := itp c2 h
      refine wp_iload dL_makes_25 rfl ?_
      refine wp_iconst (v := 1) dL_makes_27 (by decide) ?_
      refine wp_iadd dL_makes_28 ?_
      refine wp_iload dL_makes_29 rfl ?_
      refine wp_iconst (v := 5) dL_makes_31 (by decide) ?_
      refine wp_iload dL_makes_32 rfl ?_
      refine wp_isub dL_makes_34 ?_
      obtain ⟨c3, h⟩ := ock h
      refine wp_callS24 (k1 := 0) (k2 := _) (As := [vI (x7), vI (((5 : Int32) - (lowV (x6) (4))))]) (rest := [vI (((lowV (x6) (4)) + (1 : Int32)))]) (wL_low (v := x7) (n := ((5 : Int32) - (lowV (x6) (4)))) c3) okL_low (by decide) sm_L_low rfl ml_L_100 dL_makes_35 rfl (by decide) (Nat.le_of_eq (Nat.zero_add _)) rfl (Nat.le_of_ble_eq_true rfl) (fun _ _ z => z) (fun r' S' z => ?_)
      obtain ⟨rfl, rfl⟩ := z
      show WP _ _ _ _ [some (vR 8 (0)), some (vR 200 (0)), some (vR 201 (0)), some (vR 202 (0)), some (vR 203 (0)), some (vR 204 (0)), some (vI (x6)), some (vI (x7)), some (vI ((lowV (x6) (4)))), none, none, none] [vI ((lowV (x7) (((5 : Int32) - (lowV (x6) (4)))))), vI (((lowV (x6) (4)) + (1 : Int32)))] (cM u.1 out u.2) _ _
      refine wp_iadd dL_makes_38 ?_
      refine wp_istore (L' := [some (vR 8 (0)), some (vR 200 (0)), some (vR 201 (0)), some (vR 202 (0)), some (vR 203 (0)), some (vR 204 (0)), some (vI (x6)), some (vI (x7)), some (vI ((lowV (x6) (4)))), some (vI ((((lowV (x6) (4)) + (1 : Int32)) + (lowV (x7) (((5 : Int32) - (lowV (x6) (4)))))))), none, none]) dL_makes_39 rfl rfl ?_
      refine wp_iload dL_makes_41 rfl ?_
      refine wp_iconst (v := 3) dL_makes_43 (by decide) ?_
      refine wp_ishr dL_makes_44 ?_
      refine wp_iconst (v := 2) dL_makes_45 (by decide) ?_
      refine wp_callS24 (k1 := 0) (k2 := _) (As := [vI ((x7 >>> ((3 : Int32) &&& 31))), vI (2)]) (rest := []) (wL_low (v := (x7 >>> ((3 : Int32) &&& 31))) (n := 2) (by decide)) okL_low (by decide) sm_L_low rfl ml_L_100 dL_makes_46 rfl (by decide) (Nat.le_of_eq (Nat.zero_add _)) rfl (Nat.le_of_ble_eq_true rfl) (fun _ _ z => z) (fun r' S' z => ?_)
      obtain ⟨rfl, rfl⟩ := z
      show WP _ _ _ _ [some (vR 8 (0)), some (vR 200 (0)), some (vR 201 (0)), some (vR 202 (0)), some (vR 203 (0)), some (vR 204 (0)), some (vI (x6)), some (vI (x7)), some (vI ((lowV (x6) (4)))), some (vI ((((lowV (x6) (4)) + (1 : Int32)) + (lowV (x7) (((5 : Int32) - (lowV (x6) (4)))))))), none, none] [vI ((lowV ((x7 >>> ((3 : Int32) &&& 31))) (2)))] (cM u.1 out u.2) _ _
      refine wp_if_ne (tgt := 56) dL_makes_49 (by decide) (fun c4 => ?_) (fun c4 => ?_)
      · replace h := itn c4 h
        refine wp_iload dL_makes_56 rfl ?_
        refine wp_iconst (v := 1) dL_makes_58 (by decide) ?_
        refine wp_iadd dL_makes_59 ?_
        refine wp_iload dL_makes_60 rfl ?_
        refine wp_iconst (v := 4) dL_makes_62 (by decide) ?_
        refine wp_ishr dL_makes_63 ?_
        refine wp_iconst (v := 5) dL_makes_64 (by decide) ?_
        refine wp_iload dL_makes_65 rfl ?_
        refine wp_isub dL_makes_67 ?_
        refine wp_callS24 (k1 := 0) (k2 := _) (As := [vI ((x7 >>> ((4 : Int32) &&& 31))), vI (((5 : Int32) - (lowV (x6) (4))))]) (rest := [vI (((lowV (x6) (4)) + (1 : Int32)))]) (wL_low (v := (x7 >>> ((4 : Int32) &&& 31))) (n := ((5 : Int32) - (lowV (x6) (4)))) c3) okL_low (by decide) sm_L_low rfl ml_L_100 dL_makes_68 rfl (by decide) (Nat.le_of_eq (Nat.zero_add _)) rfl (Nat.le_of_ble_eq_true rfl) (fun _ _ z => z) (fun r' S' z => ?_)
        obtain ⟨rfl, rfl⟩ := z
        show WP _ _ _ _ [some (vR 8 (0)), some (vR 200 (0)), some (vR 201 (0)), some (vR 202 (0)), some (vR 203 (0)), some (vR 204 (0)), some (vI (x6)), some (vI (x7)), some (vI ((lowV (x6) (4)))), some (vI ((((lowV (x6) (4)) + (1 : Int32)) + (lowV (x7) (((5 : Int32) - (lowV (x6) (4)))))))), none, none] [vI ((lowV ((x7 >>> ((4 : Int32) &&& 31))) (((5 : Int32) - (lowV (x6) (4)))))), vI (((lowV (x6) (4)) + (1 : Int32)))] (cM u.1 out u.2) _ _
        refine wp_iadd dL_makes_71 ?_
        exact wbL_makes_72 h
      · replace h := itp c4 h
        refine wp_iconst (v := (-1)) dL_makes_52 (by decide) ?_
        refine wp_goto (tgt := 72) dL_makes_53 (by decide) ?_
        exact wbL_makes_72 h
def bL_sets_187 (s0 : Int32) (s1 : Int32) (s2 : Int32) (s3 : Int32) (u : LM) : LR :=
  lk (fW_policy 0 (s3) (s2) (s1) (s0) u.1) u fun r1 u2 =>
  if r1 < (-1) then
    some (0, u2, 0)
  else
    if 100 < r1 then
      some (0, u2, 0)
    else
      some (1, u2, 0)
theorem wbL_sets_187 {r : Int32} {u9 : LM} {s0 : Int32} {s1 : Int32} {s2 : Int32} {s3 : Int32} {l2 : Option sV} {l3 : Option sV} {l4 : Option sV} {l5 : Option sV} {l6 : Option sV} {u : LM} {n9 : Nat} (h : bL_sets_187 s0 s1 s2 s3 u = some (r, u9, n9)) : WP mL_sets 11 n9 187 [some (vR 8 (0)), some (vR 200 (0)), l2, l3, l4, l5, l6] [vI (s0), vI (s1), vI (s2), vI (s3), vR 8 (0)] (cM u.1 out u.2) (PW out r u9) NX := by
  unfold bL_sets_187 at h
  obtain ⟨r1, u2, n3, n4, h5, hw6, h, en7⟩ := lk_e h
  refine wp_callSW (k1 := n3) (k2 := n4) (As := [vR 8 (0), vI (s3), vI (s2), vI (s1), vI (s0)]) (rest := []) (wL_policy h5) okL_policy sm_L_policy rfl ml_L_117 dL_sets_187 (by decide) (Nat.le_of_eq en7) rfl (Nat.le_of_ble_eq_true rfl) (fun r' S' z => ?_)
  obtain ⟨rfl, rfl⟩ := z
  show WP _ _ _ _ [some (vR 8 (0)), some (vR 200 (0)), l2, l3, l4, l5, l6] [vI (r1)] (cM u2.1 out u.2) _ _
  rw [hw6]
  refine wp_istore (L' := [some (vR 8 (0)), some (vR 200 (0)), l2, l3, l4, l5, some (vI (r1))]) dL_sets_190 rfl rfl ?_
  refine wp_iload dL_sets_192 rfl ?_
  refine wp_iconst (v := (-1)) dL_sets_194 (by decide) ?_
  refine wp_icmp_lt (tgt := 209) dL_sets_195 (by decide) (fun c8 => ?_) (fun c8 => ?_)
  · replace h := itp c8 h
    refine wp_iconst (v := 0) dL_sets_209 (by decide) ?_
    obtain ⟨q1, q2, q3⟩ := ls_e h
    subst q1
    subst q2
    exact wp_zreturn rfl (by decide) dL_sets_210 ⟨rfl, rfl⟩
  · replace h := itn c8 h
    refine wp_iload dL_sets_198 rfl ?_
    refine wp_bipush (v := 100) dL_sets_200 (by decide) ?_
    refine wp_icmp_gt (tgt := 209) dL_sets_202 (by decide) (fun c9 => ?_) (fun c9 => ?_)
    · replace h := itp c9 h
      refine wp_iconst (v := 0) dL_sets_209 (by decide) ?_
      obtain ⟨q1, q2, q3⟩ := ls_e h
      subst q1
      subst q2
      exact wp_zreturn rfl (by decide) dL_sets_210 ⟨rfl, rfl⟩
    · replace h := itn c9 h
      refine wp_iconst (v := 1) dL_sets_205 (by decide) ?_
      refine wp_goto (tgt := 210) dL_sets_206 (by decide) ?_
      obtain ⟨q1, q2, q3⟩ := ls_e h
      subst q1
      subst q2
      exact wp_zreturn rfl (by decide) dL_sets_210 ⟨rfl, rfl⟩
def bL_sets_147 (x3 : Int32) (x5 : Int32) (s0 : Int32) (s1 : Int32) (u : LM) : LR :=
  if x5 = 0 then
    bL_sets_187 (((1 : Int32) + (lowV ((x3 >>> ((6 : Int32) &&& 31))) (30)))) (x5) (s0) (s1) u
  else
    if x5 = 1 then
      bL_sets_187 ((lowV ((x3 >>> ((6 : Int32) &&& 31))) (4))) (x5) (s0) (s1) u
    else
      bL_sets_187 ((lowV ((x3 >>> ((6 : Int32) &&& 31))) (8))) (x5) (s0) (s1) u
theorem wbL_sets_147 {r : Int32} {u9 : LM} {x3 : Int32} {x5 : Int32} {s0 : Int32} {s1 : Int32} {l2 : Option sV} {l4 : Option sV} {l6 : Option sV} {u : LM} {n9 : Nat} (h : bL_sets_147 x3 x5 s0 s1 u = some (r, u9, n9)) : WP mL_sets 11 n9 147 [some (vR 8 (0)), some (vR 200 (0)), l2, some (vI (x3)), l4, some (vI (x5)), l6] [vI (s0), vI (s1), vR 8 (0)] (cM u.1 out u.2) (PW out r u9) NX := by
  unfold bL_sets_147 at h
  refine wp_iload dL_sets_147 rfl ?_
  refine wp_iload dL_sets_149 rfl ?_
  refine wp_if_ne (tgt := 168) dL_sets_151 (by decide) (fun c1 => ?_) (fun c1 => ?_)
  · replace h := itn c1 h
    refine wp_iload_n dL_sets_168 rfl ?_
    refine wp_bipush (v := 6) dL_sets_169 (by decide) ?_
    refine wp_ishr dL_sets_171 ?_
    refine wp_iload dL_sets_172 rfl ?_
    refine wp_iconst (v := 1) dL_sets_174 (by decide) ?_
    refine wp_icmp_ne (tgt := 182) dL_sets_175 (by decide) (fun c2 => ?_) (fun c2 => ?_)
    · replace h := itn c2 h
      refine wp_bipush (v := 8) dL_sets_182 (by decide) ?_
      refine wp_callS24 (k1 := 0) (k2 := _) (As := [vI ((x3 >>> ((6 : Int32) &&& 31))), vI (8)]) (rest := [vI (x5), vI (s0), vI (s1), vR 8 (0)]) (wL_low (v := (x3 >>> ((6 : Int32) &&& 31))) (n := 8) (by decide)) okL_low (by decide) sm_L_low rfl ml_L_100 dL_sets_184 rfl (by decide) (Nat.le_of_eq (Nat.zero_add _)) rfl (Nat.le_of_ble_eq_true rfl) (fun _ _ z => z) (fun r' S' z => ?_)
      obtain ⟨rfl, rfl⟩ := z
      show WP _ _ _ _ [some (vR 8 (0)), some (vR 200 (0)), l2, some (vI (x3)), l4, some (vI (x5)), l6] [vI ((lowV ((x3 >>> ((6 : Int32) &&& 31))) (8))), vI (x5), vI (s0), vI (s1), vR 8 (0)] (cM u.1 out u.2) _ _
      exact wbL_sets_187 h
    · replace h := itp c2 h
      refine wp_iconst (v := 4) dL_sets_178 (by decide) ?_
      refine wp_goto (tgt := 184) dL_sets_179 (by decide) ?_
      refine wp_callS24 (k1 := 0) (k2 := _) (As := [vI ((x3 >>> ((6 : Int32) &&& 31))), vI (4)]) (rest := [vI (x5), vI (s0), vI (s1), vR 8 (0)]) (wL_low (v := (x3 >>> ((6 : Int32) &&& 31))) (n := 4) (by decide)) okL_low (by decide) sm_L_low rfl ml_L_100 dL_sets_184 rfl (by decide) (Nat.le_of_eq (Nat.zero_add _)) rfl (Nat.le_of_ble_eq_true rfl) (fun _ _ z => z) (fun r' S' z => ?_)
      obtain ⟨rfl, rfl⟩ := z
      show WP _ _ _ _ [some (vR 8 (0)), some (vR 200 (0)), l2, some (vI (x3)), l4, some (vI (x5)), l6] [vI ((lowV ((x3 >>> ((6 : Int32) &&& 31))) (4))), vI (x5), vI (s0), vI (s1), vR 8 (0)] (cM u.1 out u.2) _ _
      exact wbL_sets_187 h
  · replace h := itp c1 h
    refine wp_iconst (v := 1) dL_sets_154 (by decide) ?_
    refine wp_iload_n dL_sets_155 rfl ?_
    refine wp_bipush (v := 6) dL_sets_156 (by decide) ?_
    refine wp_ishr dL_sets_158 ?_
    refine wp_bipush (v := 30) dL_sets_159 (by decide) ?_
    refine wp_callS24 (k1 := 0) (k2 := _) (As := [vI ((x3 >>> ((6 : Int32) &&& 31))), vI (30)]) (rest := [vI (1), vI (x5), vI (s0), vI (s1), vR 8 (0)]) (wL_low (v := (x3 >>> ((6 : Int32) &&& 31))) (n := 30) (by decide)) okL_low (by decide) sm_L_low rfl ml_L_100 dL_sets_161 rfl (by decide) (Nat.le_of_eq (Nat.zero_add _)) rfl (Nat.le_of_ble_eq_true rfl) (fun _ _ z => z) (fun r' S' z => ?_)
    obtain ⟨rfl, rfl⟩ := z
    show WP _ _ _ _ [some (vR 8 (0)), some (vR 200 (0)), l2, some (vI (x3)), l4, some (vI (x5)), l6] [vI ((lowV ((x3 >>> ((6 : Int32) &&& 31))) (30))), vI (1), vI (x5), vI (s0), vI (s1), vR 8 (0)] (cM u.1 out u.2) _ _
    refine wp_iadd dL_sets_164 ?_
    refine wp_goto (tgt := 187) dL_sets_165 (by decide) ?_
    exact wbL_sets_187 h
def bL_sets_80 (x6 : Int32) (u : LM) : LR :=
  if x6 = (-1000001) then
    some (1, u, 0)
  else
    some (0, u, 0)
theorem wbL_sets_80 {r : Int32} {u9 : LM} {x6 : Int32} {l2 : Option sV} {l3 : Option sV} {l4 : Option sV} {l5 : Option sV} {u : LM} {n9 : Nat} (h : bL_sets_80 x6 u = some (r, u9, n9)) : WP mL_sets 11 n9 80 [some (vR 8 (0)), some (vR 200 (0)), l2, l3, l4, l5, some (vI (x6))] [] (cM u.1 out u.2) (PW out r u9) NX := by
  unfold bL_sets_80 at h
  refine wp_iload dL_sets_80 rfl ?_
  refine wp_ldc ct_L_18 dL_sets_82 ?_
  refine wp_icmp_ne (tgt := 91) dL_sets_84 (by decide) (fun c1 => ?_) (fun c1 => ?_)
  · replace h := itn c1 h
    refine wp_iconst (v := 0) dL_sets_91 (by decide) ?_
    obtain ⟨q1, q2, q3⟩ := ls_e h
    subst q1
    subst q2
    exact wp_zreturn rfl (by decide) dL_sets_92 ⟨rfl, rfl⟩
  · replace h := itp c1 h
    refine wp_iconst (v := 1) dL_sets_87 (by decide) ?_
    refine wp_goto (tgt := 92) dL_sets_88 (by decide) ?_
    obtain ⟨q1, q2, q3⟩ := ls_e h
    subst q1
    subst q2
    exact wp_zreturn rfl (by decide) dL_sets_92 ⟨rfl, rfl⟩
def bL_sets_63 (s0 : Int32) (s1 : Int32) (s2 : Int32) (u : LM) : LR :=
  lk (fW_fault 0 (s2) (s1) (s0) u.1) u fun r1 u2 =>
  if r1 < 0 then
    bL_sets_80 (r1) u2
  else
    if r1 ≤ 50 then
      some (1, u2, 0)
    else
      bL_sets_80 (r1) u2
theorem wbL_sets_63 {r : Int32} {u9 : LM} {s0 : Int32} {s1 : Int32} {s2 : Int32} {l2 : Option sV} {l3 : Option sV} {l4 : Option sV} {l5 : Option sV} {l6 : Option sV} {u : LM} {n9 : Nat} (h : bL_sets_63 s0 s1 s2 u = some (r, u9, n9)) : WP mL_sets 11 n9 63 [some (vR 8 (0)), some (vR 200 (0)), l2, l3, l4, l5, l6] [vI (s0), vI (s1), vI (s2), vR 8 (0)] (cM u.1 out u.2) (PW out r u9) NX := by
  unfold bL_sets_63 at h
  obtain ⟨r1, u2, n3, n4, h5, hw6, h, en7⟩ := lk_e h
  refine wp_callSW (k1 := n3) (k2 := n4) (As := [vR 8 (0), vI (s2), vI (s1), vI (s0)]) (rest := []) (wL_fault h5) okL_fault sm_L_fault rfl ml_L_114 dL_sets_63 (by decide) (Nat.le_of_eq en7) rfl (Nat.le_of_ble_eq_true rfl) (fun r' S' z => ?_)
  obtain ⟨rfl, rfl⟩ := z
  show WP _ _ _ _ [some (vR 8 (0)), some (vR 200 (0)), l2, l3, l4, l5, l6] [vI (r1)] (cM u2.1 out u.2) _ _
  rw [hw6]
  refine wp_istore (L' := [some (vR 8 (0)), some (vR 200 (0)), l2, l3, l4, l5, some (vI (r1))]) dL_sets_66 rfl rfl ?_
  refine wp_iload dL_sets_68 rfl ?_
  refine wp_if_lt (tgt := 80) dL_sets_70 (by decide) (fun c8 => ?_) (fun c8 => ?_)
  · replace h := itp c8 h
    exact wbL_sets_80 h
  · replace h := itn c8 h
    refine wp_iload dL_sets_73 rfl ?_
    refine wp_bipush (v := 50) dL_sets_75 (by decide) ?_
    refine wp_icmp_le (tgt := 87) dL_sets_77 (by decide) (fun c9 => ?_) (fun c9 => ?_)
    · replace h := itp c9 h
      refine wp_iconst (v := 1) dL_sets_87 (by decide) ?_
      refine wp_goto (tgt := 92) dL_sets_88 (by decide) ?_
      obtain ⟨q1, q2, q3⟩ := ls_e h
      subst q1
      subst q2
      exact wp_zreturn rfl (by decide) dL_sets_92 ⟨rfl, rfl⟩
    · replace h := itn c9 h
      exact wbL_sets_80 h
def fL_sets (x2 : Int32) (x3 : Int32) (u : LM) : LR :=
  if 3 ≤ (lowV (x2) (8)) then
    if (lowV (x2) (8)) = 3 then
      if (lowV (x3) (8)) = 0 then
        bL_sets_147 (x3) ((lowV ((x2 >>> ((3 : Int32) &&& 31))) (3))) (((lowV ((x3 >>> ((3 : Int32) &&& 31))) (7)) - (1 : Int32))) (((lowV (x3) (8)) - (1 : Int32))) u
      else
        bL_sets_147 (x3) ((lowV ((x2 >>> ((3 : Int32) &&& 31))) (3))) ((lowV ((x3 >>> ((3 : Int32) &&& 31))) (6))) (((lowV (x3) (8)) - (1 : Int32))) u
    else
      if (lowV (x2) (8)) = 4 then
        lk (fW_work 0 ((lowV ((x2 >>> ((3 : Int32) &&& 31))) (6))) ((lowV (x3) (5))) u.1) u fun r5 u6 =>
        if r5 < 0 then
          some (0, u6, 0)
        else
          some (1, u6, 0)
      else
        if (lowV (x2) (8)) = 5 then
          lk (fW_canary 0 (5) ((lowV (x3) (101))) u.1) u fun r14 u15 =>
          if r14 < 0 then
            some (0, u15, 0)
          else
            lk (fW_canaryShare 0 (5) u15.1) u15 fun r22 u23 =>
            if r22 = (lowV (x3) (101)) then
              some (1, u23, 0)
            else
              some (0, u23, 0)
        else
          if (lowV (x2) (8)) = 6 then
            lk (fW_eyes 0 (((1 : Int32) + (lowV (x3) (4)))) u.1) u fun r31 u32 =>
            if r31 ≤ 0 then
              some (0, u32, 0)
            else
              some (1, u32, 0)
          else
            lk (fW_share 0 ((lowV ((x2 >>> ((3 : Int32) &&& 31))) (7))) ((lowV (x3) (60))) u.1) u fun r39 u40 =>
            if r39 < 0 then
              some (0, u40, 0)
            else
              some (1, u40, 0)
  else
    if (lowV (x3) (3)) ≤ 0 then
      if (lowV ((x2 >>> ((3 : Int32) &&& 31))) (4)) = 0 then
        bL_sets_63 ((lowV ((x3 >>> ((2 : Int32) &&& 31))) (20))) ((lowV ((x2 >>> ((3 : Int32) &&& 31))) (4))) ((lowV ((x2 >>> ((5 : Int32) &&& 31))) (12))) u
      else
        bL_sets_63 (1) ((lowV ((x2 >>> ((3 : Int32) &&& 31))) (4))) ((lowV ((x2 >>> ((5 : Int32) &&& 31))) (12))) u
    else
      bL_sets_63 (0) ((lowV ((x2 >>> ((3 : Int32) &&& 31))) (4))) ((lowV ((x2 >>> ((5 : Int32) &&& 31))) (12))) u
theorem wfL_sets {r : Int32} {u9 : LM} {x2 : Int32} {x3 : Int32} {u : LM} {n9 : Nat} (h : fL_sets x2 x3 u = some (r, u9, n9)) : Spec mL_sets 11 n9 [vR 8 (0), vR 200 (0), vI (x2), vI (x3)] (cM u.1 out u.2) (PW out r u9) NX := by
  unfold fL_sets at h
  refine spec_of (by decide) rfl (by simp [catS, cat1]) (Nat.le_of_ble_eq_true rfl) ?_
  show WP mL_sets 11 n9 0 [some (vR 8 (0)), some (vR 200 (0)), some (vI (x2)), some (vI (x3)), none, none, none] [] (cM u.1 out u.2) (PW out r u9) NX
  refine wp_iload_n dL_sets_0 rfl ?_
  refine wp_bipush (v := 8) dL_sets_1 (by decide) ?_
  refine wp_callS24 (k1 := 0) (k2 := _) (As := [vI (x2), vI (8)]) (rest := []) (wL_low (v := x2) (n := 8) (by decide)) okL_low (by decide) sm_L_low rfl ml_L_100 dL_sets_3 rfl (by decide) (Nat.le_of_eq (Nat.zero_add _)) rfl (Nat.le_of_ble_eq_true rfl) (fun _ _ z => z) (fun r' S' z => ?_)
  obtain ⟨rfl, rfl⟩ := z
  show WP _ _ _ _ [some (vR 8 (0)), some (vR 200 (0)), some (vI (x2)), some (vI (x3)), none, none, none] [vI ((lowV (x2) (8)))] (cM u.1 out u.2) _ _
  refine wp_istore (L' := [some (vR 8 (0)), some (vR 200 (0)), some (vI (x2)), some (vI (x3)), some (vI ((lowV (x2) (8)))), none, none]) dL_sets_6 rfl rfl ?_
  refine wp_iload dL_sets_8 rfl ?_
  refine wp_iconst (v := 3) dL_sets_10 (by decide) ?_
  refine wp_icmp_ge (tgt := 93) dL_sets_11 (by decide) (fun c1 => ?_) (fun c1 => ?_)
  · replace h := itp c1 h
    refine wp_iload dL_sets_93 rfl ?_
    refine wp_iconst (v := 3) dL_sets_95 (by decide) ?_
    refine wp_icmp_ne (tgt := 211) dL_sets_96 (by decide) (fun c2 => ?_) (fun c2 => ?_)
    · replace h := itn c2 h
      refine wp_iload dL_sets_211 rfl ?_
      refine wp_iconst (v := 4) dL_sets_213 (by decide) ?_
      refine wp_icmp_ne (tgt := 243) dL_sets_214 (by decide) (fun c4 => ?_) (fun c4 => ?_)
      · replace h := itn c4 h
        refine wp_iload dL_sets_243 rfl ?_
        refine wp_iconst (v := 5) dL_sets_245 (by decide) ?_
        refine wp_icmp_ne (tgt := 283) dL_sets_246 (by decide) (fun c13 => ?_) (fun c13 => ?_)
        · replace h := itn c13 h
          refine wp_iload dL_sets_283 rfl ?_
          refine wp_bipush (v := 6) dL_sets_285 (by decide) ?_
          refine wp_icmp_ne (tgt := 312) dL_sets_287 (by decide) (fun c30 => ?_) (fun c30 => ?_)
          · replace h := itn c30 h
            refine wp_aload_n dL_sets_312 rfl ?_
            refine wp_iload_n dL_sets_313 rfl ?_
            refine wp_iconst (v := 3) dL_sets_314 (by decide) ?_
            refine wp_ishr dL_sets_315 ?_
            refine wp_bipush (v := 7) dL_sets_316 (by decide) ?_
            refine wp_callS24 (k1 := 0) (k2 := _) (As := [vI ((x2 >>> ((3 : Int32) &&& 31))), vI (7)]) (rest := [vR 8 (0)]) (wL_low (v := (x2 >>> ((3 : Int32) &&& 31))) (n := 7) (by decide)) okL_low (by decide) sm_L_low rfl ml_L_100 dL_sets_318 rfl (by decide) (Nat.le_of_eq (Nat.zero_add _)) rfl (Nat.le_of_ble_eq_true rfl) (fun _ _ z => z) (fun r' S' z => ?_)
            obtain ⟨rfl, rfl⟩ := z
            show WP _ _ _ _ [some (vR 8 (0)), some (vR 200 (0)), some (vI (x2)), some (vI (x3)), some (vI ((lowV (x2) (8)))), none, none] [vI ((lowV ((x2 >>> ((3 : Int32) &&& 31))) (7))), vR 8 (0)] (cM u.1 out u.2) _ _
            refine wp_iload_n dL_sets_321 rfl ?_
            refine wp_bipush (v := 60) dL_sets_322 (by decide) ?_
            refine wp_callS24 (k1 := 0) (k2 := _) (As := [vI (x3), vI (60)]) (rest := [vI ((lowV ((x2 >>> ((3 : Int32) &&& 31))) (7))), vR 8 (0)]) (wL_low (v := x3) (n := 60) (by decide)) okL_low (by decide) sm_L_low rfl ml_L_100 dL_sets_324 rfl (by decide) (Nat.le_of_eq (Nat.zero_add _)) rfl (Nat.le_of_ble_eq_true rfl) (fun _ _ z => z) (fun r' S' z => ?_)
            obtain ⟨rfl, rfl⟩ := z
            show WP _ _ _ _ [some (vR 8 (0)), some (vR 200 (0)), some (vI (x2)), some (vI (x3)), some (vI ((lowV (x2) (8)))), none, none] [vI ((lowV (x3) (60))), vI ((lowV ((x2 >>> ((3 : Int32) &&& 31))) (7))), vR 8 (0)] (cM u.1 out u.2) _ _
            obtain ⟨r39, u40, n41, n42, h43, hw44, h, en45⟩ := lk_e h
            refine wp_callSW (k1 := n41) (k2 := n42) (As := [vR 8 (0), vI ((lowV ((x2 >>> ((3 : Int32) &&& 31))) (7))), vI ((lowV (x3) (60)))]) (rest := []) (wL_share h43) okL_share sm_L_share rfl ml_L_130 dL_sets_327 (by decide) (Nat.le_of_eq en45) rfl (Nat.le_of_ble_eq_true rfl) (fun r' S' z => ?_)
            obtain ⟨rfl, rfl⟩ := z
            show WP _ _ _ _ [some (vR 8 (0)), some (vR 200 (0)), some (vI (x2)), some (vI (x3)), some (vI ((lowV (x2) (8)))), none, none] [vI (r39)] (cM u40.1 out u.2) _ _
            rw [hw44]
            refine wp_if_lt (tgt := 337) dL_sets_330 (by decide) (fun c46 => ?_) (fun c46 => ?_)
            · replace h := itp c46 h
              refine wp_iconst (v := 0) dL_sets_337 (by decide) ?_
              obtain ⟨q1, q2, q3⟩ := ls_e h
              subst q1
              subst q2
              exact wp_zreturn rfl (by decide) dL_sets_338 ⟨rfl, rfl⟩
            · replace h := itn c46 h
              refine wp_iconst (v := 1) dL_sets_333 (by decide) ?_
              refine wp_goto (tgt := 338) dL_sets_334 (by decide) ?_
              obtain ⟨q1, q2, q3⟩ := ls_e h
              subst q1
              subst q2
              exact wp_zreturn rfl (by decide) dL_sets_338 ⟨rfl, rfl⟩
          · replace h := itp c30 h
            refine wp_aload_n dL_sets_290 rfl ?_
            refine wp_iconst (v := 1) dL_sets_291 (by decide) ?_
            refine wp_iload_n dL_sets_292 rfl ?_
            refine wp_iconst (v := 4) dL_sets_293 (by decide) ?_
            refine wp_callS24 (k1 := 0) (k2 := _) (As := [vI (x3), vI (4)]) (rest := [vI (1), vR 8 (0)]) (wL_low (v := x3) (n := 4) (by decide)) okL_low (by decide) sm_L_low rfl ml_L_100 dL_sets_294 rfl (by decide) (Nat.le_of_eq (Nat.zero_add _)) rfl (Nat.le_of_ble_eq_true rfl) (fun _ _ z => z) (fun r' S' z => ?_)
            obtain ⟨rfl, rfl⟩ := z
            show WP _ _ _ _ [some (vR 8 (0)), some (vR 200 (0)), some (vI (x2)), some (vI (x3)), some (vI ((lowV (x2) (8)))), none, none] [vI ((lowV (x3) (4))), vI (1), vR 8 (0)] (cM u.1 out u.2) _ _
            refine wp_iadd dL_sets_297 ?_
            obtain ⟨r31, u32, n33, n34, h35, hw36, h, en37⟩ := lk_e h
            refine wp_callSW (k1 := n33) (k2 := n34) (As := [vR 8 (0), vI (((1 : Int32) + (lowV (x3) (4))))]) (rest := []) (wL_eyes h35) okL_eyes sm_L_eyes rfl ml_L_128 dL_sets_298 (by decide) (Nat.le_of_eq en37) rfl (Nat.le_of_ble_eq_true rfl) (fun r' S' z => ?_)
            obtain ⟨rfl, rfl⟩ := z
            show WP _ _ _ _ [some (vR 8 (0)), some (vR 200 (0)), some (vI (x2)), some (vI (x3)), some (vI ((lowV (x2) (8)))), none, none] [vI (r31)] (cM u32.1 out u.2) _ _
            rw [hw36]
            refine wp_if_le (tgt := 308) dL_sets_301 (by decide) (fun c38 => ?_) (fun c38 => ?_)
            · replace h := itp c38 h
              refine wp_iconst (v := 0) dL_sets_308 (by decide) ?_
              refine wp_goto (tgt := 338) dL_sets_309 (by decide) ?_
              obtain ⟨q1, q2, q3⟩ := ls_e h
              subst q1
              subst q2
              exact wp_zreturn rfl (by decide) dL_sets_338 ⟨rfl, rfl⟩
            · replace h := itn c38 h
              refine wp_iconst (v := 1) dL_sets_304 (by decide) ?_
              refine wp_goto (tgt := 338) dL_sets_305 (by decide) ?_
              obtain ⟨q1, q2, q3⟩ := ls_e h
              subst q1
              subst q2
              exact wp_zreturn rfl (by decide) dL_sets_338 ⟨rfl, rfl⟩
        · replace h := itp c13 h
          refine wp_iload_n dL_sets_249 rfl ?_
          refine wp_bipush (v := 101) dL_sets_250 (by decide) ?_
          refine wp_callS24 (k1 := 0) (k2 := _) (As := [vI (x3), vI (101)]) (rest := []) (wL_low (v := x3) (n := 101) (by decide)) okL_low (by decide) sm_L_low rfl ml_L_100 dL_sets_252 rfl (by decide) (Nat.le_of_eq (Nat.zero_add _)) rfl (Nat.le_of_ble_eq_true rfl) (fun _ _ z => z) (fun r' S' z => ?_)
          obtain ⟨rfl, rfl⟩ := z
          show WP _ _ _ _ [some (vR 8 (0)), some (vR 200 (0)), some (vI (x2)), some (vI (x3)), some (vI ((lowV (x2) (8)))), none, none] [vI ((lowV (x3) (101)))] (cM u.1 out u.2) _ _
          refine wp_istore (L' := [some (vR 8 (0)), some (vR 200 (0)), some (vI (x2)), some (vI (x3)), some (vI ((lowV (x2) (8)))), some (vI ((lowV (x3) (101)))), none]) dL_sets_255 rfl rfl ?_
          refine wp_aload_n dL_sets_257 rfl ?_
          refine wp_iconst (v := 5) dL_sets_258 (by decide) ?_
          refine wp_iload dL_sets_259 rfl ?_
          obtain ⟨r14, u15, n16, n17, h18, hw19, h, en20⟩ := lk_e h
          refine wp_callSW (k1 := n16) (k2 := n17) (As := [vR 8 (0), vI (5), vI ((lowV (x3) (101)))]) (rest := []) (wL_canary h18) okL_canary sm_L_canary rfl ml_L_123 dL_sets_261 (by decide) (Nat.le_of_eq en20) rfl (Nat.le_of_ble_eq_true rfl) (fun r' S' z => ?_)
          obtain ⟨rfl, rfl⟩ := z
          show WP _ _ _ _ [some (vR 8 (0)), some (vR 200 (0)), some (vI (x2)), some (vI (x3)), some (vI ((lowV (x2) (8)))), some (vI ((lowV (x3) (101)))), none] [vI (r14)] (cM u15.1 out u.2) _ _
          rw [hw19]
          refine wp_if_lt (tgt := 281) dL_sets_264 (by decide) (fun c21 => ?_) (fun c21 => ?_)
          · replace h := itp c21 h
            refine wp_iconst (v := 0) dL_sets_281 (by decide) ?_
            obtain ⟨q1, q2, q3⟩ := ls_e h
            subst q1
            subst q2
            exact wp_zreturn rfl (by decide) dL_sets_282 ⟨rfl, rfl⟩
          · replace h := itn c21 h
            refine wp_aload_n dL_sets_267 rfl ?_
            refine wp_iconst (v := 5) dL_sets_268 (by decide) ?_
            obtain ⟨r22, u23, n24, n25, h26, hw27, h, en28⟩ := lk_e h
            refine wp_callSW (k1 := n24) (k2 := n25) (As := [vR 8 (0), vI (5)]) (rest := []) (wL_canaryShare h26) okL_canaryShare sm_L_canaryShare rfl ml_L_125 dL_sets_269 (by decide) (Nat.le_of_eq en28) rfl (Nat.le_of_ble_eq_true rfl) (fun r' S' z => ?_)
            obtain ⟨rfl, rfl⟩ := z
            show WP _ _ _ _ [some (vR 8 (0)), some (vR 200 (0)), some (vI (x2)), some (vI (x3)), some (vI ((lowV (x2) (8)))), some (vI ((lowV (x3) (101)))), none] [vI (r22)] (cM u23.1 out u15.2) _ _
            rw [hw27]
            refine wp_iload dL_sets_272 rfl ?_
            refine wp_icmp_ne (tgt := 281) dL_sets_274 (by decide) (fun c29 => ?_) (fun c29 => ?_)
            · replace h := itn c29 h
              refine wp_iconst (v := 0) dL_sets_281 (by decide) ?_
              obtain ⟨q1, q2, q3⟩ := ls_e h
              subst q1
              subst q2
              exact wp_zreturn rfl (by decide) dL_sets_282 ⟨rfl, rfl⟩
            · replace h := itp c29 h
              refine wp_iconst (v := 1) dL_sets_277 (by decide) ?_
              refine wp_goto (tgt := 282) dL_sets_278 (by decide) ?_
              obtain ⟨q1, q2, q3⟩ := ls_e h
              subst q1
              subst q2
              exact wp_zreturn rfl (by decide) dL_sets_282 ⟨rfl, rfl⟩
      · replace h := itp c4 h
        refine wp_aload_n dL_sets_217 rfl ?_
        refine wp_iload_n dL_sets_218 rfl ?_
        refine wp_iconst (v := 3) dL_sets_219 (by decide) ?_
        refine wp_ishr dL_sets_220 ?_
        refine wp_bipush (v := 6) dL_sets_221 (by decide) ?_
        refine wp_callS24 (k1 := 0) (k2 := _) (As := [vI ((x2 >>> ((3 : Int32) &&& 31))), vI (6)]) (rest := [vR 8 (0)]) (wL_low (v := (x2 >>> ((3 : Int32) &&& 31))) (n := 6) (by decide)) okL_low (by decide) sm_L_low rfl ml_L_100 dL_sets_223 rfl (by decide) (Nat.le_of_eq (Nat.zero_add _)) rfl (Nat.le_of_ble_eq_true rfl) (fun _ _ z => z) (fun r' S' z => ?_)
        obtain ⟨rfl, rfl⟩ := z
        show WP _ _ _ _ [some (vR 8 (0)), some (vR 200 (0)), some (vI (x2)), some (vI (x3)), some (vI ((lowV (x2) (8)))), none, none] [vI ((lowV ((x2 >>> ((3 : Int32) &&& 31))) (6))), vR 8 (0)] (cM u.1 out u.2) _ _
        refine wp_iload_n dL_sets_226 rfl ?_
        refine wp_iconst (v := 5) dL_sets_227 (by decide) ?_
        refine wp_callS24 (k1 := 0) (k2 := _) (As := [vI (x3), vI (5)]) (rest := [vI ((lowV ((x2 >>> ((3 : Int32) &&& 31))) (6))), vR 8 (0)]) (wL_low (v := x3) (n := 5) (by decide)) okL_low (by decide) sm_L_low rfl ml_L_100 dL_sets_228 rfl (by decide) (Nat.le_of_eq (Nat.zero_add _)) rfl (Nat.le_of_ble_eq_true rfl) (fun _ _ z => z) (fun r' S' z => ?_)
        obtain ⟨rfl, rfl⟩ := z
        show WP _ _ _ _ [some (vR 8 (0)), some (vR 200 (0)), some (vI (x2)), some (vI (x3)), some (vI ((lowV (x2) (8)))), none, none] [vI ((lowV (x3) (5))), vI ((lowV ((x2 >>> ((3 : Int32) &&& 31))) (6))), vR 8 (0)] (cM u.1 out u.2) _ _
        obtain ⟨r5, u6, n7, n8, h9, hw10, h, en11⟩ := lk_e h
        refine wp_callSW (k1 := n7) (k2 := n8) (As := [vR 8 (0), vI ((lowV ((x2 >>> ((3 : Int32) &&& 31))) (6))), vI ((lowV (x3) (5)))]) (rest := []) (wL_work h9) okL_work sm_L_work rfl ml_L_120 dL_sets_231 (by decide) (Nat.le_of_eq en11) rfl (Nat.le_of_ble_eq_true rfl) (fun r' S' z => ?_)
        obtain ⟨rfl, rfl⟩ := z
        show WP _ _ _ _ [some (vR 8 (0)), some (vR 200 (0)), some (vI (x2)), some (vI (x3)), some (vI ((lowV (x2) (8)))), none, none] [vI (r5)] (cM u6.1 out u.2) _ _
        rw [hw10]
        refine wp_if_lt (tgt := 241) dL_sets_234 (by decide) (fun c12 => ?_) (fun c12 => ?_)
        · replace h := itp c12 h
          refine wp_iconst (v := 0) dL_sets_241 (by decide) ?_
          obtain ⟨q1, q2, q3⟩ := ls_e h
          subst q1
          subst q2
          exact wp_zreturn rfl (by decide) dL_sets_242 ⟨rfl, rfl⟩
        · replace h := itn c12 h
          refine wp_iconst (v := 1) dL_sets_237 (by decide) ?_
          refine wp_goto (tgt := 242) dL_sets_238 (by decide) ?_
          obtain ⟨q1, q2, q3⟩ := ls_e h
          subst q1
          subst q2
          exact wp_zreturn rfl (by decide) dL_sets_242 ⟨rfl, rfl⟩
    · replace h := itp c2 h
      refine wp_iload_n dL_sets_99 rfl ?_
      refine wp_iconst (v := 3) dL_sets_100 (by decide) ?_
      refine wp_ishr dL_sets_101 ?_
      refine wp_iconst (v := 3) dL_sets_102 (by decide) ?_
      refine wp_callS24 (k1 := 0) (k2 := _) (As := [vI ((x2 >>> ((3 : Int32) &&& 31))), vI (3)]) (rest := []) (wL_low (v := (x2 >>> ((3 : Int32) &&& 31))) (n := 3) (by decide)) okL_low (by decide) sm_L_low rfl ml_L_100 dL_sets_103 rfl (by decide) (Nat.le_of_eq (Nat.zero_add _)) rfl (Nat.le_of_ble_eq_true rfl) (fun _ _ z => z) (fun r' S' z => ?_)
      obtain ⟨rfl, rfl⟩ := z
      show WP _ _ _ _ [some (vR 8 (0)), some (vR 200 (0)), some (vI (x2)), some (vI (x3)), some (vI ((lowV (x2) (8)))), none, none] [vI ((lowV ((x2 >>> ((3 : Int32) &&& 31))) (3)))] (cM u.1 out u.2) _ _
      refine wp_istore (L' := [some (vR 8 (0)), some (vR 200 (0)), some (vI (x2)), some (vI (x3)), some (vI ((lowV (x2) (8)))), some (vI ((lowV ((x2 >>> ((3 : Int32) &&& 31))) (3)))), none]) dL_sets_106 rfl rfl ?_
      refine wp_aload_n dL_sets_108 rfl ?_
      refine wp_iload_n dL_sets_109 rfl ?_
      refine wp_bipush (v := 8) dL_sets_110 (by decide) ?_
      refine wp_callS24 (k1 := 0) (k2 := _) (As := [vI (x3), vI (8)]) (rest := [vR 8 (0)]) (wL_low (v := x3) (n := 8) (by decide)) okL_low (by decide) sm_L_low rfl ml_L_100 dL_sets_112 rfl (by decide) (Nat.le_of_eq (Nat.zero_add _)) rfl (Nat.le_of_ble_eq_true rfl) (fun _ _ z => z) (fun r' S' z => ?_)
      obtain ⟨rfl, rfl⟩ := z
      show WP _ _ _ _ [some (vR 8 (0)), some (vR 200 (0)), some (vI (x2)), some (vI (x3)), some (vI ((lowV (x2) (8)))), some (vI ((lowV ((x2 >>> ((3 : Int32) &&& 31))) (3)))), none] [vI ((lowV (x3) (8))), vR 8 (0)] (cM u.1 out u.2) _ _
      refine wp_iconst (v := 1) dL_sets_115 (by decide) ?_
      refine wp_isub dL_sets_116 ?_
      refine wp_iload_n dL_sets_117 rfl ?_
      refine wp_bipush (v := 8) dL_sets_118 (by decide) ?_
      refine wp_callS24 (k1 := 0) (k2 := _) (As := [vI (x3), vI (8)]) (rest := [vI (((lowV (x3) (8)) - (1 : Int32))), vR 8 (0)]) (wL_low (v := x3) (n := 8) (by decide)) okL_low (by decide) sm_L_low rfl ml_L_100 dL_sets_120 rfl (by decide) (Nat.le_of_eq (Nat.zero_add _)) rfl (Nat.le_of_ble_eq_true rfl) (fun _ _ z => z) (fun r' S' z => ?_)
      obtain ⟨rfl, rfl⟩ := z
      show WP _ _ _ _ [some (vR 8 (0)), some (vR 200 (0)), some (vI (x2)), some (vI (x3)), some (vI ((lowV (x2) (8)))), some (vI ((lowV ((x2 >>> ((3 : Int32) &&& 31))) (3)))), none] [vI ((lowV (x3) (8))), vI (((lowV (x3) (8)) - (1 : Int32))), vR 8 (0)] (cM u.1 out u.2) _ _
      refine wp_if_ne (tgt := 139) dL_sets_123 (by decide) (fun c3 => ?_) (fun c3 => ?_)
      · replace h := itn c3 h
        refine wp_iload_n dL_sets_139 rfl ?_
        refine wp_iconst (v := 3) dL_sets_140 (by decide) ?_
        refine wp_ishr dL_sets_141 ?_
        refine wp_bipush (v := 6) dL_sets_142 (by decide) ?_
        refine wp_callS24 (k1 := 0) (k2 := _) (As := [vI ((x3 >>> ((3 : Int32) &&& 31))), vI (6)]) (rest := [vI (((lowV (x3) (8)) - (1 : Int32))), vR 8 (0)]) (wL_low (v := (x3 >>> ((3 : Int32) &&& 31))) (n := 6) (by decide)) okL_low (by decide) sm_L_low rfl ml_L_100 dL_sets_144 rfl (by decide) (Nat.le_of_eq (Nat.zero_add _)) rfl (Nat.le_of_ble_eq_true rfl) (fun _ _ z => z) (fun r' S' z => ?_)
        obtain ⟨rfl, rfl⟩ := z
        show WP _ _ _ _ [some (vR 8 (0)), some (vR 200 (0)), some (vI (x2)), some (vI (x3)), some (vI ((lowV (x2) (8)))), some (vI ((lowV ((x2 >>> ((3 : Int32) &&& 31))) (3)))), none] [vI ((lowV ((x3 >>> ((3 : Int32) &&& 31))) (6))), vI (((lowV (x3) (8)) - (1 : Int32))), vR 8 (0)] (cM u.1 out u.2) _ _
        exact wbL_sets_147 h
      · replace h := itp c3 h
        refine wp_iload_n dL_sets_126 rfl ?_
        refine wp_iconst (v := 3) dL_sets_127 (by decide) ?_
        refine wp_ishr dL_sets_128 ?_
        refine wp_bipush (v := 7) dL_sets_129 (by decide) ?_
        refine wp_callS24 (k1 := 0) (k2 := _) (As := [vI ((x3 >>> ((3 : Int32) &&& 31))), vI (7)]) (rest := [vI (((lowV (x3) (8)) - (1 : Int32))), vR 8 (0)]) (wL_low (v := (x3 >>> ((3 : Int32) &&& 31))) (n := 7) (by decide)) okL_low (by decide) sm_L_low rfl ml_L_100 dL_sets_131 rfl (by decide) (Nat.le_of_eq (Nat.zero_add _)) rfl (Nat.le_of_ble_eq_true rfl) (fun _ _ z => z) (fun r' S' z => ?_)
        obtain ⟨rfl, rfl⟩ := z
        show WP _ _ _ _ [some (vR 8 (0)), some (vR 200 (0)), some (vI (x2)), some (vI (x3)), some (vI ((lowV (x2) (8)))), some (vI ((lowV ((x2 >>> ((3 : Int32) &&& 31))) (3)))), none] [vI ((lowV ((x3 >>> ((3 : Int32) &&& 31))) (7))), vI (((lowV (x3) (8)) - (1 : Int32))), vR 8 (0)] (cM u.1 out u.2) _ _
        refine wp_iconst (v := 1) dL_sets_134 (by decide) ?_
        refine wp_isub dL_sets_135 ?_
        refine wp_goto (tgt := 147) dL_sets_136 (by decide) ?_
        exact wbL_sets_147 h
  · replace h := itn c1 h
    refine wp_iload_n dL_sets_14 rfl ?_
    refine wp_iconst (v := 3) dL_sets_15 (by decide) ?_
    refine wp_ishr dL_sets_16 ?_
    refine wp_iconst (v := 4) dL_sets_17 (by decide) ?_
    refine wp_callS24 (k1 := 0) (k2 := _) (As := [vI ((x2 >>> ((3 : Int32) &&& 31))), vI (4)]) (rest := []) (wL_low (v := (x2 >>> ((3 : Int32) &&& 31))) (n := 4) (by decide)) okL_low (by decide) sm_L_low rfl ml_L_100 dL_sets_18 rfl (by decide) (Nat.le_of_eq (Nat.zero_add _)) rfl (Nat.le_of_ble_eq_true rfl) (fun _ _ z => z) (fun r' S' z => ?_)
    obtain ⟨rfl, rfl⟩ := z
    show WP _ _ _ _ [some (vR 8 (0)), some (vR 200 (0)), some (vI (x2)), some (vI (x3)), some (vI ((lowV (x2) (8)))), none, none] [vI ((lowV ((x2 >>> ((3 : Int32) &&& 31))) (4)))] (cM u.1 out u.2) _ _
    refine wp_istore (L' := [some (vR 8 (0)), some (vR 200 (0)), some (vI (x2)), some (vI (x3)), some (vI ((lowV (x2) (8)))), some (vI ((lowV ((x2 >>> ((3 : Int32) &&& 31))) (4)))), none]) dL_sets_21 rfl rfl ?_
    refine wp_aload_n dL_sets_23 rfl ?_
    refine wp_iload_n dL_sets_24 rfl ?_
    refine wp_iconst (v := 5) dL_sets_25 (by decide) ?_
    refine wp_ishr dL_sets_26 ?_
    refine wp_bipush (v := 12) dL_sets_27 (by decide) ?_
    refine wp_callS24 (k1 := 0) (k2 := _) (As := [vI ((x2 >>> ((5 : Int32) &&& 31))), vI (12)]) (rest := [vR 8 (0)]) (wL_low (v := (x2 >>> ((5 : Int32) &&& 31))) (n := 12) (by decide)) okL_low (by decide) sm_L_low rfl ml_L_100 dL_sets_29 rfl (by decide) (Nat.le_of_eq (Nat.zero_add _)) rfl (Nat.le_of_ble_eq_true rfl) (fun _ _ z => z) (fun r' S' z => ?_)
    obtain ⟨rfl, rfl⟩ := z
    show WP _ _ _ _ [some (vR 8 (0)), some (vR 200 (0)), some (vI (x2)), some (vI (x3)), some (vI ((lowV (x2) (8)))), some (vI ((lowV ((x2 >>> ((3 : Int32) &&& 31))) (4)))), none] [vI ((lowV ((x2 >>> ((5 : Int32) &&& 31))) (12))), vR 8 (0)] (cM u.1 out u.2) _ _
    refine wp_iload dL_sets_32 rfl ?_
    refine wp_iload_n dL_sets_34 rfl ?_
    refine wp_iconst (v := 3) dL_sets_35 (by decide) ?_
    refine wp_callS24 (k1 := 0) (k2 := _) (As := [vI (x3), vI (3)]) (rest := [vI ((lowV ((x2 >>> ((3 : Int32) &&& 31))) (4))), vI ((lowV ((x2 >>> ((5 : Int32) &&& 31))) (12))), vR 8 (0)]) (wL_low (v := x3) (n := 3) (by decide)) okL_low (by decide) sm_L_low rfl ml_L_100 dL_sets_36 rfl (by decide) (Nat.le_of_eq (Nat.zero_add _)) rfl (Nat.le_of_ble_eq_true rfl) (fun _ _ z => z) (fun r' S' z => ?_)
    obtain ⟨rfl, rfl⟩ := z
    show WP _ _ _ _ [some (vR 8 (0)), some (vR 200 (0)), some (vI (x2)), some (vI (x3)), some (vI ((lowV (x2) (8)))), some (vI ((lowV ((x2 >>> ((3 : Int32) &&& 31))) (4)))), none] [vI ((lowV (x3) (3))), vI ((lowV ((x2 >>> ((3 : Int32) &&& 31))) (4))), vI ((lowV ((x2 >>> ((5 : Int32) &&& 31))) (12))), vR 8 (0)] (cM u.1 out u.2) _ _
    refine wp_if_le (tgt := 46) dL_sets_39 (by decide) (fun c47 => ?_) (fun c47 => ?_)
    · replace h := itp c47 h
      refine wp_iload dL_sets_46 rfl ?_
      refine wp_if_ne (tgt := 62) dL_sets_48 (by decide) (fun c48 => ?_) (fun c48 => ?_)
      · replace h := itn c48 h
        refine wp_iconst (v := 1) dL_sets_62 (by decide) ?_
        exact wbL_sets_63 h
      · replace h := itp c48 h
        refine wp_iload_n dL_sets_51 rfl ?_
        refine wp_iconst (v := 2) dL_sets_52 (by decide) ?_
        refine wp_ishr dL_sets_53 ?_
        refine wp_bipush (v := 20) dL_sets_54 (by decide) ?_
        refine wp_callS24 (k1 := 0) (k2 := _) (As := [vI ((x3 >>> ((2 : Int32) &&& 31))), vI (20)]) (rest := [vI ((lowV ((x2 >>> ((3 : Int32) &&& 31))) (4))), vI ((lowV ((x2 >>> ((5 : Int32) &&& 31))) (12))), vR 8 (0)]) (wL_low (v := (x3 >>> ((2 : Int32) &&& 31))) (n := 20) (by decide)) okL_low (by decide) sm_L_low rfl ml_L_100 dL_sets_56 rfl (by decide) (Nat.le_of_eq (Nat.zero_add _)) rfl (Nat.le_of_ble_eq_true rfl) (fun _ _ z => z) (fun r' S' z => ?_)
        obtain ⟨rfl, rfl⟩ := z
        show WP _ _ _ _ [some (vR 8 (0)), some (vR 200 (0)), some (vI (x2)), some (vI (x3)), some (vI ((lowV (x2) (8)))), some (vI ((lowV ((x2 >>> ((3 : Int32) &&& 31))) (4)))), none] [vI ((lowV ((x3 >>> ((2 : Int32) &&& 31))) (20))), vI ((lowV ((x2 >>> ((3 : Int32) &&& 31))) (4))), vI ((lowV ((x2 >>> ((5 : Int32) &&& 31))) (12))), vR 8 (0)] (cM u.1 out u.2) _ _
        refine wp_goto (tgt := 63) dL_sets_59 (by decide) ?_
        exact wbL_sets_63 h
    · replace h := itn c47 h
      refine wp_iconst (v := 0) dL_sets_42 (by decide) ?_
      refine wp_goto (tgt := 63) dL_sets_43 (by decide) ?_
      exact wbL_sets_63 h
end LL9
