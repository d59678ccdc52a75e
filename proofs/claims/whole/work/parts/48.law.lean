section LAW
variable {N : Nat} {xs : Nat → Int32} {out : Int64} {rho rho9 : RH} {m m9 : CM} {i b : Int32} {k2 n9 : Nat} {l5 l6 : Option sV} {Q : Option sV → OM → Prop} {QX : String → OM → Prop}
abbrev mLaw (N : Nat) (xs : Nat → Int32) : MI := (yL_law, cL_law, 7, some .boolean, [], some (N, xs))
theorem cp_sld {mi : MI} {d k pc : Nat} {L : List (Option sV)} {st : List sV} {y : Int32} (hs : mi.2.2.2.2.2 = some (N, xs)) (hy : vp_in y N) (hd : decode mi.2.1 pc = .ok (.iaload, 1))
    (h : WP mi d k (pc + 1) L (vI (xs y.toNatClampNeg) :: st) (cM m out rho) Q QX) : WP mi d k pc L (vI y :: vR 74 0 :: st) (cM m out rho) Q QX := wp_sld hs hy hd h
theorem cp_laload {mi : MI} {d k pc : Nat} {L : List (Option sV)} {st : List sV} {j : Int32} (hj : j = 0) (hd : decode mi.2.1 pc = .ok (.laload, 1))
    (h : WP mi d k (pc + 1) L (vL out :: st) (cM m out rho) Q QX) : WP mi d k pc L (vI j :: vR 70 0 :: st) (cM m out rho) Q QX := wp_laload hj hd h
theorem lg_same (x : Int64) : lg_cmp x x = 0 := by simp [lg_cmp]
/-- class and reference answer alike -/
def AG (r : Int32 ⊕ Nat) (ov : Int32 → Int64) (cd : Nat → Int32) (bl : Int64) (th : Int32) : Prop := (∃ x, r = .inl x ∧ th = 0 ∧ ov x = bl) ∨ (∃ j, r = .inr j ∧ th = cd j ∧ ¬ cd j = 0)
theorem RA_fr {m m9 : CM} (h : RA m.2.1) (hF : FR m m9) : RA m9.2.1 := fun y hy ht => (hF.1 _ 0 (by omega)).trans (h y hy ht)
theorem okL_breaker : MIokW mL_breaker 4 := ⟨cd_L_breaker, in_L, by decide +kernel, by decide⟩
theorem okL_budget : MIokW mL_budget 3 := ⟨cd_L_budget, in_L, by decide +kernel, by decide⟩
theorem okL_call : MIokW mL_call 4 := ⟨cd_L_call, in_L, by decide +kernel, by decide⟩
theorem okL_callsOf : MIokW mL_callsOf 3 := ⟨cd_L_callsOf, in_L, by decide +kernel, by decide⟩
theorem okL_canary : MIokW mL_canary 4 := ⟨cd_L_canary, in_L, by decide +kernel, by decide⟩
theorem okL_canaryShare : MIokW mL_canaryShare 3 := ⟨cd_L_canaryShare, in_L, by decide +kernel, by decide⟩
theorem okL_extra : MIokW mL_extra 3 := ⟨cd_L_extra, in_L, by decide +kernel, by decide⟩
theorem okL_eyes : MIokW mL_eyes 3 := ⟨cd_L_eyes, in_L, by decide +kernel, by decide⟩
theorem okL_fault : MIokW mL_fault 5 := ⟨cd_L_fault, in_L, by decide +kernel, by decide⟩
theorem okL_first : MIokW mL_first 3 := ⟨cd_L_first, in_L, by decide +kernel, by decide⟩
theorem okL_instance : MIokW mL_instance 8 := ⟨cd_L_instance, in_L, by decide +kernel, by decide⟩
theorem okL_isKept : MIokW mL_isKept 3 := ⟨cd_L_isKept, in_L, by decide +kernel, by decide⟩
theorem okL_isShunned : MIokW mL_isShunned 3 := ⟨cd_L_isShunned, in_L, by decide +kernel, by decide⟩
theorem okL_load : MIokW mL_load 4 := ⟨cd_L_load, in_L, by decide +kernel, by decide⟩
theorem okL_pass : MIokW mL_pass 3 := ⟨cd_L_pass, in_L, by decide +kernel, by decide⟩
theorem okL_policy : MIokW mL_policy 6 := ⟨cd_L_policy, in_L, by decide +kernel, by decide⟩
theorem okL_request : MIokW mL_request 5 := ⟨cd_L_request, in_L, by decide +kernel, by decide⟩
theorem okL_requestState : MIokW mL_requestState 3 := ⟨cd_L_requestState, in_L, by decide +kernel, by decide⟩
theorem okL_requestTicks : MIokW mL_requestTicks 3 := ⟨cd_L_requestTicks, in_L, by decide +kernel, by decide⟩
theorem okL_share : MIokW mL_share 4 := ⟨cd_L_share, in_L, by decide +kernel, by decide⟩
theorem okL_step : MIokW mL_step 6 := ⟨cd_L_step, in_L, by decide +kernel, by decide⟩
theorem okL_traces : MIokW mL_traces 3 := ⟨cd_L_traces, in_L, by decide +kernel, by decide⟩
theorem okL_work : MIokW mL_work 4 := ⟨cd_L_work, in_L, by decide +kernel, by decide⟩
theorem law_c0 {r : Int32 ⊕ Nat} (hr : ∀ j, r = .inr j → j = 0 ∨ j = 1) (h8 : f8_X8_work 0 (xs (i + 1).toNatClampNeg) (xs (i + 2).toNatClampNeg) m = some (r, m9, n9)) (h9 : f9_work (xs (i + 1).toNatClampNeg) (xs (i + 2).toNatClampNeg) rho = some (b, rho9)) (hag : AG r (fun x => x.toInt64) (fun j => if j = 0 then 1 else 2) b.toInt64 (rho9 64 0)) (hb1 : vp_in (i + 1) N) (hb2 : vp_in (i + 2) N) (hRA : RA m.2.1) (hFR : FR m m9) (kk : ∀ (out' : Int64) (l5 l6 : Option sV), WP (mLaw N xs) 60 k2 1823 [some (vR 74 0), some (vR 8 0), some (vR 9 0), some (vR 70 0), some (vI i), l5, l6] [] (cM m9 out' rho9) Q QX) : WP (mLaw N xs) 60 (n9 + k2) 160 [some (vR 74 0), some (vR 8 0), some (vR 9 0), some (vR 70 0), some (vI i), l5, l6] [] (cM m out rho) Q QX := by
  rcases hag with ⟨x, hx, ht, hv⟩ | ⟨j, hj, ht, hn⟩
  · refine wp_aload_n dL_law_160 rfl ?_
    refine wp_aload_n dL_law_161 rfl ?_
    refine wp_iload dL_law_162 rfl ?_
    refine wp_iconst (v := 1) dL_law_164 (by decide) ?_
    refine wp_iadd dL_law_165 ?_
    refine cp_sld (N := N) (xs := xs) rfl hb1 dL_law_166 ?_
    refine wp_aload_n dL_law_167 rfl ?_
    refine wp_iload dL_law_168 rfl ?_
    refine wp_iconst (v := 2) dL_law_170 (by decide) ?_
    refine wp_iadd dL_law_171 ?_
    refine cp_sld (N := N) (xs := xs) rfl hb2 dL_law_172 ?_
    refine wp_aload_n dL_law_173 rfl ?_
    refine wp_callSW (k1 := n9) (k2 := k2) (As := [vR 8 0, vI (xs (i + 1).toNatClampNeg), vI (xs (i + 2).toNatClampNeg), vR 70 0]) (rest := []) (wL_work hr h8) okL_work sm_L_work rfl ml_L_98 dL_law_174 (by decide) (Nat.le_refl _) rfl (by decide) (fun r' S' z => ?_)
    rcases z with ⟨x', hx', rfl, rfl⟩ | ⟨j', hj', -, -⟩
    rotate_left
    · rw [hx] at hj'; cases hj'
    have ex : x' = x := by rw [hx] at hx'; exact (Sum.inl.inj hx').symm
    subst ex
    show WP (mLaw N xs) 60 k2 177 [some (vR 74 0), some (vR 8 0), some (vR 9 0), some (vR 70 0), some (vI i), l5, l6] [vI 0] (cM m9 x'.toInt64 rho) Q QX
    refine wp_istore (L' := [some (vR 74 0), some (vR 8 0), some (vR 9 0), some (vR 70 0), some (vI i), some (vI 0), l6]) dL_law_177 rfl rfl ?_
    refine wp_aload_n dL_law_179 rfl ?_
    refine wp_aload_n dL_law_180 rfl ?_
    refine wp_iload dL_law_181 rfl ?_
    refine wp_iconst (v := 1) dL_law_183 (by decide) ?_
    refine wp_iadd dL_law_184 ?_
    refine cp_sld (N := N) (xs := xs) rfl hb1 dL_law_185 ?_
    refine wp_aload_n dL_law_186 rfl ?_
    refine wp_iload dL_law_187 rfl ?_
    refine wp_iconst (v := 2) dL_law_189 (by decide) ?_
    refine wp_iadd dL_law_190 ?_
    refine cp_sld (N := N) (xs := xs) rfl hb2 dL_law_191 ?_
    refine wp_callV (k1 := 0) (k2 := k2) (As := [vI (xs (i + 1).toNatClampNeg), vI (xs (i + 2).toNatClampNeg)]) (rest := []) (w9_work (RA_fr hRA hFR) h9) okX9_work ivX9_work rfl (by decide) ml_L_103 dL_law_192 rfl (by decide) (Nat.le_of_eq (Nat.zero_add _)) rfl (Nat.le_of_ble_eq_true rfl) (fun _ _ z => z.elim) (fun r' S' z => ?_)
    obtain ⟨rfl, rfl⟩ := z
    show WP (mLaw N xs) 60 k2 195 [some (vR 74 0), some (vR 8 0), some (vR 9 0), some (vR 70 0), some (vI i), some (vI 0), l6] [vI b] (cM m9 x'.toInt64 rho9) Q QX
    refine wp_istore (L' := [some (vR 74 0), some (vR 8 0), some (vR 9 0), some (vR 70 0), some (vI i), some (vI 0), some (vI b)]) dL_law_195 rfl rfl ?_
    refine wp_aload_n dL_law_197 rfl ?_
    refine wp_callV (k1 := 0) (k2 := k2) (As := []) (rest := []) (w9_thrown (RA_fr hRA hFR) (r := rho9 64 0) (rho9 := rho9) rfl) okX9_thrown ivX9_thrown rfl (by decide) ml_L_104 dL_law_198 rfl (by decide) (Nat.le_of_eq (Nat.zero_add _)) rfl (Nat.le_of_ble_eq_true rfl) (fun _ _ z => z.elim) (fun r' S' z => ?_)
    obtain ⟨rfl, rfl⟩ := z
    show WP (mLaw N xs) 60 k2 201 [some (vR 74 0), some (vR 8 0), some (vR 9 0), some (vR 70 0), some (vI i), some (vI 0), some (vI b)] [vI (rho9 64 0)] (cM m9 x'.toInt64 rho9) Q QX
    refine wp_iload dL_law_201 rfl ?_
    refine wp_icmp_eq (tgt := 208) dL_law_203 (by decide) (fun _ => ?_) (fun z => absurd ht z)
    refine wp_iload dL_law_208 rfl ?_
    refine wp_if_ne (tgt := 225) dL_law_210 (by decide) (fun z => absurd rfl z) (fun _ => ?_)
    refine wp_aload_n dL_law_213 rfl ?_
    refine wp_iconst (v := 0) dL_law_214 (by decide) ?_
    refine cp_laload rfl dL_law_215 ?_
    refine wp_iload dL_law_216 rfl ?_
    refine wp_i2l dL_law_218 ?_
    refine wp_lcmp dL_law_219 ?_
    refine wp_if_eq (tgt := 225) dL_law_220 (by decide) (fun _ => ?_) (fun z => absurd (by have hv' : x'.toInt64 = b.toInt64 := hv; rw [hv']; exact lg_same _) z)
    refine wp_goto (tgt := 1823) dL_law_225 (by decide) ?_
    exact kk _ _ _
  · refine wp_aload_n dL_law_160 rfl ?_
    refine wp_aload_n dL_law_161 rfl ?_
    refine wp_iload dL_law_162 rfl ?_
    refine wp_iconst (v := 1) dL_law_164 (by decide) ?_
    refine wp_iadd dL_law_165 ?_
    refine cp_sld (N := N) (xs := xs) rfl hb1 dL_law_166 ?_
    refine wp_aload_n dL_law_167 rfl ?_
    refine wp_iload dL_law_168 rfl ?_
    refine wp_iconst (v := 2) dL_law_170 (by decide) ?_
    refine wp_iadd dL_law_171 ?_
    refine cp_sld (N := N) (xs := xs) rfl hb2 dL_law_172 ?_
    refine wp_aload_n dL_law_173 rfl ?_
    refine wp_callSW (k1 := n9) (k2 := k2) (As := [vR 8 0, vI (xs (i + 1).toNatClampNeg), vI (xs (i + 2).toNatClampNeg), vR 70 0]) (rest := []) (wL_work hr h8) okL_work sm_L_work rfl ml_L_98 dL_law_174 (by decide) (Nat.le_refl _) rfl (by decide) (fun r' S' z => ?_)
    rcases z with ⟨x', hx', -, -⟩ | ⟨j', hj', rfl, rfl⟩
    · rw [hj] at hx'; cases hx'
    have ej : j' = j := by rw [hj] at hj'; exact (Sum.inr.inj hj').symm
    subst ej
    show WP (mLaw N xs) 60 k2 177 [some (vR 74 0), some (vR 8 0), some (vR 9 0), some (vR 70 0), some (vI i), l5, l6] [vI ((fun j => if j = 0 then 1 else 2) j')] (cM m9 out rho) Q QX
    refine wp_istore (L' := [some (vR 74 0), some (vR 8 0), some (vR 9 0), some (vR 70 0), some (vI i), some (vI ((fun j => if j = 0 then 1 else 2) j')), l6]) dL_law_177 rfl rfl ?_
    refine wp_aload_n dL_law_179 rfl ?_
    refine wp_aload_n dL_law_180 rfl ?_
    refine wp_iload dL_law_181 rfl ?_
    refine wp_iconst (v := 1) dL_law_183 (by decide) ?_
    refine wp_iadd dL_law_184 ?_
    refine cp_sld (N := N) (xs := xs) rfl hb1 dL_law_185 ?_
    refine wp_aload_n dL_law_186 rfl ?_
    refine wp_iload dL_law_187 rfl ?_
    refine wp_iconst (v := 2) dL_law_189 (by decide) ?_
    refine wp_iadd dL_law_190 ?_
    refine cp_sld (N := N) (xs := xs) rfl hb2 dL_law_191 ?_
    refine wp_callV (k1 := 0) (k2 := k2) (As := [vI (xs (i + 1).toNatClampNeg), vI (xs (i + 2).toNatClampNeg)]) (rest := []) (w9_work (RA_fr hRA hFR) h9) okX9_work ivX9_work rfl (by decide) ml_L_103 dL_law_192 rfl (by decide) (Nat.le_of_eq (Nat.zero_add _)) rfl (Nat.le_of_ble_eq_true rfl) (fun _ _ z => z.elim) (fun r' S' z => ?_)
    obtain ⟨rfl, rfl⟩ := z
    show WP (mLaw N xs) 60 k2 195 [some (vR 74 0), some (vR 8 0), some (vR 9 0), some (vR 70 0), some (vI i), some (vI ((fun j => if j = 0 then 1 else 2) j')), l6] [vI b] (cM m9 out rho9) Q QX
    refine wp_istore (L' := [some (vR 74 0), some (vR 8 0), some (vR 9 0), some (vR 70 0), some (vI i), some (vI ((fun j => if j = 0 then 1 else 2) j')), some (vI b)]) dL_law_195 rfl rfl ?_
    refine wp_aload_n dL_law_197 rfl ?_
    refine wp_callV (k1 := 0) (k2 := k2) (As := []) (rest := []) (w9_thrown (RA_fr hRA hFR) (r := rho9 64 0) (rho9 := rho9) rfl) okX9_thrown ivX9_thrown rfl (by decide) ml_L_104 dL_law_198 rfl (by decide) (Nat.le_of_eq (Nat.zero_add _)) rfl (Nat.le_of_ble_eq_true rfl) (fun _ _ z => z.elim) (fun r' S' z => ?_)
    obtain ⟨rfl, rfl⟩ := z
    show WP (mLaw N xs) 60 k2 201 [some (vR 74 0), some (vR 8 0), some (vR 9 0), some (vR 70 0), some (vI i), some (vI ((fun j => if j = 0 then 1 else 2) j')), some (vI b)] [vI (rho9 64 0)] (cM m9 out rho9) Q QX
    refine wp_iload dL_law_201 rfl ?_
    refine wp_icmp_eq (tgt := 208) dL_law_203 (by decide) (fun _ => ?_) (fun z => absurd ht z)
    refine wp_iload dL_law_208 rfl ?_
    refine wp_if_ne (tgt := 225) dL_law_210 (by decide) (fun _ => ?_) (fun z => absurd z hn)
    refine wp_goto (tgt := 1823) dL_law_225 (by decide) ?_
    exact kk _ _ _
theorem law_c1 {r : Int32 ⊕ Nat} (hr : ∀ j, r = .inr j → j = 0 ∨ j = 1 ∨ j = 2) (h8 : f8_X8_step 0 (xs (i + 1).toNatClampNeg) (xs (i + 2).toNatClampNeg) (if (xs (i + 3).toNatClampNeg) = 0 then 0 else 1) (xs (i + 4).toNatClampNeg) m = some (r, m9, n9)) (h9 : f9_step (xs (i + 1).toNatClampNeg) (xs (i + 2).toNatClampNeg) (if (xs (i + 3).toNatClampNeg) = 0 then 0 else 1) (xs (i + 4).toNatClampNeg) rho = some (b, rho9)) (hag : AG r (fun x => x.toInt64) (fun j => if j = 0 then 1 else if j = 1 then 2 else 3) b.toInt64 (rho9 64 0)) (hb1 : vp_in (i + 1) N) (hb2 : vp_in (i + 2) N) (hb3 : vp_in (i + 3) N) (hb4 : vp_in (i + 4) N) (hRA : RA m.2.1) (hFR : FR m m9) (kk : ∀ (out' : Int64) (l5 l6 : Option sV), WP (mLaw N xs) 60 k2 1823 [some (vR 74 0), some (vR 8 0), some (vR 9 0), some (vR 70 0), some (vI i), l5, l6] [] (cM m9 out' rho9) Q QX) : WP (mLaw N xs) 60 (n9 + k2) 228 [some (vR 74 0), some (vR 8 0), some (vR 9 0), some (vR 70 0), some (vI i), l5, l6] [] (cM m out rho) Q QX := by
  by_cases cz : (xs (i + 3).toNatClampNeg) = 0
  · rw [if_pos cz] at h8 h9
    rcases hag with ⟨x, hx, ht, hv⟩ | ⟨j, hj, ht, hn⟩
    · refine wp_aload_n dL_law_228 rfl ?_
      refine wp_aload_n dL_law_229 rfl ?_
      refine wp_iload dL_law_230 rfl ?_
      refine wp_iconst (v := 1) dL_law_232 (by decide) ?_
      refine wp_iadd dL_law_233 ?_
      refine cp_sld (N := N) (xs := xs) rfl hb1 dL_law_234 ?_
      refine wp_aload_n dL_law_235 rfl ?_
      refine wp_iload dL_law_236 rfl ?_
      refine wp_iconst (v := 2) dL_law_238 (by decide) ?_
      refine wp_iadd dL_law_239 ?_
      refine cp_sld (N := N) (xs := xs) rfl hb2 dL_law_240 ?_
      refine wp_aload_n dL_law_241 rfl ?_
      refine wp_iload dL_law_242 rfl ?_
      refine wp_iconst (v := 3) dL_law_244 (by decide) ?_
      refine wp_iadd dL_law_245 ?_
      refine cp_sld (N := N) (xs := xs) rfl hb3 dL_law_246 ?_
      refine wp_if_eq (tgt := 254) dL_law_247 (by decide) (fun _ => ?_) (fun z => absurd cz z)
      refine wp_iconst (v := 0) dL_law_254 (by decide) ?_
      refine wp_aload_n dL_law_255 rfl ?_
      refine wp_iload dL_law_256 rfl ?_
      refine wp_iconst (v := 4) dL_law_258 (by decide) ?_
      refine wp_iadd dL_law_259 ?_
      refine cp_sld (N := N) (xs := xs) rfl hb4 dL_law_260 ?_
      refine wp_aload_n dL_law_261 rfl ?_
      refine wp_callSW (k1 := n9) (k2 := k2) (As := [vR 8 0, vI (xs (i + 1).toNatClampNeg), vI (xs (i + 2).toNatClampNeg), vI 0, vI (xs (i + 4).toNatClampNeg), vR 70 0]) (rest := []) (wL_step hr h8) okL_step sm_L_step rfl ml_L_108 dL_law_262 (by decide) (Nat.le_refl _) rfl (by decide) (fun r' S' z => ?_)
      rcases z with ⟨x', hx', rfl, rfl⟩ | ⟨j', hj', -, -⟩
      rotate_left
      · rw [hx] at hj'; cases hj'
      have ex : x' = x := by rw [hx] at hx'; exact (Sum.inl.inj hx').symm
      subst ex
      show WP (mLaw N xs) 60 k2 265 [some (vR 74 0), some (vR 8 0), some (vR 9 0), some (vR 70 0), some (vI i), l5, l6] [vI 0] (cM m9 x'.toInt64 rho) Q QX
      refine wp_istore (L' := [some (vR 74 0), some (vR 8 0), some (vR 9 0), some (vR 70 0), some (vI i), some (vI 0), l6]) dL_law_265 rfl rfl ?_
      refine wp_aload_n dL_law_267 rfl ?_
      refine wp_aload_n dL_law_268 rfl ?_
      refine wp_iload dL_law_269 rfl ?_
      refine wp_iconst (v := 1) dL_law_271 (by decide) ?_
      refine wp_iadd dL_law_272 ?_
      refine cp_sld (N := N) (xs := xs) rfl hb1 dL_law_273 ?_
      refine wp_aload_n dL_law_274 rfl ?_
      refine wp_iload dL_law_275 rfl ?_
      refine wp_iconst (v := 2) dL_law_277 (by decide) ?_
      refine wp_iadd dL_law_278 ?_
      refine cp_sld (N := N) (xs := xs) rfl hb2 dL_law_279 ?_
      refine wp_aload_n dL_law_280 rfl ?_
      refine wp_iload dL_law_281 rfl ?_
      refine wp_iconst (v := 3) dL_law_283 (by decide) ?_
      refine wp_iadd dL_law_284 ?_
      refine cp_sld (N := N) (xs := xs) rfl hb3 dL_law_285 ?_
      refine wp_if_eq (tgt := 293) dL_law_286 (by decide) (fun _ => ?_) (fun z => absurd cz z)
      refine wp_iconst (v := 0) dL_law_293 (by decide) ?_
      refine wp_aload_n dL_law_294 rfl ?_
      refine wp_iload dL_law_295 rfl ?_
      refine wp_iconst (v := 4) dL_law_297 (by decide) ?_
      refine wp_iadd dL_law_298 ?_
      refine cp_sld (N := N) (xs := xs) rfl hb4 dL_law_299 ?_
      refine wp_callV (k1 := 0) (k2 := k2) (As := [vI (xs (i + 1).toNatClampNeg), vI (xs (i + 2).toNatClampNeg), vI 0, vI (xs (i + 4).toNatClampNeg)]) (rest := []) (w9_step (RA_fr hRA hFR) h9) okX9_step ivX9_step rfl (by decide) ml_L_111 dL_law_300 rfl (by decide) (Nat.le_of_eq (Nat.zero_add _)) rfl (Nat.le_of_ble_eq_true rfl) (fun _ _ z => z.elim) (fun r' S' z => ?_)
      obtain ⟨rfl, rfl⟩ := z
      show WP (mLaw N xs) 60 k2 303 [some (vR 74 0), some (vR 8 0), some (vR 9 0), some (vR 70 0), some (vI i), some (vI 0), l6] [vI b] (cM m9 x'.toInt64 rho9) Q QX
      refine wp_istore (L' := [some (vR 74 0), some (vR 8 0), some (vR 9 0), some (vR 70 0), some (vI i), some (vI 0), some (vI b)]) dL_law_303 rfl rfl ?_
      refine wp_aload_n dL_law_305 rfl ?_
      refine wp_callV (k1 := 0) (k2 := k2) (As := []) (rest := []) (w9_thrown (RA_fr hRA hFR) (r := rho9 64 0) (rho9 := rho9) rfl) okX9_thrown ivX9_thrown rfl (by decide) ml_L_104 dL_law_306 rfl (by decide) (Nat.le_of_eq (Nat.zero_add _)) rfl (Nat.le_of_ble_eq_true rfl) (fun _ _ z => z.elim) (fun r' S' z => ?_)
      obtain ⟨rfl, rfl⟩ := z
      show WP (mLaw N xs) 60 k2 309 [some (vR 74 0), some (vR 8 0), some (vR 9 0), some (vR 70 0), some (vI i), some (vI 0), some (vI b)] [vI (rho9 64 0)] (cM m9 x'.toInt64 rho9) Q QX
      refine wp_iload dL_law_309 rfl ?_
      refine wp_icmp_eq (tgt := 316) dL_law_311 (by decide) (fun _ => ?_) (fun z => absurd ht z)
      refine wp_iload dL_law_316 rfl ?_
      refine wp_if_ne (tgt := 333) dL_law_318 (by decide) (fun z => absurd rfl z) (fun _ => ?_)
      refine wp_aload_n dL_law_321 rfl ?_
      refine wp_iconst (v := 0) dL_law_322 (by decide) ?_
      refine cp_laload rfl dL_law_323 ?_
      refine wp_iload dL_law_324 rfl ?_
      refine wp_i2l dL_law_326 ?_
      refine wp_lcmp dL_law_327 ?_
      refine wp_if_eq (tgt := 333) dL_law_328 (by decide) (fun _ => ?_) (fun z => absurd (by have hv' : x'.toInt64 = b.toInt64 := hv; rw [hv']; exact lg_same _) z)
      refine wp_goto (tgt := 1823) dL_law_333 (by decide) ?_
      exact kk _ _ _
    · refine wp_aload_n dL_law_228 rfl ?_
      refine wp_aload_n dL_law_229 rfl ?_
      refine wp_iload dL_law_230 rfl ?_
      refine wp_iconst (v := 1) dL_law_232 (by decide) ?_
      refine wp_iadd dL_law_233 ?_
      refine cp_sld (N := N) (xs := xs) rfl hb1 dL_law_234 ?_
      refine wp_aload_n dL_law_235 rfl ?_
      refine wp_iload dL_law_236 rfl ?_
      refine wp_iconst (v := 2) dL_law_238 (by decide) ?_
      refine wp_iadd dL_law_239 ?_
      refine cp_sld (N := N) (xs := xs) rfl hb2 dL_law_240 ?_
      refine wp_aload_n dL_law_241 rfl ?_
      refine wp_iload dL_law_242 rfl ?_
      refine wp_iconst (v := 3) dL_law_244 (by decide) ?_
      refine wp_iadd dL_law_245 ?_
      refine cp_sld (N := N) (xs := xs) rfl hb3 dL_law_246 ?_
      refine wp_if_eq (tgt := 254) dL_law_247 (by decide) (fun _ => ?_) (fun z => absurd cz z)
      refine wp_iconst (v := 0) dL_law_254 (by decide) ?_
      refine wp_aload_n dL_law_255 rfl ?_
      refine wp_iload dL_law_256 rfl ?_
      refine wp_iconst (v := 4) dL_law_258 (by decide) ?_
      refine wp_iadd dL_law_259 ?_
      refine cp_sld (N := N) (xs := xs) rfl hb4 dL_law_260 ?_
      refine wp_aload_n dL_law_261 rfl ?_
      refine wp_callSW (k1 := n9) (k2 := k2) (As := [vR 8 0, vI (xs (i + 1).toNatClampNeg), vI (xs (i + 2).toNatClampNeg), vI 0, vI (xs (i + 4).toNatClampNeg), vR 70 0]) (rest := []) (wL_step hr h8) okL_step sm_L_step rfl ml_L_108 dL_law_262 (by decide) (Nat.le_refl _) rfl (by decide) (fun r' S' z => ?_)
      rcases z with ⟨x', hx', -, -⟩ | ⟨j', hj', rfl, rfl⟩
      · rw [hj] at hx'; cases hx'
      have ej : j' = j := by rw [hj] at hj'; exact (Sum.inr.inj hj').symm
      subst ej
      show WP (mLaw N xs) 60 k2 265 [some (vR 74 0), some (vR 8 0), some (vR 9 0), some (vR 70 0), some (vI i), l5, l6] [vI ((fun j => if j = 0 then 1 else if j = 1 then 2 else 3) j')] (cM m9 out rho) Q QX
      refine wp_istore (L' := [some (vR 74 0), some (vR 8 0), some (vR 9 0), some (vR 70 0), some (vI i), some (vI ((fun j => if j = 0 then 1 else if j = 1 then 2 else 3) j')), l6]) dL_law_265 rfl rfl ?_
      refine wp_aload_n dL_law_267 rfl ?_
      refine wp_aload_n dL_law_268 rfl ?_
      refine wp_iload dL_law_269 rfl ?_
      refine wp_iconst (v := 1) dL_law_271 (by decide) ?_
      refine wp_iadd dL_law_272 ?_
      refine cp_sld (N := N) (xs := xs) rfl hb1 dL_law_273 ?_
      refine wp_aload_n dL_law_274 rfl ?_
      refine wp_iload dL_law_275 rfl ?_
      refine wp_iconst (v := 2) dL_law_277 (by decide) ?_
      refine wp_iadd dL_law_278 ?_
      refine cp_sld (N := N) (xs := xs) rfl hb2 dL_law_279 ?_
      refine wp_aload_n dL_law_280 rfl ?_
      refine wp_iload dL_law_281 rfl ?_
      refine wp_iconst (v := 3) dL_law_283 (by decide) ?_
      refine wp_iadd dL_law_284 ?_
      refine cp_sld (N := N) (xs := xs) rfl hb3 dL_law_285 ?_
      refine wp_if_eq (tgt := 293) dL_law_286 (by decide) (fun _ => ?_) (fun z => absurd cz z)
      refine wp_iconst (v := 0) dL_law_293 (by decide) ?_
      refine wp_aload_n dL_law_294 rfl ?_
      refine wp_iload dL_law_295 rfl ?_
      refine wp_iconst (v := 4) dL_law_297 (by decide) ?_
      refine wp_iadd dL_law_298 ?_
      refine cp_sld (N := N) (xs := xs) rfl hb4 dL_law_299 ?_
      refine wp_callV (k1 := 0) (k2 := k2) (As := [vI (xs (i + 1).toNatClampNeg), vI (xs (i + 2).toNatClampNeg), vI 0, vI (xs (i + 4).toNatClampNeg)]) (rest := []) (w9_step (RA_fr hRA hFR) h9) okX9_step ivX9_step rfl (by decide) ml_L_111 dL_law_300 rfl (by decide) (Nat.le_of_eq (Nat.zero_add _)) rfl (Nat.le_of_ble_eq_true rfl) (fun _ _ z => z.elim) (fun r' S' z => ?_)
      obtain ⟨rfl, rfl⟩ := z
      show WP (mLaw N xs) 60 k2 303 [some (vR 74 0), some (vR 8 0), some (vR 9 0), some (vR 70 0), some (vI i), some (vI ((fun j => if j = 0 then 1 else if j = 1 then 2 else 3) j')), l6] [vI b] (cM m9 out rho9) Q QX
      refine wp_istore (L' := [some (vR 74 0), some (vR 8 0), some (vR 9 0), some (vR 70 0), some (vI i), some (vI ((fun j => if j = 0 then 1 else if j = 1 then 2 else 3) j')), some (vI b)]) dL_law_303 rfl rfl ?_
      refine wp_aload_n dL_law_305 rfl ?_
      refine wp_callV (k1 := 0) (k2 := k2) (As := []) (rest := []) (w9_thrown (RA_fr hRA hFR) (r := rho9 64 0) (rho9 := rho9) rfl) okX9_thrown ivX9_thrown rfl (by decide) ml_L_104 dL_law_306 rfl (by decide) (Nat.le_of_eq (Nat.zero_add _)) rfl (Nat.le_of_ble_eq_true rfl) (fun _ _ z => z.elim) (fun r' S' z => ?_)
      obtain ⟨rfl, rfl⟩ := z
      show WP (mLaw N xs) 60 k2 309 [some (vR 74 0), some (vR 8 0), some (vR 9 0), some (vR 70 0), some (vI i), some (vI ((fun j => if j = 0 then 1 else if j = 1 then 2 else 3) j')), some (vI b)] [vI (rho9 64 0)] (cM m9 out rho9) Q QX
      refine wp_iload dL_law_309 rfl ?_
      refine wp_icmp_eq (tgt := 316) dL_law_311 (by decide) (fun _ => ?_) (fun z => absurd ht z)
      refine wp_iload dL_law_316 rfl ?_
      refine wp_if_ne (tgt := 333) dL_law_318 (by decide) (fun _ => ?_) (fun z => absurd z hn)
      refine wp_goto (tgt := 1823) dL_law_333 (by decide) ?_
      exact kk _ _ _
  · rw [if_neg cz] at h8 h9
    rcases hag with ⟨x, hx, ht, hv⟩ | ⟨j, hj, ht, hn⟩
    · refine wp_aload_n dL_law_228 rfl ?_
      refine wp_aload_n dL_law_229 rfl ?_
      refine wp_iload dL_law_230 rfl ?_
      refine wp_iconst (v := 1) dL_law_232 (by decide) ?_
      refine wp_iadd dL_law_233 ?_
      refine cp_sld (N := N) (xs := xs) rfl hb1 dL_law_234 ?_
      refine wp_aload_n dL_law_235 rfl ?_
      refine wp_iload dL_law_236 rfl ?_
      refine wp_iconst (v := 2) dL_law_238 (by decide) ?_
      refine wp_iadd dL_law_239 ?_
      refine cp_sld (N := N) (xs := xs) rfl hb2 dL_law_240 ?_
      refine wp_aload_n dL_law_241 rfl ?_
      refine wp_iload dL_law_242 rfl ?_
      refine wp_iconst (v := 3) dL_law_244 (by decide) ?_
      refine wp_iadd dL_law_245 ?_
      refine cp_sld (N := N) (xs := xs) rfl hb3 dL_law_246 ?_
      refine wp_if_eq (tgt := 254) dL_law_247 (by decide) (fun z => absurd z cz) (fun _ => ?_)
      refine wp_iconst (v := 1) dL_law_250 (by decide) ?_
      refine wp_goto (tgt := 255) dL_law_251 (by decide) ?_
      refine wp_aload_n dL_law_255 rfl ?_
      refine wp_iload dL_law_256 rfl ?_
      refine wp_iconst (v := 4) dL_law_258 (by decide) ?_
      refine wp_iadd dL_law_259 ?_
      refine cp_sld (N := N) (xs := xs) rfl hb4 dL_law_260 ?_
      refine wp_aload_n dL_law_261 rfl ?_
      refine wp_callSW (k1 := n9) (k2 := k2) (As := [vR 8 0, vI (xs (i + 1).toNatClampNeg), vI (xs (i + 2).toNatClampNeg), vI 1, vI (xs (i + 4).toNatClampNeg), vR 70 0]) (rest := []) (wL_step hr h8) okL_step sm_L_step rfl ml_L_108 dL_law_262 (by decide) (Nat.le_refl _) rfl (by decide) (fun r' S' z => ?_)
      rcases z with ⟨x', hx', rfl, rfl⟩ | ⟨j', hj', -, -⟩
      rotate_left
      · rw [hx] at hj'; cases hj'
      have ex : x' = x := by rw [hx] at hx'; exact (Sum.inl.inj hx').symm
      subst ex
      show WP (mLaw N xs) 60 k2 265 [some (vR 74 0), some (vR 8 0), some (vR 9 0), some (vR 70 0), some (vI i), l5, l6] [vI 0] (cM m9 x'.toInt64 rho) Q QX
      refine wp_istore (L' := [some (vR 74 0), some (vR 8 0), some (vR 9 0), some (vR 70 0), some (vI i), some (vI 0), l6]) dL_law_265 rfl rfl ?_
      refine wp_aload_n dL_law_267 rfl ?_
      refine wp_aload_n dL_law_268 rfl ?_
      refine wp_iload dL_law_269 rfl ?_
      refine wp_iconst (v := 1) dL_law_271 (by decide) ?_
      refine wp_iadd dL_law_272 ?_
      refine cp_sld (N := N) (xs := xs) rfl hb1 dL_law_273 ?_
      refine wp_aload_n dL_law_274 rfl ?_
      refine wp_iload dL_law_275 rfl ?_
      refine wp_iconst (v := 2) dL_law_277 (by decide) ?_
      refine wp_iadd dL_law_278 ?_
      refine cp_sld (N := N) (xs := xs) rfl hb2 dL_law_279 ?_
      refine wp_aload_n dL_law_280 rfl ?_
      refine wp_iload dL_law_281 rfl ?_
      refine wp_iconst (v := 3) dL_law_283 (by decide) ?_
      refine wp_iadd dL_law_284 ?_
      refine cp_sld (N := N) (xs := xs) rfl hb3 dL_law_285 ?_
      refine wp_if_eq (tgt := 293) dL_law_286 (by decide) (fun z => absurd z cz) (fun _ => ?_)
      refine wp_iconst (v := 1) dL_law_289 (by decide) ?_
      refine wp_goto (tgt := 294) dL_law_290 (by decide) ?_
      refine wp_aload_n dL_law_294 rfl ?_
      refine wp_iload dL_law_295 rfl ?_
      refine wp_iconst (v := 4) dL_law_297 (by decide) ?_
      refine wp_iadd dL_law_298 ?_
      refine cp_sld (N := N) (xs := xs) rfl hb4 dL_law_299 ?_
      refine wp_callV (k1 := 0) (k2 := k2) (As := [vI (xs (i + 1).toNatClampNeg), vI (xs (i + 2).toNatClampNeg), vI 1, vI (xs (i + 4).toNatClampNeg)]) (rest := []) (w9_step (RA_fr hRA hFR) h9) okX9_step ivX9_step rfl (by decide) ml_L_111 dL_law_300 rfl (by decide) (Nat.le_of_eq (Nat.zero_add _)) rfl (Nat.le_of_ble_eq_true rfl) (fun _ _ z => z.elim) (fun r' S' z => ?_)
      obtain ⟨rfl, rfl⟩ := z
      show WP (mLaw N xs) 60 k2 303 [some (vR 74 0), some (vR 8 0), some (vR 9 0), some (vR 70 0), some (vI i), some (vI 0), l6] [vI b] (cM m9 x'.toInt64 rho9) Q QX
      refine wp_istore (L' := [some (vR 74 0), some (vR 8 0), some (vR 9 0), some (vR 70 0), some (vI i), some (vI 0), some (vI b)]) dL_law_303 rfl rfl ?_
      refine wp_aload_n dL_law_305 rfl ?_
      refine wp_callV (k1 := 0) (k2 := k2) (As := []) (rest := []) (w9_thrown (RA_fr hRA hFR) (r := rho9 64 0) (rho9 := rho9) rfl) okX9_thrown ivX9_thrown rfl (by decide) ml_L_104 dL_law_306 rfl (by decide) (Nat.le_of_eq (Nat.zero_add _)) rfl (Nat.le_of_ble_eq_true rfl) (fun _ _ z => z.elim) (fun r' S' z => ?_)
      obtain ⟨rfl, rfl⟩ := z
      show WP (mLaw N xs) 60 k2 309 [some (vR 74 0), some (vR 8 0), some (vR 9 0), some (vR 70 0), some (vI i), some (vI 0), some (vI b)] [vI (rho9 64 0)] (cM m9 x'.toInt64 rho9) Q QX
      refine wp_iload dL_law_309 rfl ?_
      refine wp_icmp_eq (tgt := 316) dL_law_311 (by decide) (fun _ => ?_) (fun z => absurd ht z)
      refine wp_iload dL_law_316 rfl ?_
      refine wp_if_ne (tgt := 333) dL_law_318 (by decide) (fun z => absurd rfl z) (fun _ => ?_)
      refine wp_aload_n dL_law_321 rfl ?_
      refine wp_iconst (v := 0) dL_law_322 (by decide) ?_
      refine cp_laload rfl dL_law_323 ?_
      refine wp_iload dL_law_324 rfl ?_
      refine wp_i2l dL_law_326 ?_
      refine wp_lcmp dL_law_327 ?_
      refine wp_if_eq (tgt := 333) dL_law_328 (by decide) (fun _ => ?_) (fun z => absurd (by have hv' : x'.toInt64 = b.toInt64 := hv; rw [hv']; exact lg_same _) z)
      refine wp_goto (tgt := 1823) dL_law_333 (by decide) ?_
      exact kk _ _ _
    · refine wp_aload_n dL_law_228 rfl ?_
      refine wp_aload_n dL_law_229 rfl ?_
      refine wp_iload dL_law_230 rfl ?_
      refine wp_iconst (v := 1) dL_law_232 (by decide) ?_
      refine wp_iadd dL_law_233 ?_
      refine cp_sld (N := N) (xs := xs) rfl hb1 dL_law_234 ?_
      refine wp_aload_n dL_law_235 rfl ?_
      refine wp_iload dL_law_236 rfl ?_
      refine wp_iconst (v := 2) dL_law_238 (by decide) ?_
      refine wp_iadd dL_law_239 ?_
      refine cp_sld (N := N) (xs := xs) rfl hb2 dL_law_240 ?_
      refine wp_aload_n dL_law_241 rfl ?_
      refine wp_iload dL_law_242 rfl ?_
      refine wp_iconst (v := 3) dL_law_244 (by decide) ?_
      refine wp_iadd dL_law_245 ?_
      refine cp_sld (N := N) (xs := xs) rfl hb3 dL_law_246 ?_
      refine wp_if_eq (tgt := 254) dL_law_247 (by decide) (fun z => absurd z cz) (fun _ => ?_)
      refine wp_iconst (v := 1) dL_law_250 (by decide) ?_
      refine wp_goto (tgt := 255) dL_law_251 (by decide) ?_
      refine wp_aload_n dL_law_255 rfl ?_
      refine wp_iload dL_law_256 rfl ?_
      refine wp_iconst (v := 4) dL_law_258 (by decide) ?_
      refine wp_iadd dL_law_259 ?_
      refine cp_sld (N := N) (xs := xs) rfl hb4 dL_law_260 ?_
      refine wp_aload_n dL_law_261 rfl ?_
      refine wp_callSW (k1 := n9) (k2 := k2) (As := [vR 8 0, vI (xs (i + 1).toNatClampNeg), vI (xs (i + 2).toNatClampNeg), vI 1, vI (xs (i + 4).toNatClampNeg), vR 70 0]) (rest := []) (wL_step hr h8) okL_step sm_L_step rfl ml_L_108 dL_law_262 (by decide) (Nat.le_refl _) rfl (by decide) (fun r' S' z => ?_)
      rcases z with ⟨x', hx', -, -⟩ | ⟨j', hj', rfl, rfl⟩
      · rw [hj] at hx'; cases hx'
      have ej : j' = j := by rw [hj] at hj'; exact (Sum.inr.inj hj').symm
      subst ej
      show WP (mLaw N xs) 60 k2 265 [some (vR 74 0), some (vR 8 0), some (vR 9 0), some (vR 70 0), some (vI i), l5, l6] [vI ((fun j => if j = 0 then 1 else if j = 1 then 2 else 3) j')] (cM m9 out rho) Q QX
      refine wp_istore (L' := [some (vR 74 0), some (vR 8 0), some (vR 9 0), some (vR 70 0), some (vI i), some (vI ((fun j => if j = 0 then 1 else if j = 1 then 2 else 3) j')), l6]) dL_law_265 rfl rfl ?_
      refine wp_aload_n dL_law_267 rfl ?_
      refine wp_aload_n dL_law_268 rfl ?_
      refine wp_iload dL_law_269 rfl ?_
      refine wp_iconst (v := 1) dL_law_271 (by decide) ?_
      refine wp_iadd dL_law_272 ?_
      refine cp_sld (N := N) (xs := xs) rfl hb1 dL_law_273 ?_
      refine wp_aload_n dL_law_274 rfl ?_
      refine wp_iload dL_law_275 rfl ?_
      refine wp_iconst (v := 2) dL_law_277 (by decide) ?_
      refine wp_iadd dL_law_278 ?_
      refine cp_sld (N := N) (xs := xs) rfl hb2 dL_law_279 ?_
      refine wp_aload_n dL_law_280 rfl ?_
      refine wp_iload dL_law_281 rfl ?_
      refine wp_iconst (v := 3) dL_law_283 (by decide) ?_
      refine wp_iadd dL_law_284 ?_
      refine cp_sld (N := N) (xs := xs) rfl hb3 dL_law_285 ?_
      refine wp_if_eq (tgt := 293) dL_law_286 (by decide) (fun z => absurd z cz) (fun _ => ?_)
      refine wp_iconst (v := 1) dL_law_289 (by decide) ?_
      refine wp_goto (tgt := 294) dL_law_290 (by decide) ?_
      refine wp_aload_n dL_law_294 rfl ?_
      refine wp_iload dL_law_295 rfl ?_
      refine wp_iconst (v := 4) dL_law_297 (by decide) ?_
      refine wp_iadd dL_law_298 ?_
      refine cp_sld (N := N) (xs := xs) rfl hb4 dL_law_299 ?_
      refine wp_callV (k1 := 0) (k2 := k2) (As := [vI (xs (i + 1).toNatClampNeg), vI (xs (i + 2).toNatClampNeg), vI 1, vI (xs (i + 4).toNatClampNeg)]) (rest := []) (w9_step (RA_fr hRA hFR) h9) okX9_step ivX9_step rfl (by decide) ml_L_111 dL_law_300 rfl (by decide) (Nat.le_of_eq (Nat.zero_add _)) rfl (Nat.le_of_ble_eq_true rfl) (fun _ _ z => z.elim) (fun r' S' z => ?_)
      obtain ⟨rfl, rfl⟩ := z
      show WP (mLaw N xs) 60 k2 303 [some (vR 74 0), some (vR 8 0), some (vR 9 0), some (vR 70 0), some (vI i), some (vI ((fun j => if j = 0 then 1 else if j = 1 then 2 else 3) j')), l6] [vI b] (cM m9 out rho9) Q QX
      refine wp_istore (L' := [some (vR 74 0), some (vR 8 0), some (vR 9 0), some (vR 70 0), some (vI i), some (vI ((fun j => if j = 0 then 1 else if j = 1 then 2 else 3) j')), some (vI b)]) dL_law_303 rfl rfl ?_
      refine wp_aload_n dL_law_305 rfl ?_
      refine wp_callV (k1 := 0) (k2 := k2) (As := []) (rest := []) (w9_thrown (RA_fr hRA hFR) (r := rho9 64 0) (rho9 := rho9) rfl) okX9_thrown ivX9_thrown rfl (by decide) ml_L_104 dL_law_306 rfl (by decide) (Nat.le_of_eq (Nat.zero_add _)) rfl (Nat.le_of_ble_eq_true rfl) (fun _ _ z => z.elim) (fun r' S' z => ?_)
      obtain ⟨rfl, rfl⟩ := z
      show WP (mLaw N xs) 60 k2 309 [some (vR 74 0), some (vR 8 0), some (vR 9 0), some (vR 70 0), some (vI i), some (vI ((fun j => if j = 0 then 1 else if j = 1 then 2 else 3) j')), some (vI b)] [vI (rho9 64 0)] (cM m9 out rho9) Q QX
      refine wp_iload dL_law_309 rfl ?_
      refine wp_icmp_eq (tgt := 316) dL_law_311 (by decide) (fun _ => ?_) (fun z => absurd ht z)
      refine wp_iload dL_law_316 rfl ?_
      refine wp_if_ne (tgt := 333) dL_law_318 (by decide) (fun _ => ?_) (fun z => absurd z hn)
      refine wp_goto (tgt := 1823) dL_law_333 (by decide) ?_
      exact kk _ _ _
theorem law_c2 {r : Int32 ⊕ Nat} (hr : ∀ j, r = .inr j → j = 0 ∨ j = 1 ∨ j = 2) (h8 : f8_X8_instance 0 (xs (i + 1).toNatClampNeg) (xs (i + 2).toNatClampNeg) (xs (i + 3).toNatClampNeg) (xs (i + 4).toNatClampNeg) (xs (i + 5).toNatClampNeg) (xs (i + 6).toNatClampNeg) m = some (r, m9, n9)) (h9 : f9_instance (xs (i + 1).toNatClampNeg) (xs (i + 2).toNatClampNeg) (xs (i + 3).toNatClampNeg) (xs (i + 4).toNatClampNeg) (xs (i + 5).toNatClampNeg) (xs (i + 6).toNatClampNeg) rho = some (b, rho9)) (hag : AG r (fun x => x.toInt64) (fun j => if j = 0 then 1 else if j = 1 then 2 else 3) b.toInt64 (rho9 64 0)) (hb1 : vp_in (i + 1) N) (hb2 : vp_in (i + 2) N) (hb3 : vp_in (i + 3) N) (hb4 : vp_in (i + 4) N) (hb5 : vp_in (i + 5) N) (hb6 : vp_in (i + 6) N) (hRA : RA m.2.1) (hFR : FR m m9) (kk : ∀ (out' : Int64) (l5 l6 : Option sV), WP (mLaw N xs) 60 k2 1823 [some (vR 74 0), some (vR 8 0), some (vR 9 0), some (vR 70 0), some (vI i), l5, l6] [] (cM m9 out' rho9) Q QX) : WP (mLaw N xs) 60 (n9 + k2) 336 [some (vR 74 0), some (vR 8 0), some (vR 9 0), some (vR 70 0), some (vI i), l5, l6] [] (cM m out rho) Q QX := by
  rcases hag with ⟨x, hx, ht, hv⟩ | ⟨j, hj, ht, hn⟩
  · refine wp_aload_n dL_law_336 rfl ?_
    refine wp_aload_n dL_law_337 rfl ?_
    refine wp_iload dL_law_338 rfl ?_
    refine wp_iconst (v := 1) dL_law_340 (by decide) ?_
    refine wp_iadd dL_law_341 ?_
    refine cp_sld (N := N) (xs := xs) rfl hb1 dL_law_342 ?_
    refine wp_aload_n dL_law_343 rfl ?_
    refine wp_iload dL_law_344 rfl ?_
    refine wp_iconst (v := 2) dL_law_346 (by decide) ?_
    refine wp_iadd dL_law_347 ?_
    refine cp_sld (N := N) (xs := xs) rfl hb2 dL_law_348 ?_
    refine wp_aload_n dL_law_349 rfl ?_
    refine wp_iload dL_law_350 rfl ?_
    refine wp_iconst (v := 3) dL_law_352 (by decide) ?_
    refine wp_iadd dL_law_353 ?_
    refine cp_sld (N := N) (xs := xs) rfl hb3 dL_law_354 ?_
    refine wp_aload_n dL_law_355 rfl ?_
    refine wp_iload dL_law_356 rfl ?_
    refine wp_iconst (v := 4) dL_law_358 (by decide) ?_
    refine wp_iadd dL_law_359 ?_
    refine cp_sld (N := N) (xs := xs) rfl hb4 dL_law_360 ?_
    refine wp_aload_n dL_law_361 rfl ?_
    refine wp_iload dL_law_362 rfl ?_
    refine wp_iconst (v := 5) dL_law_364 (by decide) ?_
    refine wp_iadd dL_law_365 ?_
    refine cp_sld (N := N) (xs := xs) rfl hb5 dL_law_366 ?_
    refine wp_aload_n dL_law_367 rfl ?_
    refine wp_iload dL_law_368 rfl ?_
    refine wp_bipush (v := 6) dL_law_370 (by decide) ?_
    refine wp_iadd dL_law_372 ?_
    refine cp_sld (N := N) (xs := xs) rfl hb6 dL_law_373 ?_
    refine wp_aload_n dL_law_374 rfl ?_
    refine wp_callSW (k1 := n9) (k2 := k2) (As := [vR 8 0, vI (xs (i + 1).toNatClampNeg), vI (xs (i + 2).toNatClampNeg), vI (xs (i + 3).toNatClampNeg), vI (xs (i + 4).toNatClampNeg), vI (xs (i + 5).toNatClampNeg), vI (xs (i + 6).toNatClampNeg), vR 70 0]) (rest := []) (wL_instance hr h8) okL_instance sm_L_instance rfl ml_L_112 dL_law_375 (by decide) (Nat.le_refl _) rfl (by decide) (fun r' S' z => ?_)
    rcases z with ⟨x', hx', rfl, rfl⟩ | ⟨j', hj', -, -⟩
    rotate_left
    · rw [hx] at hj'; cases hj'
    have ex : x' = x := by rw [hx] at hx'; exact (Sum.inl.inj hx').symm
    subst ex
    show WP (mLaw N xs) 60 k2 378 [some (vR 74 0), some (vR 8 0), some (vR 9 0), some (vR 70 0), some (vI i), l5, l6] [vI 0] (cM m9 x'.toInt64 rho) Q QX
    refine wp_istore (L' := [some (vR 74 0), some (vR 8 0), some (vR 9 0), some (vR 70 0), some (vI i), some (vI 0), l6]) dL_law_378 rfl rfl ?_
    refine wp_aload_n dL_law_380 rfl ?_
    refine wp_aload_n dL_law_381 rfl ?_
    refine wp_iload dL_law_382 rfl ?_
    refine wp_iconst (v := 1) dL_law_384 (by decide) ?_
    refine wp_iadd dL_law_385 ?_
    refine cp_sld (N := N) (xs := xs) rfl hb1 dL_law_386 ?_
    refine wp_aload_n dL_law_387 rfl ?_
    refine wp_iload dL_law_388 rfl ?_
    refine wp_iconst (v := 2) dL_law_390 (by decide) ?_
    refine wp_iadd dL_law_391 ?_
    refine cp_sld (N := N) (xs := xs) rfl hb2 dL_law_392 ?_
    refine wp_aload_n dL_law_393 rfl ?_
    refine wp_iload dL_law_394 rfl ?_
    refine wp_iconst (v := 3) dL_law_396 (by decide) ?_
    refine wp_iadd dL_law_397 ?_
    refine cp_sld (N := N) (xs := xs) rfl hb3 dL_law_398 ?_
    refine wp_aload_n dL_law_399 rfl ?_
    refine wp_iload dL_law_400 rfl ?_
    refine wp_iconst (v := 4) dL_law_402 (by decide) ?_
    refine wp_iadd dL_law_403 ?_
    refine cp_sld (N := N) (xs := xs) rfl hb4 dL_law_404 ?_
    refine wp_aload_n dL_law_405 rfl ?_
    refine wp_iload dL_law_406 rfl ?_
    refine wp_iconst (v := 5) dL_law_408 (by decide) ?_
    refine wp_iadd dL_law_409 ?_
    refine cp_sld (N := N) (xs := xs) rfl hb5 dL_law_410 ?_
    refine wp_aload_n dL_law_411 rfl ?_
    refine wp_iload dL_law_412 rfl ?_
    refine wp_bipush (v := 6) dL_law_414 (by decide) ?_
    refine wp_iadd dL_law_416 ?_
    refine cp_sld (N := N) (xs := xs) rfl hb6 dL_law_417 ?_
    refine wp_callV (k1 := 0) (k2 := k2) (As := [vI (xs (i + 1).toNatClampNeg), vI (xs (i + 2).toNatClampNeg), vI (xs (i + 3).toNatClampNeg), vI (xs (i + 4).toNatClampNeg), vI (xs (i + 5).toNatClampNeg), vI (xs (i + 6).toNatClampNeg)]) (rest := []) (w9_instance (RA_fr hRA hFR) h9) okX9_instance ivX9_instance rfl (by decide) ml_L_115 dL_law_418 rfl (by decide) (Nat.le_of_eq (Nat.zero_add _)) rfl (Nat.le_of_ble_eq_true rfl) (fun _ _ z => z.elim) (fun r' S' z => ?_)
    obtain ⟨rfl, rfl⟩ := z
    show WP (mLaw N xs) 60 k2 421 [some (vR 74 0), some (vR 8 0), some (vR 9 0), some (vR 70 0), some (vI i), some (vI 0), l6] [vI b] (cM m9 x'.toInt64 rho9) Q QX
    refine wp_istore (L' := [some (vR 74 0), some (vR 8 0), some (vR 9 0), some (vR 70 0), some (vI i), some (vI 0), some (vI b)]) dL_law_421 rfl rfl ?_
    refine wp_aload_n dL_law_423 rfl ?_
    refine wp_callV (k1 := 0) (k2 := k2) (As := []) (rest := []) (w9_thrown (RA_fr hRA hFR) (r := rho9 64 0) (rho9 := rho9) rfl) okX9_thrown ivX9_thrown rfl (by decide) ml_L_104 dL_law_424 rfl (by decide) (Nat.le_of_eq (Nat.zero_add _)) rfl (Nat.le_of_ble_eq_true rfl) (fun _ _ z => z.elim) (fun r' S' z => ?_)
    obtain ⟨rfl, rfl⟩ := z
    show WP (mLaw N xs) 60 k2 427 [some (vR 74 0), some (vR 8 0), some (vR 9 0), some (vR 70 0), some (vI i), some (vI 0), some (vI b)] [vI (rho9 64 0)] (cM m9 x'.toInt64 rho9) Q QX
    refine wp_iload dL_law_427 rfl ?_
    refine wp_icmp_eq (tgt := 434) dL_law_429 (by decide) (fun _ => ?_) (fun z => absurd ht z)
    refine wp_iload dL_law_434 rfl ?_
    refine wp_if_ne (tgt := 451) dL_law_436 (by decide) (fun z => absurd rfl z) (fun _ => ?_)
    refine wp_aload_n dL_law_439 rfl ?_
    refine wp_iconst (v := 0) dL_law_440 (by decide) ?_
    refine cp_laload rfl dL_law_441 ?_
    refine wp_iload dL_law_442 rfl ?_
    refine wp_i2l dL_law_444 ?_
    refine wp_lcmp dL_law_445 ?_
    refine wp_if_eq (tgt := 451) dL_law_446 (by decide) (fun _ => ?_) (fun z => absurd (by have hv' : x'.toInt64 = b.toInt64 := hv; rw [hv']; exact lg_same _) z)
    refine wp_goto (tgt := 1823) dL_law_451 (by decide) ?_
    exact kk _ _ _
  · refine wp_aload_n dL_law_336 rfl ?_
    refine wp_aload_n dL_law_337 rfl ?_
    refine wp_iload dL_law_338 rfl ?_
    refine wp_iconst (v := 1) dL_law_340 (by decide) ?_
    refine wp_iadd dL_law_341 ?_
    refine cp_sld (N := N) (xs := xs) rfl hb1 dL_law_342 ?_
    refine wp_aload_n dL_law_343 rfl ?_
    refine wp_iload dL_law_344 rfl ?_
    refine wp_iconst (v := 2) dL_law_346 (by decide) ?_
    refine wp_iadd dL_law_347 ?_
    refine cp_sld (N := N) (xs := xs) rfl hb2 dL_law_348 ?_
    refine wp_aload_n dL_law_349 rfl ?_
    refine wp_iload dL_law_350 rfl ?_
    refine wp_iconst (v := 3) dL_law_352 (by decide) ?_
    refine wp_iadd dL_law_353 ?_
    refine cp_sld (N := N) (xs := xs) rfl hb3 dL_law_354 ?_
    refine wp_aload_n dL_law_355 rfl ?_
    refine wp_iload dL_law_356 rfl ?_
    refine wp_iconst (v := 4) dL_law_358 (by decide) ?_
    refine wp_iadd dL_law_359 ?_
    refine cp_sld (N := N) (xs := xs) rfl hb4 dL_law_360 ?_
    refine wp_aload_n dL_law_361 rfl ?_
    refine wp_iload dL_law_362 rfl ?_
    refine wp_iconst (v := 5) dL_law_364 (by decide) ?_
    refine wp_iadd dL_law_365 ?_
    refine cp_sld (N := N) (xs := xs) rfl hb5 dL_law_366 ?_
    refine wp_aload_n dL_law_367 rfl ?_
    refine wp_iload dL_law_368 rfl ?_
    refine wp_bipush (v := 6) dL_law_370 (by decide) ?_
    refine wp_iadd dL_law_372 ?_
    refine cp_sld (N := N) (xs := xs) rfl hb6 dL_law_373 ?_
    refine wp_aload_n dL_law_374 rfl ?_
    refine wp_callSW (k1 := n9) (k2 := k2) (As := [vR 8 0, vI (xs (i + 1).toNatClampNeg), vI (xs (i + 2).toNatClampNeg), vI (xs (i + 3).toNatClampNeg), vI (xs (i + 4).toNatClampNeg), vI (xs (i + 5).toNatClampNeg), vI (xs (i + 6).toNatClampNeg), vR 70 0]) (rest := []) (wL_instance hr h8) okL_instance sm_L_instance rfl ml_L_112 dL_law_375 (by decide) (Nat.le_refl _) rfl (by decide) (fun r' S' z => ?_)
    rcases z with ⟨x', hx', -, -⟩ | ⟨j', hj', rfl, rfl⟩
    · rw [hj] at hx'; cases hx'
    have ej : j' = j := by rw [hj] at hj'; exact (Sum.inr.inj hj').symm
    subst ej
    show WP (mLaw N xs) 60 k2 378 [some (vR 74 0), some (vR 8 0), some (vR 9 0), some (vR 70 0), some (vI i), l5, l6] [vI ((fun j => if j = 0 then 1 else if j = 1 then 2 else 3) j')] (cM m9 out rho) Q QX
    refine wp_istore (L' := [some (vR 74 0), some (vR 8 0), some (vR 9 0), some (vR 70 0), some (vI i), some (vI ((fun j => if j = 0 then 1 else if j = 1 then 2 else 3) j')), l6]) dL_law_378 rfl rfl ?_
    refine wp_aload_n dL_law_380 rfl ?_
    refine wp_aload_n dL_law_381 rfl ?_
    refine wp_iload dL_law_382 rfl ?_
    refine wp_iconst (v := 1) dL_law_384 (by decide) ?_
    refine wp_iadd dL_law_385 ?_
    refine cp_sld (N := N) (xs := xs) rfl hb1 dL_law_386 ?_
    refine wp_aload_n dL_law_387 rfl ?_
    refine wp_iload dL_law_388 rfl ?_
    refine wp_iconst (v := 2) dL_law_390 (by decide) ?_
    refine wp_iadd dL_law_391 ?_
    refine cp_sld (N := N) (xs := xs) rfl hb2 dL_law_392 ?_
    refine wp_aload_n dL_law_393 rfl ?_
    refine wp_iload dL_law_394 rfl ?_
    refine wp_iconst (v := 3) dL_law_396 (by decide) ?_
    refine wp_iadd dL_law_397 ?_
    refine cp_sld (N := N) (xs := xs) rfl hb3 dL_law_398 ?_
    refine wp_aload_n dL_law_399 rfl ?_
    refine wp_iload dL_law_400 rfl ?_
    refine wp_iconst (v := 4) dL_law_402 (by decide) ?_
    refine wp_iadd dL_law_403 ?_
    refine cp_sld (N := N) (xs := xs) rfl hb4 dL_law_404 ?_
    refine wp_aload_n dL_law_405 rfl ?_
    refine wp_iload dL_law_406 rfl ?_
    refine wp_iconst (v := 5) dL_law_408 (by decide) ?_
    refine wp_iadd dL_law_409 ?_
    refine cp_sld (N := N) (xs := xs) rfl hb5 dL_law_410 ?_
    refine wp_aload_n dL_law_411 rfl ?_
    refine wp_iload dL_law_412 rfl ?_
    refine wp_bipush (v := 6) dL_law_414 (by decide) ?_
    refine wp_iadd dL_law_416 ?_
    refine cp_sld (N := N) (xs := xs) rfl hb6 dL_law_417 ?_
    refine wp_callV (k1 := 0) (k2 := k2) (As := [vI (xs (i + 1).toNatClampNeg), vI (xs (i + 2).toNatClampNeg), vI (xs (i + 3).toNatClampNeg), vI (xs (i + 4).toNatClampNeg), vI (xs (i + 5).toNatClampNeg), vI (xs (i + 6).toNatClampNeg)]) (rest := []) (w9_instance (RA_fr hRA hFR) h9) okX9_instance ivX9_instance rfl (by decide) ml_L_115 dL_law_418 rfl (by decide) (Nat.le_of_eq (Nat.zero_add _)) rfl (Nat.le_of_ble_eq_true rfl) (fun _ _ z => z.elim) (fun r' S' z => ?_)
    obtain ⟨rfl, rfl⟩ := z
    show WP (mLaw N xs) 60 k2 421 [some (vR 74 0), some (vR 8 0), some (vR 9 0), some (vR 70 0), some (vI i), some (vI ((fun j => if j = 0 then 1 else if j = 1 then 2 else 3) j')), l6] [vI b] (cM m9 out rho9) Q QX
    refine wp_istore (L' := [some (vR 74 0), some (vR 8 0), some (vR 9 0), some (vR 70 0), some (vI i), some (vI ((fun j => if j = 0 then 1 else if j = 1 then 2 else 3) j')), some (vI b)]) dL_law_421 rfl rfl ?_
    refine wp_aload_n dL_law_423 rfl ?_
    refine wp_callV (k1 := 0) (k2 := k2) (As := []) (rest := []) (w9_thrown (RA_fr hRA hFR) (r := rho9 64 0) (rho9 := rho9) rfl) okX9_thrown ivX9_thrown rfl (by decide) ml_L_104 dL_law_424 rfl (by decide) (Nat.le_of_eq (Nat.zero_add _)) rfl (Nat.le_of_ble_eq_true rfl) (fun _ _ z => z.elim) (fun r' S' z => ?_)
    obtain ⟨rfl, rfl⟩ := z
    show WP (mLaw N xs) 60 k2 427 [some (vR 74 0), some (vR 8 0), some (vR 9 0), some (vR 70 0), some (vI i), some (vI ((fun j => if j = 0 then 1 else if j = 1 then 2 else 3) j')), some (vI b)] [vI (rho9 64 0)] (cM m9 out rho9) Q QX
    refine wp_iload dL_law_427 rfl ?_
    refine wp_icmp_eq (tgt := 434) dL_law_429 (by decide) (fun _ => ?_) (fun z => absurd ht z)
    refine wp_iload dL_law_434 rfl ?_
    refine wp_if_ne (tgt := 451) dL_law_436 (by decide) (fun _ => ?_) (fun z => absurd z hn)
    refine wp_goto (tgt := 1823) dL_law_451 (by decide) ?_
    exact kk _ _ _
theorem law_c3 {r : Int32 ⊕ Nat} (hr : ∀ j, r = .inr j → j = 0 ∨ j = 1) (h8 : f8_X8_fault 0 (xs (i + 1).toNatClampNeg) (xs (i + 2).toNatClampNeg) (xs (i + 3).toNatClampNeg) m = some (r, m9, n9)) (h9 : f9_fault (xs (i + 1).toNatClampNeg) (xs (i + 2).toNatClampNeg) (xs (i + 3).toNatClampNeg) rho = some (b, rho9)) (hag : AG r (fun x => x.toInt64) (fun j => if j = 0 then 1 else 2) b.toInt64 (rho9 64 0)) (hb1 : vp_in (i + 1) N) (hb2 : vp_in (i + 2) N) (hb3 : vp_in (i + 3) N) (hRA : RA m.2.1) (hFR : FR m m9) (kk : ∀ (out' : Int64) (l5 l6 : Option sV), WP (mLaw N xs) 60 k2 1823 [some (vR 74 0), some (vR 8 0), some (vR 9 0), some (vR 70 0), some (vI i), l5, l6] [] (cM m9 out' rho9) Q QX) : WP (mLaw N xs) 60 (n9 + k2) 454 [some (vR 74 0), some (vR 8 0), some (vR 9 0), some (vR 70 0), some (vI i), l5, l6] [] (cM m out rho) Q QX := by
  rcases hag with ⟨x, hx, ht, hv⟩ | ⟨j, hj, ht, hn⟩
  · refine wp_aload_n dL_law_454 rfl ?_
    refine wp_aload_n dL_law_455 rfl ?_
    refine wp_iload dL_law_456 rfl ?_
    refine wp_iconst (v := 1) dL_law_458 (by decide) ?_
    refine wp_iadd dL_law_459 ?_
    refine cp_sld (N := N) (xs := xs) rfl hb1 dL_law_460 ?_
    refine wp_aload_n dL_law_461 rfl ?_
    refine wp_iload dL_law_462 rfl ?_
    refine wp_iconst (v := 2) dL_law_464 (by decide) ?_
    refine wp_iadd dL_law_465 ?_
    refine cp_sld (N := N) (xs := xs) rfl hb2 dL_law_466 ?_
    refine wp_aload_n dL_law_467 rfl ?_
    refine wp_iload dL_law_468 rfl ?_
    refine wp_iconst (v := 3) dL_law_470 (by decide) ?_
    refine wp_iadd dL_law_471 ?_
    refine cp_sld (N := N) (xs := xs) rfl hb3 dL_law_472 ?_
    refine wp_aload_n dL_law_473 rfl ?_
    refine wp_callSW (k1 := n9) (k2 := k2) (As := [vR 8 0, vI (xs (i + 1).toNatClampNeg), vI (xs (i + 2).toNatClampNeg), vI (xs (i + 3).toNatClampNeg), vR 70 0]) (rest := []) (wL_fault hr h8) okL_fault sm_L_fault rfl ml_L_116 dL_law_474 (by decide) (Nat.le_refl _) rfl (by decide) (fun r' S' z => ?_)
    rcases z with ⟨x', hx', rfl, rfl⟩ | ⟨j', hj', -, -⟩
    rotate_left
    · rw [hx] at hj'; cases hj'
    have ex : x' = x := by rw [hx] at hx'; exact (Sum.inl.inj hx').symm
    subst ex
    show WP (mLaw N xs) 60 k2 477 [some (vR 74 0), some (vR 8 0), some (vR 9 0), some (vR 70 0), some (vI i), l5, l6] [vI 0] (cM m9 x'.toInt64 rho) Q QX
    refine wp_istore (L' := [some (vR 74 0), some (vR 8 0), some (vR 9 0), some (vR 70 0), some (vI i), some (vI 0), l6]) dL_law_477 rfl rfl ?_
    refine wp_aload_n dL_law_479 rfl ?_
    refine wp_aload_n dL_law_480 rfl ?_
    refine wp_iload dL_law_481 rfl ?_
    refine wp_iconst (v := 1) dL_law_483 (by decide) ?_
    refine wp_iadd dL_law_484 ?_
    refine cp_sld (N := N) (xs := xs) rfl hb1 dL_law_485 ?_
    refine wp_aload_n dL_law_486 rfl ?_
    refine wp_iload dL_law_487 rfl ?_
    refine wp_iconst (v := 2) dL_law_489 (by decide) ?_
    refine wp_iadd dL_law_490 ?_
    refine cp_sld (N := N) (xs := xs) rfl hb2 dL_law_491 ?_
    refine wp_aload_n dL_law_492 rfl ?_
    refine wp_iload dL_law_493 rfl ?_
    refine wp_iconst (v := 3) dL_law_495 (by decide) ?_
    refine wp_iadd dL_law_496 ?_
    refine cp_sld (N := N) (xs := xs) rfl hb3 dL_law_497 ?_
    refine wp_callV (k1 := 0) (k2 := k2) (As := [vI (xs (i + 1).toNatClampNeg), vI (xs (i + 2).toNatClampNeg), vI (xs (i + 3).toNatClampNeg)]) (rest := []) (w9_fault (RA_fr hRA hFR) h9) okX9_fault ivX9_fault rfl (by decide) ml_L_119 dL_law_498 rfl (by decide) (Nat.le_of_eq (Nat.zero_add _)) rfl (Nat.le_of_ble_eq_true rfl) (fun _ _ z => z.elim) (fun r' S' z => ?_)
    obtain ⟨rfl, rfl⟩ := z
    show WP (mLaw N xs) 60 k2 501 [some (vR 74 0), some (vR 8 0), some (vR 9 0), some (vR 70 0), some (vI i), some (vI 0), l6] [vI b] (cM m9 x'.toInt64 rho9) Q QX
    refine wp_istore (L' := [some (vR 74 0), some (vR 8 0), some (vR 9 0), some (vR 70 0), some (vI i), some (vI 0), some (vI b)]) dL_law_501 rfl rfl ?_
    refine wp_aload_n dL_law_503 rfl ?_
    refine wp_callV (k1 := 0) (k2 := k2) (As := []) (rest := []) (w9_thrown (RA_fr hRA hFR) (r := rho9 64 0) (rho9 := rho9) rfl) okX9_thrown ivX9_thrown rfl (by decide) ml_L_104 dL_law_504 rfl (by decide) (Nat.le_of_eq (Nat.zero_add _)) rfl (Nat.le_of_ble_eq_true rfl) (fun _ _ z => z.elim) (fun r' S' z => ?_)
    obtain ⟨rfl, rfl⟩ := z
    show WP (mLaw N xs) 60 k2 507 [some (vR 74 0), some (vR 8 0), some (vR 9 0), some (vR 70 0), some (vI i), some (vI 0), some (vI b)] [vI (rho9 64 0)] (cM m9 x'.toInt64 rho9) Q QX
    refine wp_iload dL_law_507 rfl ?_
    refine wp_icmp_eq (tgt := 514) dL_law_509 (by decide) (fun _ => ?_) (fun z => absurd ht z)
    refine wp_iload dL_law_514 rfl ?_
    refine wp_if_ne (tgt := 531) dL_law_516 (by decide) (fun z => absurd rfl z) (fun _ => ?_)
    refine wp_aload_n dL_law_519 rfl ?_
    refine wp_iconst (v := 0) dL_law_520 (by decide) ?_
    refine cp_laload rfl dL_law_521 ?_
    refine wp_iload dL_law_522 rfl ?_
    refine wp_i2l dL_law_524 ?_
    refine wp_lcmp dL_law_525 ?_
    refine wp_if_eq (tgt := 531) dL_law_526 (by decide) (fun _ => ?_) (fun z => absurd (by have hv' : x'.toInt64 = b.toInt64 := hv; rw [hv']; exact lg_same _) z)
    refine wp_goto (tgt := 1823) dL_law_531 (by decide) ?_
    exact kk _ _ _
  · refine wp_aload_n dL_law_454 rfl ?_
    refine wp_aload_n dL_law_455 rfl ?_
    refine wp_iload dL_law_456 rfl ?_
    refine wp_iconst (v := 1) dL_law_458 (by decide) ?_
    refine wp_iadd dL_law_459 ?_
    refine cp_sld (N := N) (xs := xs) rfl hb1 dL_law_460 ?_
    refine wp_aload_n dL_law_461 rfl ?_
    refine wp_iload dL_law_462 rfl ?_
    refine wp_iconst (v := 2) dL_law_464 (by decide) ?_
    refine wp_iadd dL_law_465 ?_
    refine cp_sld (N := N) (xs := xs) rfl hb2 dL_law_466 ?_
    refine wp_aload_n dL_law_467 rfl ?_
    refine wp_iload dL_law_468 rfl ?_
    refine wp_iconst (v := 3) dL_law_470 (by decide) ?_
    refine wp_iadd dL_law_471 ?_
    refine cp_sld (N := N) (xs := xs) rfl hb3 dL_law_472 ?_
    refine wp_aload_n dL_law_473 rfl ?_
    refine wp_callSW (k1 := n9) (k2 := k2) (As := [vR 8 0, vI (xs (i + 1).toNatClampNeg), vI (xs (i + 2).toNatClampNeg), vI (xs (i + 3).toNatClampNeg), vR 70 0]) (rest := []) (wL_fault hr h8) okL_fault sm_L_fault rfl ml_L_116 dL_law_474 (by decide) (Nat.le_refl _) rfl (by decide) (fun r' S' z => ?_)
    rcases z with ⟨x', hx', -, -⟩ | ⟨j', hj', rfl, rfl⟩
    · rw [hj] at hx'; cases hx'
    have ej : j' = j := by rw [hj] at hj'; exact (Sum.inr.inj hj').symm
    subst ej
    show WP (mLaw N xs) 60 k2 477 [some (vR 74 0), some (vR 8 0), some (vR 9 0), some (vR 70 0), some (vI i), l5, l6] [vI ((fun j => if j = 0 then 1 else 2) j')] (cM m9 out rho) Q QX
    refine wp_istore (L' := [some (vR 74 0), some (vR 8 0), some (vR 9 0), some (vR 70 0), some (vI i), some (vI ((fun j => if j = 0 then 1 else 2) j')), l6]) dL_law_477 rfl rfl ?_
    refine wp_aload_n dL_law_479 rfl ?_
    refine wp_aload_n dL_law_480 rfl ?_
    refine wp_iload dL_law_481 rfl ?_
    refine wp_iconst (v := 1) dL_law_483 (by decide) ?_
    refine wp_iadd dL_law_484 ?_
    refine cp_sld (N := N) (xs := xs) rfl hb1 dL_law_485 ?_
    refine wp_aload_n dL_law_486 rfl ?_
    refine wp_iload dL_law_487 rfl ?_
    refine wp_iconst (v := 2) dL_law_489 (by decide) ?_
    refine wp_iadd dL_law_490 ?_
    refine cp_sld (N := N) (xs := xs) rfl hb2 dL_law_491 ?_
    refine wp_aload_n dL_law_492 rfl ?_
    refine wp_iload dL_law_493 rfl ?_
    refine wp_iconst (v := 3) dL_law_495 (by decide) ?_
    refine wp_iadd dL_law_496 ?_
    refine cp_sld (N := N) (xs := xs) rfl hb3 dL_law_497 ?_
    refine wp_callV (k1 := 0) (k2 := k2) (As := [vI (xs (i + 1).toNatClampNeg), vI (xs (i + 2).toNatClampNeg), vI (xs (i + 3).toNatClampNeg)]) (rest := []) (w9_fault (RA_fr hRA hFR) h9) okX9_fault ivX9_fault rfl (by decide) ml_L_119 dL_law_498 rfl (by decide) (Nat.le_of_eq (Nat.zero_add _)) rfl (Nat.le_of_ble_eq_true rfl) (fun _ _ z => z.elim) (fun r' S' z => ?_)
    obtain ⟨rfl, rfl⟩ := z
    show WP (mLaw N xs) 60 k2 501 [some (vR 74 0), some (vR 8 0), some (vR 9 0), some (vR 70 0), some (vI i), some (vI ((fun j => if j = 0 then 1 else 2) j')), l6] [vI b] (cM m9 out rho9) Q QX
    refine wp_istore (L' := [some (vR 74 0), some (vR 8 0), some (vR 9 0), some (vR 70 0), some (vI i), some (vI ((fun j => if j = 0 then 1 else 2) j')), some (vI b)]) dL_law_501 rfl rfl ?_
    refine wp_aload_n dL_law_503 rfl ?_
    refine wp_callV (k1 := 0) (k2 := k2) (As := []) (rest := []) (w9_thrown (RA_fr hRA hFR) (r := rho9 64 0) (rho9 := rho9) rfl) okX9_thrown ivX9_thrown rfl (by decide) ml_L_104 dL_law_504 rfl (by decide) (Nat.le_of_eq (Nat.zero_add _)) rfl (Nat.le_of_ble_eq_true rfl) (fun _ _ z => z.elim) (fun r' S' z => ?_)
    obtain ⟨rfl, rfl⟩ := z
    show WP (mLaw N xs) 60 k2 507 [some (vR 74 0), some (vR 8 0), some (vR 9 0), some (vR 70 0), some (vI i), some (vI ((fun j => if j = 0 then 1 else 2) j')), some (vI b)] [vI (rho9 64 0)] (cM m9 out rho9) Q QX
    refine wp_iload dL_law_507 rfl ?_
    refine wp_icmp_eq (tgt := 514) dL_law_509 (by decide) (fun _ => ?_) (fun z => absurd ht z)
    refine wp_iload dL_law_514 rfl ?_
    refine wp_if_ne (tgt := 531) dL_law_516 (by decide) (fun _ => ?_) (fun z => absurd z hn)
    refine wp_goto (tgt := 1823) dL_law_531 (by decide) ?_
    exact kk _ _ _
theorem law_c4 {r : Int32 ⊕ Nat} (hr : ∀ j, r = .inr j → j = 0 ∨ j = 1) (h8 : f8_X8_policy 0 (xs (i + 1).toNatClampNeg) (xs (i + 2).toNatClampNeg) (xs (i + 3).toNatClampNeg) (xs (i + 4).toNatClampNeg) m = some (r, m9, n9)) (h9 : f9_policy (xs (i + 1).toNatClampNeg) (xs (i + 2).toNatClampNeg) (xs (i + 3).toNatClampNeg) (xs (i + 4).toNatClampNeg) rho = some (b, rho9)) (hag : AG r (fun x => x.toInt64) (fun j => if j = 0 then 1 else 2) b.toInt64 (rho9 64 0)) (hb1 : vp_in (i + 1) N) (hb2 : vp_in (i + 2) N) (hb3 : vp_in (i + 3) N) (hb4 : vp_in (i + 4) N) (hRA : RA m.2.1) (hFR : FR m m9) (kk : ∀ (out' : Int64) (l5 l6 : Option sV), WP (mLaw N xs) 60 k2 1823 [some (vR 74 0), some (vR 8 0), some (vR 9 0), some (vR 70 0), some (vI i), l5, l6] [] (cM m9 out' rho9) Q QX) : WP (mLaw N xs) 60 (n9 + k2) 534 [some (vR 74 0), some (vR 8 0), some (vR 9 0), some (vR 70 0), some (vI i), l5, l6] [] (cM m out rho) Q QX := by
  rcases hag with ⟨x, hx, ht, hv⟩ | ⟨j, hj, ht, hn⟩
  · refine wp_aload_n dL_law_534 rfl ?_
    refine wp_aload_n dL_law_535 rfl ?_
    refine wp_iload dL_law_536 rfl ?_
    refine wp_iconst (v := 1) dL_law_538 (by decide) ?_
    refine wp_iadd dL_law_539 ?_
    refine cp_sld (N := N) (xs := xs) rfl hb1 dL_law_540 ?_
    refine wp_aload_n dL_law_541 rfl ?_
    refine wp_iload dL_law_542 rfl ?_
    refine wp_iconst (v := 2) dL_law_544 (by decide) ?_
    refine wp_iadd dL_law_545 ?_
    refine cp_sld (N := N) (xs := xs) rfl hb2 dL_law_546 ?_
    refine wp_aload_n dL_law_547 rfl ?_
    refine wp_iload dL_law_548 rfl ?_
    refine wp_iconst (v := 3) dL_law_550 (by decide) ?_
    refine wp_iadd dL_law_551 ?_
    refine cp_sld (N := N) (xs := xs) rfl hb3 dL_law_552 ?_
    refine wp_aload_n dL_law_553 rfl ?_
    refine wp_iload dL_law_554 rfl ?_
    refine wp_iconst (v := 4) dL_law_556 (by decide) ?_
    refine wp_iadd dL_law_557 ?_
    refine cp_sld (N := N) (xs := xs) rfl hb4 dL_law_558 ?_
    refine wp_aload_n dL_law_559 rfl ?_
    refine wp_callSW (k1 := n9) (k2 := k2) (As := [vR 8 0, vI (xs (i + 1).toNatClampNeg), vI (xs (i + 2).toNatClampNeg), vI (xs (i + 3).toNatClampNeg), vI (xs (i + 4).toNatClampNeg), vR 70 0]) (rest := []) (wL_policy hr h8) okL_policy sm_L_policy rfl ml_L_120 dL_law_560 (by decide) (Nat.le_refl _) rfl (by decide) (fun r' S' z => ?_)
    rcases z with ⟨x', hx', rfl, rfl⟩ | ⟨j', hj', -, -⟩
    rotate_left
    · rw [hx] at hj'; cases hj'
    have ex : x' = x := by rw [hx] at hx'; exact (Sum.inl.inj hx').symm
    subst ex
    show WP (mLaw N xs) 60 k2 563 [some (vR 74 0), some (vR 8 0), some (vR 9 0), some (vR 70 0), some (vI i), l5, l6] [vI 0] (cM m9 x'.toInt64 rho) Q QX
    refine wp_istore (L' := [some (vR 74 0), some (vR 8 0), some (vR 9 0), some (vR 70 0), some (vI i), some (vI 0), l6]) dL_law_563 rfl rfl ?_
    refine wp_aload_n dL_law_565 rfl ?_
    refine wp_aload_n dL_law_566 rfl ?_
    refine wp_iload dL_law_567 rfl ?_
    refine wp_iconst (v := 1) dL_law_569 (by decide) ?_
    refine wp_iadd dL_law_570 ?_
    refine cp_sld (N := N) (xs := xs) rfl hb1 dL_law_571 ?_
    refine wp_aload_n dL_law_572 rfl ?_
    refine wp_iload dL_law_573 rfl ?_
    refine wp_iconst (v := 2) dL_law_575 (by decide) ?_
    refine wp_iadd dL_law_576 ?_
    refine cp_sld (N := N) (xs := xs) rfl hb2 dL_law_577 ?_
    refine wp_aload_n dL_law_578 rfl ?_
    refine wp_iload dL_law_579 rfl ?_
    refine wp_iconst (v := 3) dL_law_581 (by decide) ?_
    refine wp_iadd dL_law_582 ?_
    refine cp_sld (N := N) (xs := xs) rfl hb3 dL_law_583 ?_
    refine wp_aload_n dL_law_584 rfl ?_
    refine wp_iload dL_law_585 rfl ?_
    refine wp_iconst (v := 4) dL_law_587 (by decide) ?_
    refine wp_iadd dL_law_588 ?_
    refine cp_sld (N := N) (xs := xs) rfl hb4 dL_law_589 ?_
    refine wp_callV (k1 := 0) (k2 := k2) (As := [vI (xs (i + 1).toNatClampNeg), vI (xs (i + 2).toNatClampNeg), vI (xs (i + 3).toNatClampNeg), vI (xs (i + 4).toNatClampNeg)]) (rest := []) (w9_policy (RA_fr hRA hFR) h9) okX9_policy ivX9_policy rfl (by decide) ml_L_123 dL_law_590 rfl (by decide) (Nat.le_of_eq (Nat.zero_add _)) rfl (Nat.le_of_ble_eq_true rfl) (fun _ _ z => z.elim) (fun r' S' z => ?_)
    obtain ⟨rfl, rfl⟩ := z
    show WP (mLaw N xs) 60 k2 593 [some (vR 74 0), some (vR 8 0), some (vR 9 0), some (vR 70 0), some (vI i), some (vI 0), l6] [vI b] (cM m9 x'.toInt64 rho9) Q QX
    refine wp_istore (L' := [some (vR 74 0), some (vR 8 0), some (vR 9 0), some (vR 70 0), some (vI i), some (vI 0), some (vI b)]) dL_law_593 rfl rfl ?_
    refine wp_aload_n dL_law_595 rfl ?_
    refine wp_callV (k1 := 0) (k2 := k2) (As := []) (rest := []) (w9_thrown (RA_fr hRA hFR) (r := rho9 64 0) (rho9 := rho9) rfl) okX9_thrown ivX9_thrown rfl (by decide) ml_L_104 dL_law_596 rfl (by decide) (Nat.le_of_eq (Nat.zero_add _)) rfl (Nat.le_of_ble_eq_true rfl) (fun _ _ z => z.elim) (fun r' S' z => ?_)
    obtain ⟨rfl, rfl⟩ := z
    show WP (mLaw N xs) 60 k2 599 [some (vR 74 0), some (vR 8 0), some (vR 9 0), some (vR 70 0), some (vI i), some (vI 0), some (vI b)] [vI (rho9 64 0)] (cM m9 x'.toInt64 rho9) Q QX
    refine wp_iload dL_law_599 rfl ?_
    refine wp_icmp_eq (tgt := 606) dL_law_601 (by decide) (fun _ => ?_) (fun z => absurd ht z)
    refine wp_iload dL_law_606 rfl ?_
    refine wp_if_ne (tgt := 623) dL_law_608 (by decide) (fun z => absurd rfl z) (fun _ => ?_)
    refine wp_aload_n dL_law_611 rfl ?_
    refine wp_iconst (v := 0) dL_law_612 (by decide) ?_
    refine cp_laload rfl dL_law_613 ?_
    refine wp_iload dL_law_614 rfl ?_
    refine wp_i2l dL_law_616 ?_
    refine wp_lcmp dL_law_617 ?_
    refine wp_if_eq (tgt := 623) dL_law_618 (by decide) (fun _ => ?_) (fun z => absurd (by have hv' : x'.toInt64 = b.toInt64 := hv; rw [hv']; exact lg_same _) z)
    refine wp_goto (tgt := 1823) dL_law_623 (by decide) ?_
    exact kk _ _ _
  · refine wp_aload_n dL_law_534 rfl ?_
    refine wp_aload_n dL_law_535 rfl ?_
    refine wp_iload dL_law_536 rfl ?_
    refine wp_iconst (v := 1) dL_law_538 (by decide) ?_
    refine wp_iadd dL_law_539 ?_
    refine cp_sld (N := N) (xs := xs) rfl hb1 dL_law_540 ?_
    refine wp_aload_n dL_law_541 rfl ?_
    refine wp_iload dL_law_542 rfl ?_
    refine wp_iconst (v := 2) dL_law_544 (by decide) ?_
    refine wp_iadd dL_law_545 ?_
    refine cp_sld (N := N) (xs := xs) rfl hb2 dL_law_546 ?_
    refine wp_aload_n dL_law_547 rfl ?_
    refine wp_iload dL_law_548 rfl ?_
    refine wp_iconst (v := 3) dL_law_550 (by decide) ?_
    refine wp_iadd dL_law_551 ?_
    refine cp_sld (N := N) (xs := xs) rfl hb3 dL_law_552 ?_
    refine wp_aload_n dL_law_553 rfl ?_
    refine wp_iload dL_law_554 rfl ?_
    refine wp_iconst (v := 4) dL_law_556 (by decide) ?_
    refine wp_iadd dL_law_557 ?_
    refine cp_sld (N := N) (xs := xs) rfl hb4 dL_law_558 ?_
    refine wp_aload_n dL_law_559 rfl ?_
    refine wp_callSW (k1 := n9) (k2 := k2) (As := [vR 8 0, vI (xs (i + 1).toNatClampNeg), vI (xs (i + 2).toNatClampNeg), vI (xs (i + 3).toNatClampNeg), vI (xs (i + 4).toNatClampNeg), vR 70 0]) (rest := []) (wL_policy hr h8) okL_policy sm_L_policy rfl ml_L_120 dL_law_560 (by decide) (Nat.le_refl _) rfl (by decide) (fun r' S' z => ?_)
    rcases z with ⟨x', hx', -, -⟩ | ⟨j', hj', rfl, rfl⟩
    · rw [hj] at hx'; cases hx'
    have ej : j' = j := by rw [hj] at hj'; exact (Sum.inr.inj hj').symm
    subst ej
    show WP (mLaw N xs) 60 k2 563 [some (vR 74 0), some (vR 8 0), some (vR 9 0), some (vR 70 0), some (vI i), l5, l6] [vI ((fun j => if j = 0 then 1 else 2) j')] (cM m9 out rho) Q QX
    refine wp_istore (L' := [some (vR 74 0), some (vR 8 0), some (vR 9 0), some (vR 70 0), some (vI i), some (vI ((fun j => if j = 0 then 1 else 2) j')), l6]) dL_law_563 rfl rfl ?_
    refine wp_aload_n dL_law_565 rfl ?_
    refine wp_aload_n dL_law_566 rfl ?_
    refine wp_iload dL_law_567 rfl ?_
    refine wp_iconst (v := 1) dL_law_569 (by decide) ?_
    refine wp_iadd dL_law_570 ?_
    refine cp_sld (N := N) (xs := xs) rfl hb1 dL_law_571 ?_
    refine wp_aload_n dL_law_572 rfl ?_
    refine wp_iload dL_law_573 rfl ?_
    refine wp_iconst (v := 2) dL_law_575 (by decide) ?_
    refine wp_iadd dL_law_576 ?_
    refine cp_sld (N := N) (xs := xs) rfl hb2 dL_law_577 ?_
    refine wp_aload_n dL_law_578 rfl ?_
    refine wp_iload dL_law_579 rfl ?_
    refine wp_iconst (v := 3) dL_law_581 (by decide) ?_
    refine wp_iadd dL_law_582 ?_
    refine cp_sld (N := N) (xs := xs) rfl hb3 dL_law_583 ?_
    refine wp_aload_n dL_law_584 rfl ?_
    refine wp_iload dL_law_585 rfl ?_
    refine wp_iconst (v := 4) dL_law_587 (by decide) ?_
    refine wp_iadd dL_law_588 ?_
    refine cp_sld (N := N) (xs := xs) rfl hb4 dL_law_589 ?_
    refine wp_callV (k1 := 0) (k2 := k2) (As := [vI (xs (i + 1).toNatClampNeg), vI (xs (i + 2).toNatClampNeg), vI (xs (i + 3).toNatClampNeg), vI (xs (i + 4).toNatClampNeg)]) (rest := []) (w9_policy (RA_fr hRA hFR) h9) okX9_policy ivX9_policy rfl (by decide) ml_L_123 dL_law_590 rfl (by decide) (Nat.le_of_eq (Nat.zero_add _)) rfl (Nat.le_of_ble_eq_true rfl) (fun _ _ z => z.elim) (fun r' S' z => ?_)
    obtain ⟨rfl, rfl⟩ := z
    show WP (mLaw N xs) 60 k2 593 [some (vR 74 0), some (vR 8 0), some (vR 9 0), some (vR 70 0), some (vI i), some (vI ((fun j => if j = 0 then 1 else 2) j')), l6] [vI b] (cM m9 out rho9) Q QX
    refine wp_istore (L' := [some (vR 74 0), some (vR 8 0), some (vR 9 0), some (vR 70 0), some (vI i), some (vI ((fun j => if j = 0 then 1 else 2) j')), some (vI b)]) dL_law_593 rfl rfl ?_
    refine wp_aload_n dL_law_595 rfl ?_
    refine wp_callV (k1 := 0) (k2 := k2) (As := []) (rest := []) (w9_thrown (RA_fr hRA hFR) (r := rho9 64 0) (rho9 := rho9) rfl) okX9_thrown ivX9_thrown rfl (by decide) ml_L_104 dL_law_596 rfl (by decide) (Nat.le_of_eq (Nat.zero_add _)) rfl (Nat.le_of_ble_eq_true rfl) (fun _ _ z => z.elim) (fun r' S' z => ?_)
    obtain ⟨rfl, rfl⟩ := z
    show WP (mLaw N xs) 60 k2 599 [some (vR 74 0), some (vR 8 0), some (vR 9 0), some (vR 70 0), some (vI i), some (vI ((fun j => if j = 0 then 1 else 2) j')), some (vI b)] [vI (rho9 64 0)] (cM m9 out rho9) Q QX
    refine wp_iload dL_law_599 rfl ?_
    refine wp_icmp_eq (tgt := 606) dL_law_601 (by decide) (fun _ => ?_) (fun z => absurd ht z)
    refine wp_iload dL_law_606 rfl ?_
    refine wp_if_ne (tgt := 623) dL_law_608 (by decide) (fun _ => ?_) (fun z => absurd z hn)
    refine wp_goto (tgt := 1823) dL_law_623 (by decide) ?_
    exact kk _ _ _
theorem law_c5 {r : Int32 ⊕ Nat} (hr : ∀ j, r = .inr j → j = 0 ∨ j = 1) (h8 : f8_X8_share 0 (xs (i + 1).toNatClampNeg) (xs (i + 2).toNatClampNeg) m = some (r, m9, n9)) (h9 : f9_share (xs (i + 1).toNatClampNeg) (xs (i + 2).toNatClampNeg) rho = some (b, rho9)) (hag : AG r (fun x => x.toInt64) (fun j => if j = 0 then 1 else 2) b.toInt64 (rho9 64 0)) (hb1 : vp_in (i + 1) N) (hb2 : vp_in (i + 2) N) (hRA : RA m.2.1) (hFR : FR m m9) (kk : ∀ (out' : Int64) (l5 l6 : Option sV), WP (mLaw N xs) 60 k2 1823 [some (vR 74 0), some (vR 8 0), some (vR 9 0), some (vR 70 0), some (vI i), l5, l6] [] (cM m9 out' rho9) Q QX) : WP (mLaw N xs) 60 (n9 + k2) 626 [some (vR 74 0), some (vR 8 0), some (vR 9 0), some (vR 70 0), some (vI i), l5, l6] [] (cM m out rho) Q QX := by
  rcases hag with ⟨x, hx, ht, hv⟩ | ⟨j, hj, ht, hn⟩
  · refine wp_aload_n dL_law_626 rfl ?_
    refine wp_aload_n dL_law_627 rfl ?_
    refine wp_iload dL_law_628 rfl ?_
    refine wp_iconst (v := 1) dL_law_630 (by decide) ?_
    refine wp_iadd dL_law_631 ?_
    refine cp_sld (N := N) (xs := xs) rfl hb1 dL_law_632 ?_
    refine wp_aload_n dL_law_633 rfl ?_
    refine wp_iload dL_law_634 rfl ?_
    refine wp_iconst (v := 2) dL_law_636 (by decide) ?_
    refine wp_iadd dL_law_637 ?_
    refine cp_sld (N := N) (xs := xs) rfl hb2 dL_law_638 ?_
    refine wp_aload_n dL_law_639 rfl ?_
    refine wp_callSW (k1 := n9) (k2 := k2) (As := [vR 8 0, vI (xs (i + 1).toNatClampNeg), vI (xs (i + 2).toNatClampNeg), vR 70 0]) (rest := []) (wL_share hr h8) okL_share sm_L_share rfl ml_L_124 dL_law_640 (by decide) (Nat.le_refl _) rfl (by decide) (fun r' S' z => ?_)
    rcases z with ⟨x', hx', rfl, rfl⟩ | ⟨j', hj', -, -⟩
    rotate_left
    · rw [hx] at hj'; cases hj'
    have ex : x' = x := by rw [hx] at hx'; exact (Sum.inl.inj hx').symm
    subst ex
    show WP (mLaw N xs) 60 k2 643 [some (vR 74 0), some (vR 8 0), some (vR 9 0), some (vR 70 0), some (vI i), l5, l6] [vI 0] (cM m9 x'.toInt64 rho) Q QX
    refine wp_istore (L' := [some (vR 74 0), some (vR 8 0), some (vR 9 0), some (vR 70 0), some (vI i), some (vI 0), l6]) dL_law_643 rfl rfl ?_
    refine wp_aload_n dL_law_645 rfl ?_
    refine wp_aload_n dL_law_646 rfl ?_
    refine wp_iload dL_law_647 rfl ?_
    refine wp_iconst (v := 1) dL_law_649 (by decide) ?_
    refine wp_iadd dL_law_650 ?_
    refine cp_sld (N := N) (xs := xs) rfl hb1 dL_law_651 ?_
    refine wp_aload_n dL_law_652 rfl ?_
    refine wp_iload dL_law_653 rfl ?_
    refine wp_iconst (v := 2) dL_law_655 (by decide) ?_
    refine wp_iadd dL_law_656 ?_
    refine cp_sld (N := N) (xs := xs) rfl hb2 dL_law_657 ?_
    refine wp_callV (k1 := 0) (k2 := k2) (As := [vI (xs (i + 1).toNatClampNeg), vI (xs (i + 2).toNatClampNeg)]) (rest := []) (w9_share (RA_fr hRA hFR) h9) okX9_share ivX9_share rfl (by decide) ml_L_126 dL_law_658 rfl (by decide) (Nat.le_of_eq (Nat.zero_add _)) rfl (Nat.le_of_ble_eq_true rfl) (fun _ _ z => z.elim) (fun r' S' z => ?_)
    obtain ⟨rfl, rfl⟩ := z
    show WP (mLaw N xs) 60 k2 661 [some (vR 74 0), some (vR 8 0), some (vR 9 0), some (vR 70 0), some (vI i), some (vI 0), l6] [vI b] (cM m9 x'.toInt64 rho9) Q QX
    refine wp_istore (L' := [some (vR 74 0), some (vR 8 0), some (vR 9 0), some (vR 70 0), some (vI i), some (vI 0), some (vI b)]) dL_law_661 rfl rfl ?_
    refine wp_aload_n dL_law_663 rfl ?_
    refine wp_callV (k1 := 0) (k2 := k2) (As := []) (rest := []) (w9_thrown (RA_fr hRA hFR) (r := rho9 64 0) (rho9 := rho9) rfl) okX9_thrown ivX9_thrown rfl (by decide) ml_L_104 dL_law_664 rfl (by decide) (Nat.le_of_eq (Nat.zero_add _)) rfl (Nat.le_of_ble_eq_true rfl) (fun _ _ z => z.elim) (fun r' S' z => ?_)
    obtain ⟨rfl, rfl⟩ := z
    show WP (mLaw N xs) 60 k2 667 [some (vR 74 0), some (vR 8 0), some (vR 9 0), some (vR 70 0), some (vI i), some (vI 0), some (vI b)] [vI (rho9 64 0)] (cM m9 x'.toInt64 rho9) Q QX
    refine wp_iload dL_law_667 rfl ?_
    refine wp_icmp_eq (tgt := 674) dL_law_669 (by decide) (fun _ => ?_) (fun z => absurd ht z)
    refine wp_iload dL_law_674 rfl ?_
    refine wp_if_ne (tgt := 691) dL_law_676 (by decide) (fun z => absurd rfl z) (fun _ => ?_)
    refine wp_aload_n dL_law_679 rfl ?_
    refine wp_iconst (v := 0) dL_law_680 (by decide) ?_
    refine cp_laload rfl dL_law_681 ?_
    refine wp_iload dL_law_682 rfl ?_
    refine wp_i2l dL_law_684 ?_
    refine wp_lcmp dL_law_685 ?_
    refine wp_if_eq (tgt := 691) dL_law_686 (by decide) (fun _ => ?_) (fun z => absurd (by have hv' : x'.toInt64 = b.toInt64 := hv; rw [hv']; exact lg_same _) z)
    refine wp_goto (tgt := 1823) dL_law_691 (by decide) ?_
    exact kk _ _ _
  · refine wp_aload_n dL_law_626 rfl ?_
    refine wp_aload_n dL_law_627 rfl ?_
    refine wp_iload dL_law_628 rfl ?_
    refine wp_iconst (v := 1) dL_law_630 (by decide) ?_
    refine wp_iadd dL_law_631 ?_
    refine cp_sld (N := N) (xs := xs) rfl hb1 dL_law_632 ?_
    refine wp_aload_n dL_law_633 rfl ?_
    refine wp_iload dL_law_634 rfl ?_
    refine wp_iconst (v := 2) dL_law_636 (by decide) ?_
    refine wp_iadd dL_law_637 ?_
    refine cp_sld (N := N) (xs := xs) rfl hb2 dL_law_638 ?_
    refine wp_aload_n dL_law_639 rfl ?_
    refine wp_callSW (k1 := n9) (k2 := k2) (As := [vR 8 0, vI (xs (i + 1).toNatClampNeg), vI (xs (i + 2).toNatClampNeg), vR 70 0]) (rest := []) (wL_share hr h8) okL_share sm_L_share rfl ml_L_124 dL_law_640 (by decide) (Nat.le_refl _) rfl (by decide) (fun r' S' z => ?_)
    rcases z with ⟨x', hx', -, -⟩ | ⟨j', hj', rfl, rfl⟩
    · rw [hj] at hx'; cases hx'
    have ej : j' = j := by rw [hj] at hj'; exact (Sum.inr.inj hj').symm
    subst ej
    show WP (mLaw N xs) 60 k2 643 [some (vR 74 0), some (vR 8 0), some (vR 9 0), some (vR 70 0), some (vI i), l5, l6] [vI ((fun j => if j = 0 then 1 else 2) j')] (cM m9 out rho) Q QX
    refine wp_istore (L' := [some (vR 74 0), some (vR 8 0), some (vR 9 0), some (vR 70 0), some (vI i), some (vI ((fun j => if j = 0 then 1 else 2) j')), l6]) dL_law_643 rfl rfl ?_
    refine wp_aload_n dL_law_645 rfl ?_
    refine wp_aload_n dL_law_646 rfl ?_
    refine wp_iload dL_law_647 rfl ?_
    refine wp_iconst (v := 1) dL_law_649 (by decide) ?_
    refine wp_iadd dL_law_650 ?_
    refine cp_sld (N := N) (xs := xs) rfl hb1 dL_law_651 ?_
    refine wp_aload_n dL_law_652 rfl ?_
    refine wp_iload dL_law_653 rfl ?_
    refine wp_iconst (v := 2) dL_law_655 (by decide) ?_
    refine wp_iadd dL_law_656 ?_
    refine cp_sld (N := N) (xs := xs) rfl hb2 dL_law_657 ?_
    refine wp_callV (k1 := 0) (k2 := k2) (As := [vI (xs (i + 1).toNatClampNeg), vI (xs (i + 2).toNatClampNeg)]) (rest := []) (w9_share (RA_fr hRA hFR) h9) okX9_share ivX9_share rfl (by decide) ml_L_126 dL_law_658 rfl (by decide) (Nat.le_of_eq (Nat.zero_add _)) rfl (Nat.le_of_ble_eq_true rfl) (fun _ _ z => z.elim) (fun r' S' z => ?_)
    obtain ⟨rfl, rfl⟩ := z
    show WP (mLaw N xs) 60 k2 661 [some (vR 74 0), some (vR 8 0), some (vR 9 0), some (vR 70 0), some (vI i), some (vI ((fun j => if j = 0 then 1 else 2) j')), l6] [vI b] (cM m9 out rho9) Q QX
    refine wp_istore (L' := [some (vR 74 0), some (vR 8 0), some (vR 9 0), some (vR 70 0), some (vI i), some (vI ((fun j => if j = 0 then 1 else 2) j')), some (vI b)]) dL_law_661 rfl rfl ?_
    refine wp_aload_n dL_law_663 rfl ?_
    refine wp_callV (k1 := 0) (k2 := k2) (As := []) (rest := []) (w9_thrown (RA_fr hRA hFR) (r := rho9 64 0) (rho9 := rho9) rfl) okX9_thrown ivX9_thrown rfl (by decide) ml_L_104 dL_law_664 rfl (by decide) (Nat.le_of_eq (Nat.zero_add _)) rfl (Nat.le_of_ble_eq_true rfl) (fun _ _ z => z.elim) (fun r' S' z => ?_)
    obtain ⟨rfl, rfl⟩ := z
    show WP (mLaw N xs) 60 k2 667 [some (vR 74 0), some (vR 8 0), some (vR 9 0), some (vR 70 0), some (vI i), some (vI ((fun j => if j = 0 then 1 else 2) j')), some (vI b)] [vI (rho9 64 0)] (cM m9 out rho9) Q QX
    refine wp_iload dL_law_667 rfl ?_
    refine wp_icmp_eq (tgt := 674) dL_law_669 (by decide) (fun _ => ?_) (fun z => absurd ht z)
    refine wp_iload dL_law_674 rfl ?_
    refine wp_if_ne (tgt := 691) dL_law_676 (by decide) (fun _ => ?_) (fun z => absurd z hn)
    refine wp_goto (tgt := 1823) dL_law_691 (by decide) ?_
    exact kk _ _ _
theorem law_c6 {r : Int32 ⊕ Nat} (hr : ∀ j, r = .inr j → j = 1) (h8 : f8_X8_eyes 0 (xs (i + 1).toNatClampNeg) m = some (r, m9, n9)) (h9 : f9_eyes (xs (i + 1).toNatClampNeg) rho = some (b, rho9)) (hag : AG r (fun x => x.toInt64) (fun j => 1) b.toInt64 (rho9 64 0)) (hb1 : vp_in (i + 1) N) (hRA : RA m.2.1) (hFR : FR m m9) (kk : ∀ (out' : Int64) (l5 l6 : Option sV), WP (mLaw N xs) 60 k2 1823 [some (vR 74 0), some (vR 8 0), some (vR 9 0), some (vR 70 0), some (vI i), l5, l6] [] (cM m9 out' rho9) Q QX) : WP (mLaw N xs) 60 (n9 + k2) 694 [some (vR 74 0), some (vR 8 0), some (vR 9 0), some (vR 70 0), some (vI i), l5, l6] [] (cM m out rho) Q QX := by
  rcases hag with ⟨x, hx, ht, hv⟩ | ⟨j, hj, ht, hn⟩
  · refine wp_aload_n dL_law_694 rfl ?_
    refine wp_aload_n dL_law_695 rfl ?_
    refine wp_iload dL_law_696 rfl ?_
    refine wp_iconst (v := 1) dL_law_698 (by decide) ?_
    refine wp_iadd dL_law_699 ?_
    refine cp_sld (N := N) (xs := xs) rfl hb1 dL_law_700 ?_
    refine wp_aload_n dL_law_701 rfl ?_
    refine wp_callSW (k1 := n9) (k2 := k2) (As := [vR 8 0, vI (xs (i + 1).toNatClampNeg), vR 70 0]) (rest := []) (wL_eyes hr h8) okL_eyes sm_L_eyes rfl ml_L_127 dL_law_702 (by decide) (Nat.le_refl _) rfl (by decide) (fun r' S' z => ?_)
    rcases z with ⟨x', hx', rfl, rfl⟩ | ⟨j', hj', -, -⟩
    rotate_left
    · rw [hx] at hj'; cases hj'
    have ex : x' = x := by rw [hx] at hx'; exact (Sum.inl.inj hx').symm
    subst ex
    show WP (mLaw N xs) 60 k2 705 [some (vR 74 0), some (vR 8 0), some (vR 9 0), some (vR 70 0), some (vI i), l5, l6] [vI 0] (cM m9 x'.toInt64 rho) Q QX
    refine wp_istore (L' := [some (vR 74 0), some (vR 8 0), some (vR 9 0), some (vR 70 0), some (vI i), some (vI 0), l6]) dL_law_705 rfl rfl ?_
    refine wp_aload_n dL_law_707 rfl ?_
    refine wp_aload_n dL_law_708 rfl ?_
    refine wp_iload dL_law_709 rfl ?_
    refine wp_iconst (v := 1) dL_law_711 (by decide) ?_
    refine wp_iadd dL_law_712 ?_
    refine cp_sld (N := N) (xs := xs) rfl hb1 dL_law_713 ?_
    refine wp_callV (k1 := 0) (k2 := k2) (As := [vI (xs (i + 1).toNatClampNeg)]) (rest := []) (w9_eyes (RA_fr hRA hFR) h9) okX9_eyes ivX9_eyes rfl (by decide) ml_L_130 dL_law_714 rfl (by decide) (Nat.le_of_eq (Nat.zero_add _)) rfl (Nat.le_of_ble_eq_true rfl) (fun _ _ z => z.elim) (fun r' S' z => ?_)
    obtain ⟨rfl, rfl⟩ := z
    show WP (mLaw N xs) 60 k2 717 [some (vR 74 0), some (vR 8 0), some (vR 9 0), some (vR 70 0), some (vI i), some (vI 0), l6] [vI b] (cM m9 x'.toInt64 rho9) Q QX
    refine wp_istore (L' := [some (vR 74 0), some (vR 8 0), some (vR 9 0), some (vR 70 0), some (vI i), some (vI 0), some (vI b)]) dL_law_717 rfl rfl ?_
    refine wp_aload_n dL_law_719 rfl ?_
    refine wp_callV (k1 := 0) (k2 := k2) (As := []) (rest := []) (w9_thrown (RA_fr hRA hFR) (r := rho9 64 0) (rho9 := rho9) rfl) okX9_thrown ivX9_thrown rfl (by decide) ml_L_104 dL_law_720 rfl (by decide) (Nat.le_of_eq (Nat.zero_add _)) rfl (Nat.le_of_ble_eq_true rfl) (fun _ _ z => z.elim) (fun r' S' z => ?_)
    obtain ⟨rfl, rfl⟩ := z
    show WP (mLaw N xs) 60 k2 723 [some (vR 74 0), some (vR 8 0), some (vR 9 0), some (vR 70 0), some (vI i), some (vI 0), some (vI b)] [vI (rho9 64 0)] (cM m9 x'.toInt64 rho9) Q QX
    refine wp_iload dL_law_723 rfl ?_
    refine wp_icmp_eq (tgt := 730) dL_law_725 (by decide) (fun _ => ?_) (fun z => absurd ht z)
    refine wp_iload dL_law_730 rfl ?_
    refine wp_if_ne (tgt := 747) dL_law_732 (by decide) (fun z => absurd rfl z) (fun _ => ?_)
    refine wp_aload_n dL_law_735 rfl ?_
    refine wp_iconst (v := 0) dL_law_736 (by decide) ?_
    refine cp_laload rfl dL_law_737 ?_
    refine wp_iload dL_law_738 rfl ?_
    refine wp_i2l dL_law_740 ?_
    refine wp_lcmp dL_law_741 ?_
    refine wp_if_eq (tgt := 747) dL_law_742 (by decide) (fun _ => ?_) (fun z => absurd (by have hv' : x'.toInt64 = b.toInt64 := hv; rw [hv']; exact lg_same _) z)
    refine wp_goto (tgt := 1823) dL_law_747 (by decide) ?_
    exact kk _ _ _
  · refine wp_aload_n dL_law_694 rfl ?_
    refine wp_aload_n dL_law_695 rfl ?_
    refine wp_iload dL_law_696 rfl ?_
    refine wp_iconst (v := 1) dL_law_698 (by decide) ?_
    refine wp_iadd dL_law_699 ?_
    refine cp_sld (N := N) (xs := xs) rfl hb1 dL_law_700 ?_
    refine wp_aload_n dL_law_701 rfl ?_
    refine wp_callSW (k1 := n9) (k2 := k2) (As := [vR 8 0, vI (xs (i + 1).toNatClampNeg), vR 70 0]) (rest := []) (wL_eyes hr h8) okL_eyes sm_L_eyes rfl ml_L_127 dL_law_702 (by decide) (Nat.le_refl _) rfl (by decide) (fun r' S' z => ?_)
    rcases z with ⟨x', hx', -, -⟩ | ⟨j', hj', rfl, rfl⟩
    · rw [hj] at hx'; cases hx'
    have ej : j' = j := by rw [hj] at hj'; exact (Sum.inr.inj hj').symm
    subst ej
    show WP (mLaw N xs) 60 k2 705 [some (vR 74 0), some (vR 8 0), some (vR 9 0), some (vR 70 0), some (vI i), l5, l6] [vI ((fun j => 1) j')] (cM m9 out rho) Q QX
    refine wp_istore (L' := [some (vR 74 0), some (vR 8 0), some (vR 9 0), some (vR 70 0), some (vI i), some (vI ((fun j => 1) j')), l6]) dL_law_705 rfl rfl ?_
    refine wp_aload_n dL_law_707 rfl ?_
    refine wp_aload_n dL_law_708 rfl ?_
    refine wp_iload dL_law_709 rfl ?_
    refine wp_iconst (v := 1) dL_law_711 (by decide) ?_
    refine wp_iadd dL_law_712 ?_
    refine cp_sld (N := N) (xs := xs) rfl hb1 dL_law_713 ?_
    refine wp_callV (k1 := 0) (k2 := k2) (As := [vI (xs (i + 1).toNatClampNeg)]) (rest := []) (w9_eyes (RA_fr hRA hFR) h9) okX9_eyes ivX9_eyes rfl (by decide) ml_L_130 dL_law_714 rfl (by decide) (Nat.le_of_eq (Nat.zero_add _)) rfl (Nat.le_of_ble_eq_true rfl) (fun _ _ z => z.elim) (fun r' S' z => ?_)
    obtain ⟨rfl, rfl⟩ := z
    show WP (mLaw N xs) 60 k2 717 [some (vR 74 0), some (vR 8 0), some (vR 9 0), some (vR 70 0), some (vI i), some (vI ((fun j => 1) j')), l6] [vI b] (cM m9 out rho9) Q QX
    refine wp_istore (L' := [some (vR 74 0), some (vR 8 0), some (vR 9 0), some (vR 70 0), some (vI i), some (vI ((fun j => 1) j')), some (vI b)]) dL_law_717 rfl rfl ?_
    refine wp_aload_n dL_law_719 rfl ?_
    refine wp_callV (k1 := 0) (k2 := k2) (As := []) (rest := []) (w9_thrown (RA_fr hRA hFR) (r := rho9 64 0) (rho9 := rho9) rfl) okX9_thrown ivX9_thrown rfl (by decide) ml_L_104 dL_law_720 rfl (by decide) (Nat.le_of_eq (Nat.zero_add _)) rfl (Nat.le_of_ble_eq_true rfl) (fun _ _ z => z.elim) (fun r' S' z => ?_)
    obtain ⟨rfl, rfl⟩ := z
    show WP (mLaw N xs) 60 k2 723 [some (vR 74 0), some (vR 8 0), some (vR 9 0), some (vR 70 0), some (vI i), some (vI ((fun j => 1) j')), some (vI b)] [vI (rho9 64 0)] (cM m9 out rho9) Q QX
    refine wp_iload dL_law_723 rfl ?_
    refine wp_icmp_eq (tgt := 730) dL_law_725 (by decide) (fun _ => ?_) (fun z => absurd ht z)
    refine wp_iload dL_law_730 rfl ?_
    refine wp_if_ne (tgt := 747) dL_law_732 (by decide) (fun _ => ?_) (fun z => absurd z hn)
    refine wp_goto (tgt := 1823) dL_law_747 (by decide) ?_
    exact kk _ _ _
theorem law_c7 {r : Int32 ⊕ Nat} (hr : ∀ j, r = .inr j → j = 0 ∨ j = 1) (h8 : f8_X8_canary 0 (xs (i + 1).toNatClampNeg) (xs (i + 2).toNatClampNeg) m = some (r, m9, n9)) (h9 : f9_canary (xs (i + 1).toNatClampNeg) (xs (i + 2).toNatClampNeg) rho = some (b, rho9)) (hag : AG r (fun x => x.toInt64) (fun j => if j = 0 then 1 else 2) b.toInt64 (rho9 64 0)) (hb1 : vp_in (i + 1) N) (hb2 : vp_in (i + 2) N) (hRA : RA m.2.1) (hFR : FR m m9) (kk : ∀ (out' : Int64) (l5 l6 : Option sV), WP (mLaw N xs) 60 k2 1823 [some (vR 74 0), some (vR 8 0), some (vR 9 0), some (vR 70 0), some (vI i), l5, l6] [] (cM m9 out' rho9) Q QX) : WP (mLaw N xs) 60 (n9 + k2) 750 [some (vR 74 0), some (vR 8 0), some (vR 9 0), some (vR 70 0), some (vI i), l5, l6] [] (cM m out rho) Q QX := by
  rcases hag with ⟨x, hx, ht, hv⟩ | ⟨j, hj, ht, hn⟩
  · refine wp_aload_n dL_law_750 rfl ?_
    refine wp_aload_n dL_law_751 rfl ?_
    refine wp_iload dL_law_752 rfl ?_
    refine wp_iconst (v := 1) dL_law_754 (by decide) ?_
    refine wp_iadd dL_law_755 ?_
    refine cp_sld (N := N) (xs := xs) rfl hb1 dL_law_756 ?_
    refine wp_aload_n dL_law_757 rfl ?_
    refine wp_iload dL_law_758 rfl ?_
    refine wp_iconst (v := 2) dL_law_760 (by decide) ?_
    refine wp_iadd dL_law_761 ?_
    refine cp_sld (N := N) (xs := xs) rfl hb2 dL_law_762 ?_
    refine wp_aload_n dL_law_763 rfl ?_
    refine wp_callSW (k1 := n9) (k2 := k2) (As := [vR 8 0, vI (xs (i + 1).toNatClampNeg), vI (xs (i + 2).toNatClampNeg), vR 70 0]) (rest := []) (wL_canary hr h8) okL_canary sm_L_canary rfl ml_L_131 dL_law_764 (by decide) (Nat.le_refl _) rfl (by decide) (fun r' S' z => ?_)
    rcases z with ⟨x', hx', rfl, rfl⟩ | ⟨j', hj', -, -⟩
    rotate_left
    · rw [hx] at hj'; cases hj'
    have ex : x' = x := by rw [hx] at hx'; exact (Sum.inl.inj hx').symm
    subst ex
    show WP (mLaw N xs) 60 k2 767 [some (vR 74 0), some (vR 8 0), some (vR 9 0), some (vR 70 0), some (vI i), l5, l6] [vI 0] (cM m9 x'.toInt64 rho) Q QX
    refine wp_istore (L' := [some (vR 74 0), some (vR 8 0), some (vR 9 0), some (vR 70 0), some (vI i), some (vI 0), l6]) dL_law_767 rfl rfl ?_
    refine wp_aload_n dL_law_769 rfl ?_
    refine wp_aload_n dL_law_770 rfl ?_
    refine wp_iload dL_law_771 rfl ?_
    refine wp_iconst (v := 1) dL_law_773 (by decide) ?_
    refine wp_iadd dL_law_774 ?_
    refine cp_sld (N := N) (xs := xs) rfl hb1 dL_law_775 ?_
    refine wp_aload_n dL_law_776 rfl ?_
    refine wp_iload dL_law_777 rfl ?_
    refine wp_iconst (v := 2) dL_law_779 (by decide) ?_
    refine wp_iadd dL_law_780 ?_
    refine cp_sld (N := N) (xs := xs) rfl hb2 dL_law_781 ?_
    refine wp_callV (k1 := 0) (k2 := k2) (As := [vI (xs (i + 1).toNatClampNeg), vI (xs (i + 2).toNatClampNeg)]) (rest := []) (w9_canary (RA_fr hRA hFR) h9) okX9_canary ivX9_canary rfl (by decide) ml_L_133 dL_law_782 rfl (by decide) (Nat.le_of_eq (Nat.zero_add _)) rfl (Nat.le_of_ble_eq_true rfl) (fun _ _ z => z.elim) (fun r' S' z => ?_)
    obtain ⟨rfl, rfl⟩ := z
    show WP (mLaw N xs) 60 k2 785 [some (vR 74 0), some (vR 8 0), some (vR 9 0), some (vR 70 0), some (vI i), some (vI 0), l6] [vI b] (cM m9 x'.toInt64 rho9) Q QX
    refine wp_istore (L' := [some (vR 74 0), some (vR 8 0), some (vR 9 0), some (vR 70 0), some (vI i), some (vI 0), some (vI b)]) dL_law_785 rfl rfl ?_
    refine wp_aload_n dL_law_787 rfl ?_
    refine wp_callV (k1 := 0) (k2 := k2) (As := []) (rest := []) (w9_thrown (RA_fr hRA hFR) (r := rho9 64 0) (rho9 := rho9) rfl) okX9_thrown ivX9_thrown rfl (by decide) ml_L_104 dL_law_788 rfl (by decide) (Nat.le_of_eq (Nat.zero_add _)) rfl (Nat.le_of_ble_eq_true rfl) (fun _ _ z => z.elim) (fun r' S' z => ?_)
    obtain ⟨rfl, rfl⟩ := z
    show WP (mLaw N xs) 60 k2 791 [some (vR 74 0), some (vR 8 0), some (vR 9 0), some (vR 70 0), some (vI i), some (vI 0), some (vI b)] [vI (rho9 64 0)] (cM m9 x'.toInt64 rho9) Q QX
    refine wp_iload dL_law_791 rfl ?_
    refine wp_icmp_eq (tgt := 798) dL_law_793 (by decide) (fun _ => ?_) (fun z => absurd ht z)
    refine wp_iload dL_law_798 rfl ?_
    refine wp_if_ne (tgt := 815) dL_law_800 (by decide) (fun z => absurd rfl z) (fun _ => ?_)
    refine wp_aload_n dL_law_803 rfl ?_
    refine wp_iconst (v := 0) dL_law_804 (by decide) ?_
    refine cp_laload rfl dL_law_805 ?_
    refine wp_iload dL_law_806 rfl ?_
    refine wp_i2l dL_law_808 ?_
    refine wp_lcmp dL_law_809 ?_
    refine wp_if_eq (tgt := 815) dL_law_810 (by decide) (fun _ => ?_) (fun z => absurd (by have hv' : x'.toInt64 = b.toInt64 := hv; rw [hv']; exact lg_same _) z)
    refine wp_goto (tgt := 1823) dL_law_815 (by decide) ?_
    exact kk _ _ _
  · refine wp_aload_n dL_law_750 rfl ?_
    refine wp_aload_n dL_law_751 rfl ?_
    refine wp_iload dL_law_752 rfl ?_
    refine wp_iconst (v := 1) dL_law_754 (by decide) ?_
    refine wp_iadd dL_law_755 ?_
    refine cp_sld (N := N) (xs := xs) rfl hb1 dL_law_756 ?_
    refine wp_aload_n dL_law_757 rfl ?_
    refine wp_iload dL_law_758 rfl ?_
    refine wp_iconst (v := 2) dL_law_760 (by decide) ?_
    refine wp_iadd dL_law_761 ?_
    refine cp_sld (N := N) (xs := xs) rfl hb2 dL_law_762 ?_
    refine wp_aload_n dL_law_763 rfl ?_
    refine wp_callSW (k1 := n9) (k2 := k2) (As := [vR 8 0, vI (xs (i + 1).toNatClampNeg), vI (xs (i + 2).toNatClampNeg), vR 70 0]) (rest := []) (wL_canary hr h8) okL_canary sm_L_canary rfl ml_L_131 dL_law_764 (by decide) (Nat.le_refl _) rfl (by decide) (fun r' S' z => ?_)
    rcases z with ⟨x', hx', -, -⟩ | ⟨j', hj', rfl, rfl⟩
    · rw [hj] at hx'; cases hx'
    have ej : j' = j := by rw [hj] at hj'; exact (Sum.inr.inj hj').symm
    subst ej
    show WP (mLaw N xs) 60 k2 767 [some (vR 74 0), some (vR 8 0), some (vR 9 0), some (vR 70 0), some (vI i), l5, l6] [vI ((fun j => if j = 0 then 1 else 2) j')] (cM m9 out rho) Q QX
    refine wp_istore (L' := [some (vR 74 0), some (vR 8 0), some (vR 9 0), some (vR 70 0), some (vI i), some (vI ((fun j => if j = 0 then 1 else 2) j')), l6]) dL_law_767 rfl rfl ?_
    refine wp_aload_n dL_law_769 rfl ?_
    refine wp_aload_n dL_law_770 rfl ?_
    refine wp_iload dL_law_771 rfl ?_
    refine wp_iconst (v := 1) dL_law_773 (by decide) ?_
    refine wp_iadd dL_law_774 ?_
    refine cp_sld (N := N) (xs := xs) rfl hb1 dL_law_775 ?_
    refine wp_aload_n dL_law_776 rfl ?_
    refine wp_iload dL_law_777 rfl ?_
    refine wp_iconst (v := 2) dL_law_779 (by decide) ?_
    refine wp_iadd dL_law_780 ?_
    refine cp_sld (N := N) (xs := xs) rfl hb2 dL_law_781 ?_
    refine wp_callV (k1 := 0) (k2 := k2) (As := [vI (xs (i + 1).toNatClampNeg), vI (xs (i + 2).toNatClampNeg)]) (rest := []) (w9_canary (RA_fr hRA hFR) h9) okX9_canary ivX9_canary rfl (by decide) ml_L_133 dL_law_782 rfl (by decide) (Nat.le_of_eq (Nat.zero_add _)) rfl (Nat.le_of_ble_eq_true rfl) (fun _ _ z => z.elim) (fun r' S' z => ?_)
    obtain ⟨rfl, rfl⟩ := z
    show WP (mLaw N xs) 60 k2 785 [some (vR 74 0), some (vR 8 0), some (vR 9 0), some (vR 70 0), some (vI i), some (vI ((fun j => if j = 0 then 1 else 2) j')), l6] [vI b] (cM m9 out rho9) Q QX
    refine wp_istore (L' := [some (vR 74 0), some (vR 8 0), some (vR 9 0), some (vR 70 0), some (vI i), some (vI ((fun j => if j = 0 then 1 else 2) j')), some (vI b)]) dL_law_785 rfl rfl ?_
    refine wp_aload_n dL_law_787 rfl ?_
    refine wp_callV (k1 := 0) (k2 := k2) (As := []) (rest := []) (w9_thrown (RA_fr hRA hFR) (r := rho9 64 0) (rho9 := rho9) rfl) okX9_thrown ivX9_thrown rfl (by decide) ml_L_104 dL_law_788 rfl (by decide) (Nat.le_of_eq (Nat.zero_add _)) rfl (Nat.le_of_ble_eq_true rfl) (fun _ _ z => z.elim) (fun r' S' z => ?_)
    obtain ⟨rfl, rfl⟩ := z
    show WP (mLaw N xs) 60 k2 791 [some (vR 74 0), some (vR 8 0), some (vR 9 0), some (vR 70 0), some (vI i), some (vI ((fun j => if j = 0 then 1 else 2) j')), some (vI b)] [vI (rho9 64 0)] (cM m9 out rho9) Q QX
    refine wp_iload dL_law_791 rfl ?_
    refine wp_icmp_eq (tgt := 798) dL_law_793 (by decide) (fun _ => ?_) (fun z => absurd ht z)
    refine wp_iload dL_law_798 rfl ?_
    refine wp_if_ne (tgt := 815) dL_law_800 (by decide) (fun _ => ?_) (fun z => absurd z hn)
    refine wp_goto (tgt := 1823) dL_law_815 (by decide) ?_
    exact kk _ _ _
theorem law_c8 {r : Int32 ⊕ Nat} (hr : ∀ j, r = .inr j → j = 1) (h8 : f8_X8_traces 0 (xs (i + 1).toNatClampNeg) (xs (i + 2).toNatClampNeg) m = some (r, m9, n9)) (h9 : f9_traces (xs (i + 1).toNatClampNeg) (xs (i + 2).toNatClampNeg) rho = some (b, rho9)) (hag : AG r (fun _ => out) (fun j => 1) out (rho9 64 0)) (hb1 : vp_in (i + 1) N) (hb2 : vp_in (i + 2) N) (hRA : RA m.2.1) (hFR : FR m m9) (kk : ∀ (out' : Int64) (l5 l6 : Option sV), WP (mLaw N xs) 60 k2 1823 [some (vR 74 0), some (vR 8 0), some (vR 9 0), some (vR 70 0), some (vI i), l5, l6] [] (cM m9 out' rho9) Q QX) : WP (mLaw N xs) 60 (n9 + k2) 818 [some (vR 74 0), some (vR 8 0), some (vR 9 0), some (vR 70 0), some (vI i), l5, l6] [] (cM m out rho) Q QX := by
  rcases hag with ⟨x, hx, ht, hv⟩ | ⟨j, hj, ht, hn⟩
  · refine wp_aload_n dL_law_818 rfl ?_
    refine wp_aload_n dL_law_819 rfl ?_
    refine wp_iload dL_law_820 rfl ?_
    refine wp_iconst (v := 1) dL_law_822 (by decide) ?_
    refine wp_iadd dL_law_823 ?_
    refine cp_sld (N := N) (xs := xs) rfl hb1 dL_law_824 ?_
    refine wp_aload_n dL_law_825 rfl ?_
    refine wp_iload dL_law_826 rfl ?_
    refine wp_iconst (v := 2) dL_law_828 (by decide) ?_
    refine wp_iadd dL_law_829 ?_
    refine cp_sld (N := N) (xs := xs) rfl hb2 dL_law_830 ?_
    refine wp_callSW (k1 := n9) (k2 := k2) (As := [vR 8 0, vI (xs (i + 1).toNatClampNeg), vI (xs (i + 2).toNatClampNeg)]) (rest := []) (wL_traces hr h8) okL_traces sm_L_traces rfl ml_L_134 dL_law_831 (by decide) (Nat.le_refl _) rfl (by decide) (fun r' S' z => ?_)
    rcases z with ⟨x', hx', rfl, rfl⟩ | ⟨j', hj', -, -⟩
    rotate_left
    · rw [hx] at hj'; cases hj'
    have ex : x' = x := by rw [hx] at hx'; exact (Sum.inl.inj hx').symm
    subst ex
    show WP (mLaw N xs) 60 k2 834 [some (vR 74 0), some (vR 8 0), some (vR 9 0), some (vR 70 0), some (vI i), l5, l6] [vI 0] (cM m9 out rho) Q QX
    refine wp_istore (L' := [some (vR 74 0), some (vR 8 0), some (vR 9 0), some (vR 70 0), some (vI i), some (vI 0), l6]) dL_law_834 rfl rfl ?_
    refine wp_aload_n dL_law_836 rfl ?_
    refine wp_aload_n dL_law_837 rfl ?_
    refine wp_iload dL_law_838 rfl ?_
    refine wp_iconst (v := 1) dL_law_840 (by decide) ?_
    refine wp_iadd dL_law_841 ?_
    refine cp_sld (N := N) (xs := xs) rfl hb1 dL_law_842 ?_
    refine wp_aload_n dL_law_843 rfl ?_
    refine wp_iload dL_law_844 rfl ?_
    refine wp_iconst (v := 2) dL_law_846 (by decide) ?_
    refine wp_iadd dL_law_847 ?_
    refine cp_sld (N := N) (xs := xs) rfl hb2 dL_law_848 ?_
    refine wp_callV (k1 := 0) (k2 := k2) (As := [vI (xs (i + 1).toNatClampNeg), vI (xs (i + 2).toNatClampNeg)]) (rest := []) (w9_traces (RA_fr hRA hFR) h9) okX9_traces ivX9_traces rfl (by decide) ml_L_137 dL_law_849 rfl (by decide) (Nat.le_of_eq (Nat.zero_add _)) rfl (Nat.le_of_ble_eq_true rfl) (fun _ _ z => z.elim) (fun r' S' z => ?_)
    obtain ⟨rfl, rfl⟩ := z
    show WP (mLaw N xs) 60 k2 852 [some (vR 74 0), some (vR 8 0), some (vR 9 0), some (vR 70 0), some (vI i), some (vI 0), l6] [] (cM m9 out rho9) Q QX
    refine wp_aload_n dL_law_852 rfl ?_
    refine wp_callV (k1 := 0) (k2 := k2) (As := []) (rest := []) (w9_thrown (RA_fr hRA hFR) (r := rho9 64 0) (rho9 := rho9) rfl) okX9_thrown ivX9_thrown rfl (by decide) ml_L_104 dL_law_853 rfl (by decide) (Nat.le_of_eq (Nat.zero_add _)) rfl (Nat.le_of_ble_eq_true rfl) (fun _ _ z => z.elim) (fun r' S' z => ?_)
    obtain ⟨rfl, rfl⟩ := z
    show WP (mLaw N xs) 60 k2 856 [some (vR 74 0), some (vR 8 0), some (vR 9 0), some (vR 70 0), some (vI i), some (vI 0), l6] [vI (rho9 64 0)] (cM m9 out rho9) Q QX
    refine wp_iload dL_law_856 rfl ?_
    refine wp_icmp_eq (tgt := 863) dL_law_858 (by decide) (fun _ => ?_) (fun z => absurd ht z)
    refine wp_goto (tgt := 1823) dL_law_863 (by decide) ?_
    exact kk _ _ _
  · refine wp_aload_n dL_law_818 rfl ?_
    refine wp_aload_n dL_law_819 rfl ?_
    refine wp_iload dL_law_820 rfl ?_
    refine wp_iconst (v := 1) dL_law_822 (by decide) ?_
    refine wp_iadd dL_law_823 ?_
    refine cp_sld (N := N) (xs := xs) rfl hb1 dL_law_824 ?_
    refine wp_aload_n dL_law_825 rfl ?_
    refine wp_iload dL_law_826 rfl ?_
    refine wp_iconst (v := 2) dL_law_828 (by decide) ?_
    refine wp_iadd dL_law_829 ?_
    refine cp_sld (N := N) (xs := xs) rfl hb2 dL_law_830 ?_
    refine wp_callSW (k1 := n9) (k2 := k2) (As := [vR 8 0, vI (xs (i + 1).toNatClampNeg), vI (xs (i + 2).toNatClampNeg)]) (rest := []) (wL_traces hr h8) okL_traces sm_L_traces rfl ml_L_134 dL_law_831 (by decide) (Nat.le_refl _) rfl (by decide) (fun r' S' z => ?_)
    rcases z with ⟨x', hx', -, -⟩ | ⟨j', hj', rfl, rfl⟩
    · rw [hj] at hx'; cases hx'
    have ej : j' = j := by rw [hj] at hj'; exact (Sum.inr.inj hj').symm
    subst ej
    show WP (mLaw N xs) 60 k2 834 [some (vR 74 0), some (vR 8 0), some (vR 9 0), some (vR 70 0), some (vI i), l5, l6] [vI ((fun j => 1) j')] (cM m9 out rho) Q QX
    refine wp_istore (L' := [some (vR 74 0), some (vR 8 0), some (vR 9 0), some (vR 70 0), some (vI i), some (vI ((fun j => 1) j')), l6]) dL_law_834 rfl rfl ?_
    refine wp_aload_n dL_law_836 rfl ?_
    refine wp_aload_n dL_law_837 rfl ?_
    refine wp_iload dL_law_838 rfl ?_
    refine wp_iconst (v := 1) dL_law_840 (by decide) ?_
    refine wp_iadd dL_law_841 ?_
    refine cp_sld (N := N) (xs := xs) rfl hb1 dL_law_842 ?_
    refine wp_aload_n dL_law_843 rfl ?_
    refine wp_iload dL_law_844 rfl ?_
    refine wp_iconst (v := 2) dL_law_846 (by decide) ?_
    refine wp_iadd dL_law_847 ?_
    refine cp_sld (N := N) (xs := xs) rfl hb2 dL_law_848 ?_
    refine wp_callV (k1 := 0) (k2 := k2) (As := [vI (xs (i + 1).toNatClampNeg), vI (xs (i + 2).toNatClampNeg)]) (rest := []) (w9_traces (RA_fr hRA hFR) h9) okX9_traces ivX9_traces rfl (by decide) ml_L_137 dL_law_849 rfl (by decide) (Nat.le_of_eq (Nat.zero_add _)) rfl (Nat.le_of_ble_eq_true rfl) (fun _ _ z => z.elim) (fun r' S' z => ?_)
    obtain ⟨rfl, rfl⟩ := z
    show WP (mLaw N xs) 60 k2 852 [some (vR 74 0), some (vR 8 0), some (vR 9 0), some (vR 70 0), some (vI i), some (vI ((fun j => 1) j')), l6] [] (cM m9 out rho9) Q QX
    refine wp_aload_n dL_law_852 rfl ?_
    refine wp_callV (k1 := 0) (k2 := k2) (As := []) (rest := []) (w9_thrown (RA_fr hRA hFR) (r := rho9 64 0) (rho9 := rho9) rfl) okX9_thrown ivX9_thrown rfl (by decide) ml_L_104 dL_law_853 rfl (by decide) (Nat.le_of_eq (Nat.zero_add _)) rfl (Nat.le_of_ble_eq_true rfl) (fun _ _ z => z.elim) (fun r' S' z => ?_)
    obtain ⟨rfl, rfl⟩ := z
    show WP (mLaw N xs) 60 k2 856 [some (vR 74 0), some (vR 8 0), some (vR 9 0), some (vR 70 0), some (vI i), some (vI ((fun j => 1) j')), l6] [vI (rho9 64 0)] (cM m9 out rho9) Q QX
    refine wp_iload dL_law_856 rfl ?_
    refine wp_icmp_eq (tgt := 863) dL_law_858 (by decide) (fun _ => ?_) (fun z => absurd ht z)
    refine wp_goto (tgt := 1823) dL_law_863 (by decide) ?_
    exact kk _ _ _
theorem law_c9 {r : Int32 ⊕ Nat} (hr : ∀ j, r = .inr j → j = 0 ∨ j = 1 ∨ j = 2) (h8 : f8_X8_request 0 (xs (i + 1).toNatClampNeg) (if (xs (i + 2).toNatClampNeg) = 0 then 0 else 1) (xs (i + 3).toNatClampNeg) m = some (r, m9, n9)) (h9 : f9_request (xs (i + 1).toNatClampNeg) (if (xs (i + 2).toNatClampNeg) = 0 then 0 else 1) (xs (i + 3).toNatClampNeg) rho = some (b, rho9)) (hag : AG r (fun x => x.toInt64) (fun j => if j = 0 then 1 else if j = 1 then 2 else 3) b.toInt64 (rho9 64 0)) (hb1 : vp_in (i + 1) N) (hb2 : vp_in (i + 2) N) (hb3 : vp_in (i + 3) N) (hRA : RA m.2.1) (hFR : FR m m9) (kk : ∀ (out' : Int64) (l5 l6 : Option sV), WP (mLaw N xs) 60 k2 1823 [some (vR 74 0), some (vR 8 0), some (vR 9 0), some (vR 70 0), some (vI i), l5, l6] [] (cM m9 out' rho9) Q QX) : WP (mLaw N xs) 60 (n9 + k2) 866 [some (vR 74 0), some (vR 8 0), some (vR 9 0), some (vR 70 0), some (vI i), l5, l6] [] (cM m out rho) Q QX := by
  by_cases cz : (xs (i + 2).toNatClampNeg) = 0
  · rw [if_pos cz] at h8 h9
    rcases hag with ⟨x, hx, ht, hv⟩ | ⟨j, hj, ht, hn⟩
    · refine wp_aload_n dL_law_866 rfl ?_
      refine wp_aload_n dL_law_867 rfl ?_
      refine wp_iload dL_law_868 rfl ?_
      refine wp_iconst (v := 1) dL_law_870 (by decide) ?_
      refine wp_iadd dL_law_871 ?_
      refine cp_sld (N := N) (xs := xs) rfl hb1 dL_law_872 ?_
      refine wp_aload_n dL_law_873 rfl ?_
      refine wp_iload dL_law_874 rfl ?_
      refine wp_iconst (v := 2) dL_law_876 (by decide) ?_
      refine wp_iadd dL_law_877 ?_
      refine cp_sld (N := N) (xs := xs) rfl hb2 dL_law_878 ?_
      refine wp_if_eq (tgt := 886) dL_law_879 (by decide) (fun _ => ?_) (fun z => absurd cz z)
      refine wp_iconst (v := 0) dL_law_886 (by decide) ?_
      refine wp_aload_n dL_law_887 rfl ?_
      refine wp_iload dL_law_888 rfl ?_
      refine wp_iconst (v := 3) dL_law_890 (by decide) ?_
      refine wp_iadd dL_law_891 ?_
      refine cp_sld (N := N) (xs := xs) rfl hb3 dL_law_892 ?_
      refine wp_aload_n dL_law_893 rfl ?_
      refine wp_callSW (k1 := n9) (k2 := k2) (As := [vR 8 0, vI (xs (i + 1).toNatClampNeg), vI 0, vI (xs (i + 3).toNatClampNeg), vR 70 0]) (rest := []) (wL_request hr h8) okL_request sm_L_request rfl ml_L_138 dL_law_894 (by decide) (Nat.le_refl _) rfl (by decide) (fun r' S' z => ?_)
      rcases z with ⟨x', hx', rfl, rfl⟩ | ⟨j', hj', -, -⟩
      rotate_left
      · rw [hx] at hj'; cases hj'
      have ex : x' = x := by rw [hx] at hx'; exact (Sum.inl.inj hx').symm
      subst ex
      show WP (mLaw N xs) 60 k2 897 [some (vR 74 0), some (vR 8 0), some (vR 9 0), some (vR 70 0), some (vI i), l5, l6] [vI 0] (cM m9 x'.toInt64 rho) Q QX
      refine wp_istore (L' := [some (vR 74 0), some (vR 8 0), some (vR 9 0), some (vR 70 0), some (vI i), some (vI 0), l6]) dL_law_897 rfl rfl ?_
      refine wp_aload_n dL_law_899 rfl ?_
      refine wp_aload_n dL_law_900 rfl ?_
      refine wp_iload dL_law_901 rfl ?_
      refine wp_iconst (v := 1) dL_law_903 (by decide) ?_
      refine wp_iadd dL_law_904 ?_
      refine cp_sld (N := N) (xs := xs) rfl hb1 dL_law_905 ?_
      refine wp_aload_n dL_law_906 rfl ?_
      refine wp_iload dL_law_907 rfl ?_
      refine wp_iconst (v := 2) dL_law_909 (by decide) ?_
      refine wp_iadd dL_law_910 ?_
      refine cp_sld (N := N) (xs := xs) rfl hb2 dL_law_911 ?_
      refine wp_if_eq (tgt := 919) dL_law_912 (by decide) (fun _ => ?_) (fun z => absurd cz z)
      refine wp_iconst (v := 0) dL_law_919 (by decide) ?_
      refine wp_aload_n dL_law_920 rfl ?_
      refine wp_iload dL_law_921 rfl ?_
      refine wp_iconst (v := 3) dL_law_923 (by decide) ?_
      refine wp_iadd dL_law_924 ?_
      refine cp_sld (N := N) (xs := xs) rfl hb3 dL_law_925 ?_
      refine wp_callV (k1 := 0) (k2 := k2) (As := [vI (xs (i + 1).toNatClampNeg), vI 0, vI (xs (i + 3).toNatClampNeg)]) (rest := []) (w9_request (RA_fr hRA hFR) h9) okX9_request ivX9_request rfl (by decide) ml_L_141 dL_law_926 rfl (by decide) (Nat.le_of_eq (Nat.zero_add _)) rfl (Nat.le_of_ble_eq_true rfl) (fun _ _ z => z.elim) (fun r' S' z => ?_)
      obtain ⟨rfl, rfl⟩ := z
      show WP (mLaw N xs) 60 k2 929 [some (vR 74 0), some (vR 8 0), some (vR 9 0), some (vR 70 0), some (vI i), some (vI 0), l6] [vI b] (cM m9 x'.toInt64 rho9) Q QX
      refine wp_istore (L' := [some (vR 74 0), some (vR 8 0), some (vR 9 0), some (vR 70 0), some (vI i), some (vI 0), some (vI b)]) dL_law_929 rfl rfl ?_
      refine wp_aload_n dL_law_931 rfl ?_
      refine wp_callV (k1 := 0) (k2 := k2) (As := []) (rest := []) (w9_thrown (RA_fr hRA hFR) (r := rho9 64 0) (rho9 := rho9) rfl) okX9_thrown ivX9_thrown rfl (by decide) ml_L_104 dL_law_932 rfl (by decide) (Nat.le_of_eq (Nat.zero_add _)) rfl (Nat.le_of_ble_eq_true rfl) (fun _ _ z => z.elim) (fun r' S' z => ?_)
      obtain ⟨rfl, rfl⟩ := z
      show WP (mLaw N xs) 60 k2 935 [some (vR 74 0), some (vR 8 0), some (vR 9 0), some (vR 70 0), some (vI i), some (vI 0), some (vI b)] [vI (rho9 64 0)] (cM m9 x'.toInt64 rho9) Q QX
      refine wp_iload dL_law_935 rfl ?_
      refine wp_icmp_eq (tgt := 942) dL_law_937 (by decide) (fun _ => ?_) (fun z => absurd ht z)
      refine wp_iload dL_law_942 rfl ?_
      refine wp_if_ne (tgt := 959) dL_law_944 (by decide) (fun z => absurd rfl z) (fun _ => ?_)
      refine wp_aload_n dL_law_947 rfl ?_
      refine wp_iconst (v := 0) dL_law_948 (by decide) ?_
      refine cp_laload rfl dL_law_949 ?_
      refine wp_iload dL_law_950 rfl ?_
      refine wp_i2l dL_law_952 ?_
      refine wp_lcmp dL_law_953 ?_
      refine wp_if_eq (tgt := 959) dL_law_954 (by decide) (fun _ => ?_) (fun z => absurd (by have hv' : x'.toInt64 = b.toInt64 := hv; rw [hv']; exact lg_same _) z)
      refine wp_goto (tgt := 1823) dL_law_959 (by decide) ?_
      exact kk _ _ _
    · refine wp_aload_n dL_law_866 rfl ?_
      refine wp_aload_n dL_law_867 rfl ?_
      refine wp_iload dL_law_868 rfl ?_
      refine wp_iconst (v := 1) dL_law_870 (by decide) ?_
      refine wp_iadd dL_law_871 ?_
      refine cp_sld (N := N) (xs := xs) rfl hb1 dL_law_872 ?_
      refine wp_aload_n dL_law_873 rfl ?_
      refine wp_iload dL_law_874 rfl ?_
      refine wp_iconst (v := 2) dL_law_876 (by decide) ?_
      refine wp_iadd dL_law_877 ?_
      refine cp_sld (N := N) (xs := xs) rfl hb2 dL_law_878 ?_
      refine wp_if_eq (tgt := 886) dL_law_879 (by decide) (fun _ => ?_) (fun z => absurd cz z)
      refine wp_iconst (v := 0) dL_law_886 (by decide) ?_
      refine wp_aload_n dL_law_887 rfl ?_
      refine wp_iload dL_law_888 rfl ?_
      refine wp_iconst (v := 3) dL_law_890 (by decide) ?_
      refine wp_iadd dL_law_891 ?_
      refine cp_sld (N := N) (xs := xs) rfl hb3 dL_law_892 ?_
      refine wp_aload_n dL_law_893 rfl ?_
      refine wp_callSW (k1 := n9) (k2 := k2) (As := [vR 8 0, vI (xs (i + 1).toNatClampNeg), vI 0, vI (xs (i + 3).toNatClampNeg), vR 70 0]) (rest := []) (wL_request hr h8) okL_request sm_L_request rfl ml_L_138 dL_law_894 (by decide) (Nat.le_refl _) rfl (by decide) (fun r' S' z => ?_)
      rcases z with ⟨x', hx', -, -⟩ | ⟨j', hj', rfl, rfl⟩
      · rw [hj] at hx'; cases hx'
      have ej : j' = j := by rw [hj] at hj'; exact (Sum.inr.inj hj').symm
      subst ej
      show WP (mLaw N xs) 60 k2 897 [some (vR 74 0), some (vR 8 0), some (vR 9 0), some (vR 70 0), some (vI i), l5, l6] [vI ((fun j => if j = 0 then 1 else if j = 1 then 2 else 3) j')] (cM m9 out rho) Q QX
      refine wp_istore (L' := [some (vR 74 0), some (vR 8 0), some (vR 9 0), some (vR 70 0), some (vI i), some (vI ((fun j => if j = 0 then 1 else if j = 1 then 2 else 3) j')), l6]) dL_law_897 rfl rfl ?_
      refine wp_aload_n dL_law_899 rfl ?_
      refine wp_aload_n dL_law_900 rfl ?_
      refine wp_iload dL_law_901 rfl ?_
      refine wp_iconst (v := 1) dL_law_903 (by decide) ?_
      refine wp_iadd dL_law_904 ?_
      refine cp_sld (N := N) (xs := xs) rfl hb1 dL_law_905 ?_
      refine wp_aload_n dL_law_906 rfl ?_
      refine wp_iload dL_law_907 rfl ?_
      refine wp_iconst (v := 2) dL_law_909 (by decide) ?_
      refine wp_iadd dL_law_910 ?_
      refine cp_sld (N := N) (xs := xs) rfl hb2 dL_law_911 ?_
      refine wp_if_eq (tgt := 919) dL_law_912 (by decide) (fun _ => ?_) (fun z => absurd cz z)
      refine wp_iconst (v := 0) dL_law_919 (by decide) ?_
      refine wp_aload_n dL_law_920 rfl ?_
      refine wp_iload dL_law_921 rfl ?_
      refine wp_iconst (v := 3) dL_law_923 (by decide) ?_
      refine wp_iadd dL_law_924 ?_
      refine cp_sld (N := N) (xs := xs) rfl hb3 dL_law_925 ?_
      refine wp_callV (k1 := 0) (k2 := k2) (As := [vI (xs (i + 1).toNatClampNeg), vI 0, vI (xs (i + 3).toNatClampNeg)]) (rest := []) (w9_request (RA_fr hRA hFR) h9) okX9_request ivX9_request rfl (by decide) ml_L_141 dL_law_926 rfl (by decide) (Nat.le_of_eq (Nat.zero_add _)) rfl (Nat.le_of_ble_eq_true rfl) (fun _ _ z => z.elim) (fun r' S' z => ?_)
      obtain ⟨rfl, rfl⟩ := z
      show WP (mLaw N xs) 60 k2 929 [some (vR 74 0), some (vR 8 0), some (vR 9 0), some (vR 70 0), some (vI i), some (vI ((fun j => if j = 0 then 1 else if j = 1 then 2 else 3) j')), l6] [vI b] (cM m9 out rho9) Q QX
      refine wp_istore (L' := [some (vR 74 0), some (vR 8 0), some (vR 9 0), some (vR 70 0), some (vI i), some (vI ((fun j => if j = 0 then 1 else if j = 1 then 2 else 3) j')), some (vI b)]) dL_law_929 rfl rfl ?_
      refine wp_aload_n dL_law_931 rfl ?_
      refine wp_callV (k1 := 0) (k2 := k2) (As := []) (rest := []) (w9_thrown (RA_fr hRA hFR) (r := rho9 64 0) (rho9 := rho9) rfl) okX9_thrown ivX9_thrown rfl (by decide) ml_L_104 dL_law_932 rfl (by decide) (Nat.le_of_eq (Nat.zero_add _)) rfl (Nat.le_of_ble_eq_true rfl) (fun _ _ z => z.elim) (fun r' S' z => ?_)
      obtain ⟨rfl, rfl⟩ := z
      show WP (mLaw N xs) 60 k2 935 [some (vR 74 0), some (vR 8 0), some (vR 9 0), some (vR 70 0), some (vI i), some (vI ((fun j => if j = 0 then 1 else if j = 1 then 2 else 3) j')), some (vI b)] [vI (rho9 64 0)] (cM m9 out rho9) Q QX
      refine wp_iload dL_law_935 rfl ?_
      refine wp_icmp_eq (tgt := 942) dL_law_937 (by decide) (fun _ => ?_) (fun z => absurd ht z)
      refine wp_iload dL_law_942 rfl ?_
      refine wp_if_ne (tgt := 959) dL_law_944 (by decide) (fun _ => ?_) (fun z => absurd z hn)
      refine wp_goto (tgt := 1823) dL_law_959 (by decide) ?_
      exact kk _ _ _
  · rw [if_neg cz] at h8 h9
    rcases hag with ⟨x, hx, ht, hv⟩ | ⟨j, hj, ht, hn⟩
    · refine wp_aload_n dL_law_866 rfl ?_
      refine wp_aload_n dL_law_867 rfl ?_
      refine wp_iload dL_law_868 rfl ?_
      refine wp_iconst (v := 1) dL_law_870 (by decide) ?_
      refine wp_iadd dL_law_871 ?_
      refine cp_sld (N := N) (xs := xs) rfl hb1 dL_law_872 ?_
      refine wp_aload_n dL_law_873 rfl ?_
      refine wp_iload dL_law_874 rfl ?_
      refine wp_iconst (v := 2) dL_law_876 (by decide) ?_
      refine wp_iadd dL_law_877 ?_
      refine cp_sld (N := N) (xs := xs) rfl hb2 dL_law_878 ?_
      refine wp_if_eq (tgt := 886) dL_law_879 (by decide) (fun z => absurd z cz) (fun _ => ?_)
      refine wp_iconst (v := 1) dL_law_882 (by decide) ?_
      refine wp_goto (tgt := 887) dL_law_883 (by decide) ?_
      refine wp_aload_n dL_law_887 rfl ?_
      refine wp_iload dL_law_888 rfl ?_
      refine wp_iconst (v := 3) dL_law_890 (by decide) ?_
      refine wp_iadd dL_law_891 ?_
      refine cp_sld (N := N) (xs := xs) rfl hb3 dL_law_892 ?_
      refine wp_aload_n dL_law_893 rfl ?_
      refine wp_callSW (k1 := n9) (k2 := k2) (As := [vR 8 0, vI (xs (i + 1).toNatClampNeg), vI 1, vI (xs (i + 3).toNatClampNeg), vR 70 0]) (rest := []) (wL_request hr h8) okL_request sm_L_request rfl ml_L_138 dL_law_894 (by decide) (Nat.le_refl _) rfl (by decide) (fun r' S' z => ?_)
      rcases z with ⟨x', hx', rfl, rfl⟩ | ⟨j', hj', -, -⟩
      rotate_left
      · rw [hx] at hj'; cases hj'
      have ex : x' = x := by rw [hx] at hx'; exact (Sum.inl.inj hx').symm
      subst ex
      show WP (mLaw N xs) 60 k2 897 [some (vR 74 0), some (vR 8 0), some (vR 9 0), some (vR 70 0), some (vI i), l5, l6] [vI 0] (cM m9 x'.toInt64 rho) Q QX
      refine wp_istore (L' := [some (vR 74 0), some (vR 8 0), some (vR 9 0), some (vR 70 0), some (vI i), some (vI 0), l6]) dL_law_897 rfl rfl ?_
      refine wp_aload_n dL_law_899 rfl ?_
      refine wp_aload_n dL_law_900 rfl ?_
      refine wp_iload dL_law_901 rfl ?_
      refine wp_iconst (v := 1) dL_law_903 (by decide) ?_
      refine wp_iadd dL_law_904 ?_
      refine cp_sld (N := N) (xs := xs) rfl hb1 dL_law_905 ?_
      refine wp_aload_n dL_law_906 rfl ?_
      refine wp_iload dL_law_907 rfl ?_
      refine wp_iconst (v := 2) dL_law_909 (by decide) ?_
      refine wp_iadd dL_law_910 ?_
      refine cp_sld (N := N) (xs := xs) rfl hb2 dL_law_911 ?_
      refine wp_if_eq (tgt := 919) dL_law_912 (by decide) (fun z => absurd z cz) (fun _ => ?_)
      refine wp_iconst (v := 1) dL_law_915 (by decide) ?_
      refine wp_goto (tgt := 920) dL_law_916 (by decide) ?_
      refine wp_aload_n dL_law_920 rfl ?_
      refine wp_iload dL_law_921 rfl ?_
      refine wp_iconst (v := 3) dL_law_923 (by decide) ?_
      refine wp_iadd dL_law_924 ?_
      refine cp_sld (N := N) (xs := xs) rfl hb3 dL_law_925 ?_
      refine wp_callV (k1 := 0) (k2 := k2) (As := [vI (xs (i + 1).toNatClampNeg), vI 1, vI (xs (i + 3).toNatClampNeg)]) (rest := []) (w9_request (RA_fr hRA hFR) h9) okX9_request ivX9_request rfl (by decide) ml_L_141 dL_law_926 rfl (by decide) (Nat.le_of_eq (Nat.zero_add _)) rfl (Nat.le_of_ble_eq_true rfl) (fun _ _ z => z.elim) (fun r' S' z => ?_)
      obtain ⟨rfl, rfl⟩ := z
      show WP (mLaw N xs) 60 k2 929 [some (vR 74 0), some (vR 8 0), some (vR 9 0), some (vR 70 0), some (vI i), some (vI 0), l6] [vI b] (cM m9 x'.toInt64 rho9) Q QX
      refine wp_istore (L' := [some (vR 74 0), some (vR 8 0), some (vR 9 0), some (vR 70 0), some (vI i), some (vI 0), some (vI b)]) dL_law_929 rfl rfl ?_
      refine wp_aload_n dL_law_931 rfl ?_
      refine wp_callV (k1 := 0) (k2 := k2) (As := []) (rest := []) (w9_thrown (RA_fr hRA hFR) (r := rho9 64 0) (rho9 := rho9) rfl) okX9_thrown ivX9_thrown rfl (by decide) ml_L_104 dL_law_932 rfl (by decide) (Nat.le_of_eq (Nat.zero_add _)) rfl (Nat.le_of_ble_eq_true rfl) (fun _ _ z => z.elim) (fun r' S' z => ?_)
      obtain ⟨rfl, rfl⟩ := z
      show WP (mLaw N xs) 60 k2 935 [some (vR 74 0), some (vR 8 0), some (vR 9 0), some (vR 70 0), some (vI i), some (vI 0), some (vI b)] [vI (rho9 64 0)] (cM m9 x'.toInt64 rho9) Q QX
      refine wp_iload dL_law_935 rfl ?_
      refine wp_icmp_eq (tgt := 942) dL_law_937 (by decide) (fun _ => ?_) (fun z => absurd ht z)
      refine wp_iload dL_law_942 rfl ?_
      refine wp_if_ne (tgt := 959) dL_law_944 (by decide) (fun z => absurd rfl z) (fun _ => ?_)
      refine wp_aload_n dL_law_947 rfl ?_
      refine wp_iconst (v := 0) dL_law_948 (by decide) ?_
      refine cp_laload rfl dL_law_949 ?_
      refine wp_iload dL_law_950 rfl ?_
      refine wp_i2l dL_law_952 ?_
      refine wp_lcmp dL_law_953 ?_
      refine wp_if_eq (tgt := 959) dL_law_954 (by decide) (fun _ => ?_) (fun z => absurd (by have hv' : x'.toInt64 = b.toInt64 := hv; rw [hv']; exact lg_same _) z)
      refine wp_goto (tgt := 1823) dL_law_959 (by decide) ?_
      exact kk _ _ _
    · refine wp_aload_n dL_law_866 rfl ?_
      refine wp_aload_n dL_law_867 rfl ?_
      refine wp_iload dL_law_868 rfl ?_
      refine wp_iconst (v := 1) dL_law_870 (by decide) ?_
      refine wp_iadd dL_law_871 ?_
      refine cp_sld (N := N) (xs := xs) rfl hb1 dL_law_872 ?_
      refine wp_aload_n dL_law_873 rfl ?_
      refine wp_iload dL_law_874 rfl ?_
      refine wp_iconst (v := 2) dL_law_876 (by decide) ?_
      refine wp_iadd dL_law_877 ?_
      refine cp_sld (N := N) (xs := xs) rfl hb2 dL_law_878 ?_
      refine wp_if_eq (tgt := 886) dL_law_879 (by decide) (fun z => absurd z cz) (fun _ => ?_)
      refine wp_iconst (v := 1) dL_law_882 (by decide) ?_
      refine wp_goto (tgt := 887) dL_law_883 (by decide) ?_
      refine wp_aload_n dL_law_887 rfl ?_
      refine wp_iload dL_law_888 rfl ?_
      refine wp_iconst (v := 3) dL_law_890 (by decide) ?_
      refine wp_iadd dL_law_891 ?_
      refine cp_sld (N := N) (xs := xs) rfl hb3 dL_law_892 ?_
      refine wp_aload_n dL_law_893 rfl ?_
      refine wp_callSW (k1 := n9) (k2 := k2) (As := [vR 8 0, vI (xs (i + 1).toNatClampNeg), vI 1, vI (xs (i + 3).toNatClampNeg), vR 70 0]) (rest := []) (wL_request hr h8) okL_request sm_L_request rfl ml_L_138 dL_law_894 (by decide) (Nat.le_refl _) rfl (by decide) (fun r' S' z => ?_)
      rcases z with ⟨x', hx', -, -⟩ | ⟨j', hj', rfl, rfl⟩
      · rw [hj] at hx'; cases hx'
      have ej : j' = j := by rw [hj] at hj'; exact (Sum.inr.inj hj').symm
      subst ej
      show WP (mLaw N xs) 60 k2 897 [some (vR 74 0), some (vR 8 0), some (vR 9 0), some (vR 70 0), some (vI i), l5, l6] [vI ((fun j => if j = 0 then 1 else if j = 1 then 2 else 3) j')] (cM m9 out rho) Q QX
      refine wp_istore (L' := [some (vR 74 0), some (vR 8 0), some (vR 9 0), some (vR 70 0), some (vI i), some (vI ((fun j => if j = 0 then 1 else if j = 1 then 2 else 3) j')), l6]) dL_law_897 rfl rfl ?_
      refine wp_aload_n dL_law_899 rfl ?_
      refine wp_aload_n dL_law_900 rfl ?_
      refine wp_iload dL_law_901 rfl ?_
      refine wp_iconst (v := 1) dL_law_903 (by decide) ?_
      refine wp_iadd dL_law_904 ?_
      refine cp_sld (N := N) (xs := xs) rfl hb1 dL_law_905 ?_
      refine wp_aload_n dL_law_906 rfl ?_
      refine wp_iload dL_law_907 rfl ?_
      refine wp_iconst (v := 2) dL_law_909 (by decide) ?_
      refine wp_iadd dL_law_910 ?_
      refine cp_sld (N := N) (xs := xs) rfl hb2 dL_law_911 ?_
      refine wp_if_eq (tgt := 919) dL_law_912 (by decide) (fun z => absurd z cz) (fun _ => ?_)
      refine wp_iconst (v := 1) dL_law_915 (by decide) ?_
      refine wp_goto (tgt := 920) dL_law_916 (by decide) ?_
      refine wp_aload_n dL_law_920 rfl ?_
      refine wp_iload dL_law_921 rfl ?_
      refine wp_iconst (v := 3) dL_law_923 (by decide) ?_
      refine wp_iadd dL_law_924 ?_
      refine cp_sld (N := N) (xs := xs) rfl hb3 dL_law_925 ?_
      refine wp_callV (k1 := 0) (k2 := k2) (As := [vI (xs (i + 1).toNatClampNeg), vI 1, vI (xs (i + 3).toNatClampNeg)]) (rest := []) (w9_request (RA_fr hRA hFR) h9) okX9_request ivX9_request rfl (by decide) ml_L_141 dL_law_926 rfl (by decide) (Nat.le_of_eq (Nat.zero_add _)) rfl (Nat.le_of_ble_eq_true rfl) (fun _ _ z => z.elim) (fun r' S' z => ?_)
      obtain ⟨rfl, rfl⟩ := z
      show WP (mLaw N xs) 60 k2 929 [some (vR 74 0), some (vR 8 0), some (vR 9 0), some (vR 70 0), some (vI i), some (vI ((fun j => if j = 0 then 1 else if j = 1 then 2 else 3) j')), l6] [vI b] (cM m9 out rho9) Q QX
      refine wp_istore (L' := [some (vR 74 0), some (vR 8 0), some (vR 9 0), some (vR 70 0), some (vI i), some (vI ((fun j => if j = 0 then 1 else if j = 1 then 2 else 3) j')), some (vI b)]) dL_law_929 rfl rfl ?_
      refine wp_aload_n dL_law_931 rfl ?_
      refine wp_callV (k1 := 0) (k2 := k2) (As := []) (rest := []) (w9_thrown (RA_fr hRA hFR) (r := rho9 64 0) (rho9 := rho9) rfl) okX9_thrown ivX9_thrown rfl (by decide) ml_L_104 dL_law_932 rfl (by decide) (Nat.le_of_eq (Nat.zero_add _)) rfl (Nat.le_of_ble_eq_true rfl) (fun _ _ z => z.elim) (fun r' S' z => ?_)
      obtain ⟨rfl, rfl⟩ := z
      show WP (mLaw N xs) 60 k2 935 [some (vR 74 0), some (vR 8 0), some (vR 9 0), some (vR 70 0), some (vI i), some (vI ((fun j => if j = 0 then 1 else if j = 1 then 2 else 3) j')), some (vI b)] [vI (rho9 64 0)] (cM m9 out rho9) Q QX
      refine wp_iload dL_law_935 rfl ?_
      refine wp_icmp_eq (tgt := 942) dL_law_937 (by decide) (fun _ => ?_) (fun z => absurd ht z)
      refine wp_iload dL_law_942 rfl ?_
      refine wp_if_ne (tgt := 959) dL_law_944 (by decide) (fun _ => ?_) (fun z => absurd z hn)
      refine wp_goto (tgt := 1823) dL_law_959 (by decide) ?_
      exact kk _ _ _
theorem law_c10 {r : Int32 ⊕ Nat} (hr : ∀ j, r = .inr j → j = 1 ∨ j = 2) (h8 : f8_X8_pass 0 (xs (i + 1).toNatClampNeg) m = some (r, m9, n9)) (h9 : f9_pass (xs (i + 1).toNatClampNeg) rho = some (b, rho9)) (hag : AG r (fun x => x.toInt64) (fun j => if j = 1 then 1 else 2) b.toInt64 (rho9 64 0)) (hb1 : vp_in (i + 1) N) (hRA : RA m.2.1) (hFR : FR m m9) (kk : ∀ (out' : Int64) (l5 l6 : Option sV), WP (mLaw N xs) 60 k2 1823 [some (vR 74 0), some (vR 8 0), some (vR 9 0), some (vR 70 0), some (vI i), l5, l6] [] (cM m9 out' rho9) Q QX) : WP (mLaw N xs) 60 (n9 + k2) 962 [some (vR 74 0), some (vR 8 0), some (vR 9 0), some (vR 70 0), some (vI i), l5, l6] [] (cM m out rho) Q QX := by
  rcases hag with ⟨x, hx, ht, hv⟩ | ⟨j, hj, ht, hn⟩
  · refine wp_aload_n dL_law_962 rfl ?_
    refine wp_aload_n dL_law_963 rfl ?_
    refine wp_iload dL_law_964 rfl ?_
    refine wp_iconst (v := 1) dL_law_966 (by decide) ?_
    refine wp_iadd dL_law_967 ?_
    refine cp_sld (N := N) (xs := xs) rfl hb1 dL_law_968 ?_
    refine wp_aload_n dL_law_969 rfl ?_
    refine wp_callSW (k1 := n9) (k2 := k2) (As := [vR 8 0, vI (xs (i + 1).toNatClampNeg), vR 70 0]) (rest := []) (wL_pass hr h8) okL_pass sm_L_pass rfl ml_L_142 dL_law_970 (by decide) (Nat.le_refl _) rfl (by decide) (fun r' S' z => ?_)
    rcases z with ⟨x', hx', rfl, rfl⟩ | ⟨j', hj', -, -⟩
    rotate_left
    · rw [hx] at hj'; cases hj'
    have ex : x' = x := by rw [hx] at hx'; exact (Sum.inl.inj hx').symm
    subst ex
    show WP (mLaw N xs) 60 k2 973 [some (vR 74 0), some (vR 8 0), some (vR 9 0), some (vR 70 0), some (vI i), l5, l6] [vI 0] (cM m9 x'.toInt64 rho) Q QX
    refine wp_istore (L' := [some (vR 74 0), some (vR 8 0), some (vR 9 0), some (vR 70 0), some (vI i), some (vI 0), l6]) dL_law_973 rfl rfl ?_
    refine wp_aload_n dL_law_975 rfl ?_
    refine wp_aload_n dL_law_976 rfl ?_
    refine wp_iload dL_law_977 rfl ?_
    refine wp_iconst (v := 1) dL_law_979 (by decide) ?_
    refine wp_iadd dL_law_980 ?_
    refine cp_sld (N := N) (xs := xs) rfl hb1 dL_law_981 ?_
    refine wp_callV (k1 := 0) (k2 := k2) (As := [vI (xs (i + 1).toNatClampNeg)]) (rest := []) (w9_pass (RA_fr hRA hFR) h9) okX9_pass ivX9_pass rfl (by decide) ml_L_144 dL_law_982 rfl (by decide) (Nat.le_of_eq (Nat.zero_add _)) rfl (Nat.le_of_ble_eq_true rfl) (fun _ _ z => z.elim) (fun r' S' z => ?_)
    obtain ⟨rfl, rfl⟩ := z
    show WP (mLaw N xs) 60 k2 985 [some (vR 74 0), some (vR 8 0), some (vR 9 0), some (vR 70 0), some (vI i), some (vI 0), l6] [vI b] (cM m9 x'.toInt64 rho9) Q QX
    refine wp_istore (L' := [some (vR 74 0), some (vR 8 0), some (vR 9 0), some (vR 70 0), some (vI i), some (vI 0), some (vI b)]) dL_law_985 rfl rfl ?_
    refine wp_aload_n dL_law_987 rfl ?_
    refine wp_callV (k1 := 0) (k2 := k2) (As := []) (rest := []) (w9_thrown (RA_fr hRA hFR) (r := rho9 64 0) (rho9 := rho9) rfl) okX9_thrown ivX9_thrown rfl (by decide) ml_L_104 dL_law_988 rfl (by decide) (Nat.le_of_eq (Nat.zero_add _)) rfl (Nat.le_of_ble_eq_true rfl) (fun _ _ z => z.elim) (fun r' S' z => ?_)
    obtain ⟨rfl, rfl⟩ := z
    show WP (mLaw N xs) 60 k2 991 [some (vR 74 0), some (vR 8 0), some (vR 9 0), some (vR 70 0), some (vI i), some (vI 0), some (vI b)] [vI (rho9 64 0)] (cM m9 x'.toInt64 rho9) Q QX
    refine wp_iload dL_law_991 rfl ?_
    refine wp_icmp_eq (tgt := 998) dL_law_993 (by decide) (fun _ => ?_) (fun z => absurd ht z)
    refine wp_iload dL_law_998 rfl ?_
    refine wp_if_ne (tgt := 1015) dL_law_1000 (by decide) (fun z => absurd rfl z) (fun _ => ?_)
    refine wp_aload_n dL_law_1003 rfl ?_
    refine wp_iconst (v := 0) dL_law_1004 (by decide) ?_
    refine cp_laload rfl dL_law_1005 ?_
    refine wp_iload dL_law_1006 rfl ?_
    refine wp_i2l dL_law_1008 ?_
    refine wp_lcmp dL_law_1009 ?_
    refine wp_if_eq (tgt := 1015) dL_law_1010 (by decide) (fun _ => ?_) (fun z => absurd (by have hv' : x'.toInt64 = b.toInt64 := hv; rw [hv']; exact lg_same _) z)
    refine wp_goto (tgt := 1823) dL_law_1015 (by decide) ?_
    exact kk _ _ _
  · refine wp_aload_n dL_law_962 rfl ?_
    refine wp_aload_n dL_law_963 rfl ?_
    refine wp_iload dL_law_964 rfl ?_
    refine wp_iconst (v := 1) dL_law_966 (by decide) ?_
    refine wp_iadd dL_law_967 ?_
    refine cp_sld (N := N) (xs := xs) rfl hb1 dL_law_968 ?_
    refine wp_aload_n dL_law_969 rfl ?_
    refine wp_callSW (k1 := n9) (k2 := k2) (As := [vR 8 0, vI (xs (i + 1).toNatClampNeg), vR 70 0]) (rest := []) (wL_pass hr h8) okL_pass sm_L_pass rfl ml_L_142 dL_law_970 (by decide) (Nat.le_refl _) rfl (by decide) (fun r' S' z => ?_)
    rcases z with ⟨x', hx', -, -⟩ | ⟨j', hj', rfl, rfl⟩
    · rw [hj] at hx'; cases hx'
    have ej : j' = j := by rw [hj] at hj'; exact (Sum.inr.inj hj').symm
    subst ej
    show WP (mLaw N xs) 60 k2 973 [some (vR 74 0), some (vR 8 0), some (vR 9 0), some (vR 70 0), some (vI i), l5, l6] [vI ((fun j => if j = 1 then 1 else 2) j')] (cM m9 out rho) Q QX
    refine wp_istore (L' := [some (vR 74 0), some (vR 8 0), some (vR 9 0), some (vR 70 0), some (vI i), some (vI ((fun j => if j = 1 then 1 else 2) j')), l6]) dL_law_973 rfl rfl ?_
    refine wp_aload_n dL_law_975 rfl ?_
    refine wp_aload_n dL_law_976 rfl ?_
    refine wp_iload dL_law_977 rfl ?_
    refine wp_iconst (v := 1) dL_law_979 (by decide) ?_
    refine wp_iadd dL_law_980 ?_
    refine cp_sld (N := N) (xs := xs) rfl hb1 dL_law_981 ?_
    refine wp_callV (k1 := 0) (k2 := k2) (As := [vI (xs (i + 1).toNatClampNeg)]) (rest := []) (w9_pass (RA_fr hRA hFR) h9) okX9_pass ivX9_pass rfl (by decide) ml_L_144 dL_law_982 rfl (by decide) (Nat.le_of_eq (Nat.zero_add _)) rfl (Nat.le_of_ble_eq_true rfl) (fun _ _ z => z.elim) (fun r' S' z => ?_)
    obtain ⟨rfl, rfl⟩ := z
    show WP (mLaw N xs) 60 k2 985 [some (vR 74 0), some (vR 8 0), some (vR 9 0), some (vR 70 0), some (vI i), some (vI ((fun j => if j = 1 then 1 else 2) j')), l6] [vI b] (cM m9 out rho9) Q QX
    refine wp_istore (L' := [some (vR 74 0), some (vR 8 0), some (vR 9 0), some (vR 70 0), some (vI i), some (vI ((fun j => if j = 1 then 1 else 2) j')), some (vI b)]) dL_law_985 rfl rfl ?_
    refine wp_aload_n dL_law_987 rfl ?_
    refine wp_callV (k1 := 0) (k2 := k2) (As := []) (rest := []) (w9_thrown (RA_fr hRA hFR) (r := rho9 64 0) (rho9 := rho9) rfl) okX9_thrown ivX9_thrown rfl (by decide) ml_L_104 dL_law_988 rfl (by decide) (Nat.le_of_eq (Nat.zero_add _)) rfl (Nat.le_of_ble_eq_true rfl) (fun _ _ z => z.elim) (fun r' S' z => ?_)
    obtain ⟨rfl, rfl⟩ := z
    show WP (mLaw N xs) 60 k2 991 [some (vR 74 0), some (vR 8 0), some (vR 9 0), some (vR 70 0), some (vI i), some (vI ((fun j => if j = 1 then 1 else 2) j')), some (vI b)] [vI (rho9 64 0)] (cM m9 out rho9) Q QX
    refine wp_iload dL_law_991 rfl ?_
    refine wp_icmp_eq (tgt := 998) dL_law_993 (by decide) (fun _ => ?_) (fun z => absurd ht z)
    refine wp_iload dL_law_998 rfl ?_
    refine wp_if_ne (tgt := 1015) dL_law_1000 (by decide) (fun _ => ?_) (fun z => absurd z hn)
    refine wp_goto (tgt := 1823) dL_law_1015 (by decide) ?_
    exact kk _ _ _
theorem law_c11 {r : Int32} (h8 : f8_X8_tick 0  m = some (r, m9, n9)) (h9 : f9_tick  rho = some (b, rho9)) (hag : r = b)  (hRA : RA m.2.1) (hFR : FR m m9) (kk : ∀ (out' : Int64) (l5 l6 : Option sV), WP (mLaw N xs) 60 k2 1823 [some (vR 74 0), some (vR 8 0), some (vR 9 0), some (vR 70 0), some (vI i), l5, l6] [] (cM m9 out' rho9) Q QX) : WP (mLaw N xs) 60 (n9 + k2) 1018 [some (vR 74 0), some (vR 8 0), some (vR 9 0), some (vR 70 0), some (vI i), l5, l6] [] (cM m out rho) Q QX := by
  refine wp_aload_n dL_law_1018 rfl ?_
  refine wp_callV (k1 := n9) (k2 := k2) (As := []) (rest := []) (w8_X8_tick h8) okX8_tick ivX8_tick rfl (by decide) ml_L_145 dL_law_1019 rfl (by decide) (Nat.le_refl _) rfl (by decide) (fun _ _ z => z.elim) (fun r' S' z => ?_)
  obtain ⟨rfl, rfl⟩ := z
  show WP (mLaw N xs) 60 k2 1022 [some (vR 74 0), some (vR 8 0), some (vR 9 0), some (vR 70 0), some (vI i), l5, l6] [vI r] (cM m9 out rho) Q QX
  refine wp_aload_n dL_law_1022 rfl ?_
  refine wp_callV (k1 := 0) (k2 := k2) (As := []) (rest := [vI r]) (w9_tick (RA_fr hRA hFR) h9) okX9_tick ivX9_tick rfl (by decide) ml_L_148 dL_law_1023 rfl (by decide) (Nat.le_of_eq (Nat.zero_add _)) rfl (Nat.le_of_ble_eq_true rfl) (fun _ _ z => z.elim) (fun r' S' z => ?_)
  obtain ⟨rfl, rfl⟩ := z
  show WP (mLaw N xs) 60 k2 1026 [some (vR 74 0), some (vR 8 0), some (vR 9 0), some (vR 70 0), some (vI i), l5, l6] [vI b, vI r] (cM m9 out rho9) Q QX
  refine wp_icmp_eq (tgt := 1823) dL_law_1026 (by decide) (fun _ => ?_) (fun z => absurd hag z)
  exact kk _ _ _
theorem law_c12 {r : Int32 ⊕ Nat} (hr : ∀ j, r = .inr j → j = 0) (h8 : f8_X8_requestState 0 (xs (i + 1).toNatClampNeg) m = some (r, m9, n9)) (h9 : f9_requestState (xs (i + 1).toNatClampNeg) rho = some (b, rho9)) (hag : AG r (fun x => x.toInt64) (fun j => 1) b.toInt64 (rho9 64 0)) (hb1 : vp_in (i + 1) N) (hRA : RA m.2.1) (hFR : FR m m9) (kk : ∀ (out' : Int64) (l5 l6 : Option sV), WP (mLaw N xs) 60 k2 1823 [some (vR 74 0), some (vR 8 0), some (vR 9 0), some (vR 70 0), some (vI i), l5, l6] [] (cM m9 out' rho9) Q QX) : WP (mLaw N xs) 60 (n9 + k2) 1031 [some (vR 74 0), some (vR 8 0), some (vR 9 0), some (vR 70 0), some (vI i), l5, l6] [] (cM m out rho) Q QX := by
  rcases hag with ⟨x, hx, ht, hv⟩ | ⟨j, hj, ht, hn⟩
  · refine wp_aload_n dL_law_1031 rfl ?_
    refine wp_aload_n dL_law_1032 rfl ?_
    refine wp_iload dL_law_1033 rfl ?_
    refine wp_iconst (v := 1) dL_law_1035 (by decide) ?_
    refine wp_iadd dL_law_1036 ?_
    refine cp_sld (N := N) (xs := xs) rfl hb1 dL_law_1037 ?_
    refine wp_aload_n dL_law_1038 rfl ?_
    refine wp_callSW (k1 := n9) (k2 := k2) (As := [vR 8 0, vI (xs (i + 1).toNatClampNeg), vR 70 0]) (rest := []) (wL_requestState hr h8) okL_requestState sm_L_requestState rfl ml_L_149 dL_law_1039 (by decide) (Nat.le_refl _) rfl (by decide) (fun r' S' z => ?_)
    rcases z with ⟨x', hx', rfl, rfl⟩ | ⟨j', hj', -, -⟩
    rotate_left
    · rw [hx] at hj'; cases hj'
    have ex : x' = x := by rw [hx] at hx'; exact (Sum.inl.inj hx').symm
    subst ex
    show WP (mLaw N xs) 60 k2 1042 [some (vR 74 0), some (vR 8 0), some (vR 9 0), some (vR 70 0), some (vI i), l5, l6] [vI 0] (cM m9 x'.toInt64 rho) Q QX
    refine wp_istore (L' := [some (vR 74 0), some (vR 8 0), some (vR 9 0), some (vR 70 0), some (vI i), some (vI 0), l6]) dL_law_1042 rfl rfl ?_
    refine wp_aload_n dL_law_1044 rfl ?_
    refine wp_aload_n dL_law_1045 rfl ?_
    refine wp_iload dL_law_1046 rfl ?_
    refine wp_iconst (v := 1) dL_law_1048 (by decide) ?_
    refine wp_iadd dL_law_1049 ?_
    refine cp_sld (N := N) (xs := xs) rfl hb1 dL_law_1050 ?_
    refine wp_callV (k1 := 0) (k2 := k2) (As := [vI (xs (i + 1).toNatClampNeg)]) (rest := []) (w9_requestState (RA_fr hRA hFR) h9) okX9_requestState ivX9_requestState rfl (by decide) ml_L_151 dL_law_1051 rfl (by decide) (Nat.le_of_eq (Nat.zero_add _)) rfl (Nat.le_of_ble_eq_true rfl) (fun _ _ z => z.elim) (fun r' S' z => ?_)
    obtain ⟨rfl, rfl⟩ := z
    show WP (mLaw N xs) 60 k2 1054 [some (vR 74 0), some (vR 8 0), some (vR 9 0), some (vR 70 0), some (vI i), some (vI 0), l6] [vI b] (cM m9 x'.toInt64 rho9) Q QX
    refine wp_istore (L' := [some (vR 74 0), some (vR 8 0), some (vR 9 0), some (vR 70 0), some (vI i), some (vI 0), some (vI b)]) dL_law_1054 rfl rfl ?_
    refine wp_aload_n dL_law_1056 rfl ?_
    refine wp_callV (k1 := 0) (k2 := k2) (As := []) (rest := []) (w9_thrown (RA_fr hRA hFR) (r := rho9 64 0) (rho9 := rho9) rfl) okX9_thrown ivX9_thrown rfl (by decide) ml_L_104 dL_law_1057 rfl (by decide) (Nat.le_of_eq (Nat.zero_add _)) rfl (Nat.le_of_ble_eq_true rfl) (fun _ _ z => z.elim) (fun r' S' z => ?_)
    obtain ⟨rfl, rfl⟩ := z
    show WP (mLaw N xs) 60 k2 1060 [some (vR 74 0), some (vR 8 0), some (vR 9 0), some (vR 70 0), some (vI i), some (vI 0), some (vI b)] [vI (rho9 64 0)] (cM m9 x'.toInt64 rho9) Q QX
    refine wp_iload dL_law_1060 rfl ?_
    refine wp_icmp_eq (tgt := 1067) dL_law_1062 (by decide) (fun _ => ?_) (fun z => absurd ht z)
    refine wp_iload dL_law_1067 rfl ?_
    refine wp_if_ne (tgt := 1084) dL_law_1069 (by decide) (fun z => absurd rfl z) (fun _ => ?_)
    refine wp_aload_n dL_law_1072 rfl ?_
    refine wp_iconst (v := 0) dL_law_1073 (by decide) ?_
    refine cp_laload rfl dL_law_1074 ?_
    refine wp_iload dL_law_1075 rfl ?_
    refine wp_i2l dL_law_1077 ?_
    refine wp_lcmp dL_law_1078 ?_
    refine wp_if_eq (tgt := 1084) dL_law_1079 (by decide) (fun _ => ?_) (fun z => absurd (by have hv' : x'.toInt64 = b.toInt64 := hv; rw [hv']; exact lg_same _) z)
    refine wp_goto (tgt := 1823) dL_law_1084 (by decide) ?_
    exact kk _ _ _
  · refine wp_aload_n dL_law_1031 rfl ?_
    refine wp_aload_n dL_law_1032 rfl ?_
    refine wp_iload dL_law_1033 rfl ?_
    refine wp_iconst (v := 1) dL_law_1035 (by decide) ?_
    refine wp_iadd dL_law_1036 ?_
    refine cp_sld (N := N) (xs := xs) rfl hb1 dL_law_1037 ?_
    refine wp_aload_n dL_law_1038 rfl ?_
    refine wp_callSW (k1 := n9) (k2 := k2) (As := [vR 8 0, vI (xs (i + 1).toNatClampNeg), vR 70 0]) (rest := []) (wL_requestState hr h8) okL_requestState sm_L_requestState rfl ml_L_149 dL_law_1039 (by decide) (Nat.le_refl _) rfl (by decide) (fun r' S' z => ?_)
    rcases z with ⟨x', hx', -, -⟩ | ⟨j', hj', rfl, rfl⟩
    · rw [hj] at hx'; cases hx'
    have ej : j' = j := by rw [hj] at hj'; exact (Sum.inr.inj hj').symm
    subst ej
    show WP (mLaw N xs) 60 k2 1042 [some (vR 74 0), some (vR 8 0), some (vR 9 0), some (vR 70 0), some (vI i), l5, l6] [vI ((fun j => 1) j')] (cM m9 out rho) Q QX
    refine wp_istore (L' := [some (vR 74 0), some (vR 8 0), some (vR 9 0), some (vR 70 0), some (vI i), some (vI ((fun j => 1) j')), l6]) dL_law_1042 rfl rfl ?_
    refine wp_aload_n dL_law_1044 rfl ?_
    refine wp_aload_n dL_law_1045 rfl ?_
    refine wp_iload dL_law_1046 rfl ?_
    refine wp_iconst (v := 1) dL_law_1048 (by decide) ?_
    refine wp_iadd dL_law_1049 ?_
    refine cp_sld (N := N) (xs := xs) rfl hb1 dL_law_1050 ?_
    refine wp_callV (k1 := 0) (k2 := k2) (As := [vI (xs (i + 1).toNatClampNeg)]) (rest := []) (w9_requestState (RA_fr hRA hFR) h9) okX9_requestState ivX9_requestState rfl (by decide) ml_L_151 dL_law_1051 rfl (by decide) (Nat.le_of_eq (Nat.zero_add _)) rfl (Nat.le_of_ble_eq_true rfl) (fun _ _ z => z.elim) (fun r' S' z => ?_)
    obtain ⟨rfl, rfl⟩ := z
    show WP (mLaw N xs) 60 k2 1054 [some (vR 74 0), some (vR 8 0), some (vR 9 0), some (vR 70 0), some (vI i), some (vI ((fun j => 1) j')), l6] [vI b] (cM m9 out rho9) Q QX
    refine wp_istore (L' := [some (vR 74 0), some (vR 8 0), some (vR 9 0), some (vR 70 0), some (vI i), some (vI ((fun j => 1) j')), some (vI b)]) dL_law_1054 rfl rfl ?_
    refine wp_aload_n dL_law_1056 rfl ?_
    refine wp_callV (k1 := 0) (k2 := k2) (As := []) (rest := []) (w9_thrown (RA_fr hRA hFR) (r := rho9 64 0) (rho9 := rho9) rfl) okX9_thrown ivX9_thrown rfl (by decide) ml_L_104 dL_law_1057 rfl (by decide) (Nat.le_of_eq (Nat.zero_add _)) rfl (Nat.le_of_ble_eq_true rfl) (fun _ _ z => z.elim) (fun r' S' z => ?_)
    obtain ⟨rfl, rfl⟩ := z
    show WP (mLaw N xs) 60 k2 1060 [some (vR 74 0), some (vR 8 0), some (vR 9 0), some (vR 70 0), some (vI i), some (vI ((fun j => 1) j')), some (vI b)] [vI (rho9 64 0)] (cM m9 out rho9) Q QX
    refine wp_iload dL_law_1060 rfl ?_
    refine wp_icmp_eq (tgt := 1067) dL_law_1062 (by decide) (fun _ => ?_) (fun z => absurd ht z)
    refine wp_iload dL_law_1067 rfl ?_
    refine wp_if_ne (tgt := 1084) dL_law_1069 (by decide) (fun _ => ?_) (fun z => absurd z hn)
    refine wp_goto (tgt := 1823) dL_law_1084 (by decide) ?_
    exact kk _ _ _
theorem law_c13 {r : Int32 ⊕ Nat} (hr : ∀ j, r = .inr j → j = 0) (h8 : f8_X8_requestTicks 0 (xs (i + 1).toNatClampNeg) m = some (r, m9, n9)) (h9 : f9_requestTicks (xs (i + 1).toNatClampNeg) rho = some (b, rho9)) (hag : AG r (fun x => x.toInt64) (fun j => 1) b.toInt64 (rho9 64 0)) (hb1 : vp_in (i + 1) N) (hRA : RA m.2.1) (hFR : FR m m9) (kk : ∀ (out' : Int64) (l5 l6 : Option sV), WP (mLaw N xs) 60 k2 1823 [some (vR 74 0), some (vR 8 0), some (vR 9 0), some (vR 70 0), some (vI i), l5, l6] [] (cM m9 out' rho9) Q QX) : WP (mLaw N xs) 60 (n9 + k2) 1087 [some (vR 74 0), some (vR 8 0), some (vR 9 0), some (vR 70 0), some (vI i), l5, l6] [] (cM m out rho) Q QX := by
  rcases hag with ⟨x, hx, ht, hv⟩ | ⟨j, hj, ht, hn⟩
  · refine wp_aload_n dL_law_1087 rfl ?_
    refine wp_aload_n dL_law_1088 rfl ?_
    refine wp_iload dL_law_1089 rfl ?_
    refine wp_iconst (v := 1) dL_law_1091 (by decide) ?_
    refine wp_iadd dL_law_1092 ?_
    refine cp_sld (N := N) (xs := xs) rfl hb1 dL_law_1093 ?_
    refine wp_aload_n dL_law_1094 rfl ?_
    refine wp_callSW (k1 := n9) (k2 := k2) (As := [vR 8 0, vI (xs (i + 1).toNatClampNeg), vR 70 0]) (rest := []) (wL_requestTicks hr h8) okL_requestTicks sm_L_requestTicks rfl ml_L_152 dL_law_1095 (by decide) (Nat.le_refl _) rfl (by decide) (fun r' S' z => ?_)
    rcases z with ⟨x', hx', rfl, rfl⟩ | ⟨j', hj', -, -⟩
    rotate_left
    · rw [hx] at hj'; cases hj'
    have ex : x' = x := by rw [hx] at hx'; exact (Sum.inl.inj hx').symm
    subst ex
    show WP (mLaw N xs) 60 k2 1098 [some (vR 74 0), some (vR 8 0), some (vR 9 0), some (vR 70 0), some (vI i), l5, l6] [vI 0] (cM m9 x'.toInt64 rho) Q QX
    refine wp_istore (L' := [some (vR 74 0), some (vR 8 0), some (vR 9 0), some (vR 70 0), some (vI i), some (vI 0), l6]) dL_law_1098 rfl rfl ?_
    refine wp_aload_n dL_law_1100 rfl ?_
    refine wp_aload_n dL_law_1101 rfl ?_
    refine wp_iload dL_law_1102 rfl ?_
    refine wp_iconst (v := 1) dL_law_1104 (by decide) ?_
    refine wp_iadd dL_law_1105 ?_
    refine cp_sld (N := N) (xs := xs) rfl hb1 dL_law_1106 ?_
    refine wp_callV (k1 := 0) (k2 := k2) (As := [vI (xs (i + 1).toNatClampNeg)]) (rest := []) (w9_requestTicks (RA_fr hRA hFR) h9) okX9_requestTicks ivX9_requestTicks rfl (by decide) ml_L_154 dL_law_1107 rfl (by decide) (Nat.le_of_eq (Nat.zero_add _)) rfl (Nat.le_of_ble_eq_true rfl) (fun _ _ z => z.elim) (fun r' S' z => ?_)
    obtain ⟨rfl, rfl⟩ := z
    show WP (mLaw N xs) 60 k2 1110 [some (vR 74 0), some (vR 8 0), some (vR 9 0), some (vR 70 0), some (vI i), some (vI 0), l6] [vI b] (cM m9 x'.toInt64 rho9) Q QX
    refine wp_istore (L' := [some (vR 74 0), some (vR 8 0), some (vR 9 0), some (vR 70 0), some (vI i), some (vI 0), some (vI b)]) dL_law_1110 rfl rfl ?_
    refine wp_aload_n dL_law_1112 rfl ?_
    refine wp_callV (k1 := 0) (k2 := k2) (As := []) (rest := []) (w9_thrown (RA_fr hRA hFR) (r := rho9 64 0) (rho9 := rho9) rfl) okX9_thrown ivX9_thrown rfl (by decide) ml_L_104 dL_law_1113 rfl (by decide) (Nat.le_of_eq (Nat.zero_add _)) rfl (Nat.le_of_ble_eq_true rfl) (fun _ _ z => z.elim) (fun r' S' z => ?_)
    obtain ⟨rfl, rfl⟩ := z
    show WP (mLaw N xs) 60 k2 1116 [some (vR 74 0), some (vR 8 0), some (vR 9 0), some (vR 70 0), some (vI i), some (vI 0), some (vI b)] [vI (rho9 64 0)] (cM m9 x'.toInt64 rho9) Q QX
    refine wp_iload dL_law_1116 rfl ?_
    refine wp_icmp_eq (tgt := 1123) dL_law_1118 (by decide) (fun _ => ?_) (fun z => absurd ht z)
    refine wp_iload dL_law_1123 rfl ?_
    refine wp_if_ne (tgt := 1140) dL_law_1125 (by decide) (fun z => absurd rfl z) (fun _ => ?_)
    refine wp_aload_n dL_law_1128 rfl ?_
    refine wp_iconst (v := 0) dL_law_1129 (by decide) ?_
    refine cp_laload rfl dL_law_1130 ?_
    refine wp_iload dL_law_1131 rfl ?_
    refine wp_i2l dL_law_1133 ?_
    refine wp_lcmp dL_law_1134 ?_
    refine wp_if_eq (tgt := 1140) dL_law_1135 (by decide) (fun _ => ?_) (fun z => absurd (by have hv' : x'.toInt64 = b.toInt64 := hv; rw [hv']; exact lg_same _) z)
    refine wp_goto (tgt := 1823) dL_law_1140 (by decide) ?_
    exact kk _ _ _
  · refine wp_aload_n dL_law_1087 rfl ?_
    refine wp_aload_n dL_law_1088 rfl ?_
    refine wp_iload dL_law_1089 rfl ?_
    refine wp_iconst (v := 1) dL_law_1091 (by decide) ?_
    refine wp_iadd dL_law_1092 ?_
    refine cp_sld (N := N) (xs := xs) rfl hb1 dL_law_1093 ?_
    refine wp_aload_n dL_law_1094 rfl ?_
    refine wp_callSW (k1 := n9) (k2 := k2) (As := [vR 8 0, vI (xs (i + 1).toNatClampNeg), vR 70 0]) (rest := []) (wL_requestTicks hr h8) okL_requestTicks sm_L_requestTicks rfl ml_L_152 dL_law_1095 (by decide) (Nat.le_refl _) rfl (by decide) (fun r' S' z => ?_)
    rcases z with ⟨x', hx', -, -⟩ | ⟨j', hj', rfl, rfl⟩
    · rw [hj] at hx'; cases hx'
    have ej : j' = j := by rw [hj] at hj'; exact (Sum.inr.inj hj').symm
    subst ej
    show WP (mLaw N xs) 60 k2 1098 [some (vR 74 0), some (vR 8 0), some (vR 9 0), some (vR 70 0), some (vI i), l5, l6] [vI ((fun j => 1) j')] (cM m9 out rho) Q QX
    refine wp_istore (L' := [some (vR 74 0), some (vR 8 0), some (vR 9 0), some (vR 70 0), some (vI i), some (vI ((fun j => 1) j')), l6]) dL_law_1098 rfl rfl ?_
    refine wp_aload_n dL_law_1100 rfl ?_
    refine wp_aload_n dL_law_1101 rfl ?_
    refine wp_iload dL_law_1102 rfl ?_
    refine wp_iconst (v := 1) dL_law_1104 (by decide) ?_
    refine wp_iadd dL_law_1105 ?_
    refine cp_sld (N := N) (xs := xs) rfl hb1 dL_law_1106 ?_
    refine wp_callV (k1 := 0) (k2 := k2) (As := [vI (xs (i + 1).toNatClampNeg)]) (rest := []) (w9_requestTicks (RA_fr hRA hFR) h9) okX9_requestTicks ivX9_requestTicks rfl (by decide) ml_L_154 dL_law_1107 rfl (by decide) (Nat.le_of_eq (Nat.zero_add _)) rfl (Nat.le_of_ble_eq_true rfl) (fun _ _ z => z.elim) (fun r' S' z => ?_)
    obtain ⟨rfl, rfl⟩ := z
    show WP (mLaw N xs) 60 k2 1110 [some (vR 74 0), some (vR 8 0), some (vR 9 0), some (vR 70 0), some (vI i), some (vI ((fun j => 1) j')), l6] [vI b] (cM m9 out rho9) Q QX
    refine wp_istore (L' := [some (vR 74 0), some (vR 8 0), some (vR 9 0), some (vR 70 0), some (vI i), some (vI ((fun j => 1) j')), some (vI b)]) dL_law_1110 rfl rfl ?_
    refine wp_aload_n dL_law_1112 rfl ?_
    refine wp_callV (k1 := 0) (k2 := k2) (As := []) (rest := []) (w9_thrown (RA_fr hRA hFR) (r := rho9 64 0) (rho9 := rho9) rfl) okX9_thrown ivX9_thrown rfl (by decide) ml_L_104 dL_law_1113 rfl (by decide) (Nat.le_of_eq (Nat.zero_add _)) rfl (Nat.le_of_ble_eq_true rfl) (fun _ _ z => z.elim) (fun r' S' z => ?_)
    obtain ⟨rfl, rfl⟩ := z
    show WP (mLaw N xs) 60 k2 1116 [some (vR 74 0), some (vR 8 0), some (vR 9 0), some (vR 70 0), some (vI i), some (vI ((fun j => 1) j')), some (vI b)] [vI (rho9 64 0)] (cM m9 out rho9) Q QX
    refine wp_iload dL_law_1116 rfl ?_
    refine wp_icmp_eq (tgt := 1123) dL_law_1118 (by decide) (fun _ => ?_) (fun z => absurd ht z)
    refine wp_iload dL_law_1123 rfl ?_
    refine wp_if_ne (tgt := 1140) dL_law_1125 (by decide) (fun _ => ?_) (fun z => absurd z hn)
    refine wp_goto (tgt := 1823) dL_law_1140 (by decide) ?_
    exact kk _ _ _
theorem law_c14 {r : Int32 ⊕ Nat} (hr : ∀ j, r = .inr j → j = 0) (h8 : f8_X8_isKept 0 (xs (i + 1).toNatClampNeg) m = some (r, m9, n9)) (h9 : f9_isKept (xs (i + 1).toNatClampNeg) rho = some (b, rho9)) (hag : AG r (fun x => if x = 0 then 0 else 1) (fun j => 1) (if b = 0 then 0 else 1) (rho9 64 0)) (hb1 : vp_in (i + 1) N) (hRA : RA m.2.1) (hFR : FR m m9) (kk : ∀ (out' : Int64) (l5 l6 : Option sV), WP (mLaw N xs) 60 k2 1823 [some (vR 74 0), some (vR 8 0), some (vR 9 0), some (vR 70 0), some (vI i), l5, l6] [] (cM m9 out' rho9) Q QX) : WP (mLaw N xs) 60 (n9 + k2) 1143 [some (vR 74 0), some (vR 8 0), some (vR 9 0), some (vR 70 0), some (vI i), l5, l6] [] (cM m out rho) Q QX := by
  rcases hag with ⟨x, hx, ht, hv⟩ | ⟨j, hj, ht, hn⟩
  · refine wp_aload_n dL_law_1143 rfl ?_
    refine wp_aload_n dL_law_1144 rfl ?_
    refine wp_iload dL_law_1145 rfl ?_
    refine wp_iconst (v := 1) dL_law_1147 (by decide) ?_
    refine wp_iadd dL_law_1148 ?_
    refine cp_sld (N := N) (xs := xs) rfl hb1 dL_law_1149 ?_
    refine wp_aload_n dL_law_1150 rfl ?_
    refine wp_callSW (k1 := n9) (k2 := k2) (As := [vR 8 0, vI (xs (i + 1).toNatClampNeg), vR 70 0]) (rest := []) (wL_isKept hr h8) okL_isKept sm_L_isKept rfl ml_L_155 dL_law_1151 (by decide) (Nat.le_refl _) rfl (by decide) (fun r' S' z => ?_)
    rcases z with ⟨x', hx', rfl, rfl⟩ | ⟨j', hj', -, -⟩
    rotate_left
    · rw [hx] at hj'; cases hj'
    have ex : x' = x := by rw [hx] at hx'; exact (Sum.inl.inj hx').symm
    subst ex
    show WP (mLaw N xs) 60 k2 1154 [some (vR 74 0), some (vR 8 0), some (vR 9 0), some (vR 70 0), some (vI i), l5, l6] [vI 0] (cM m9 (if x' = 0 then 0 else 1) rho) Q QX
    refine wp_istore (L' := [some (vR 74 0), some (vR 8 0), some (vR 9 0), some (vR 70 0), some (vI i), some (vI 0), l6]) dL_law_1154 rfl rfl ?_
    refine wp_aload_n dL_law_1156 rfl ?_
    refine wp_aload_n dL_law_1157 rfl ?_
    refine wp_iload dL_law_1158 rfl ?_
    refine wp_iconst (v := 1) dL_law_1160 (by decide) ?_
    refine wp_iadd dL_law_1161 ?_
    refine cp_sld (N := N) (xs := xs) rfl hb1 dL_law_1162 ?_
    refine wp_callV (k1 := 0) (k2 := k2) (As := [vI (xs (i + 1).toNatClampNeg)]) (rest := []) (w9_isKept (RA_fr hRA hFR) h9) okX9_isKept ivX9_isKept rfl (by decide) ml_L_157 dL_law_1163 rfl (by decide) (Nat.le_of_eq (Nat.zero_add _)) rfl (Nat.le_of_ble_eq_true rfl) (fun _ _ z => z.elim) (fun r' S' z => ?_)
    obtain ⟨rfl, rfl⟩ := z
    show WP (mLaw N xs) 60 k2 1166 [some (vR 74 0), some (vR 8 0), some (vR 9 0), some (vR 70 0), some (vI i), some (vI 0), l6] [vI b] (cM m9 (if x' = 0 then 0 else 1) rho9) Q QX
    refine wp_istore (L' := [some (vR 74 0), some (vR 8 0), some (vR 9 0), some (vR 70 0), some (vI i), some (vI 0), some (vI b)]) dL_law_1166 rfl rfl ?_
    refine wp_aload_n dL_law_1168 rfl ?_
    refine wp_callV (k1 := 0) (k2 := k2) (As := []) (rest := []) (w9_thrown (RA_fr hRA hFR) (r := rho9 64 0) (rho9 := rho9) rfl) okX9_thrown ivX9_thrown rfl (by decide) ml_L_104 dL_law_1169 rfl (by decide) (Nat.le_of_eq (Nat.zero_add _)) rfl (Nat.le_of_ble_eq_true rfl) (fun _ _ z => z.elim) (fun r' S' z => ?_)
    obtain ⟨rfl, rfl⟩ := z
    show WP (mLaw N xs) 60 k2 1172 [some (vR 74 0), some (vR 8 0), some (vR 9 0), some (vR 70 0), some (vI i), some (vI 0), some (vI b)] [vI (rho9 64 0)] (cM m9 (if x' = 0 then 0 else 1) rho9) Q QX
    refine wp_iload dL_law_1172 rfl ?_
    refine wp_icmp_eq (tgt := 1179) dL_law_1174 (by decide) (fun _ => ?_) (fun z => absurd ht z)
    refine wp_iload dL_law_1179 rfl ?_
    refine wp_if_ne (tgt := 1203) dL_law_1181 (by decide) (fun z => absurd rfl z) (fun _ => ?_)
    refine wp_aload_n dL_law_1184 rfl ?_
    refine wp_iconst (v := 0) dL_law_1185 (by decide) ?_
    refine cp_laload rfl dL_law_1186 ?_
    refine wp_iload dL_law_1187 rfl ?_
    refine wp_if_eq (tgt := 1196) dL_law_1189 (by decide) (fun cb => ?_) (fun cb => ?_)
    · refine wp_lconst (v := 0) dL_law_1196 (by decide) ?_
      refine wp_lcmp dL_law_1197 ?_
      refine wp_if_eq (tgt := 1203) dL_law_1198 (by decide) (fun _ => ?_) (fun z => absurd (by have hv' : (if x' = 0 then (0 : Int64) else 1) = (if b = 0 then 0 else 1) := hv; rw [if_pos cb] at hv'; rw [hv']; exact lg_same _) z)
      refine wp_goto (tgt := 1823) dL_law_1203 (by decide) ?_
      exact kk _ _ _
    · refine wp_lconst (v := 1) dL_law_1192 (by decide) ?_
      refine wp_goto (tgt := 1197) dL_law_1193 (by decide) ?_
      refine wp_lcmp dL_law_1197 ?_
      refine wp_if_eq (tgt := 1203) dL_law_1198 (by decide) (fun _ => ?_) (fun z => absurd (by have hv' : (if x' = 0 then (0 : Int64) else 1) = (if b = 0 then 0 else 1) := hv; rw [if_neg cb] at hv'; rw [hv']; exact lg_same _) z)
      refine wp_goto (tgt := 1823) dL_law_1203 (by decide) ?_
      exact kk _ _ _
  · refine wp_aload_n dL_law_1143 rfl ?_
    refine wp_aload_n dL_law_1144 rfl ?_
    refine wp_iload dL_law_1145 rfl ?_
    refine wp_iconst (v := 1) dL_law_1147 (by decide) ?_
    refine wp_iadd dL_law_1148 ?_
    refine cp_sld (N := N) (xs := xs) rfl hb1 dL_law_1149 ?_
    refine wp_aload_n dL_law_1150 rfl ?_
    refine wp_callSW (k1 := n9) (k2 := k2) (As := [vR 8 0, vI (xs (i + 1).toNatClampNeg), vR 70 0]) (rest := []) (wL_isKept hr h8) okL_isKept sm_L_isKept rfl ml_L_155 dL_law_1151 (by decide) (Nat.le_refl _) rfl (by decide) (fun r' S' z => ?_)
    rcases z with ⟨x', hx', -, -⟩ | ⟨j', hj', rfl, rfl⟩
    · rw [hj] at hx'; cases hx'
    have ej : j' = j := by rw [hj] at hj'; exact (Sum.inr.inj hj').symm
    subst ej
    show WP (mLaw N xs) 60 k2 1154 [some (vR 74 0), some (vR 8 0), some (vR 9 0), some (vR 70 0), some (vI i), l5, l6] [vI ((fun j => 1) j')] (cM m9 out rho) Q QX
    refine wp_istore (L' := [some (vR 74 0), some (vR 8 0), some (vR 9 0), some (vR 70 0), some (vI i), some (vI ((fun j => 1) j')), l6]) dL_law_1154 rfl rfl ?_
    refine wp_aload_n dL_law_1156 rfl ?_
    refine wp_aload_n dL_law_1157 rfl ?_
    refine wp_iload dL_law_1158 rfl ?_
    refine wp_iconst (v := 1) dL_law_1160 (by decide) ?_
    refine wp_iadd dL_law_1161 ?_
    refine cp_sld (N := N) (xs := xs) rfl hb1 dL_law_1162 ?_
    refine wp_callV (k1 := 0) (k2 := k2) (As := [vI (xs (i + 1).toNatClampNeg)]) (rest := []) (w9_isKept (RA_fr hRA hFR) h9) okX9_isKept ivX9_isKept rfl (by decide) ml_L_157 dL_law_1163 rfl (by decide) (Nat.le_of_eq (Nat.zero_add _)) rfl (Nat.le_of_ble_eq_true rfl) (fun _ _ z => z.elim) (fun r' S' z => ?_)
    obtain ⟨rfl, rfl⟩ := z
    show WP (mLaw N xs) 60 k2 1166 [some (vR 74 0), some (vR 8 0), some (vR 9 0), some (vR 70 0), some (vI i), some (vI ((fun j => 1) j')), l6] [vI b] (cM m9 out rho9) Q QX
    refine wp_istore (L' := [some (vR 74 0), some (vR 8 0), some (vR 9 0), some (vR 70 0), some (vI i), some (vI ((fun j => 1) j')), some (vI b)]) dL_law_1166 rfl rfl ?_
    refine wp_aload_n dL_law_1168 rfl ?_
    refine wp_callV (k1 := 0) (k2 := k2) (As := []) (rest := []) (w9_thrown (RA_fr hRA hFR) (r := rho9 64 0) (rho9 := rho9) rfl) okX9_thrown ivX9_thrown rfl (by decide) ml_L_104 dL_law_1169 rfl (by decide) (Nat.le_of_eq (Nat.zero_add _)) rfl (Nat.le_of_ble_eq_true rfl) (fun _ _ z => z.elim) (fun r' S' z => ?_)
    obtain ⟨rfl, rfl⟩ := z
    show WP (mLaw N xs) 60 k2 1172 [some (vR 74 0), some (vR 8 0), some (vR 9 0), some (vR 70 0), some (vI i), some (vI ((fun j => 1) j')), some (vI b)] [vI (rho9 64 0)] (cM m9 out rho9) Q QX
    refine wp_iload dL_law_1172 rfl ?_
    refine wp_icmp_eq (tgt := 1179) dL_law_1174 (by decide) (fun _ => ?_) (fun z => absurd ht z)
    refine wp_iload dL_law_1179 rfl ?_
    refine wp_if_ne (tgt := 1203) dL_law_1181 (by decide) (fun _ => ?_) (fun z => absurd z hn)
    refine wp_goto (tgt := 1823) dL_law_1203 (by decide) ?_
    exact kk _ _ _
theorem law_c15 {r : Int32 ⊕ Nat} (hr : ∀ j, r = .inr j → j = 0) (h8 : f8_X8_callsOf 0 (xs (i + 1).toNatClampNeg) m = some (r, m9, n9)) (h9 : f9_callsOf (xs (i + 1).toNatClampNeg) rho = some (b, rho9)) (hag : AG r (fun x => x.toInt64) (fun j => 1) b.toInt64 (rho9 64 0)) (hb1 : vp_in (i + 1) N) (hRA : RA m.2.1) (hFR : FR m m9) (kk : ∀ (out' : Int64) (l5 l6 : Option sV), WP (mLaw N xs) 60 k2 1823 [some (vR 74 0), some (vR 8 0), some (vR 9 0), some (vR 70 0), some (vI i), l5, l6] [] (cM m9 out' rho9) Q QX) : WP (mLaw N xs) 60 (n9 + k2) 1206 [some (vR 74 0), some (vR 8 0), some (vR 9 0), some (vR 70 0), some (vI i), l5, l6] [] (cM m out rho) Q QX := by
  rcases hag with ⟨x, hx, ht, hv⟩ | ⟨j, hj, ht, hn⟩
  · refine wp_aload_n dL_law_1206 rfl ?_
    refine wp_aload_n dL_law_1207 rfl ?_
    refine wp_iload dL_law_1208 rfl ?_
    refine wp_iconst (v := 1) dL_law_1210 (by decide) ?_
    refine wp_iadd dL_law_1211 ?_
    refine cp_sld (N := N) (xs := xs) rfl hb1 dL_law_1212 ?_
    refine wp_aload_n dL_law_1213 rfl ?_
    refine wp_callSW (k1 := n9) (k2 := k2) (As := [vR 8 0, vI (xs (i + 1).toNatClampNeg), vR 70 0]) (rest := []) (wL_callsOf hr h8) okL_callsOf sm_L_callsOf rfl ml_L_158 dL_law_1214 (by decide) (Nat.le_refl _) rfl (by decide) (fun r' S' z => ?_)
    rcases z with ⟨x', hx', rfl, rfl⟩ | ⟨j', hj', -, -⟩
    rotate_left
    · rw [hx] at hj'; cases hj'
    have ex : x' = x := by rw [hx] at hx'; exact (Sum.inl.inj hx').symm
    subst ex
    show WP (mLaw N xs) 60 k2 1217 [some (vR 74 0), some (vR 8 0), some (vR 9 0), some (vR 70 0), some (vI i), l5, l6] [vI 0] (cM m9 x'.toInt64 rho) Q QX
    refine wp_istore (L' := [some (vR 74 0), some (vR 8 0), some (vR 9 0), some (vR 70 0), some (vI i), some (vI 0), l6]) dL_law_1217 rfl rfl ?_
    refine wp_aload_n dL_law_1219 rfl ?_
    refine wp_aload_n dL_law_1220 rfl ?_
    refine wp_iload dL_law_1221 rfl ?_
    refine wp_iconst (v := 1) dL_law_1223 (by decide) ?_
    refine wp_iadd dL_law_1224 ?_
    refine cp_sld (N := N) (xs := xs) rfl hb1 dL_law_1225 ?_
    refine wp_callV (k1 := 0) (k2 := k2) (As := [vI (xs (i + 1).toNatClampNeg)]) (rest := []) (w9_callsOf (RA_fr hRA hFR) h9) okX9_callsOf ivX9_callsOf rfl (by decide) ml_L_160 dL_law_1226 rfl (by decide) (Nat.le_of_eq (Nat.zero_add _)) rfl (Nat.le_of_ble_eq_true rfl) (fun _ _ z => z.elim) (fun r' S' z => ?_)
    obtain ⟨rfl, rfl⟩ := z
    show WP (mLaw N xs) 60 k2 1229 [some (vR 74 0), some (vR 8 0), some (vR 9 0), some (vR 70 0), some (vI i), some (vI 0), l6] [vI b] (cM m9 x'.toInt64 rho9) Q QX
    refine wp_istore (L' := [some (vR 74 0), some (vR 8 0), some (vR 9 0), some (vR 70 0), some (vI i), some (vI 0), some (vI b)]) dL_law_1229 rfl rfl ?_
    refine wp_aload_n dL_law_1231 rfl ?_
    refine wp_callV (k1 := 0) (k2 := k2) (As := []) (rest := []) (w9_thrown (RA_fr hRA hFR) (r := rho9 64 0) (rho9 := rho9) rfl) okX9_thrown ivX9_thrown rfl (by decide) ml_L_104 dL_law_1232 rfl (by decide) (Nat.le_of_eq (Nat.zero_add _)) rfl (Nat.le_of_ble_eq_true rfl) (fun _ _ z => z.elim) (fun r' S' z => ?_)
    obtain ⟨rfl, rfl⟩ := z
    show WP (mLaw N xs) 60 k2 1235 [some (vR 74 0), some (vR 8 0), some (vR 9 0), some (vR 70 0), some (vI i), some (vI 0), some (vI b)] [vI (rho9 64 0)] (cM m9 x'.toInt64 rho9) Q QX
    refine wp_iload dL_law_1235 rfl ?_
    refine wp_icmp_eq (tgt := 1242) dL_law_1237 (by decide) (fun _ => ?_) (fun z => absurd ht z)
    refine wp_iload dL_law_1242 rfl ?_
    refine wp_if_ne (tgt := 1259) dL_law_1244 (by decide) (fun z => absurd rfl z) (fun _ => ?_)
    refine wp_aload_n dL_law_1247 rfl ?_
    refine wp_iconst (v := 0) dL_law_1248 (by decide) ?_
    refine cp_laload rfl dL_law_1249 ?_
    refine wp_iload dL_law_1250 rfl ?_
    refine wp_i2l dL_law_1252 ?_
    refine wp_lcmp dL_law_1253 ?_
    refine wp_if_eq (tgt := 1259) dL_law_1254 (by decide) (fun _ => ?_) (fun z => absurd (by have hv' : x'.toInt64 = b.toInt64 := hv; rw [hv']; exact lg_same _) z)
    refine wp_goto (tgt := 1823) dL_law_1259 (by decide) ?_
    exact kk _ _ _
  · refine wp_aload_n dL_law_1206 rfl ?_
    refine wp_aload_n dL_law_1207 rfl ?_
    refine wp_iload dL_law_1208 rfl ?_
    refine wp_iconst (v := 1) dL_law_1210 (by decide) ?_
    refine wp_iadd dL_law_1211 ?_
    refine cp_sld (N := N) (xs := xs) rfl hb1 dL_law_1212 ?_
    refine wp_aload_n dL_law_1213 rfl ?_
    refine wp_callSW (k1 := n9) (k2 := k2) (As := [vR 8 0, vI (xs (i + 1).toNatClampNeg), vR 70 0]) (rest := []) (wL_callsOf hr h8) okL_callsOf sm_L_callsOf rfl ml_L_158 dL_law_1214 (by decide) (Nat.le_refl _) rfl (by decide) (fun r' S' z => ?_)
    rcases z with ⟨x', hx', -, -⟩ | ⟨j', hj', rfl, rfl⟩
    · rw [hj] at hx'; cases hx'
    have ej : j' = j := by rw [hj] at hj'; exact (Sum.inr.inj hj').symm
    subst ej
    show WP (mLaw N xs) 60 k2 1217 [some (vR 74 0), some (vR 8 0), some (vR 9 0), some (vR 70 0), some (vI i), l5, l6] [vI ((fun j => 1) j')] (cM m9 out rho) Q QX
    refine wp_istore (L' := [some (vR 74 0), some (vR 8 0), some (vR 9 0), some (vR 70 0), some (vI i), some (vI ((fun j => 1) j')), l6]) dL_law_1217 rfl rfl ?_
    refine wp_aload_n dL_law_1219 rfl ?_
    refine wp_aload_n dL_law_1220 rfl ?_
    refine wp_iload dL_law_1221 rfl ?_
    refine wp_iconst (v := 1) dL_law_1223 (by decide) ?_
    refine wp_iadd dL_law_1224 ?_
    refine cp_sld (N := N) (xs := xs) rfl hb1 dL_law_1225 ?_
    refine wp_callV (k1 := 0) (k2 := k2) (As := [vI (xs (i + 1).toNatClampNeg)]) (rest := []) (w9_callsOf (RA_fr hRA hFR) h9) okX9_callsOf ivX9_callsOf rfl (by decide) ml_L_160 dL_law_1226 rfl (by decide) (Nat.le_of_eq (Nat.zero_add _)) rfl (Nat.le_of_ble_eq_true rfl) (fun _ _ z => z.elim) (fun r' S' z => ?_)
    obtain ⟨rfl, rfl⟩ := z
    show WP (mLaw N xs) 60 k2 1229 [some (vR 74 0), some (vR 8 0), some (vR 9 0), some (vR 70 0), some (vI i), some (vI ((fun j => 1) j')), l6] [vI b] (cM m9 out rho9) Q QX
    refine wp_istore (L' := [some (vR 74 0), some (vR 8 0), some (vR 9 0), some (vR 70 0), some (vI i), some (vI ((fun j => 1) j')), some (vI b)]) dL_law_1229 rfl rfl ?_
    refine wp_aload_n dL_law_1231 rfl ?_
    refine wp_callV (k1 := 0) (k2 := k2) (As := []) (rest := []) (w9_thrown (RA_fr hRA hFR) (r := rho9 64 0) (rho9 := rho9) rfl) okX9_thrown ivX9_thrown rfl (by decide) ml_L_104 dL_law_1232 rfl (by decide) (Nat.le_of_eq (Nat.zero_add _)) rfl (Nat.le_of_ble_eq_true rfl) (fun _ _ z => z.elim) (fun r' S' z => ?_)
    obtain ⟨rfl, rfl⟩ := z
    show WP (mLaw N xs) 60 k2 1235 [some (vR 74 0), some (vR 8 0), some (vR 9 0), some (vR 70 0), some (vI i), some (vI ((fun j => 1) j')), some (vI b)] [vI (rho9 64 0)] (cM m9 out rho9) Q QX
    refine wp_iload dL_law_1235 rfl ?_
    refine wp_icmp_eq (tgt := 1242) dL_law_1237 (by decide) (fun _ => ?_) (fun z => absurd ht z)
    refine wp_iload dL_law_1242 rfl ?_
    refine wp_if_ne (tgt := 1259) dL_law_1244 (by decide) (fun _ => ?_) (fun z => absurd z hn)
    refine wp_goto (tgt := 1823) dL_law_1259 (by decide) ?_
    exact kk _ _ _
theorem law_c16 {r : Int32} (h8 : f8_X8_calls 0  m = some (r, m9, n9)) (h9 : f9_calls  rho = some (b, rho9)) (hag : r = b)  (hRA : RA m.2.1) (hFR : FR m m9) (kk : ∀ (out' : Int64) (l5 l6 : Option sV), WP (mLaw N xs) 60 k2 1823 [some (vR 74 0), some (vR 8 0), some (vR 9 0), some (vR 70 0), some (vI i), l5, l6] [] (cM m9 out' rho9) Q QX) : WP (mLaw N xs) 60 (n9 + k2) 1262 [some (vR 74 0), some (vR 8 0), some (vR 9 0), some (vR 70 0), some (vI i), l5, l6] [] (cM m out rho) Q QX := by
  refine wp_aload_n dL_law_1262 rfl ?_
  refine wp_callV (k1 := n9) (k2 := k2) (As := []) (rest := []) (w8_X8_calls h8) okX8_calls ivX8_calls rfl (by decide) ml_L_161 dL_law_1263 rfl (by decide) (Nat.le_refl _) rfl (by decide) (fun _ _ z => z.elim) (fun r' S' z => ?_)
  obtain ⟨rfl, rfl⟩ := z
  show WP (mLaw N xs) 60 k2 1266 [some (vR 74 0), some (vR 8 0), some (vR 9 0), some (vR 70 0), some (vI i), l5, l6] [vI r] (cM m9 out rho) Q QX
  refine wp_aload_n dL_law_1266 rfl ?_
  refine wp_callV (k1 := 0) (k2 := k2) (As := []) (rest := [vI r]) (w9_calls (RA_fr hRA hFR) h9) okX9_calls ivX9_calls rfl (by decide) ml_L_164 dL_law_1267 rfl (by decide) (Nat.le_of_eq (Nat.zero_add _)) rfl (Nat.le_of_ble_eq_true rfl) (fun _ _ z => z.elim) (fun r' S' z => ?_)
  obtain ⟨rfl, rfl⟩ := z
  show WP (mLaw N xs) 60 k2 1270 [some (vR 74 0), some (vR 8 0), some (vR 9 0), some (vR 70 0), some (vI i), l5, l6] [vI b, vI r] (cM m9 out rho9) Q QX
  refine wp_icmp_eq (tgt := 1823) dL_law_1270 (by decide) (fun _ => ?_) (fun z => absurd hag z)
  exact kk _ _ _
theorem law_c17 {r : Int32 ⊕ Nat} (hr : ∀ j, r = .inr j → j = 0 ∨ j = 1) (h8 : f8_X8_call 0 (xs (i + 1).toNatClampNeg) (xs (i + 2).toNatClampNeg) m = some (r, m9, n9)) (h9 : f9_call (xs (i + 1).toNatClampNeg) (xs (i + 2).toNatClampNeg) rho = some (b, rho9)) (hag : AG r (fun x => x.toInt64) (fun j => if j = 0 then 1 else 2) b.toInt64 (rho9 64 0)) (hb1 : vp_in (i + 1) N) (hb2 : vp_in (i + 2) N) (hRA : RA m.2.1) (hFR : FR m m9) (kk : ∀ (out' : Int64) (l5 l6 : Option sV), WP (mLaw N xs) 60 k2 1823 [some (vR 74 0), some (vR 8 0), some (vR 9 0), some (vR 70 0), some (vI i), l5, l6] [] (cM m9 out' rho9) Q QX) : WP (mLaw N xs) 60 (n9 + k2) 1275 [some (vR 74 0), some (vR 8 0), some (vR 9 0), some (vR 70 0), some (vI i), l5, l6] [] (cM m out rho) Q QX := by
  rcases hag with ⟨x, hx, ht, hv⟩ | ⟨j, hj, ht, hn⟩
  · refine wp_aload_n dL_law_1275 rfl ?_
    refine wp_aload_n dL_law_1276 rfl ?_
    refine wp_iload dL_law_1277 rfl ?_
    refine wp_iconst (v := 1) dL_law_1279 (by decide) ?_
    refine wp_iadd dL_law_1280 ?_
    refine cp_sld (N := N) (xs := xs) rfl hb1 dL_law_1281 ?_
    refine wp_aload_n dL_law_1282 rfl ?_
    refine wp_iload dL_law_1283 rfl ?_
    refine wp_iconst (v := 2) dL_law_1285 (by decide) ?_
    refine wp_iadd dL_law_1286 ?_
    refine cp_sld (N := N) (xs := xs) rfl hb2 dL_law_1287 ?_
    refine wp_aload_n dL_law_1288 rfl ?_
    refine wp_callSW (k1 := n9) (k2 := k2) (As := [vR 8 0, vI (xs (i + 1).toNatClampNeg), vI (xs (i + 2).toNatClampNeg), vR 70 0]) (rest := []) (wL_call hr h8) okL_call sm_L_call rfl ml_L_165 dL_law_1289 (by decide) (Nat.le_refl _) rfl (by decide) (fun r' S' z => ?_)
    rcases z with ⟨x', hx', rfl, rfl⟩ | ⟨j', hj', -, -⟩
    rotate_left
    · rw [hx] at hj'; cases hj'
    have ex : x' = x := by rw [hx] at hx'; exact (Sum.inl.inj hx').symm
    subst ex
    show WP (mLaw N xs) 60 k2 1292 [some (vR 74 0), some (vR 8 0), some (vR 9 0), some (vR 70 0), some (vI i), l5, l6] [vI 0] (cM m9 x'.toInt64 rho) Q QX
    refine wp_istore (L' := [some (vR 74 0), some (vR 8 0), some (vR 9 0), some (vR 70 0), some (vI i), some (vI 0), l6]) dL_law_1292 rfl rfl ?_
    refine wp_aload_n dL_law_1294 rfl ?_
    refine wp_aload_n dL_law_1295 rfl ?_
    refine wp_iload dL_law_1296 rfl ?_
    refine wp_iconst (v := 1) dL_law_1298 (by decide) ?_
    refine wp_iadd dL_law_1299 ?_
    refine cp_sld (N := N) (xs := xs) rfl hb1 dL_law_1300 ?_
    refine wp_aload_n dL_law_1301 rfl ?_
    refine wp_iload dL_law_1302 rfl ?_
    refine wp_iconst (v := 2) dL_law_1304 (by decide) ?_
    refine wp_iadd dL_law_1305 ?_
    refine cp_sld (N := N) (xs := xs) rfl hb2 dL_law_1306 ?_
    refine wp_callV (k1 := 0) (k2 := k2) (As := [vI (xs (i + 1).toNatClampNeg), vI (xs (i + 2).toNatClampNeg)]) (rest := []) (w9_call (RA_fr hRA hFR) h9) okX9_call ivX9_call rfl (by decide) ml_L_167 dL_law_1307 rfl (by decide) (Nat.le_of_eq (Nat.zero_add _)) rfl (Nat.le_of_ble_eq_true rfl) (fun _ _ z => z.elim) (fun r' S' z => ?_)
    obtain ⟨rfl, rfl⟩ := z
    show WP (mLaw N xs) 60 k2 1310 [some (vR 74 0), some (vR 8 0), some (vR 9 0), some (vR 70 0), some (vI i), some (vI 0), l6] [vI b] (cM m9 x'.toInt64 rho9) Q QX
    refine wp_istore (L' := [some (vR 74 0), some (vR 8 0), some (vR 9 0), some (vR 70 0), some (vI i), some (vI 0), some (vI b)]) dL_law_1310 rfl rfl ?_
    refine wp_aload_n dL_law_1312 rfl ?_
    refine wp_callV (k1 := 0) (k2 := k2) (As := []) (rest := []) (w9_thrown (RA_fr hRA hFR) (r := rho9 64 0) (rho9 := rho9) rfl) okX9_thrown ivX9_thrown rfl (by decide) ml_L_104 dL_law_1313 rfl (by decide) (Nat.le_of_eq (Nat.zero_add _)) rfl (Nat.le_of_ble_eq_true rfl) (fun _ _ z => z.elim) (fun r' S' z => ?_)
    obtain ⟨rfl, rfl⟩ := z
    show WP (mLaw N xs) 60 k2 1316 [some (vR 74 0), some (vR 8 0), some (vR 9 0), some (vR 70 0), some (vI i), some (vI 0), some (vI b)] [vI (rho9 64 0)] (cM m9 x'.toInt64 rho9) Q QX
    refine wp_iload dL_law_1316 rfl ?_
    refine wp_icmp_eq (tgt := 1323) dL_law_1318 (by decide) (fun _ => ?_) (fun z => absurd ht z)
    refine wp_iload dL_law_1323 rfl ?_
    refine wp_if_ne (tgt := 1340) dL_law_1325 (by decide) (fun z => absurd rfl z) (fun _ => ?_)
    refine wp_aload_n dL_law_1328 rfl ?_
    refine wp_iconst (v := 0) dL_law_1329 (by decide) ?_
    refine cp_laload rfl dL_law_1330 ?_
    refine wp_iload dL_law_1331 rfl ?_
    refine wp_i2l dL_law_1333 ?_
    refine wp_lcmp dL_law_1334 ?_
    refine wp_if_eq (tgt := 1340) dL_law_1335 (by decide) (fun _ => ?_) (fun z => absurd (by have hv' : x'.toInt64 = b.toInt64 := hv; rw [hv']; exact lg_same _) z)
    refine wp_goto (tgt := 1823) dL_law_1340 (by decide) ?_
    exact kk _ _ _
  · refine wp_aload_n dL_law_1275 rfl ?_
    refine wp_aload_n dL_law_1276 rfl ?_
    refine wp_iload dL_law_1277 rfl ?_
    refine wp_iconst (v := 1) dL_law_1279 (by decide) ?_
    refine wp_iadd dL_law_1280 ?_
    refine cp_sld (N := N) (xs := xs) rfl hb1 dL_law_1281 ?_
    refine wp_aload_n dL_law_1282 rfl ?_
    refine wp_iload dL_law_1283 rfl ?_
    refine wp_iconst (v := 2) dL_law_1285 (by decide) ?_
    refine wp_iadd dL_law_1286 ?_
    refine cp_sld (N := N) (xs := xs) rfl hb2 dL_law_1287 ?_
    refine wp_aload_n dL_law_1288 rfl ?_
    refine wp_callSW (k1 := n9) (k2 := k2) (As := [vR 8 0, vI (xs (i + 1).toNatClampNeg), vI (xs (i + 2).toNatClampNeg), vR 70 0]) (rest := []) (wL_call hr h8) okL_call sm_L_call rfl ml_L_165 dL_law_1289 (by decide) (Nat.le_refl _) rfl (by decide) (fun r' S' z => ?_)
    rcases z with ⟨x', hx', -, -⟩ | ⟨j', hj', rfl, rfl⟩
    · rw [hj] at hx'; cases hx'
    have ej : j' = j := by rw [hj] at hj'; exact (Sum.inr.inj hj').symm
    subst ej
    show WP (mLaw N xs) 60 k2 1292 [some (vR 74 0), some (vR 8 0), some (vR 9 0), some (vR 70 0), some (vI i), l5, l6] [vI ((fun j => if j = 0 then 1 else 2) j')] (cM m9 out rho) Q QX
    refine wp_istore (L' := [some (vR 74 0), some (vR 8 0), some (vR 9 0), some (vR 70 0), some (vI i), some (vI ((fun j => if j = 0 then 1 else 2) j')), l6]) dL_law_1292 rfl rfl ?_
    refine wp_aload_n dL_law_1294 rfl ?_
    refine wp_aload_n dL_law_1295 rfl ?_
    refine wp_iload dL_law_1296 rfl ?_
    refine wp_iconst (v := 1) dL_law_1298 (by decide) ?_
    refine wp_iadd dL_law_1299 ?_
    refine cp_sld (N := N) (xs := xs) rfl hb1 dL_law_1300 ?_
    refine wp_aload_n dL_law_1301 rfl ?_
    refine wp_iload dL_law_1302 rfl ?_
    refine wp_iconst (v := 2) dL_law_1304 (by decide) ?_
    refine wp_iadd dL_law_1305 ?_
    refine cp_sld (N := N) (xs := xs) rfl hb2 dL_law_1306 ?_
    refine wp_callV (k1 := 0) (k2 := k2) (As := [vI (xs (i + 1).toNatClampNeg), vI (xs (i + 2).toNatClampNeg)]) (rest := []) (w9_call (RA_fr hRA hFR) h9) okX9_call ivX9_call rfl (by decide) ml_L_167 dL_law_1307 rfl (by decide) (Nat.le_of_eq (Nat.zero_add _)) rfl (Nat.le_of_ble_eq_true rfl) (fun _ _ z => z.elim) (fun r' S' z => ?_)
    obtain ⟨rfl, rfl⟩ := z
    show WP (mLaw N xs) 60 k2 1310 [some (vR 74 0), some (vR 8 0), some (vR 9 0), some (vR 70 0), some (vI i), some (vI ((fun j => if j = 0 then 1 else 2) j')), l6] [vI b] (cM m9 out rho9) Q QX
    refine wp_istore (L' := [some (vR 74 0), some (vR 8 0), some (vR 9 0), some (vR 70 0), some (vI i), some (vI ((fun j => if j = 0 then 1 else 2) j')), some (vI b)]) dL_law_1310 rfl rfl ?_
    refine wp_aload_n dL_law_1312 rfl ?_
    refine wp_callV (k1 := 0) (k2 := k2) (As := []) (rest := []) (w9_thrown (RA_fr hRA hFR) (r := rho9 64 0) (rho9 := rho9) rfl) okX9_thrown ivX9_thrown rfl (by decide) ml_L_104 dL_law_1313 rfl (by decide) (Nat.le_of_eq (Nat.zero_add _)) rfl (Nat.le_of_ble_eq_true rfl) (fun _ _ z => z.elim) (fun r' S' z => ?_)
    obtain ⟨rfl, rfl⟩ := z
    show WP (mLaw N xs) 60 k2 1316 [some (vR 74 0), some (vR 8 0), some (vR 9 0), some (vR 70 0), some (vI i), some (vI ((fun j => if j = 0 then 1 else 2) j')), some (vI b)] [vI (rho9 64 0)] (cM m9 out rho9) Q QX
    refine wp_iload dL_law_1316 rfl ?_
    refine wp_icmp_eq (tgt := 1323) dL_law_1318 (by decide) (fun _ => ?_) (fun z => absurd ht z)
    refine wp_iload dL_law_1323 rfl ?_
    refine wp_if_ne (tgt := 1340) dL_law_1325 (by decide) (fun _ => ?_) (fun z => absurd z hn)
    refine wp_goto (tgt := 1823) dL_law_1340 (by decide) ?_
    exact kk _ _ _
theorem law_c18 {r : Int32 ⊕ Nat} (hr : ∀ j, r = .inr j → j = 0) (h8 : f8_X8_budget 0 (xs (i + 1).toNatClampNeg) m = some (r, m9, n9)) (h9 : f9_budget (xs (i + 1).toNatClampNeg) rho = some (b, rho9)) (hag : AG r (fun x => x.toInt64) (fun j => 1) b.toInt64 (rho9 64 0)) (hb1 : vp_in (i + 1) N) (hRA : RA m.2.1) (hFR : FR m m9) (kk : ∀ (out' : Int64) (l5 l6 : Option sV), WP (mLaw N xs) 60 k2 1823 [some (vR 74 0), some (vR 8 0), some (vR 9 0), some (vR 70 0), some (vI i), l5, l6] [] (cM m9 out' rho9) Q QX) : WP (mLaw N xs) 60 (n9 + k2) 1343 [some (vR 74 0), some (vR 8 0), some (vR 9 0), some (vR 70 0), some (vI i), l5, l6] [] (cM m out rho) Q QX := by
  rcases hag with ⟨x, hx, ht, hv⟩ | ⟨j, hj, ht, hn⟩
  · refine wp_aload_n dL_law_1343 rfl ?_
    refine wp_aload_n dL_law_1344 rfl ?_
    refine wp_iload dL_law_1345 rfl ?_
    refine wp_iconst (v := 1) dL_law_1347 (by decide) ?_
    refine wp_iadd dL_law_1348 ?_
    refine cp_sld (N := N) (xs := xs) rfl hb1 dL_law_1349 ?_
    refine wp_aload_n dL_law_1350 rfl ?_
    refine wp_callSW (k1 := n9) (k2 := k2) (As := [vR 8 0, vI (xs (i + 1).toNatClampNeg), vR 70 0]) (rest := []) (wL_budget hr h8) okL_budget sm_L_budget rfl ml_L_168 dL_law_1351 (by decide) (Nat.le_refl _) rfl (by decide) (fun r' S' z => ?_)
    rcases z with ⟨x', hx', rfl, rfl⟩ | ⟨j', hj', -, -⟩
    rotate_left
    · rw [hx] at hj'; cases hj'
    have ex : x' = x := by rw [hx] at hx'; exact (Sum.inl.inj hx').symm
    subst ex
    show WP (mLaw N xs) 60 k2 1354 [some (vR 74 0), some (vR 8 0), some (vR 9 0), some (vR 70 0), some (vI i), l5, l6] [vI 0] (cM m9 x'.toInt64 rho) Q QX
    refine wp_istore (L' := [some (vR 74 0), some (vR 8 0), some (vR 9 0), some (vR 70 0), some (vI i), some (vI 0), l6]) dL_law_1354 rfl rfl ?_
    refine wp_aload_n dL_law_1356 rfl ?_
    refine wp_aload_n dL_law_1357 rfl ?_
    refine wp_iload dL_law_1358 rfl ?_
    refine wp_iconst (v := 1) dL_law_1360 (by decide) ?_
    refine wp_iadd dL_law_1361 ?_
    refine cp_sld (N := N) (xs := xs) rfl hb1 dL_law_1362 ?_
    refine wp_callV (k1 := 0) (k2 := k2) (As := [vI (xs (i + 1).toNatClampNeg)]) (rest := []) (w9_budget (RA_fr hRA hFR) h9) okX9_budget ivX9_budget rfl (by decide) ml_L_170 dL_law_1363 rfl (by decide) (Nat.le_of_eq (Nat.zero_add _)) rfl (Nat.le_of_ble_eq_true rfl) (fun _ _ z => z.elim) (fun r' S' z => ?_)
    obtain ⟨rfl, rfl⟩ := z
    show WP (mLaw N xs) 60 k2 1366 [some (vR 74 0), some (vR 8 0), some (vR 9 0), some (vR 70 0), some (vI i), some (vI 0), l6] [vI b] (cM m9 x'.toInt64 rho9) Q QX
    refine wp_istore (L' := [some (vR 74 0), some (vR 8 0), some (vR 9 0), some (vR 70 0), some (vI i), some (vI 0), some (vI b)]) dL_law_1366 rfl rfl ?_
    refine wp_aload_n dL_law_1368 rfl ?_
    refine wp_callV (k1 := 0) (k2 := k2) (As := []) (rest := []) (w9_thrown (RA_fr hRA hFR) (r := rho9 64 0) (rho9 := rho9) rfl) okX9_thrown ivX9_thrown rfl (by decide) ml_L_104 dL_law_1369 rfl (by decide) (Nat.le_of_eq (Nat.zero_add _)) rfl (Nat.le_of_ble_eq_true rfl) (fun _ _ z => z.elim) (fun r' S' z => ?_)
    obtain ⟨rfl, rfl⟩ := z
    show WP (mLaw N xs) 60 k2 1372 [some (vR 74 0), some (vR 8 0), some (vR 9 0), some (vR 70 0), some (vI i), some (vI 0), some (vI b)] [vI (rho9 64 0)] (cM m9 x'.toInt64 rho9) Q QX
    refine wp_iload dL_law_1372 rfl ?_
    refine wp_icmp_eq (tgt := 1379) dL_law_1374 (by decide) (fun _ => ?_) (fun z => absurd ht z)
    refine wp_iload dL_law_1379 rfl ?_
    refine wp_if_ne (tgt := 1396) dL_law_1381 (by decide) (fun z => absurd rfl z) (fun _ => ?_)
    refine wp_aload_n dL_law_1384 rfl ?_
    refine wp_iconst (v := 0) dL_law_1385 (by decide) ?_
    refine cp_laload rfl dL_law_1386 ?_
    refine wp_iload dL_law_1387 rfl ?_
    refine wp_i2l dL_law_1389 ?_
    refine wp_lcmp dL_law_1390 ?_
    refine wp_if_eq (tgt := 1396) dL_law_1391 (by decide) (fun _ => ?_) (fun z => absurd (by have hv' : x'.toInt64 = b.toInt64 := hv; rw [hv']; exact lg_same _) z)
    refine wp_goto (tgt := 1823) dL_law_1396 (by decide) ?_
    exact kk _ _ _
  · refine wp_aload_n dL_law_1343 rfl ?_
    refine wp_aload_n dL_law_1344 rfl ?_
    refine wp_iload dL_law_1345 rfl ?_
    refine wp_iconst (v := 1) dL_law_1347 (by decide) ?_
    refine wp_iadd dL_law_1348 ?_
    refine cp_sld (N := N) (xs := xs) rfl hb1 dL_law_1349 ?_
    refine wp_aload_n dL_law_1350 rfl ?_
    refine wp_callSW (k1 := n9) (k2 := k2) (As := [vR 8 0, vI (xs (i + 1).toNatClampNeg), vR 70 0]) (rest := []) (wL_budget hr h8) okL_budget sm_L_budget rfl ml_L_168 dL_law_1351 (by decide) (Nat.le_refl _) rfl (by decide) (fun r' S' z => ?_)
    rcases z with ⟨x', hx', -, -⟩ | ⟨j', hj', rfl, rfl⟩
    · rw [hj] at hx'; cases hx'
    have ej : j' = j := by rw [hj] at hj'; exact (Sum.inr.inj hj').symm
    subst ej
    show WP (mLaw N xs) 60 k2 1354 [some (vR 74 0), some (vR 8 0), some (vR 9 0), some (vR 70 0), some (vI i), l5, l6] [vI ((fun j => 1) j')] (cM m9 out rho) Q QX
    refine wp_istore (L' := [some (vR 74 0), some (vR 8 0), some (vR 9 0), some (vR 70 0), some (vI i), some (vI ((fun j => 1) j')), l6]) dL_law_1354 rfl rfl ?_
    refine wp_aload_n dL_law_1356 rfl ?_
    refine wp_aload_n dL_law_1357 rfl ?_
    refine wp_iload dL_law_1358 rfl ?_
    refine wp_iconst (v := 1) dL_law_1360 (by decide) ?_
    refine wp_iadd dL_law_1361 ?_
    refine cp_sld (N := N) (xs := xs) rfl hb1 dL_law_1362 ?_
    refine wp_callV (k1 := 0) (k2 := k2) (As := [vI (xs (i + 1).toNatClampNeg)]) (rest := []) (w9_budget (RA_fr hRA hFR) h9) okX9_budget ivX9_budget rfl (by decide) ml_L_170 dL_law_1363 rfl (by decide) (Nat.le_of_eq (Nat.zero_add _)) rfl (Nat.le_of_ble_eq_true rfl) (fun _ _ z => z.elim) (fun r' S' z => ?_)
    obtain ⟨rfl, rfl⟩ := z
    show WP (mLaw N xs) 60 k2 1366 [some (vR 74 0), some (vR 8 0), some (vR 9 0), some (vR 70 0), some (vI i), some (vI ((fun j => 1) j')), l6] [vI b] (cM m9 out rho9) Q QX
    refine wp_istore (L' := [some (vR 74 0), some (vR 8 0), some (vR 9 0), some (vR 70 0), some (vI i), some (vI ((fun j => 1) j')), some (vI b)]) dL_law_1366 rfl rfl ?_
    refine wp_aload_n dL_law_1368 rfl ?_
    refine wp_callV (k1 := 0) (k2 := k2) (As := []) (rest := []) (w9_thrown (RA_fr hRA hFR) (r := rho9 64 0) (rho9 := rho9) rfl) okX9_thrown ivX9_thrown rfl (by decide) ml_L_104 dL_law_1369 rfl (by decide) (Nat.le_of_eq (Nat.zero_add _)) rfl (Nat.le_of_ble_eq_true rfl) (fun _ _ z => z.elim) (fun r' S' z => ?_)
    obtain ⟨rfl, rfl⟩ := z
    show WP (mLaw N xs) 60 k2 1372 [some (vR 74 0), some (vR 8 0), some (vR 9 0), some (vR 70 0), some (vI i), some (vI ((fun j => 1) j')), some (vI b)] [vI (rho9 64 0)] (cM m9 out rho9) Q QX
    refine wp_iload dL_law_1372 rfl ?_
    refine wp_icmp_eq (tgt := 1379) dL_law_1374 (by decide) (fun _ => ?_) (fun z => absurd ht z)
    refine wp_iload dL_law_1379 rfl ?_
    refine wp_if_ne (tgt := 1396) dL_law_1381 (by decide) (fun _ => ?_) (fun z => absurd z hn)
    refine wp_goto (tgt := 1823) dL_law_1396 (by decide) ?_
    exact kk _ _ _
theorem law_c19 {r : Int32 ⊕ Nat} (hr : ∀ j, r = .inr j → j = 0) (h8 : f8_X8_breaker 0 (xs (i + 1).toNatClampNeg) (xs (i + 2).toNatClampNeg) m = some (r, m9, n9)) (h9 : f9_breaker (xs (i + 1).toNatClampNeg) (xs (i + 2).toNatClampNeg) rho = some (b, rho9)) (hag : AG r (fun x => x.toInt64) (fun j => 1) b.toInt64 (rho9 64 0)) (hb1 : vp_in (i + 1) N) (hb2 : vp_in (i + 2) N) (hRA : RA m.2.1) (hFR : FR m m9) (kk : ∀ (out' : Int64) (l5 l6 : Option sV), WP (mLaw N xs) 60 k2 1823 [some (vR 74 0), some (vR 8 0), some (vR 9 0), some (vR 70 0), some (vI i), l5, l6] [] (cM m9 out' rho9) Q QX) : WP (mLaw N xs) 60 (n9 + k2) 1399 [some (vR 74 0), some (vR 8 0), some (vR 9 0), some (vR 70 0), some (vI i), l5, l6] [] (cM m out rho) Q QX := by
  rcases hag with ⟨x, hx, ht, hv⟩ | ⟨j, hj, ht, hn⟩
  · refine wp_aload_n dL_law_1399 rfl ?_
    refine wp_aload_n dL_law_1400 rfl ?_
    refine wp_iload dL_law_1401 rfl ?_
    refine wp_iconst (v := 1) dL_law_1403 (by decide) ?_
    refine wp_iadd dL_law_1404 ?_
    refine cp_sld (N := N) (xs := xs) rfl hb1 dL_law_1405 ?_
    refine wp_aload_n dL_law_1406 rfl ?_
    refine wp_iload dL_law_1407 rfl ?_
    refine wp_iconst (v := 2) dL_law_1409 (by decide) ?_
    refine wp_iadd dL_law_1410 ?_
    refine cp_sld (N := N) (xs := xs) rfl hb2 dL_law_1411 ?_
    refine wp_aload_n dL_law_1412 rfl ?_
    refine wp_callSW (k1 := n9) (k2 := k2) (As := [vR 8 0, vI (xs (i + 1).toNatClampNeg), vI (xs (i + 2).toNatClampNeg), vR 70 0]) (rest := []) (wL_breaker hr h8) okL_breaker sm_L_breaker rfl ml_L_171 dL_law_1413 (by decide) (Nat.le_refl _) rfl (by decide) (fun r' S' z => ?_)
    rcases z with ⟨x', hx', rfl, rfl⟩ | ⟨j', hj', -, -⟩
    rotate_left
    · rw [hx] at hj'; cases hj'
    have ex : x' = x := by rw [hx] at hx'; exact (Sum.inl.inj hx').symm
    subst ex
    show WP (mLaw N xs) 60 k2 1416 [some (vR 74 0), some (vR 8 0), some (vR 9 0), some (vR 70 0), some (vI i), l5, l6] [vI 0] (cM m9 x'.toInt64 rho) Q QX
    refine wp_istore (L' := [some (vR 74 0), some (vR 8 0), some (vR 9 0), some (vR 70 0), some (vI i), some (vI 0), l6]) dL_law_1416 rfl rfl ?_
    refine wp_aload_n dL_law_1418 rfl ?_
    refine wp_aload_n dL_law_1419 rfl ?_
    refine wp_iload dL_law_1420 rfl ?_
    refine wp_iconst (v := 1) dL_law_1422 (by decide) ?_
    refine wp_iadd dL_law_1423 ?_
    refine cp_sld (N := N) (xs := xs) rfl hb1 dL_law_1424 ?_
    refine wp_aload_n dL_law_1425 rfl ?_
    refine wp_iload dL_law_1426 rfl ?_
    refine wp_iconst (v := 2) dL_law_1428 (by decide) ?_
    refine wp_iadd dL_law_1429 ?_
    refine cp_sld (N := N) (xs := xs) rfl hb2 dL_law_1430 ?_
    refine wp_callV (k1 := 0) (k2 := k2) (As := [vI (xs (i + 1).toNatClampNeg), vI (xs (i + 2).toNatClampNeg)]) (rest := []) (w9_breaker (RA_fr hRA hFR) h9) okX9_breaker ivX9_breaker rfl (by decide) ml_L_173 dL_law_1431 rfl (by decide) (Nat.le_of_eq (Nat.zero_add _)) rfl (Nat.le_of_ble_eq_true rfl) (fun _ _ z => z.elim) (fun r' S' z => ?_)
    obtain ⟨rfl, rfl⟩ := z
    show WP (mLaw N xs) 60 k2 1434 [some (vR 74 0), some (vR 8 0), some (vR 9 0), some (vR 70 0), some (vI i), some (vI 0), l6] [vI b] (cM m9 x'.toInt64 rho9) Q QX
    refine wp_istore (L' := [some (vR 74 0), some (vR 8 0), some (vR 9 0), some (vR 70 0), some (vI i), some (vI 0), some (vI b)]) dL_law_1434 rfl rfl ?_
    refine wp_aload_n dL_law_1436 rfl ?_
    refine wp_callV (k1 := 0) (k2 := k2) (As := []) (rest := []) (w9_thrown (RA_fr hRA hFR) (r := rho9 64 0) (rho9 := rho9) rfl) okX9_thrown ivX9_thrown rfl (by decide) ml_L_104 dL_law_1437 rfl (by decide) (Nat.le_of_eq (Nat.zero_add _)) rfl (Nat.le_of_ble_eq_true rfl) (fun _ _ z => z.elim) (fun r' S' z => ?_)
    obtain ⟨rfl, rfl⟩ := z
    show WP (mLaw N xs) 60 k2 1440 [some (vR 74 0), some (vR 8 0), some (vR 9 0), some (vR 70 0), some (vI i), some (vI 0), some (vI b)] [vI (rho9 64 0)] (cM m9 x'.toInt64 rho9) Q QX
    refine wp_iload dL_law_1440 rfl ?_
    refine wp_icmp_eq (tgt := 1447) dL_law_1442 (by decide) (fun _ => ?_) (fun z => absurd ht z)
    refine wp_iload dL_law_1447 rfl ?_
    refine wp_if_ne (tgt := 1464) dL_law_1449 (by decide) (fun z => absurd rfl z) (fun _ => ?_)
    refine wp_aload_n dL_law_1452 rfl ?_
    refine wp_iconst (v := 0) dL_law_1453 (by decide) ?_
    refine cp_laload rfl dL_law_1454 ?_
    refine wp_iload dL_law_1455 rfl ?_
    refine wp_i2l dL_law_1457 ?_
    refine wp_lcmp dL_law_1458 ?_
    refine wp_if_eq (tgt := 1464) dL_law_1459 (by decide) (fun _ => ?_) (fun z => absurd (by have hv' : x'.toInt64 = b.toInt64 := hv; rw [hv']; exact lg_same _) z)
    refine wp_goto (tgt := 1823) dL_law_1464 (by decide) ?_
    exact kk _ _ _
  · refine wp_aload_n dL_law_1399 rfl ?_
    refine wp_aload_n dL_law_1400 rfl ?_
    refine wp_iload dL_law_1401 rfl ?_
    refine wp_iconst (v := 1) dL_law_1403 (by decide) ?_
    refine wp_iadd dL_law_1404 ?_
    refine cp_sld (N := N) (xs := xs) rfl hb1 dL_law_1405 ?_
    refine wp_aload_n dL_law_1406 rfl ?_
    refine wp_iload dL_law_1407 rfl ?_
    refine wp_iconst (v := 2) dL_law_1409 (by decide) ?_
    refine wp_iadd dL_law_1410 ?_
    refine cp_sld (N := N) (xs := xs) rfl hb2 dL_law_1411 ?_
    refine wp_aload_n dL_law_1412 rfl ?_
    refine wp_callSW (k1 := n9) (k2 := k2) (As := [vR 8 0, vI (xs (i + 1).toNatClampNeg), vI (xs (i + 2).toNatClampNeg), vR 70 0]) (rest := []) (wL_breaker hr h8) okL_breaker sm_L_breaker rfl ml_L_171 dL_law_1413 (by decide) (Nat.le_refl _) rfl (by decide) (fun r' S' z => ?_)
    rcases z with ⟨x', hx', -, -⟩ | ⟨j', hj', rfl, rfl⟩
    · rw [hj] at hx'; cases hx'
    have ej : j' = j := by rw [hj] at hj'; exact (Sum.inr.inj hj').symm
    subst ej
    show WP (mLaw N xs) 60 k2 1416 [some (vR 74 0), some (vR 8 0), some (vR 9 0), some (vR 70 0), some (vI i), l5, l6] [vI ((fun j => 1) j')] (cM m9 out rho) Q QX
    refine wp_istore (L' := [some (vR 74 0), some (vR 8 0), some (vR 9 0), some (vR 70 0), some (vI i), some (vI ((fun j => 1) j')), l6]) dL_law_1416 rfl rfl ?_
    refine wp_aload_n dL_law_1418 rfl ?_
    refine wp_aload_n dL_law_1419 rfl ?_
    refine wp_iload dL_law_1420 rfl ?_
    refine wp_iconst (v := 1) dL_law_1422 (by decide) ?_
    refine wp_iadd dL_law_1423 ?_
    refine cp_sld (N := N) (xs := xs) rfl hb1 dL_law_1424 ?_
    refine wp_aload_n dL_law_1425 rfl ?_
    refine wp_iload dL_law_1426 rfl ?_
    refine wp_iconst (v := 2) dL_law_1428 (by decide) ?_
    refine wp_iadd dL_law_1429 ?_
    refine cp_sld (N := N) (xs := xs) rfl hb2 dL_law_1430 ?_
    refine wp_callV (k1 := 0) (k2 := k2) (As := [vI (xs (i + 1).toNatClampNeg), vI (xs (i + 2).toNatClampNeg)]) (rest := []) (w9_breaker (RA_fr hRA hFR) h9) okX9_breaker ivX9_breaker rfl (by decide) ml_L_173 dL_law_1431 rfl (by decide) (Nat.le_of_eq (Nat.zero_add _)) rfl (Nat.le_of_ble_eq_true rfl) (fun _ _ z => z.elim) (fun r' S' z => ?_)
    obtain ⟨rfl, rfl⟩ := z
    show WP (mLaw N xs) 60 k2 1434 [some (vR 74 0), some (vR 8 0), some (vR 9 0), some (vR 70 0), some (vI i), some (vI ((fun j => 1) j')), l6] [vI b] (cM m9 out rho9) Q QX
    refine wp_istore (L' := [some (vR 74 0), some (vR 8 0), some (vR 9 0), some (vR 70 0), some (vI i), some (vI ((fun j => 1) j')), some (vI b)]) dL_law_1434 rfl rfl ?_
    refine wp_aload_n dL_law_1436 rfl ?_
    refine wp_callV (k1 := 0) (k2 := k2) (As := []) (rest := []) (w9_thrown (RA_fr hRA hFR) (r := rho9 64 0) (rho9 := rho9) rfl) okX9_thrown ivX9_thrown rfl (by decide) ml_L_104 dL_law_1437 rfl (by decide) (Nat.le_of_eq (Nat.zero_add _)) rfl (Nat.le_of_ble_eq_true rfl) (fun _ _ z => z.elim) (fun r' S' z => ?_)
    obtain ⟨rfl, rfl⟩ := z
    show WP (mLaw N xs) 60 k2 1440 [some (vR 74 0), some (vR 8 0), some (vR 9 0), some (vR 70 0), some (vI i), some (vI ((fun j => 1) j')), some (vI b)] [vI (rho9 64 0)] (cM m9 out rho9) Q QX
    refine wp_iload dL_law_1440 rfl ?_
    refine wp_icmp_eq (tgt := 1447) dL_law_1442 (by decide) (fun _ => ?_) (fun z => absurd ht z)
    refine wp_iload dL_law_1447 rfl ?_
    refine wp_if_ne (tgt := 1464) dL_law_1449 (by decide) (fun _ => ?_) (fun z => absurd z hn)
    refine wp_goto (tgt := 1823) dL_law_1464 (by decide) ?_
    exact kk _ _ _
theorem law_c20 {r : Int32 ⊕ Nat} (hr : ∀ j, r = .inr j → j = 0) (h8 : f8_X8_isShunned 0 (xs (i + 1).toNatClampNeg) m = some (r, m9, n9)) (h9 : f9_isShunned (xs (i + 1).toNatClampNeg) rho = some (b, rho9)) (hag : AG r (fun x => if x = 0 then 0 else 1) (fun j => 1) (if b = 0 then 0 else 1) (rho9 64 0)) (hb1 : vp_in (i + 1) N) (hRA : RA m.2.1) (hFR : FR m m9) (kk : ∀ (out' : Int64) (l5 l6 : Option sV), WP (mLaw N xs) 60 k2 1823 [some (vR 74 0), some (vR 8 0), some (vR 9 0), some (vR 70 0), some (vI i), l5, l6] [] (cM m9 out' rho9) Q QX) : WP (mLaw N xs) 60 (n9 + k2) 1467 [some (vR 74 0), some (vR 8 0), some (vR 9 0), some (vR 70 0), some (vI i), l5, l6] [] (cM m out rho) Q QX := by
  rcases hag with ⟨x, hx, ht, hv⟩ | ⟨j, hj, ht, hn⟩
  · refine wp_aload_n dL_law_1467 rfl ?_
    refine wp_aload_n dL_law_1468 rfl ?_
    refine wp_iload dL_law_1469 rfl ?_
    refine wp_iconst (v := 1) dL_law_1471 (by decide) ?_
    refine wp_iadd dL_law_1472 ?_
    refine cp_sld (N := N) (xs := xs) rfl hb1 dL_law_1473 ?_
    refine wp_aload_n dL_law_1474 rfl ?_
    refine wp_callSW (k1 := n9) (k2 := k2) (As := [vR 8 0, vI (xs (i + 1).toNatClampNeg), vR 70 0]) (rest := []) (wL_isShunned hr h8) okL_isShunned sm_L_isShunned rfl ml_L_174 dL_law_1475 (by decide) (Nat.le_refl _) rfl (by decide) (fun r' S' z => ?_)
    rcases z with ⟨x', hx', rfl, rfl⟩ | ⟨j', hj', -, -⟩
    rotate_left
    · rw [hx] at hj'; cases hj'
    have ex : x' = x := by rw [hx] at hx'; exact (Sum.inl.inj hx').symm
    subst ex
    show WP (mLaw N xs) 60 k2 1478 [some (vR 74 0), some (vR 8 0), some (vR 9 0), some (vR 70 0), some (vI i), l5, l6] [vI 0] (cM m9 (if x' = 0 then 0 else 1) rho) Q QX
    refine wp_istore (L' := [some (vR 74 0), some (vR 8 0), some (vR 9 0), some (vR 70 0), some (vI i), some (vI 0), l6]) dL_law_1478 rfl rfl ?_
    refine wp_aload_n dL_law_1480 rfl ?_
    refine wp_aload_n dL_law_1481 rfl ?_
    refine wp_iload dL_law_1482 rfl ?_
    refine wp_iconst (v := 1) dL_law_1484 (by decide) ?_
    refine wp_iadd dL_law_1485 ?_
    refine cp_sld (N := N) (xs := xs) rfl hb1 dL_law_1486 ?_
    refine wp_callV (k1 := 0) (k2 := k2) (As := [vI (xs (i + 1).toNatClampNeg)]) (rest := []) (w9_isShunned (RA_fr hRA hFR) h9) okX9_isShunned ivX9_isShunned rfl (by decide) ml_L_176 dL_law_1487 rfl (by decide) (Nat.le_of_eq (Nat.zero_add _)) rfl (Nat.le_of_ble_eq_true rfl) (fun _ _ z => z.elim) (fun r' S' z => ?_)
    obtain ⟨rfl, rfl⟩ := z
    show WP (mLaw N xs) 60 k2 1490 [some (vR 74 0), some (vR 8 0), some (vR 9 0), some (vR 70 0), some (vI i), some (vI 0), l6] [vI b] (cM m9 (if x' = 0 then 0 else 1) rho9) Q QX
    refine wp_istore (L' := [some (vR 74 0), some (vR 8 0), some (vR 9 0), some (vR 70 0), some (vI i), some (vI 0), some (vI b)]) dL_law_1490 rfl rfl ?_
    refine wp_aload_n dL_law_1492 rfl ?_
    refine wp_callV (k1 := 0) (k2 := k2) (As := []) (rest := []) (w9_thrown (RA_fr hRA hFR) (r := rho9 64 0) (rho9 := rho9) rfl) okX9_thrown ivX9_thrown rfl (by decide) ml_L_104 dL_law_1493 rfl (by decide) (Nat.le_of_eq (Nat.zero_add _)) rfl (Nat.le_of_ble_eq_true rfl) (fun _ _ z => z.elim) (fun r' S' z => ?_)
    obtain ⟨rfl, rfl⟩ := z
    show WP (mLaw N xs) 60 k2 1496 [some (vR 74 0), some (vR 8 0), some (vR 9 0), some (vR 70 0), some (vI i), some (vI 0), some (vI b)] [vI (rho9 64 0)] (cM m9 (if x' = 0 then 0 else 1) rho9) Q QX
    refine wp_iload dL_law_1496 rfl ?_
    refine wp_icmp_eq (tgt := 1503) dL_law_1498 (by decide) (fun _ => ?_) (fun z => absurd ht z)
    refine wp_iload dL_law_1503 rfl ?_
    refine wp_if_ne (tgt := 1527) dL_law_1505 (by decide) (fun z => absurd rfl z) (fun _ => ?_)
    refine wp_aload_n dL_law_1508 rfl ?_
    refine wp_iconst (v := 0) dL_law_1509 (by decide) ?_
    refine cp_laload rfl dL_law_1510 ?_
    refine wp_iload dL_law_1511 rfl ?_
    refine wp_if_eq (tgt := 1520) dL_law_1513 (by decide) (fun cb => ?_) (fun cb => ?_)
    · refine wp_lconst (v := 0) dL_law_1520 (by decide) ?_
      refine wp_lcmp dL_law_1521 ?_
      refine wp_if_eq (tgt := 1527) dL_law_1522 (by decide) (fun _ => ?_) (fun z => absurd (by have hv' : (if x' = 0 then (0 : Int64) else 1) = (if b = 0 then 0 else 1) := hv; rw [if_pos cb] at hv'; rw [hv']; exact lg_same _) z)
      refine wp_goto (tgt := 1823) dL_law_1527 (by decide) ?_
      exact kk _ _ _
    · refine wp_lconst (v := 1) dL_law_1516 (by decide) ?_
      refine wp_goto (tgt := 1521) dL_law_1517 (by decide) ?_
      refine wp_lcmp dL_law_1521 ?_
      refine wp_if_eq (tgt := 1527) dL_law_1522 (by decide) (fun _ => ?_) (fun z => absurd (by have hv' : (if x' = 0 then (0 : Int64) else 1) = (if b = 0 then 0 else 1) := hv; rw [if_neg cb] at hv'; rw [hv']; exact lg_same _) z)
      refine wp_goto (tgt := 1823) dL_law_1527 (by decide) ?_
      exact kk _ _ _
  · refine wp_aload_n dL_law_1467 rfl ?_
    refine wp_aload_n dL_law_1468 rfl ?_
    refine wp_iload dL_law_1469 rfl ?_
    refine wp_iconst (v := 1) dL_law_1471 (by decide) ?_
    refine wp_iadd dL_law_1472 ?_
    refine cp_sld (N := N) (xs := xs) rfl hb1 dL_law_1473 ?_
    refine wp_aload_n dL_law_1474 rfl ?_
    refine wp_callSW (k1 := n9) (k2 := k2) (As := [vR 8 0, vI (xs (i + 1).toNatClampNeg), vR 70 0]) (rest := []) (wL_isShunned hr h8) okL_isShunned sm_L_isShunned rfl ml_L_174 dL_law_1475 (by decide) (Nat.le_refl _) rfl (by decide) (fun r' S' z => ?_)
    rcases z with ⟨x', hx', -, -⟩ | ⟨j', hj', rfl, rfl⟩
    · rw [hj] at hx'; cases hx'
    have ej : j' = j := by rw [hj] at hj'; exact (Sum.inr.inj hj').symm
    subst ej
    show WP (mLaw N xs) 60 k2 1478 [some (vR 74 0), some (vR 8 0), some (vR 9 0), some (vR 70 0), some (vI i), l5, l6] [vI ((fun j => 1) j')] (cM m9 out rho) Q QX
    refine wp_istore (L' := [some (vR 74 0), some (vR 8 0), some (vR 9 0), some (vR 70 0), some (vI i), some (vI ((fun j => 1) j')), l6]) dL_law_1478 rfl rfl ?_
    refine wp_aload_n dL_law_1480 rfl ?_
    refine wp_aload_n dL_law_1481 rfl ?_
    refine wp_iload dL_law_1482 rfl ?_
    refine wp_iconst (v := 1) dL_law_1484 (by decide) ?_
    refine wp_iadd dL_law_1485 ?_
    refine cp_sld (N := N) (xs := xs) rfl hb1 dL_law_1486 ?_
    refine wp_callV (k1 := 0) (k2 := k2) (As := [vI (xs (i + 1).toNatClampNeg)]) (rest := []) (w9_isShunned (RA_fr hRA hFR) h9) okX9_isShunned ivX9_isShunned rfl (by decide) ml_L_176 dL_law_1487 rfl (by decide) (Nat.le_of_eq (Nat.zero_add _)) rfl (Nat.le_of_ble_eq_true rfl) (fun _ _ z => z.elim) (fun r' S' z => ?_)
    obtain ⟨rfl, rfl⟩ := z
    show WP (mLaw N xs) 60 k2 1490 [some (vR 74 0), some (vR 8 0), some (vR 9 0), some (vR 70 0), some (vI i), some (vI ((fun j => 1) j')), l6] [vI b] (cM m9 out rho9) Q QX
    refine wp_istore (L' := [some (vR 74 0), some (vR 8 0), some (vR 9 0), some (vR 70 0), some (vI i), some (vI ((fun j => 1) j')), some (vI b)]) dL_law_1490 rfl rfl ?_
    refine wp_aload_n dL_law_1492 rfl ?_
    refine wp_callV (k1 := 0) (k2 := k2) (As := []) (rest := []) (w9_thrown (RA_fr hRA hFR) (r := rho9 64 0) (rho9 := rho9) rfl) okX9_thrown ivX9_thrown rfl (by decide) ml_L_104 dL_law_1493 rfl (by decide) (Nat.le_of_eq (Nat.zero_add _)) rfl (Nat.le_of_ble_eq_true rfl) (fun _ _ z => z.elim) (fun r' S' z => ?_)
    obtain ⟨rfl, rfl⟩ := z
    show WP (mLaw N xs) 60 k2 1496 [some (vR 74 0), some (vR 8 0), some (vR 9 0), some (vR 70 0), some (vI i), some (vI ((fun j => 1) j')), some (vI b)] [vI (rho9 64 0)] (cM m9 out rho9) Q QX
    refine wp_iload dL_law_1496 rfl ?_
    refine wp_icmp_eq (tgt := 1503) dL_law_1498 (by decide) (fun _ => ?_) (fun z => absurd ht z)
    refine wp_iload dL_law_1503 rfl ?_
    refine wp_if_ne (tgt := 1527) dL_law_1505 (by decide) (fun _ => ?_) (fun z => absurd z hn)
    refine wp_goto (tgt := 1823) dL_law_1527 (by decide) ?_
    exact kk _ _ _
theorem law_c21 {r : Int32 ⊕ Nat} (hr : ∀ j, r = .inr j → j = 0) (h8 : f8_X8_load 0 (xs (i + 1).toNatClampNeg) (if (xs (i + 2).toNatClampNeg) = 0 then 0 else 1) m = some (r, m9, n9)) (h9 : f9_load (xs (i + 1).toNatClampNeg) (if (xs (i + 2).toNatClampNeg) = 0 then 0 else 1) rho = some (b, rho9)) (hag : AG r (fun x => x.toInt64) (fun j => 1) b.toInt64 (rho9 64 0)) (hb1 : vp_in (i + 1) N) (hb2 : vp_in (i + 2) N) (hRA : RA m.2.1) (hFR : FR m m9) (kk : ∀ (out' : Int64) (l5 l6 : Option sV), WP (mLaw N xs) 60 k2 1823 [some (vR 74 0), some (vR 8 0), some (vR 9 0), some (vR 70 0), some (vI i), l5, l6] [] (cM m9 out' rho9) Q QX) : WP (mLaw N xs) 60 (n9 + k2) 1530 [some (vR 74 0), some (vR 8 0), some (vR 9 0), some (vR 70 0), some (vI i), l5, l6] [] (cM m out rho) Q QX := by
  by_cases cz : (xs (i + 2).toNatClampNeg) = 0
  · rw [if_pos cz] at h8 h9
    rcases hag with ⟨x, hx, ht, hv⟩ | ⟨j, hj, ht, hn⟩
    · refine wp_aload_n dL_law_1530 rfl ?_
      refine wp_aload_n dL_law_1531 rfl ?_
      refine wp_iload dL_law_1532 rfl ?_
      refine wp_iconst (v := 1) dL_law_1534 (by decide) ?_
      refine wp_iadd dL_law_1535 ?_
      refine cp_sld (N := N) (xs := xs) rfl hb1 dL_law_1536 ?_
      refine wp_aload_n dL_law_1537 rfl ?_
      refine wp_iload dL_law_1538 rfl ?_
      refine wp_iconst (v := 2) dL_law_1540 (by decide) ?_
      refine wp_iadd dL_law_1541 ?_
      refine cp_sld (N := N) (xs := xs) rfl hb2 dL_law_1542 ?_
      refine wp_if_eq (tgt := 1550) dL_law_1543 (by decide) (fun _ => ?_) (fun z => absurd cz z)
      refine wp_iconst (v := 0) dL_law_1550 (by decide) ?_
      refine wp_aload_n dL_law_1551 rfl ?_
      refine wp_callSW (k1 := n9) (k2 := k2) (As := [vR 8 0, vI (xs (i + 1).toNatClampNeg), vI 0, vR 70 0]) (rest := []) (wL_load hr h8) okL_load sm_L_load rfl ml_L_177 dL_law_1552 (by decide) (Nat.le_refl _) rfl (by decide) (fun r' S' z => ?_)
      rcases z with ⟨x', hx', rfl, rfl⟩ | ⟨j', hj', -, -⟩
      rotate_left
      · rw [hx] at hj'; cases hj'
      have ex : x' = x := by rw [hx] at hx'; exact (Sum.inl.inj hx').symm
      subst ex
      show WP (mLaw N xs) 60 k2 1555 [some (vR 74 0), some (vR 8 0), some (vR 9 0), some (vR 70 0), some (vI i), l5, l6] [vI 0] (cM m9 x'.toInt64 rho) Q QX
      refine wp_istore (L' := [some (vR 74 0), some (vR 8 0), some (vR 9 0), some (vR 70 0), some (vI i), some (vI 0), l6]) dL_law_1555 rfl rfl ?_
      refine wp_aload_n dL_law_1557 rfl ?_
      refine wp_aload_n dL_law_1558 rfl ?_
      refine wp_iload dL_law_1559 rfl ?_
      refine wp_iconst (v := 1) dL_law_1561 (by decide) ?_
      refine wp_iadd dL_law_1562 ?_
      refine cp_sld (N := N) (xs := xs) rfl hb1 dL_law_1563 ?_
      refine wp_aload_n dL_law_1564 rfl ?_
      refine wp_iload dL_law_1565 rfl ?_
      refine wp_iconst (v := 2) dL_law_1567 (by decide) ?_
      refine wp_iadd dL_law_1568 ?_
      refine cp_sld (N := N) (xs := xs) rfl hb2 dL_law_1569 ?_
      refine wp_if_eq (tgt := 1577) dL_law_1570 (by decide) (fun _ => ?_) (fun z => absurd cz z)
      refine wp_iconst (v := 0) dL_law_1577 (by decide) ?_
      refine wp_callV (k1 := 0) (k2 := k2) (As := [vI (xs (i + 1).toNatClampNeg), vI 0]) (rest := []) (w9_load (RA_fr hRA hFR) h9) okX9_load ivX9_load rfl (by decide) ml_L_180 dL_law_1578 rfl (by decide) (Nat.le_of_eq (Nat.zero_add _)) rfl (Nat.le_of_ble_eq_true rfl) (fun _ _ z => z.elim) (fun r' S' z => ?_)
      obtain ⟨rfl, rfl⟩ := z
      show WP (mLaw N xs) 60 k2 1581 [some (vR 74 0), some (vR 8 0), some (vR 9 0), some (vR 70 0), some (vI i), some (vI 0), l6] [vI b] (cM m9 x'.toInt64 rho9) Q QX
      refine wp_istore (L' := [some (vR 74 0), some (vR 8 0), some (vR 9 0), some (vR 70 0), some (vI i), some (vI 0), some (vI b)]) dL_law_1581 rfl rfl ?_
      refine wp_aload_n dL_law_1583 rfl ?_
      refine wp_callV (k1 := 0) (k2 := k2) (As := []) (rest := []) (w9_thrown (RA_fr hRA hFR) (r := rho9 64 0) (rho9 := rho9) rfl) okX9_thrown ivX9_thrown rfl (by decide) ml_L_104 dL_law_1584 rfl (by decide) (Nat.le_of_eq (Nat.zero_add _)) rfl (Nat.le_of_ble_eq_true rfl) (fun _ _ z => z.elim) (fun r' S' z => ?_)
      obtain ⟨rfl, rfl⟩ := z
      show WP (mLaw N xs) 60 k2 1587 [some (vR 74 0), some (vR 8 0), some (vR 9 0), some (vR 70 0), some (vI i), some (vI 0), some (vI b)] [vI (rho9 64 0)] (cM m9 x'.toInt64 rho9) Q QX
      refine wp_iload dL_law_1587 rfl ?_
      refine wp_icmp_eq (tgt := 1594) dL_law_1589 (by decide) (fun _ => ?_) (fun z => absurd ht z)
      refine wp_iload dL_law_1594 rfl ?_
      refine wp_if_ne (tgt := 1611) dL_law_1596 (by decide) (fun z => absurd rfl z) (fun _ => ?_)
      refine wp_aload_n dL_law_1599 rfl ?_
      refine wp_iconst (v := 0) dL_law_1600 (by decide) ?_
      refine cp_laload rfl dL_law_1601 ?_
      refine wp_iload dL_law_1602 rfl ?_
      refine wp_i2l dL_law_1604 ?_
      refine wp_lcmp dL_law_1605 ?_
      refine wp_if_eq (tgt := 1611) dL_law_1606 (by decide) (fun _ => ?_) (fun z => absurd (by have hv' : x'.toInt64 = b.toInt64 := hv; rw [hv']; exact lg_same _) z)
      refine wp_goto (tgt := 1823) dL_law_1611 (by decide) ?_
      exact kk _ _ _
    · refine wp_aload_n dL_law_1530 rfl ?_
      refine wp_aload_n dL_law_1531 rfl ?_
      refine wp_iload dL_law_1532 rfl ?_
      refine wp_iconst (v := 1) dL_law_1534 (by decide) ?_
      refine wp_iadd dL_law_1535 ?_
      refine cp_sld (N := N) (xs := xs) rfl hb1 dL_law_1536 ?_
      refine wp_aload_n dL_law_1537 rfl ?_
      refine wp_iload dL_law_1538 rfl ?_
      refine wp_iconst (v := 2) dL_law_1540 (by decide) ?_
      refine wp_iadd dL_law_1541 ?_
      refine cp_sld (N := N) (xs := xs) rfl hb2 dL_law_1542 ?_
      refine wp_if_eq (tgt := 1550) dL_law_1543 (by decide) (fun _ => ?_) (fun z => absurd cz z)
      refine wp_iconst (v := 0) dL_law_1550 (by decide) ?_
      refine wp_aload_n dL_law_1551 rfl ?_
      refine wp_callSW (k1 := n9) (k2 := k2) (As := [vR 8 0, vI (xs (i + 1).toNatClampNeg), vI 0, vR 70 0]) (rest := []) (wL_load hr h8) okL_load sm_L_load rfl ml_L_177 dL_law_1552 (by decide) (Nat.le_refl _) rfl (by decide) (fun r' S' z => ?_)
      rcases z with ⟨x', hx', -, -⟩ | ⟨j', hj', rfl, rfl⟩
      · rw [hj] at hx'; cases hx'
      have ej : j' = j := by rw [hj] at hj'; exact (Sum.inr.inj hj').symm
      subst ej
      show WP (mLaw N xs) 60 k2 1555 [some (vR 74 0), some (vR 8 0), some (vR 9 0), some (vR 70 0), some (vI i), l5, l6] [vI ((fun j => 1) j')] (cM m9 out rho) Q QX
      refine wp_istore (L' := [some (vR 74 0), some (vR 8 0), some (vR 9 0), some (vR 70 0), some (vI i), some (vI ((fun j => 1) j')), l6]) dL_law_1555 rfl rfl ?_
      refine wp_aload_n dL_law_1557 rfl ?_
      refine wp_aload_n dL_law_1558 rfl ?_
      refine wp_iload dL_law_1559 rfl ?_
      refine wp_iconst (v := 1) dL_law_1561 (by decide) ?_
      refine wp_iadd dL_law_1562 ?_
      refine cp_sld (N := N) (xs := xs) rfl hb1 dL_law_1563 ?_
      refine wp_aload_n dL_law_1564 rfl ?_
      refine wp_iload dL_law_1565 rfl ?_
      refine wp_iconst (v := 2) dL_law_1567 (by decide) ?_
      refine wp_iadd dL_law_1568 ?_
      refine cp_sld (N := N) (xs := xs) rfl hb2 dL_law_1569 ?_
      refine wp_if_eq (tgt := 1577) dL_law_1570 (by decide) (fun _ => ?_) (fun z => absurd cz z)
      refine wp_iconst (v := 0) dL_law_1577 (by decide) ?_
      refine wp_callV (k1 := 0) (k2 := k2) (As := [vI (xs (i + 1).toNatClampNeg), vI 0]) (rest := []) (w9_load (RA_fr hRA hFR) h9) okX9_load ivX9_load rfl (by decide) ml_L_180 dL_law_1578 rfl (by decide) (Nat.le_of_eq (Nat.zero_add _)) rfl (Nat.le_of_ble_eq_true rfl) (fun _ _ z => z.elim) (fun r' S' z => ?_)
      obtain ⟨rfl, rfl⟩ := z
      show WP (mLaw N xs) 60 k2 1581 [some (vR 74 0), some (vR 8 0), some (vR 9 0), some (vR 70 0), some (vI i), some (vI ((fun j => 1) j')), l6] [vI b] (cM m9 out rho9) Q QX
      refine wp_istore (L' := [some (vR 74 0), some (vR 8 0), some (vR 9 0), some (vR 70 0), some (vI i), some (vI ((fun j => 1) j')), some (vI b)]) dL_law_1581 rfl rfl ?_
      refine wp_aload_n dL_law_1583 rfl ?_
      refine wp_callV (k1 := 0) (k2 := k2) (As := []) (rest := []) (w9_thrown (RA_fr hRA hFR) (r := rho9 64 0) (rho9 := rho9) rfl) okX9_thrown ivX9_thrown rfl (by decide) ml_L_104 dL_law_1584 rfl (by decide) (Nat.le_of_eq (Nat.zero_add _)) rfl (Nat.le_of_ble_eq_true rfl) (fun _ _ z => z.elim) (fun r' S' z => ?_)
      obtain ⟨rfl, rfl⟩ := z
      show WP (mLaw N xs) 60 k2 1587 [some (vR 74 0), some (vR 8 0), some (vR 9 0), some (vR 70 0), some (vI i), some (vI ((fun j => 1) j')), some (vI b)] [vI (rho9 64 0)] (cM m9 out rho9) Q QX
      refine wp_iload dL_law_1587 rfl ?_
      refine wp_icmp_eq (tgt := 1594) dL_law_1589 (by decide) (fun _ => ?_) (fun z => absurd ht z)
      refine wp_iload dL_law_1594 rfl ?_
      refine wp_if_ne (tgt := 1611) dL_law_1596 (by decide) (fun _ => ?_) (fun z => absurd z hn)
      refine wp_goto (tgt := 1823) dL_law_1611 (by decide) ?_
      exact kk _ _ _
  · rw [if_neg cz] at h8 h9
    rcases hag with ⟨x, hx, ht, hv⟩ | ⟨j, hj, ht, hn⟩
    · refine wp_aload_n dL_law_1530 rfl ?_
      refine wp_aload_n dL_law_1531 rfl ?_
      refine wp_iload dL_law_1532 rfl ?_
      refine wp_iconst (v := 1) dL_law_1534 (by decide) ?_
      refine wp_iadd dL_law_1535 ?_
      refine cp_sld (N := N) (xs := xs) rfl hb1 dL_law_1536 ?_
      refine wp_aload_n dL_law_1537 rfl ?_
      refine wp_iload dL_law_1538 rfl ?_
      refine wp_iconst (v := 2) dL_law_1540 (by decide) ?_
      refine wp_iadd dL_law_1541 ?_
      refine cp_sld (N := N) (xs := xs) rfl hb2 dL_law_1542 ?_
      refine wp_if_eq (tgt := 1550) dL_law_1543 (by decide) (fun z => absurd z cz) (fun _ => ?_)
      refine wp_iconst (v := 1) dL_law_1546 (by decide) ?_
      refine wp_goto (tgt := 1551) dL_law_1547 (by decide) ?_
      refine wp_aload_n dL_law_1551 rfl ?_
      refine wp_callSW (k1 := n9) (k2 := k2) (As := [vR 8 0, vI (xs (i + 1).toNatClampNeg), vI 1, vR 70 0]) (rest := []) (wL_load hr h8) okL_load sm_L_load rfl ml_L_177 dL_law_1552 (by decide) (Nat.le_refl _) rfl (by decide) (fun r' S' z => ?_)
      rcases z with ⟨x', hx', rfl, rfl⟩ | ⟨j', hj', -, -⟩
      rotate_left
      · rw [hx] at hj'; cases hj'
      have ex : x' = x := by rw [hx] at hx'; exact (Sum.inl.inj hx').symm
      subst ex
      show WP (mLaw N xs) 60 k2 1555 [some (vR 74 0), some (vR 8 0), some (vR 9 0), some (vR 70 0), some (vI i), l5, l6] [vI 0] (cM m9 x'.toInt64 rho) Q QX
      refine wp_istore (L' := [some (vR 74 0), some (vR 8 0), some (vR 9 0), some (vR 70 0), some (vI i), some (vI 0), l6]) dL_law_1555 rfl rfl ?_
      refine wp_aload_n dL_law_1557 rfl ?_
      refine wp_aload_n dL_law_1558 rfl ?_
      refine wp_iload dL_law_1559 rfl ?_
      refine wp_iconst (v := 1) dL_law_1561 (by decide) ?_
      refine wp_iadd dL_law_1562 ?_
      refine cp_sld (N := N) (xs := xs) rfl hb1 dL_law_1563 ?_
      refine wp_aload_n dL_law_1564 rfl ?_
      refine wp_iload dL_law_1565 rfl ?_
      refine wp_iconst (v := 2) dL_law_1567 (by decide) ?_
      refine wp_iadd dL_law_1568 ?_
      refine cp_sld (N := N) (xs := xs) rfl hb2 dL_law_1569 ?_
      refine wp_if_eq (tgt := 1577) dL_law_1570 (by decide) (fun z => absurd z cz) (fun _ => ?_)
      refine wp_iconst (v := 1) dL_law_1573 (by decide) ?_
      refine wp_goto (tgt := 1578) dL_law_1574 (by decide) ?_
      refine wp_callV (k1 := 0) (k2 := k2) (As := [vI (xs (i + 1).toNatClampNeg), vI 1]) (rest := []) (w9_load (RA_fr hRA hFR) h9) okX9_load ivX9_load rfl (by decide) ml_L_180 dL_law_1578 rfl (by decide) (Nat.le_of_eq (Nat.zero_add _)) rfl (Nat.le_of_ble_eq_true rfl) (fun _ _ z => z.elim) (fun r' S' z => ?_)
      obtain ⟨rfl, rfl⟩ := z
      show WP (mLaw N xs) 60 k2 1581 [some (vR 74 0), some (vR 8 0), some (vR 9 0), some (vR 70 0), some (vI i), some (vI 0), l6] [vI b] (cM m9 x'.toInt64 rho9) Q QX
      refine wp_istore (L' := [some (vR 74 0), some (vR 8 0), some (vR 9 0), some (vR 70 0), some (vI i), some (vI 0), some (vI b)]) dL_law_1581 rfl rfl ?_
      refine wp_aload_n dL_law_1583 rfl ?_
      refine wp_callV (k1 := 0) (k2 := k2) (As := []) (rest := []) (w9_thrown (RA_fr hRA hFR) (r := rho9 64 0) (rho9 := rho9) rfl) okX9_thrown ivX9_thrown rfl (by decide) ml_L_104 dL_law_1584 rfl (by decide) (Nat.le_of_eq (Nat.zero_add _)) rfl (Nat.le_of_ble_eq_true rfl) (fun _ _ z => z.elim) (fun r' S' z => ?_)
      obtain ⟨rfl, rfl⟩ := z
      show WP (mLaw N xs) 60 k2 1587 [some (vR 74 0), some (vR 8 0), some (vR 9 0), some (vR 70 0), some (vI i), some (vI 0), some (vI b)] [vI (rho9 64 0)] (cM m9 x'.toInt64 rho9) Q QX
      refine wp_iload dL_law_1587 rfl ?_
      refine wp_icmp_eq (tgt := 1594) dL_law_1589 (by decide) (fun _ => ?_) (fun z => absurd ht z)
      refine wp_iload dL_law_1594 rfl ?_
      refine wp_if_ne (tgt := 1611) dL_law_1596 (by decide) (fun z => absurd rfl z) (fun _ => ?_)
      refine wp_aload_n dL_law_1599 rfl ?_
      refine wp_iconst (v := 0) dL_law_1600 (by decide) ?_
      refine cp_laload rfl dL_law_1601 ?_
      refine wp_iload dL_law_1602 rfl ?_
      refine wp_i2l dL_law_1604 ?_
      refine wp_lcmp dL_law_1605 ?_
      refine wp_if_eq (tgt := 1611) dL_law_1606 (by decide) (fun _ => ?_) (fun z => absurd (by have hv' : x'.toInt64 = b.toInt64 := hv; rw [hv']; exact lg_same _) z)
      refine wp_goto (tgt := 1823) dL_law_1611 (by decide) ?_
      exact kk _ _ _
    · refine wp_aload_n dL_law_1530 rfl ?_
      refine wp_aload_n dL_law_1531 rfl ?_
      refine wp_iload dL_law_1532 rfl ?_
      refine wp_iconst (v := 1) dL_law_1534 (by decide) ?_
      refine wp_iadd dL_law_1535 ?_
      refine cp_sld (N := N) (xs := xs) rfl hb1 dL_law_1536 ?_
      refine wp_aload_n dL_law_1537 rfl ?_
      refine wp_iload dL_law_1538 rfl ?_
      refine wp_iconst (v := 2) dL_law_1540 (by decide) ?_
      refine wp_iadd dL_law_1541 ?_
      refine cp_sld (N := N) (xs := xs) rfl hb2 dL_law_1542 ?_
      refine wp_if_eq (tgt := 1550) dL_law_1543 (by decide) (fun z => absurd z cz) (fun _ => ?_)
      refine wp_iconst (v := 1) dL_law_1546 (by decide) ?_
      refine wp_goto (tgt := 1551) dL_law_1547 (by decide) ?_
      refine wp_aload_n dL_law_1551 rfl ?_
      refine wp_callSW (k1 := n9) (k2 := k2) (As := [vR 8 0, vI (xs (i + 1).toNatClampNeg), vI 1, vR 70 0]) (rest := []) (wL_load hr h8) okL_load sm_L_load rfl ml_L_177 dL_law_1552 (by decide) (Nat.le_refl _) rfl (by decide) (fun r' S' z => ?_)
      rcases z with ⟨x', hx', -, -⟩ | ⟨j', hj', rfl, rfl⟩
      · rw [hj] at hx'; cases hx'
      have ej : j' = j := by rw [hj] at hj'; exact (Sum.inr.inj hj').symm
      subst ej
      show WP (mLaw N xs) 60 k2 1555 [some (vR 74 0), some (vR 8 0), some (vR 9 0), some (vR 70 0), some (vI i), l5, l6] [vI ((fun j => 1) j')] (cM m9 out rho) Q QX
      refine wp_istore (L' := [some (vR 74 0), some (vR 8 0), some (vR 9 0), some (vR 70 0), some (vI i), some (vI ((fun j => 1) j')), l6]) dL_law_1555 rfl rfl ?_
      refine wp_aload_n dL_law_1557 rfl ?_
      refine wp_aload_n dL_law_1558 rfl ?_
      refine wp_iload dL_law_1559 rfl ?_
      refine wp_iconst (v := 1) dL_law_1561 (by decide) ?_
      refine wp_iadd dL_law_1562 ?_
      refine cp_sld (N := N) (xs := xs) rfl hb1 dL_law_1563 ?_
      refine wp_aload_n dL_law_1564 rfl ?_
      refine wp_iload dL_law_1565 rfl ?_
      refine wp_iconst (v := 2) dL_law_1567 (by decide) ?_
      refine wp_iadd dL_law_1568 ?_
      refine cp_sld (N := N) (xs := xs) rfl hb2 dL_law_1569 ?_
      refine wp_if_eq (tgt := 1577) dL_law_1570 (by decide) (fun z => absurd z cz) (fun _ => ?_)
      refine wp_iconst (v := 1) dL_law_1573 (by decide) ?_
      refine wp_goto (tgt := 1578) dL_law_1574 (by decide) ?_
      refine wp_callV (k1 := 0) (k2 := k2) (As := [vI (xs (i + 1).toNatClampNeg), vI 1]) (rest := []) (w9_load (RA_fr hRA hFR) h9) okX9_load ivX9_load rfl (by decide) ml_L_180 dL_law_1578 rfl (by decide) (Nat.le_of_eq (Nat.zero_add _)) rfl (Nat.le_of_ble_eq_true rfl) (fun _ _ z => z.elim) (fun r' S' z => ?_)
      obtain ⟨rfl, rfl⟩ := z
      show WP (mLaw N xs) 60 k2 1581 [some (vR 74 0), some (vR 8 0), some (vR 9 0), some (vR 70 0), some (vI i), some (vI ((fun j => 1) j')), l6] [vI b] (cM m9 out rho9) Q QX
      refine wp_istore (L' := [some (vR 74 0), some (vR 8 0), some (vR 9 0), some (vR 70 0), some (vI i), some (vI ((fun j => 1) j')), some (vI b)]) dL_law_1581 rfl rfl ?_
      refine wp_aload_n dL_law_1583 rfl ?_
      refine wp_callV (k1 := 0) (k2 := k2) (As := []) (rest := []) (w9_thrown (RA_fr hRA hFR) (r := rho9 64 0) (rho9 := rho9) rfl) okX9_thrown ivX9_thrown rfl (by decide) ml_L_104 dL_law_1584 rfl (by decide) (Nat.le_of_eq (Nat.zero_add _)) rfl (Nat.le_of_ble_eq_true rfl) (fun _ _ z => z.elim) (fun r' S' z => ?_)
      obtain ⟨rfl, rfl⟩ := z
      show WP (mLaw N xs) 60 k2 1587 [some (vR 74 0), some (vR 8 0), some (vR 9 0), some (vR 70 0), some (vI i), some (vI ((fun j => 1) j')), some (vI b)] [vI (rho9 64 0)] (cM m9 out rho9) Q QX
      refine wp_iload dL_law_1587 rfl ?_
      refine wp_icmp_eq (tgt := 1594) dL_law_1589 (by decide) (fun _ => ?_) (fun z => absurd ht z)
      refine wp_iload dL_law_1594 rfl ?_
      refine wp_if_ne (tgt := 1611) dL_law_1596 (by decide) (fun _ => ?_) (fun z => absurd z hn)
      refine wp_goto (tgt := 1823) dL_law_1611 (by decide) ?_
      exact kk _ _ _
theorem law_c22 {r : Int32 ⊕ Nat} (hr : ∀ j, r = .inr j → j = 0) (h8 : f8_X8_canaryShare 0 (xs (i + 1).toNatClampNeg) m = some (r, m9, n9)) (h9 : f9_canaryShare (xs (i + 1).toNatClampNeg) rho = some (b, rho9)) (hag : AG r (fun x => x.toInt64) (fun j => 1) b.toInt64 (rho9 64 0)) (hb1 : vp_in (i + 1) N) (hRA : RA m.2.1) (hFR : FR m m9) (kk : ∀ (out' : Int64) (l5 l6 : Option sV), WP (mLaw N xs) 60 k2 1823 [some (vR 74 0), some (vR 8 0), some (vR 9 0), some (vR 70 0), some (vI i), l5, l6] [] (cM m9 out' rho9) Q QX) : WP (mLaw N xs) 60 (n9 + k2) 1614 [some (vR 74 0), some (vR 8 0), some (vR 9 0), some (vR 70 0), some (vI i), l5, l6] [] (cM m out rho) Q QX := by
  rcases hag with ⟨x, hx, ht, hv⟩ | ⟨j, hj, ht, hn⟩
  · refine wp_aload_n dL_law_1614 rfl ?_
    refine wp_aload_n dL_law_1615 rfl ?_
    refine wp_iload dL_law_1616 rfl ?_
    refine wp_iconst (v := 1) dL_law_1618 (by decide) ?_
    refine wp_iadd dL_law_1619 ?_
    refine cp_sld (N := N) (xs := xs) rfl hb1 dL_law_1620 ?_
    refine wp_aload_n dL_law_1621 rfl ?_
    refine wp_callSW (k1 := n9) (k2 := k2) (As := [vR 8 0, vI (xs (i + 1).toNatClampNeg), vR 70 0]) (rest := []) (wL_canaryShare hr h8) okL_canaryShare sm_L_canaryShare rfl ml_L_181 dL_law_1622 (by decide) (Nat.le_refl _) rfl (by decide) (fun r' S' z => ?_)
    rcases z with ⟨x', hx', rfl, rfl⟩ | ⟨j', hj', -, -⟩
    rotate_left
    · rw [hx] at hj'; cases hj'
    have ex : x' = x := by rw [hx] at hx'; exact (Sum.inl.inj hx').symm
    subst ex
    show WP (mLaw N xs) 60 k2 1625 [some (vR 74 0), some (vR 8 0), some (vR 9 0), some (vR 70 0), some (vI i), l5, l6] [vI 0] (cM m9 x'.toInt64 rho) Q QX
    refine wp_istore (L' := [some (vR 74 0), some (vR 8 0), some (vR 9 0), some (vR 70 0), some (vI i), some (vI 0), l6]) dL_law_1625 rfl rfl ?_
    refine wp_aload_n dL_law_1627 rfl ?_
    refine wp_aload_n dL_law_1628 rfl ?_
    refine wp_iload dL_law_1629 rfl ?_
    refine wp_iconst (v := 1) dL_law_1631 (by decide) ?_
    refine wp_iadd dL_law_1632 ?_
    refine cp_sld (N := N) (xs := xs) rfl hb1 dL_law_1633 ?_
    refine wp_callV (k1 := 0) (k2 := k2) (As := [vI (xs (i + 1).toNatClampNeg)]) (rest := []) (w9_canaryShare (RA_fr hRA hFR) h9) okX9_canaryShare ivX9_canaryShare rfl (by decide) ml_L_183 dL_law_1634 rfl (by decide) (Nat.le_of_eq (Nat.zero_add _)) rfl (Nat.le_of_ble_eq_true rfl) (fun _ _ z => z.elim) (fun r' S' z => ?_)
    obtain ⟨rfl, rfl⟩ := z
    show WP (mLaw N xs) 60 k2 1637 [some (vR 74 0), some (vR 8 0), some (vR 9 0), some (vR 70 0), some (vI i), some (vI 0), l6] [vI b] (cM m9 x'.toInt64 rho9) Q QX
    refine wp_istore (L' := [some (vR 74 0), some (vR 8 0), some (vR 9 0), some (vR 70 0), some (vI i), some (vI 0), some (vI b)]) dL_law_1637 rfl rfl ?_
    refine wp_aload_n dL_law_1639 rfl ?_
    refine wp_callV (k1 := 0) (k2 := k2) (As := []) (rest := []) (w9_thrown (RA_fr hRA hFR) (r := rho9 64 0) (rho9 := rho9) rfl) okX9_thrown ivX9_thrown rfl (by decide) ml_L_104 dL_law_1640 rfl (by decide) (Nat.le_of_eq (Nat.zero_add _)) rfl (Nat.le_of_ble_eq_true rfl) (fun _ _ z => z.elim) (fun r' S' z => ?_)
    obtain ⟨rfl, rfl⟩ := z
    show WP (mLaw N xs) 60 k2 1643 [some (vR 74 0), some (vR 8 0), some (vR 9 0), some (vR 70 0), some (vI i), some (vI 0), some (vI b)] [vI (rho9 64 0)] (cM m9 x'.toInt64 rho9) Q QX
    refine wp_iload dL_law_1643 rfl ?_
    refine wp_icmp_eq (tgt := 1650) dL_law_1645 (by decide) (fun _ => ?_) (fun z => absurd ht z)
    refine wp_iload dL_law_1650 rfl ?_
    refine wp_if_ne (tgt := 1667) dL_law_1652 (by decide) (fun z => absurd rfl z) (fun _ => ?_)
    refine wp_aload_n dL_law_1655 rfl ?_
    refine wp_iconst (v := 0) dL_law_1656 (by decide) ?_
    refine cp_laload rfl dL_law_1657 ?_
    refine wp_iload dL_law_1658 rfl ?_
    refine wp_i2l dL_law_1660 ?_
    refine wp_lcmp dL_law_1661 ?_
    refine wp_if_eq (tgt := 1667) dL_law_1662 (by decide) (fun _ => ?_) (fun z => absurd (by have hv' : x'.toInt64 = b.toInt64 := hv; rw [hv']; exact lg_same _) z)
    refine wp_goto (tgt := 1823) dL_law_1667 (by decide) ?_
    exact kk _ _ _
  · refine wp_aload_n dL_law_1614 rfl ?_
    refine wp_aload_n dL_law_1615 rfl ?_
    refine wp_iload dL_law_1616 rfl ?_
    refine wp_iconst (v := 1) dL_law_1618 (by decide) ?_
    refine wp_iadd dL_law_1619 ?_
    refine cp_sld (N := N) (xs := xs) rfl hb1 dL_law_1620 ?_
    refine wp_aload_n dL_law_1621 rfl ?_
    refine wp_callSW (k1 := n9) (k2 := k2) (As := [vR 8 0, vI (xs (i + 1).toNatClampNeg), vR 70 0]) (rest := []) (wL_canaryShare hr h8) okL_canaryShare sm_L_canaryShare rfl ml_L_181 dL_law_1622 (by decide) (Nat.le_refl _) rfl (by decide) (fun r' S' z => ?_)
    rcases z with ⟨x', hx', -, -⟩ | ⟨j', hj', rfl, rfl⟩
    · rw [hj] at hx'; cases hx'
    have ej : j' = j := by rw [hj] at hj'; exact (Sum.inr.inj hj').symm
    subst ej
    show WP (mLaw N xs) 60 k2 1625 [some (vR 74 0), some (vR 8 0), some (vR 9 0), some (vR 70 0), some (vI i), l5, l6] [vI ((fun j => 1) j')] (cM m9 out rho) Q QX
    refine wp_istore (L' := [some (vR 74 0), some (vR 8 0), some (vR 9 0), some (vR 70 0), some (vI i), some (vI ((fun j => 1) j')), l6]) dL_law_1625 rfl rfl ?_
    refine wp_aload_n dL_law_1627 rfl ?_
    refine wp_aload_n dL_law_1628 rfl ?_
    refine wp_iload dL_law_1629 rfl ?_
    refine wp_iconst (v := 1) dL_law_1631 (by decide) ?_
    refine wp_iadd dL_law_1632 ?_
    refine cp_sld (N := N) (xs := xs) rfl hb1 dL_law_1633 ?_
    refine wp_callV (k1 := 0) (k2 := k2) (As := [vI (xs (i + 1).toNatClampNeg)]) (rest := []) (w9_canaryShare (RA_fr hRA hFR) h9) okX9_canaryShare ivX9_canaryShare rfl (by decide) ml_L_183 dL_law_1634 rfl (by decide) (Nat.le_of_eq (Nat.zero_add _)) rfl (Nat.le_of_ble_eq_true rfl) (fun _ _ z => z.elim) (fun r' S' z => ?_)
    obtain ⟨rfl, rfl⟩ := z
    show WP (mLaw N xs) 60 k2 1637 [some (vR 74 0), some (vR 8 0), some (vR 9 0), some (vR 70 0), some (vI i), some (vI ((fun j => 1) j')), l6] [vI b] (cM m9 out rho9) Q QX
    refine wp_istore (L' := [some (vR 74 0), some (vR 8 0), some (vR 9 0), some (vR 70 0), some (vI i), some (vI ((fun j => 1) j')), some (vI b)]) dL_law_1637 rfl rfl ?_
    refine wp_aload_n dL_law_1639 rfl ?_
    refine wp_callV (k1 := 0) (k2 := k2) (As := []) (rest := []) (w9_thrown (RA_fr hRA hFR) (r := rho9 64 0) (rho9 := rho9) rfl) okX9_thrown ivX9_thrown rfl (by decide) ml_L_104 dL_law_1640 rfl (by decide) (Nat.le_of_eq (Nat.zero_add _)) rfl (Nat.le_of_ble_eq_true rfl) (fun _ _ z => z.elim) (fun r' S' z => ?_)
    obtain ⟨rfl, rfl⟩ := z
    show WP (mLaw N xs) 60 k2 1643 [some (vR 74 0), some (vR 8 0), some (vR 9 0), some (vR 70 0), some (vI i), some (vI ((fun j => 1) j')), some (vI b)] [vI (rho9 64 0)] (cM m9 out rho9) Q QX
    refine wp_iload dL_law_1643 rfl ?_
    refine wp_icmp_eq (tgt := 1650) dL_law_1645 (by decide) (fun _ => ?_) (fun z => absurd ht z)
    refine wp_iload dL_law_1650 rfl ?_
    refine wp_if_ne (tgt := 1667) dL_law_1652 (by decide) (fun _ => ?_) (fun z => absurd z hn)
    refine wp_goto (tgt := 1823) dL_law_1667 (by decide) ?_
    exact kk _ _ _
theorem law_c23 {r : Int32} (h8 : f8_X8_repairs 0 (if (xs (i + 1).toNatClampNeg) = 0 then 0 else 1) m = some (r, m9, n9)) (h9 : f9_repairs (if (xs (i + 1).toNatClampNeg) = 0 then 0 else 1) rho = some (b, rho9)) (hag : r = b) (hb1 : vp_in (i + 1) N) (hRA : RA m.2.1) (hFR : FR m m9) (kk : ∀ (out' : Int64) (l5 l6 : Option sV), WP (mLaw N xs) 60 k2 1823 [some (vR 74 0), some (vR 8 0), some (vR 9 0), some (vR 70 0), some (vI i), l5, l6] [] (cM m9 out' rho9) Q QX) : WP (mLaw N xs) 60 (n9 + k2) 1670 [some (vR 74 0), some (vR 8 0), some (vR 9 0), some (vR 70 0), some (vI i), l5, l6] [] (cM m out rho) Q QX := by
  by_cases cz : (xs (i + 1).toNatClampNeg) = 0
  · rw [if_pos cz] at h8 h9
    refine wp_aload_n dL_law_1670 rfl ?_
    refine wp_aload_n dL_law_1671 rfl ?_
    refine wp_iload dL_law_1672 rfl ?_
    refine wp_iconst (v := 1) dL_law_1674 (by decide) ?_
    refine wp_iadd dL_law_1675 ?_
    refine cp_sld (N := N) (xs := xs) rfl hb1 dL_law_1676 ?_
    refine wp_if_eq (tgt := 1684) dL_law_1677 (by decide) (fun _ => ?_) (fun z => absurd cz z)
    refine wp_iconst (v := 0) dL_law_1684 (by decide) ?_
    refine wp_callV (k1 := n9) (k2 := k2) (As := [vI 0]) (rest := []) (w8_X8_repairs h8) okX8_repairs ivX8_repairs rfl (by decide) ml_L_184 dL_law_1685 rfl (by decide) (Nat.le_refl _) rfl (by decide) (fun _ _ z => z.elim) (fun r' S' z => ?_)
    obtain ⟨rfl, rfl⟩ := z
    show WP (mLaw N xs) 60 k2 1688 [some (vR 74 0), some (vR 8 0), some (vR 9 0), some (vR 70 0), some (vI i), l5, l6] [vI r] (cM m9 out rho) Q QX
    refine wp_aload_n dL_law_1688 rfl ?_
    refine wp_aload_n dL_law_1689 rfl ?_
    refine wp_iload dL_law_1690 rfl ?_
    refine wp_iconst (v := 1) dL_law_1692 (by decide) ?_
    refine wp_iadd dL_law_1693 ?_
    refine cp_sld (N := N) (xs := xs) rfl hb1 dL_law_1694 ?_
    refine wp_if_eq (tgt := 1702) dL_law_1695 (by decide) (fun _ => ?_) (fun z => absurd cz z)
    refine wp_iconst (v := 0) dL_law_1702 (by decide) ?_
    refine wp_callV (k1 := 0) (k2 := k2) (As := [vI 0]) (rest := [vI r]) (w9_repairs (RA_fr hRA hFR) h9) okX9_repairs ivX9_repairs rfl (by decide) ml_L_188 dL_law_1703 rfl (by decide) (Nat.le_of_eq (Nat.zero_add _)) rfl (Nat.le_of_ble_eq_true rfl) (fun _ _ z => z.elim) (fun r' S' z => ?_)
    obtain ⟨rfl, rfl⟩ := z
    show WP (mLaw N xs) 60 k2 1706 [some (vR 74 0), some (vR 8 0), some (vR 9 0), some (vR 70 0), some (vI i), l5, l6] [vI b, vI r] (cM m9 out rho9) Q QX
    refine wp_icmp_eq (tgt := 1823) dL_law_1706 (by decide) (fun _ => ?_) (fun z => absurd hag z)
    exact kk _ _ _
  · rw [if_neg cz] at h8 h9
    refine wp_aload_n dL_law_1670 rfl ?_
    refine wp_aload_n dL_law_1671 rfl ?_
    refine wp_iload dL_law_1672 rfl ?_
    refine wp_iconst (v := 1) dL_law_1674 (by decide) ?_
    refine wp_iadd dL_law_1675 ?_
    refine cp_sld (N := N) (xs := xs) rfl hb1 dL_law_1676 ?_
    refine wp_if_eq (tgt := 1684) dL_law_1677 (by decide) (fun z => absurd z cz) (fun _ => ?_)
    refine wp_iconst (v := 1) dL_law_1680 (by decide) ?_
    refine wp_goto (tgt := 1685) dL_law_1681 (by decide) ?_
    refine wp_callV (k1 := n9) (k2 := k2) (As := [vI 1]) (rest := []) (w8_X8_repairs h8) okX8_repairs ivX8_repairs rfl (by decide) ml_L_184 dL_law_1685 rfl (by decide) (Nat.le_refl _) rfl (by decide) (fun _ _ z => z.elim) (fun r' S' z => ?_)
    obtain ⟨rfl, rfl⟩ := z
    show WP (mLaw N xs) 60 k2 1688 [some (vR 74 0), some (vR 8 0), some (vR 9 0), some (vR 70 0), some (vI i), l5, l6] [vI r] (cM m9 out rho) Q QX
    refine wp_aload_n dL_law_1688 rfl ?_
    refine wp_aload_n dL_law_1689 rfl ?_
    refine wp_iload dL_law_1690 rfl ?_
    refine wp_iconst (v := 1) dL_law_1692 (by decide) ?_
    refine wp_iadd dL_law_1693 ?_
    refine cp_sld (N := N) (xs := xs) rfl hb1 dL_law_1694 ?_
    refine wp_if_eq (tgt := 1702) dL_law_1695 (by decide) (fun z => absurd z cz) (fun _ => ?_)
    refine wp_iconst (v := 1) dL_law_1698 (by decide) ?_
    refine wp_goto (tgt := 1703) dL_law_1699 (by decide) ?_
    refine wp_callV (k1 := 0) (k2 := k2) (As := [vI 1]) (rest := [vI r]) (w9_repairs (RA_fr hRA hFR) h9) okX9_repairs ivX9_repairs rfl (by decide) ml_L_188 dL_law_1703 rfl (by decide) (Nat.le_of_eq (Nat.zero_add _)) rfl (Nat.le_of_ble_eq_true rfl) (fun _ _ z => z.elim) (fun r' S' z => ?_)
    obtain ⟨rfl, rfl⟩ := z
    show WP (mLaw N xs) 60 k2 1706 [some (vR 74 0), some (vR 8 0), some (vR 9 0), some (vR 70 0), some (vI i), l5, l6] [vI b, vI r] (cM m9 out rho9) Q QX
    refine wp_icmp_eq (tgt := 1823) dL_law_1706 (by decide) (fun _ => ?_) (fun z => absurd hag z)
    exact kk _ _ _
theorem law_c24 {r : Int32 ⊕ Nat} (hr : ∀ j, r = .inr j → j = 0) (h8 : f8_X8_extra 0 (xs (i + 1).toNatClampNeg) m = some (r, m9, n9)) (h9 : f9_extra (xs (i + 1).toNatClampNeg) rho = some (b, rho9)) (hag : AG r (fun x => x.toInt64) (fun j => 1) b.toInt64 (rho9 64 0)) (hb1 : vp_in (i + 1) N) (hRA : RA m.2.1) (hFR : FR m m9) (kk : ∀ (out' : Int64) (l5 l6 : Option sV), WP (mLaw N xs) 60 k2 1823 [some (vR 74 0), some (vR 8 0), some (vR 9 0), some (vR 70 0), some (vI i), l5, l6] [] (cM m9 out' rho9) Q QX) : WP (mLaw N xs) 60 (n9 + k2) 1711 [some (vR 74 0), some (vR 8 0), some (vR 9 0), some (vR 70 0), some (vI i), l5, l6] [] (cM m out rho) Q QX := by
  rcases hag with ⟨x, hx, ht, hv⟩ | ⟨j, hj, ht, hn⟩
  · refine wp_aload_n dL_law_1711 rfl ?_
    refine wp_aload_n dL_law_1712 rfl ?_
    refine wp_iload dL_law_1713 rfl ?_
    refine wp_iconst (v := 1) dL_law_1715 (by decide) ?_
    refine wp_iadd dL_law_1716 ?_
    refine cp_sld (N := N) (xs := xs) rfl hb1 dL_law_1717 ?_
    refine wp_aload_n dL_law_1718 rfl ?_
    refine wp_callSW (k1 := n9) (k2 := k2) (As := [vR 8 0, vI (xs (i + 1).toNatClampNeg), vR 70 0]) (rest := []) (wL_extra hr h8) okL_extra sm_L_extra rfl ml_L_189 dL_law_1719 (by decide) (Nat.le_refl _) rfl (by decide) (fun r' S' z => ?_)
    rcases z with ⟨x', hx', rfl, rfl⟩ | ⟨j', hj', -, -⟩
    rotate_left
    · rw [hx] at hj'; cases hj'
    have ex : x' = x := by rw [hx] at hx'; exact (Sum.inl.inj hx').symm
    subst ex
    show WP (mLaw N xs) 60 k2 1722 [some (vR 74 0), some (vR 8 0), some (vR 9 0), some (vR 70 0), some (vI i), l5, l6] [vI 0] (cM m9 x'.toInt64 rho) Q QX
    refine wp_istore (L' := [some (vR 74 0), some (vR 8 0), some (vR 9 0), some (vR 70 0), some (vI i), some (vI 0), l6]) dL_law_1722 rfl rfl ?_
    refine wp_aload_n dL_law_1724 rfl ?_
    refine wp_aload_n dL_law_1725 rfl ?_
    refine wp_iload dL_law_1726 rfl ?_
    refine wp_iconst (v := 1) dL_law_1728 (by decide) ?_
    refine wp_iadd dL_law_1729 ?_
    refine cp_sld (N := N) (xs := xs) rfl hb1 dL_law_1730 ?_
    refine wp_callV (k1 := 0) (k2 := k2) (As := [vI (xs (i + 1).toNatClampNeg)]) (rest := []) (w9_extra (RA_fr hRA hFR) h9) okX9_extra ivX9_extra rfl (by decide) ml_L_191 dL_law_1731 rfl (by decide) (Nat.le_of_eq (Nat.zero_add _)) rfl (Nat.le_of_ble_eq_true rfl) (fun _ _ z => z.elim) (fun r' S' z => ?_)
    obtain ⟨rfl, rfl⟩ := z
    show WP (mLaw N xs) 60 k2 1734 [some (vR 74 0), some (vR 8 0), some (vR 9 0), some (vR 70 0), some (vI i), some (vI 0), l6] [vI b] (cM m9 x'.toInt64 rho9) Q QX
    refine wp_istore (L' := [some (vR 74 0), some (vR 8 0), some (vR 9 0), some (vR 70 0), some (vI i), some (vI 0), some (vI b)]) dL_law_1734 rfl rfl ?_
    refine wp_aload_n dL_law_1736 rfl ?_
    refine wp_callV (k1 := 0) (k2 := k2) (As := []) (rest := []) (w9_thrown (RA_fr hRA hFR) (r := rho9 64 0) (rho9 := rho9) rfl) okX9_thrown ivX9_thrown rfl (by decide) ml_L_104 dL_law_1737 rfl (by decide) (Nat.le_of_eq (Nat.zero_add _)) rfl (Nat.le_of_ble_eq_true rfl) (fun _ _ z => z.elim) (fun r' S' z => ?_)
    obtain ⟨rfl, rfl⟩ := z
    show WP (mLaw N xs) 60 k2 1740 [some (vR 74 0), some (vR 8 0), some (vR 9 0), some (vR 70 0), some (vI i), some (vI 0), some (vI b)] [vI (rho9 64 0)] (cM m9 x'.toInt64 rho9) Q QX
    refine wp_iload dL_law_1740 rfl ?_
    refine wp_icmp_eq (tgt := 1747) dL_law_1742 (by decide) (fun _ => ?_) (fun z => absurd ht z)
    refine wp_iload dL_law_1747 rfl ?_
    refine wp_if_ne (tgt := 1764) dL_law_1749 (by decide) (fun z => absurd rfl z) (fun _ => ?_)
    refine wp_aload_n dL_law_1752 rfl ?_
    refine wp_iconst (v := 0) dL_law_1753 (by decide) ?_
    refine cp_laload rfl dL_law_1754 ?_
    refine wp_iload dL_law_1755 rfl ?_
    refine wp_i2l dL_law_1757 ?_
    refine wp_lcmp dL_law_1758 ?_
    refine wp_if_eq (tgt := 1764) dL_law_1759 (by decide) (fun _ => ?_) (fun z => absurd (by have hv' : x'.toInt64 = b.toInt64 := hv; rw [hv']; exact lg_same _) z)
    refine wp_goto (tgt := 1823) dL_law_1764 (by decide) ?_
    exact kk _ _ _
  · refine wp_aload_n dL_law_1711 rfl ?_
    refine wp_aload_n dL_law_1712 rfl ?_
    refine wp_iload dL_law_1713 rfl ?_
    refine wp_iconst (v := 1) dL_law_1715 (by decide) ?_
    refine wp_iadd dL_law_1716 ?_
    refine cp_sld (N := N) (xs := xs) rfl hb1 dL_law_1717 ?_
    refine wp_aload_n dL_law_1718 rfl ?_
    refine wp_callSW (k1 := n9) (k2 := k2) (As := [vR 8 0, vI (xs (i + 1).toNatClampNeg), vR 70 0]) (rest := []) (wL_extra hr h8) okL_extra sm_L_extra rfl ml_L_189 dL_law_1719 (by decide) (Nat.le_refl _) rfl (by decide) (fun r' S' z => ?_)
    rcases z with ⟨x', hx', -, -⟩ | ⟨j', hj', rfl, rfl⟩
    · rw [hj] at hx'; cases hx'
    have ej : j' = j := by rw [hj] at hj'; exact (Sum.inr.inj hj').symm
    subst ej
    show WP (mLaw N xs) 60 k2 1722 [some (vR 74 0), some (vR 8 0), some (vR 9 0), some (vR 70 0), some (vI i), l5, l6] [vI ((fun j => 1) j')] (cM m9 out rho) Q QX
    refine wp_istore (L' := [some (vR 74 0), some (vR 8 0), some (vR 9 0), some (vR 70 0), some (vI i), some (vI ((fun j => 1) j')), l6]) dL_law_1722 rfl rfl ?_
    refine wp_aload_n dL_law_1724 rfl ?_
    refine wp_aload_n dL_law_1725 rfl ?_
    refine wp_iload dL_law_1726 rfl ?_
    refine wp_iconst (v := 1) dL_law_1728 (by decide) ?_
    refine wp_iadd dL_law_1729 ?_
    refine cp_sld (N := N) (xs := xs) rfl hb1 dL_law_1730 ?_
    refine wp_callV (k1 := 0) (k2 := k2) (As := [vI (xs (i + 1).toNatClampNeg)]) (rest := []) (w9_extra (RA_fr hRA hFR) h9) okX9_extra ivX9_extra rfl (by decide) ml_L_191 dL_law_1731 rfl (by decide) (Nat.le_of_eq (Nat.zero_add _)) rfl (Nat.le_of_ble_eq_true rfl) (fun _ _ z => z.elim) (fun r' S' z => ?_)
    obtain ⟨rfl, rfl⟩ := z
    show WP (mLaw N xs) 60 k2 1734 [some (vR 74 0), some (vR 8 0), some (vR 9 0), some (vR 70 0), some (vI i), some (vI ((fun j => 1) j')), l6] [vI b] (cM m9 out rho9) Q QX
    refine wp_istore (L' := [some (vR 74 0), some (vR 8 0), some (vR 9 0), some (vR 70 0), some (vI i), some (vI ((fun j => 1) j')), some (vI b)]) dL_law_1734 rfl rfl ?_
    refine wp_aload_n dL_law_1736 rfl ?_
    refine wp_callV (k1 := 0) (k2 := k2) (As := []) (rest := []) (w9_thrown (RA_fr hRA hFR) (r := rho9 64 0) (rho9 := rho9) rfl) okX9_thrown ivX9_thrown rfl (by decide) ml_L_104 dL_law_1737 rfl (by decide) (Nat.le_of_eq (Nat.zero_add _)) rfl (Nat.le_of_ble_eq_true rfl) (fun _ _ z => z.elim) (fun r' S' z => ?_)
    obtain ⟨rfl, rfl⟩ := z
    show WP (mLaw N xs) 60 k2 1740 [some (vR 74 0), some (vR 8 0), some (vR 9 0), some (vR 70 0), some (vI i), some (vI ((fun j => 1) j')), some (vI b)] [vI (rho9 64 0)] (cM m9 out rho9) Q QX
    refine wp_iload dL_law_1740 rfl ?_
    refine wp_icmp_eq (tgt := 1747) dL_law_1742 (by decide) (fun _ => ?_) (fun z => absurd ht z)
    refine wp_iload dL_law_1747 rfl ?_
    refine wp_if_ne (tgt := 1764) dL_law_1749 (by decide) (fun _ => ?_) (fun z => absurd z hn)
    refine wp_goto (tgt := 1823) dL_law_1764 (by decide) ?_
    exact kk _ _ _
theorem law_c25 {r : Int32 ⊕ Nat} (hr : ∀ j, r = .inr j → j = 0) (h8 : f8_X8_first 0 (xs (i + 1).toNatClampNeg) m = some (r, m9, n9)) (h9 : f9_first (xs (i + 1).toNatClampNeg) rho = some (b, rho9)) (hag : AG r (fun x => x.toInt64) (fun j => 1) b.toInt64 (rho9 64 0)) (hb1 : vp_in (i + 1) N) (hRA : RA m.2.1) (hFR : FR m m9) (kk : ∀ (out' : Int64) (l5 l6 : Option sV), WP (mLaw N xs) 60 k2 1823 [some (vR 74 0), some (vR 8 0), some (vR 9 0), some (vR 70 0), some (vI i), l5, l6] [] (cM m9 out' rho9) Q QX) : WP (mLaw N xs) 60 (n9 + k2) 1767 [some (vR 74 0), some (vR 8 0), some (vR 9 0), some (vR 70 0), some (vI i), l5, l6] [] (cM m out rho) Q QX := by
  rcases hag with ⟨x, hx, ht, hv⟩ | ⟨j, hj, ht, hn⟩
  · refine wp_aload_n dL_law_1767 rfl ?_
    refine wp_aload_n dL_law_1768 rfl ?_
    refine wp_iload dL_law_1769 rfl ?_
    refine wp_iconst (v := 1) dL_law_1771 (by decide) ?_
    refine wp_iadd dL_law_1772 ?_
    refine cp_sld (N := N) (xs := xs) rfl hb1 dL_law_1773 ?_
    refine wp_aload_n dL_law_1774 rfl ?_
    refine wp_callSW (k1 := n9) (k2 := k2) (As := [vR 8 0, vI (xs (i + 1).toNatClampNeg), vR 70 0]) (rest := []) (wL_first hr h8) okL_first sm_L_first rfl ml_L_192 dL_law_1775 (by decide) (Nat.le_refl _) rfl (by decide) (fun r' S' z => ?_)
    rcases z with ⟨x', hx', rfl, rfl⟩ | ⟨j', hj', -, -⟩
    rotate_left
    · rw [hx] at hj'; cases hj'
    have ex : x' = x := by rw [hx] at hx'; exact (Sum.inl.inj hx').symm
    subst ex
    show WP (mLaw N xs) 60 k2 1778 [some (vR 74 0), some (vR 8 0), some (vR 9 0), some (vR 70 0), some (vI i), l5, l6] [vI 0] (cM m9 x'.toInt64 rho) Q QX
    refine wp_istore (L' := [some (vR 74 0), some (vR 8 0), some (vR 9 0), some (vR 70 0), some (vI i), some (vI 0), l6]) dL_law_1778 rfl rfl ?_
    refine wp_aload_n dL_law_1780 rfl ?_
    refine wp_aload_n dL_law_1781 rfl ?_
    refine wp_iload dL_law_1782 rfl ?_
    refine wp_iconst (v := 1) dL_law_1784 (by decide) ?_
    refine wp_iadd dL_law_1785 ?_
    refine cp_sld (N := N) (xs := xs) rfl hb1 dL_law_1786 ?_
    refine wp_callV (k1 := 0) (k2 := k2) (As := [vI (xs (i + 1).toNatClampNeg)]) (rest := []) (w9_first (RA_fr hRA hFR) h9) okX9_first ivX9_first rfl (by decide) ml_L_194 dL_law_1787 rfl (by decide) (Nat.le_of_eq (Nat.zero_add _)) rfl (Nat.le_of_ble_eq_true rfl) (fun _ _ z => z.elim) (fun r' S' z => ?_)
    obtain ⟨rfl, rfl⟩ := z
    show WP (mLaw N xs) 60 k2 1790 [some (vR 74 0), some (vR 8 0), some (vR 9 0), some (vR 70 0), some (vI i), some (vI 0), l6] [vI b] (cM m9 x'.toInt64 rho9) Q QX
    refine wp_istore (L' := [some (vR 74 0), some (vR 8 0), some (vR 9 0), some (vR 70 0), some (vI i), some (vI 0), some (vI b)]) dL_law_1790 rfl rfl ?_
    refine wp_aload_n dL_law_1792 rfl ?_
    refine wp_callV (k1 := 0) (k2 := k2) (As := []) (rest := []) (w9_thrown (RA_fr hRA hFR) (r := rho9 64 0) (rho9 := rho9) rfl) okX9_thrown ivX9_thrown rfl (by decide) ml_L_104 dL_law_1793 rfl (by decide) (Nat.le_of_eq (Nat.zero_add _)) rfl (Nat.le_of_ble_eq_true rfl) (fun _ _ z => z.elim) (fun r' S' z => ?_)
    obtain ⟨rfl, rfl⟩ := z
    show WP (mLaw N xs) 60 k2 1796 [some (vR 74 0), some (vR 8 0), some (vR 9 0), some (vR 70 0), some (vI i), some (vI 0), some (vI b)] [vI (rho9 64 0)] (cM m9 x'.toInt64 rho9) Q QX
    refine wp_iload dL_law_1796 rfl ?_
    refine wp_icmp_eq (tgt := 1803) dL_law_1798 (by decide) (fun _ => ?_) (fun z => absurd ht z)
    refine wp_iload dL_law_1803 rfl ?_
    refine wp_if_ne (tgt := 1820) dL_law_1805 (by decide) (fun z => absurd rfl z) (fun _ => ?_)
    refine wp_aload_n dL_law_1808 rfl ?_
    refine wp_iconst (v := 0) dL_law_1809 (by decide) ?_
    refine cp_laload rfl dL_law_1810 ?_
    refine wp_iload dL_law_1811 rfl ?_
    refine wp_i2l dL_law_1813 ?_
    refine wp_lcmp dL_law_1814 ?_
    refine wp_if_eq (tgt := 1820) dL_law_1815 (by decide) (fun _ => ?_) (fun z => absurd (by have hv' : x'.toInt64 = b.toInt64 := hv; rw [hv']; exact lg_same _) z)
    refine wp_goto (tgt := 1823) dL_law_1820 (by decide) ?_
    exact kk _ _ _
  · refine wp_aload_n dL_law_1767 rfl ?_
    refine wp_aload_n dL_law_1768 rfl ?_
    refine wp_iload dL_law_1769 rfl ?_
    refine wp_iconst (v := 1) dL_law_1771 (by decide) ?_
    refine wp_iadd dL_law_1772 ?_
    refine cp_sld (N := N) (xs := xs) rfl hb1 dL_law_1773 ?_
    refine wp_aload_n dL_law_1774 rfl ?_
    refine wp_callSW (k1 := n9) (k2 := k2) (As := [vR 8 0, vI (xs (i + 1).toNatClampNeg), vR 70 0]) (rest := []) (wL_first hr h8) okL_first sm_L_first rfl ml_L_192 dL_law_1775 (by decide) (Nat.le_refl _) rfl (by decide) (fun r' S' z => ?_)
    rcases z with ⟨x', hx', -, -⟩ | ⟨j', hj', rfl, rfl⟩
    · rw [hj] at hx'; cases hx'
    have ej : j' = j := by rw [hj] at hj'; exact (Sum.inr.inj hj').symm
    subst ej
    show WP (mLaw N xs) 60 k2 1778 [some (vR 74 0), some (vR 8 0), some (vR 9 0), some (vR 70 0), some (vI i), l5, l6] [vI ((fun j => 1) j')] (cM m9 out rho) Q QX
    refine wp_istore (L' := [some (vR 74 0), some (vR 8 0), some (vR 9 0), some (vR 70 0), some (vI i), some (vI ((fun j => 1) j')), l6]) dL_law_1778 rfl rfl ?_
    refine wp_aload_n dL_law_1780 rfl ?_
    refine wp_aload_n dL_law_1781 rfl ?_
    refine wp_iload dL_law_1782 rfl ?_
    refine wp_iconst (v := 1) dL_law_1784 (by decide) ?_
    refine wp_iadd dL_law_1785 ?_
    refine cp_sld (N := N) (xs := xs) rfl hb1 dL_law_1786 ?_
    refine wp_callV (k1 := 0) (k2 := k2) (As := [vI (xs (i + 1).toNatClampNeg)]) (rest := []) (w9_first (RA_fr hRA hFR) h9) okX9_first ivX9_first rfl (by decide) ml_L_194 dL_law_1787 rfl (by decide) (Nat.le_of_eq (Nat.zero_add _)) rfl (Nat.le_of_ble_eq_true rfl) (fun _ _ z => z.elim) (fun r' S' z => ?_)
    obtain ⟨rfl, rfl⟩ := z
    show WP (mLaw N xs) 60 k2 1790 [some (vR 74 0), some (vR 8 0), some (vR 9 0), some (vR 70 0), some (vI i), some (vI ((fun j => 1) j')), l6] [vI b] (cM m9 out rho9) Q QX
    refine wp_istore (L' := [some (vR 74 0), some (vR 8 0), some (vR 9 0), some (vR 70 0), some (vI i), some (vI ((fun j => 1) j')), some (vI b)]) dL_law_1790 rfl rfl ?_
    refine wp_aload_n dL_law_1792 rfl ?_
    refine wp_callV (k1 := 0) (k2 := k2) (As := []) (rest := []) (w9_thrown (RA_fr hRA hFR) (r := rho9 64 0) (rho9 := rho9) rfl) okX9_thrown ivX9_thrown rfl (by decide) ml_L_104 dL_law_1793 rfl (by decide) (Nat.le_of_eq (Nat.zero_add _)) rfl (Nat.le_of_ble_eq_true rfl) (fun _ _ z => z.elim) (fun r' S' z => ?_)
    obtain ⟨rfl, rfl⟩ := z
    show WP (mLaw N xs) 60 k2 1796 [some (vR 74 0), some (vR 8 0), some (vR 9 0), some (vR 70 0), some (vI i), some (vI ((fun j => 1) j')), some (vI b)] [vI (rho9 64 0)] (cM m9 out rho9) Q QX
    refine wp_iload dL_law_1796 rfl ?_
    refine wp_icmp_eq (tgt := 1803) dL_law_1798 (by decide) (fun _ => ?_) (fun z => absurd ht z)
    refine wp_iload dL_law_1803 rfl ?_
    refine wp_if_ne (tgt := 1820) dL_law_1805 (by decide) (fun _ => ?_) (fun z => absurd z hn)
    refine wp_goto (tgt := 1823) dL_law_1820 (by decide) ?_
    exact kk _ _ _
end LAW
