/-! A METHOD'S CONTRACT in the machine of ids, and its use at a call -/
def rmm (d k : Nat) : Room := { frames := d, cells := k, slots := 700 * k, locals := 64 * d }
abbrev ownA (D : DD) (S : OM) (ad : Ad) (sz : Nat) : Nat → Prop := fun q => own D S.1 ad q ∨ sz ≤ q
def PcS (D : DD) (ad : Ad) (S : OM) (As : List sV) (sz : Nat) : Array Value → State → Prop := va_Pc (As.map (tV ad)) (fun U => U.heap.size = sz ∧ MM D S ad U.heap ∧ Kst D U ∧ LvS S.1 As ∧ Sta D (ownA D S ad sz) U U.heap)
def Spec (mi : MI) (d k : Nat) (As : List sV) (S : OM) (Q : Option sV → OM → Prop) (QX : String → OM → Prop) : Prop :=
  ∀ (l : Launch), l.stackTraces = false → ∀ (D : DD) (ad : Ad) (sz : Nat), vx_Met l mi.1 (Cond.code mi.1 mi.2.1 mi.2.2.1 mi.2.2.2.1 :: TW) (rmm d k) (PcS D ad S As sz) (Qn Q D (ownA D S ad sz) S.1 ad) (Xn QX D (ownA D S ad sz) S.1 ad) k (700 * k) (ownA D S ad sz)
/-- the same for a method with handlers -/
def SpecW (mi : MI) (d k : Nat) (As : List sV) (S : OM) (Q : Option sV → OM → Prop) (QX : String → OM → Prop) : Prop :=
  ∀ (l : Launch), l.stackTraces = false → ∀ (D : DD) (ad : Ad) (sz : Nat), vx_Met l mi.1 (Cond.codeWith mi.1 mi.2.1 mi.2.2.1 mi.2.2.2.1 mi.2.2.2.2.1 :: TW) (rmm d k) (PcS D ad S As sz) (Qn Q D (ownA D S ad sz) S.1 ad) (Xn QX D (ownA D S ad sz) S.1 ad) k (700 * k) (ownA D S ad sz)
theorem lv_args_mem {v : Value} : ∀ {vs : List Value} {i : Nat} (j : Nat), (∀ w ∈ vs, w.category = 1) → vs[i]? = some v → (j + i, v) ∈ lv_args j vs
  | [], i, j, _, h => by simp at h
  | w :: vs, 0, j, hc, h => by
    simp at h
    subst h
    exact List.mem_cons_self
  | w :: vs, i + 1, j, hc, h => by
    rw [List.getElem?_cons_succ] at h
    have h1 : w.category = 1 := hc w List.mem_cons_self
    show _ ∈ (j, w) :: lv_args (if w.category = 2 then j + 2 else j + 1) vs
    rw [if_neg (by omega)]
    have := lv_args_mem (j + 1) (fun z hz => hc z (List.mem_cons_of_mem _ hz)) h
    rw [show j + 1 + i = j + (i + 1) by omega] at this
    exact List.mem_cons_of_mem _ this
theorem lg_sl_len : ∀ {vs : List Value}, (∀ w ∈ vs, w.category = 1) → (lg_sl vs).length = vs.length
  | [], _ => rfl
  | w :: vs, hc => by
    have h1 : w.category = 1 := hc w List.mem_cons_self
    unfold lg_sl
    rw [List.flatMap_cons, if_neg (by omega)]
    have := lg_sl_len (vs := vs) (fun z hz => hc z (List.mem_cons_of_mem _ hz))
    unfold lg_sl at this
    rw [List.length_append, this]
    simp
    omega
def catS : List sV → Prop
  | [] => True
  | v :: r => cat1 v ∧ catS r
theorem catS_mem (ad : Ad) : ∀ {As : List sV}, catS As → ∀ w ∈ As.map (tV ad), w.category = 1
  | [], _, w, h => by simp at h
  | v :: r, hc, w, h => by
    rw [List.map_cons] at h
    rcases List.mem_cons.mp h with e | h
    · rw [e]; exact cat1_1 ad hc.1
    · exact catS_mem ad hc.2 w h
theorem LvS_get {lv : Nat → Nat → Bool} : ∀ {As : List sV} {i : Nat} {v : sV}, LvS lv As → As[i]? = some v → LvV lv v
  | [], i, v, _, h => by simp at h
  | w :: r, 0, v, hl, h => by simp at h; subst h; exact hl.1
  | w :: r, i + 1, v, hl, h => by rw [List.getElem?_cons_succ] at h; exact LvS_get hl.2 h
def entL (As : List sV) (n : Nat) : List (Option sV) := As.map some ++ List.replicate (n - As.length) none
theorem LH_entry {ad : Ad} {lv : Nat → Nat → Bool} {As : List sV} {n : Nat} (hc : catS As) (hv : LvS lv As) (hn : As.length ≤ n) : LH ad lv n (entL As n) ((lg_sl (As.map (tV ad)) ++ List.replicate (n - (lg_sl (As.map (tV ad))).length) Slot.unset).toArray) := by
  have hcm := catS_mem ad hc
  have hlen := lg_sl_len hcm
  have hl := lv_entry (As.map (tV ad)) (n := n) (by rw [hlen, List.length_map]; exact hn)
  refine ⟨hl.1, hl.2.1, by unfold entL; simp; omega, fun i v hi => ?_⟩
  unfold entL at hi
  have hi2 : As[i]? = some v := by
    by_cases h : i < As.length
    · rw [List.getElem?_append_left (by simpa using h), List.getElem?_map] at hi
      cases hA : As[i]? with
      | none => rw [hA] at hi; simp at hi
      | some w => rw [hA] at hi; simp at hi; rw [hi]
    · rw [List.getElem?_append_right (by simp; omega), List.getElem?_replicate] at hi
      split at hi <;> simp at hi
  have h3 : (As.map (tV ad))[i]? = some (tV ad v) := by rw [List.getElem?_map, hi2]; rfl
  have h4 := lv_args_mem 0 hcm h3
  rw [Nat.zero_add] at h4
  exact ⟨hl.2.2 _ h4, hcm _ (List.mem_of_getElem? h3), LvS_get hv hi2⟩
theorem va_S_own {D : DD} {S : OM} {ad : Ad} {sz : Nat} : ∀ q, own D S.1 ad q → ownA D S ad sz q := fun _ h => Or.inl h
theorem spec_of {mi : MI} {d k : Nat} {As : List sV} {S : OM} {Q : Option sV → OM → Prop} {QX : String → OM → Prop} (hy : plainName mi.1.cls = true) (hh : mi.2.2.2.2 = ([], none)) (hc : catS As) (hn : As.length ≤ mi.2.2.1) (h : WP mi d k 0 (entL As mi.2.2.1) [] S Q QX) : Spec mi d k As S Q QX := by
  intro l hl D ad sz
  refine vx_ofW (cc := mi.2.1) (maxL := mi.2.2.1) (ret := mi.2.2.2.1) hy rfl ?_
  intro p e s m args below meth c s₁ B hml ht hv
  obtain ⟨rfl, hsz, hM, hK, hV, hSt⟩ := hv
  have hts := atoms_spec (ws := Cond.code mi.1 mi.2.1 mi.2.2.1 mi.2.2.2.1 :: TW) B.pre
  have hT : c.exceptionTable.toList = tableOf mi.2.2.2.2.1 := by
    rw [hh]
    exact List.eq_nil_iff_forall_not_mem.mpr (fun x hx => ht x hx)
  rw [lg_entry_eq]
  exact h p l e (rmm d k) s m _ below meth c D (ownA D S ad sz) S.1 ad ⟨B.exec, B.bytes, B.returns, B.notSynchronized, hml, findClass_of_methodNamed B.named, fun w hw => hts w (List.mem_cons_of_mem _ hw), hK, hl, hT, (name_of_methodNamed B.named B.method).1, Nat.le_refl _, Nat.le_refl _, fun q hq => Or.inr (by rw [← hsz]; exact hq), hSt, fun N xs z => by rw [hh] at z; cases z⟩ s.heap [] 0 0 _ ad
    ⟨hM, va_S_own, va_S.rf, Ext.rf (D := D), trivial, LH_entry hc hV hn, by show 0 + k ≤ k; omega, by show 0 + 700 * k ≤ 700 * k; omega⟩
theorem specW_of {mi : MI} {d k : Nat} {As : List sV} {S : OM} {Q : Option sV → OM → Prop} {QX : String → OM → Prop} (hy : plainName mi.1.cls = true) (hh : mi.2.2.2.2.2 = none) (hc : catS As) (hn : As.length ≤ mi.2.2.1) (h : WP mi d k 0 (entL As mi.2.2.1) [] S Q QX) : SpecW mi d k As S Q QX := by
  intro l hl D ad sz
  refine vx_ofWH (cc := mi.2.1) (maxL := mi.2.2.1) (ret := mi.2.2.2.1) (hh := mi.2.2.2.2.1) hy rfl ?_
  intro p e s m args below meth c s₁ B hml hv
  obtain ⟨rfl, hsz, hM, hK, hV, hSt⟩ := hv
  have hts := atoms_spec (ws := Cond.codeWith mi.1 mi.2.1 mi.2.2.1 mi.2.2.2.1 mi.2.2.2.2.1 :: TW) B.pre
  have hT : c.exceptionTable.toList = tableOf mi.2.2.2.2.1 := vx_table (x := mi.1) (y := mi.1) B (hts _ List.mem_cons_self)
  rw [lg_entry_eq]
  exact h p l e (rmm d k) s m _ below meth c D (ownA D S ad sz) S.1 ad ⟨B.exec, B.bytes, B.returns, B.notSynchronized, hml, findClass_of_methodNamed B.named, fun w hw => hts w (List.mem_cons_of_mem _ hw), hK, hl, hT, (name_of_methodNamed B.named B.method).1, Nat.le_refl _, Nat.le_refl _, fun q hq => Or.inr (by rw [← hsz]; exact hq), hSt, fun N xs z => by rw [hh] at z; cases z⟩ s.heap [] 0 0 _ ad
    ⟨hM, va_S_own, va_S.rf, Ext.rf (D := D), trivial, LH_entry hc hV hn, by show 0 + k ≤ k; omega, by show 0 + 700 * k ≤ 700 * k; omega⟩
/-! calls -/
def conc (r : Option sV) (rest : List sV) : List sV := match r with | none => rest | some v => v :: rest
theorem conc_map (ad : Ad) (r : Option sV) (rest : List sV) : (conc r rest).map (tV ad) = (r.map (tV ad)).toList ++ rest.map (tV ad) := by cases r <;> rfl
theorem cat_le (v : Value) : v.category ≤ 2 := by cases v <;> simp [Value.category]
theorem rest_cat (ad : Ad) : ∀ {rest : List sV}, ((rest.map (tV ad)).map fun v => v.category).sum ≤ 2 * rest.length
  | [] => by simp
  | v :: r => by
    have h1 := rest_cat ad (rest := r)
    have h2 := cat_le (tV ad v)
    simp only [List.map_cons, List.sum_cons, List.length_cons]
    omega
theorem PcS_blind {D : DD} {ad : Ad} {S : OM} {As : List sV} {sz : Nat} : FrameBlind (PcS D ad S As sz) := fun a U g mk q => by
  obtain ⟨q0, q1, q2, q3, q4, q5⟩ := q
  exact ⟨q0, q1, q2, Kst.same (s := U) (U := U.calling g mk a) rfl q3, q4, Sta.same (s := U) (U := U.calling g mk a) rfl q5⟩
section WPC
variable {mi mj : MI} {d d' k k1 k2 pc x n : Nat} {L : List (Option sV)} {st rest : List sV} {S : OM} {As : List sV} {Q Q1 : Option sV → OM → Prop} {QX QX1 : String → OM → Prop}
variable {p : Program} {l : Launch} {e : Env} {R : Room} {s : State} {m : MethodId} {args : Array Value} {below : List Frame} {meth : Method} {c : Code} {D : DD} {A : Nat → Prop} {lv0 : Nat → Nat → Bool} {ad0 : Ad} {H : Heap} {locs : List Loc} {cells slots : Nat} {ls : Array Slot} {ad : Ad}
theorem own_A (hC : Ctx mi d p l R s m args meth c D A) (hD : Dyn D A lv0 ad0 s R mi.2.2.1 k L st S H locs cells slots ls ad) : ∀ q, ownA D S ad H.size q → A q := fun q h => h.elim (hD.2.1 q) (fun z => hC.2.2.2.2.2.2.2.2.2.2.2.2.2.1 q (Nat.le_trans hD.2.2.1.1 z))
theorem Sta_now (hC : Ctx mi d p l R s m args meth c D A) (hD : Dyn D A lv0 ad0 s R mi.2.2.1 k L st S H locs cells slots ls ad) : Sta D (ownA D S ad H.size) s H := (hC.2.2.2.2.2.2.2.2.2.2.2.2.2.2.1.kept hD.2.2.1.2.1).narrow (own_A hC hD)
theorem PcS_now (hC : Ctx mi d p l R s m args meth c D A) (hD : Dyn D A lv0 ad0 s R mi.2.2.1 k L st S H locs cells slots ls ad) (hA : LvS S.1 As) : ∀ U : State, U.heap = H → s.WarmedH U.vm → PcS D ad S As H.size (As.map (tV ad)).toArray U := fun U hU hW =>
  ⟨rfl, by rw [hU], by rw [hU]; exact hD.1, Kst.warm hW hC.2.2.2.2.2.2.2.1, hA, by rw [hU]; exact (Sta_now hC hD).warm hW⟩
/-- behind a call -/
theorem run_go (hC : Ctx mi d p l R s m args meth c D A) (hD : Dyn D A lv0 ad0 s R mi.2.2.1 k L st S H locs cells slots ls ad) {a : Array Value} (hk : k1 + k2 ≤ k) (hrest : LvS S.1 rest)
    (hr : vx_Run p l e R s m args below meth c H locs cells slots k1 (700 * k1) (F0 m pc ls (st.map (tV ad))) (rest.map (tV ad)) (Qn Q1 D (ownA D S ad H.size) S.1 ad a) (Xn QX1 D (ownA D S ad H.size) S.1 ad) (ownA D S ad H.size))
    (kx : ∀ (E : String) (ce : Cell) (q9 : Addr) (S' : OM) (ad' : Ad) (H1 : Heap) (locs1 : List Loc), QX1 E S' → Dyn D A lv0 ad0 s R mi.2.2.1 k2 L rest S' H1 locs1 (cells + k1) (slots + 700 * k1) ls ad' → rest.map (tV ad') = rest.map (tV ad) → H1[q9]? = some ce → ce.vm = .none → s.vm.findClass E = some ce.cls → vx_W p l e R s m args below meth c H1 locs1 (cells + k1) (slots + 700 * k1) (vx_MQ below (Qn Q D A lv0 ad0) (Xn QX D A lv0 ad0) args s R.cells R.slots A) (F0 m pc ls (rest.map (tV ad'))) q9)
    (kk : ∀ (r : Option sV) (S' : OM), Q1 r S' → WP mi d k2 (pc + 3) L (conc r rest) S' Q QX) :
    W p l e R s m args below meth c H locs cells slots (vx_MQ below (Qn Q D A lv0 ad0) (Xn QX D A lv0 ad0) args s R.cells R.slots A) (F0 m pc ls (st.map (tV ad))) := by
  have hAA := own_A hC hD
  have hb1 := hD.2.2.2.2.2.2.1
  have hb2 := hD.2.2.2.2.2.2.2
  intro T hT X
  rcases hr T hT X with ⟨v, st₀, t, T', L9, h0, X', hL, e1, e2, ⟨⟨r, S', ad', hv, hq, hM, hE, hlr, hown⟩, hF⟩, stp⟩ | ⟨q9, st₀, t, T', L9, E, ce, h0, X', hL, e1, e2, ⟨⟨S', ad', hq, hM, hE, hown⟩, hF⟩, hce, hcv, hcl, stp⟩
  · obtain ⟨k5, k6, k7⟩ := vx_keep h0 e1 hD.2.2.1 (fun q _ => hAA q) hAA hL hF
    cases hv
    rw [← e1] at hM
    have hm' := map_ext hE hD.1 hM hrest
    have hD' : Dyn D A lv0 ad0 s R mi.2.2.1 k2 L (conc r rest) S' T'.heap (locs ++ L9) (cells + k1) (slots + 700 * k1) ls ad' := ⟨hM, fun q z => hAA q (hown q z), k7, hD.2.2.2.1.tr hE, by cases r with | none => exact LvS_ext hE hrest | some v => exact ⟨hlr v rfl, LvS_ext hE hrest⟩, hD.lh.ext hE hD.1 hM, by omega, by omega⟩
    obtain ⟨t2, a1, b1⟩ := kk r S' hq p l e R s m args below meth c D A lv0 ad0 hC _ _ _ _ ls ad' hD' T' rfl X'
    refine ⟨t2, stp t2 ?_, b1⟩
    rw [conc_map, hm'] at a1
    exact a1
  · obtain ⟨k5, k6, k7⟩ := vx_keep h0 e1 hD.2.2.1 (fun q _ => hAA q) hAA hL hF
    rw [← e1] at hM hce
    have hm' := map_ext hE hD.1 hM hrest
    have hD' : Dyn D A lv0 ad0 s R mi.2.2.1 k2 L rest S' T'.heap (locs ++ L9) (cells + k1) (slots + 700 * k1) ls ad' := ⟨hM, fun q z => hAA q (hown q z), k7, hD.2.2.2.1.tr hE, LvS_ext hE hrest, hD.lh.ext hE hD.1 hM, by omega, by omega⟩
    obtain ⟨t2, a1, b1⟩ := kx E ce q9 S' ad' _ _ hq hD' hm' hce hcv hcl T' rfl X'
    refine ⟨t2, stp.trans ?_, b1⟩
    rw [hm'] at a1
    exact a1
/-- thrown on to the caller: no handlers here -/
theorem throw_on (hC : Ctx mi d p l R s m args meth c D A) (hh : mi.2.2.2.2.1 = []) (hQX : ∀ E S', QX1 E S' → QX E S') (E : String) (ce : Cell) (q9 : Addr) (S' : OM) (ad' : Ad) (H1 : Heap) (locs1 : List Loc) {cells' slots' : Nat} (hq : QX1 E S') (hD : Dyn D A lv0 ad0 s R mi.2.2.1 k2 L rest S' H1 locs1 cells' slots' ls ad') (hce : H1[q9]? = some ce) (hcv : ce.vm = .none) (hcl : s.vm.findClass E = some ce.cls) {st9 : List Value} :
    vx_W p l e R s m args below meth c H1 locs1 cells' slots' (vx_MQ below (Qn Q D A lv0 ad0) (Xn QX D A lv0 ad0) args s R.cells R.slots A) (F0 m pc ls st9) q9 := by
  have hb1 := hD.2.2.2.2.2.2.1
  have hb2 := hD.2.2.2.2.2.2.2
  refine vx_out (fun z hz => ?_) hC.2.2.2.1 hce hcv hcl (fun t ht hW => ⟨⟨S', ad', hQX E S' hq, by rw [ht]; exact hD.1, hD.2.2.2.1, hD.2.1⟩, hD.2.2.1.F ht⟩) hD.2.2.1.2.2 (by omega) (by omega)
  rw [hC.2.2.2.2.2.2.2.2.2.1, hh] at hz
  cases hz
/-- a callee's own words -/
def MIok (mj : MI) (n : Nat) : Prop := Cond.code mj.1 mj.2.1 mj.2.2.1 mj.2.2.2.1 ∈ TW ∧ Cond.initialized mj.1.cls ∈ TW ∧ (mj.1.cls ≠ "java/lang/invoke/MethodHandle" ∧ mj.1.cls ≠ "java/lang/invoke/VarHandle" ∧ (parseMethodDescriptor mj.1.desc).map (fun q => q.parameters.length) = some n) ∧ mj.2.2.1 ≤ 40
def MIv (mj : MI) : Prop := Cond.instanceMethod mj.1 ∈ TW ∧ Cond.selects mj.1.cls mj.1 mj.1 ∈ TW
theorem good_TW {w : Cond} (h : w ∈ TW) : w ∈ TW ∧ ((w.onTables && w.keeps) = true ∨ ∃ ty, w = .arrayClass ty) := ⟨h, good_of_word (List.mem_filter.mp h).2⟩
theorem goodV {own9 C : String} {y : MethodName} {bytes : ByteArray} {maxL : Nat} {ret : Option FieldType} (h1 : Cond.methodLink own9 x y ∈ TW) (h2 : Cond.instanceMethod y ∈ TW) (h3 : Cond.selects C y y ∈ TW) (h4 : Cond.initialized C ∈ TW) (h5 : Cond.code y bytes maxL ret ∈ TW) : GoodIn TW (wsV own9 x C y (Cond.code y bytes maxL ret :: TW)) := by
  intro w hw
  unfold wsV at hw
  simp only [List.cons_append, List.nil_append, List.mem_cons] at hw
  rcases hw with rfl | rfl | rfl | rfl | rfl | hw
  · exact good_TW h1
  · exact good_TW h2
  · exact good_TW h3
  · exact good_TW h4
  · exact good_TW h5
  · exact good_TW hw
theorem goodS {own9 : String} {y : MethodName} {bytes : ByteArray} {maxL : Nat} {ret : Option FieldType} (h1 : Cond.methodLink own9 x y ∈ TW) (h2 : Cond.static y ∈ TW) (h4 : Cond.initialized own9 ∈ TW) (h5 : Cond.code y bytes maxL ret ∈ TW) : GoodIn TW (wsS own9 x y (Cond.code y bytes maxL ret :: TW)) := by
  intro w hw
  unfold wsS at hw
  simp only [List.cons_append, List.nil_append, List.mem_cons] at hw
  rcases hw with rfl | rfl | rfl | rfl | hw
  · exact good_TW h1
  · exact good_TW h2
  · exact good_TW h4
  · exact good_TW h5
  · exact good_TW hw
theorem code_good {y : MethodName} {bytes : ByteArray} {maxL : Nat} {ret : Option FieldType} (h5 : Cond.code y bytes maxL ret ∈ TW) : GoodIn TW (Cond.code y bytes maxL ret :: TW) := fun w hw => by
  rcases List.mem_cons.mp hw with rfl | hw
  · exact good_TW h5
  · exact good_TW hw
theorem recv9 {D : DD} {S : OM} {ad : Ad} {H : Heap} {s : State} {c i : Nat} (hK : Kst D s) (hm : MM D S ad H) (hl : S.1 c i = true) (hc : c < 10) : ∃ cell : Cell, H[ad c i]? = some cell ∧ cell.vm.isStatics = false ∧ s.vm.findClass (cn c) = some cell.cls := by
  obtain ⟨cell, q1, q2, q3, -⟩ := ob_of hm hl hc
  exact ⟨cell, q1, by rw [q3]; rfl, by rw [q2]; exact (hK.1.1 c _ (cls_at hc)).2.1⟩
theorem LvS_app {lv : Nat → Nat → Bool} : ∀ {a b : List sV}, LvS lv (a ++ b) → LvS lv a ∧ LvS lv b
  | [], _, h => ⟨trivial, h⟩
  | _ :: r, _, h => ⟨⟨h.1, (LvS_app (a := r) h.2).1⟩, (LvS_app (a := r) h.2).2⟩
theorem LvS_cat {lv : Nat → Nat → Bool} : ∀ {a b : List sV}, LvS lv a → LvS lv b → LvS lv (a ++ b)
  | [], _, _, h => h
  | _ :: r, _, h1, h => ⟨h1.1, LvS_cat (a := r) h1.2 h⟩
theorem LvS_rev {lv : Nat → Nat → Bool} : ∀ {a : List sV}, LvS lv a.reverse → LvS lv a
  | [], _ => trivial
  | v :: r, h => by
    rw [List.reverse_cons] at h
    exact ⟨(LvS_app h).2.1, LvS_rev (LvS_app h).1⟩
theorem Met_of {y : MethodName} {ws : List Cond} {rm : Room} {Pc : Array Value → State → Prop} {Qc : Array Value → State → Outcome → State → Prop} {XC : String → State → State → Prop} {mc ms : Nat} {free : Addr → Prop} (h : vx_Met l y ws rm Pc Qc XC mc ms free) (hX : ∀ E s t, ¬ XC E s t) : Met l y ws rm Pc Qc mc ms free := by
  refine MetFree.mono h (fun _ _ q => q) (fun _ _ _ _ _ q => q) (fun a s o t _ q => ?_)
  rcases q with q | ⟨q9, -, E, ce, L9, hx, -⟩
  · exact q
  · exact absurd hx (hX _ _ _)
theorem wp_callV {c i : Nat} (hsp : Spec mj d' k1 (vR c i :: As) S Q1 QX1) (hok : MIok mj As.length) (hv : MIv mj) (hcn : mj.1.cls = cn c) (hc : c < 10) (hl : Cond.methodLink mi.1.cls x mj.1 ∈ TW) (hd : decode mi.2.1 pc = .ok (.invokevirtual x, 3)) (hh : mi.2.2.2.2.1 = []) (hdd : d' + 1 ≤ d) (hk : k1 + k2 ≤ k) (hst : st = As.reverse ++ vR c i :: rest) (hr : rest.length ≤ 4) (hQX : ∀ E S', QX1 E S' → QX E S')
    (kk : ∀ (r : Option sV) (S' : OM), Q1 r S' → WP mi d k2 (pc + 3) L (conc r rest) S' Q QX) : WP mi d k pc L st S Q QX := by
  intro p l e R s m args below meth cc D A lv0 ad0 hC H locs cells slots ls ad hD
  subst hst
  have hV := LvS_app hD.lvs
  have hl1 := lv_of hV.2.1 (by omega)
  have hAs : LvS S.1 (vR c i :: As) := ⟨hV.2.1, LvS_rev hV.1⟩
  have hb1 := hD.2.2.2.2.2.2.1
  have hb2 := hD.2.2.2.2.2.2.2
  have hf1 := hC.2.2.2.2.2.2.2.2.2.2.2.1
  have hf2 := hC.2.2.2.2.2.2.2.2.2.2.2.2.1
  refine run_go hC hD hk hV.2.2 (vx_runV (As := As.map (tV ad)) (own := mi.1.cls) (C := mj.1.cls) (b := ad c i) ⟨hC.1, hC.2.1, hC.2.2.2.2.1, hC.2.2.2.2.2.1, hC.2.2.2.2.2.2.1⟩ (hsp l hC.2.2.2.2.2.2.2.2.1 D ad H.size)
    (cwV As.length hC.2.2.2.2.2.2.1 (goodV hl hv.1 hv.2 hok.2.1 hok.1) rfl rfl rfl ⟨rfl, hok.2.2.1⟩ ⟨by show d' + 1 ≤ R.frames; omega, by show 8 + (mj.2.2.1 + 11) + 64 * d' ≤ R.locals; have := hok.2.2.2; omega⟩)
    ⟨PcS_blind, by rw [hcn]; exact recv9 hC.2.2.2.2.2.2.2.1 hD.1 hl1 hc, PcS_now hC hD hAs⟩ rfl (by rw [List.length_map]) hD.lh.1 (by rw [List.map_append, List.map_reverse]; rfl) (lv_room (Nat.le_trans (rest_cat ad) (by omega))) hd ⟨by omega, by omega⟩)
    (fun E ce q9 S' ad' H1 locs1 hq hD' _ hce hcv hcl => throw_on hC hh hQX E ce q9 S' ad' H1 locs1 hq hD' hce hcv hcl) kk
theorem wp_callS (hsp : Spec mj d' k1 As S Q1 QX1) (hok : MIok mj As.length) (hv : Cond.static mj.1 ∈ TW) (hcn : mj.1.cls = mi.1.cls) (hl : Cond.methodLink mi.1.cls x mj.1 ∈ TW) (hd : decode mi.2.1 pc = .ok (.invokestatic x, 3)) (hh : mi.2.2.2.2.1 = []) (hdd : d' + 1 ≤ d) (hk : k1 + k2 ≤ k) (hst : st = As.reverse ++ rest) (hr : rest.length ≤ 4) (hQX : ∀ E S', QX1 E S' → QX E S')
    (kk : ∀ (r : Option sV) (S' : OM), Q1 r S' → WP mi d k2 (pc + 3) L (conc r rest) S' Q QX) : WP mi d k pc L st S Q QX := by
  intro p l e R s m args below meth cc D A lv0 ad0 hC H locs cells slots ls ad hD
  subst hst
  have hV := LvS_app hD.lvs
  have hAs : LvS S.1 As := LvS_rev hV.1
  have hb1 := hD.2.2.2.2.2.2.1
  have hb2 := hD.2.2.2.2.2.2.2
  have hf1 := hC.2.2.2.2.2.2.2.2.2.2.2.1
  have hf2 := hC.2.2.2.2.2.2.2.2.2.2.2.2.1
  refine run_go hC hD hk hV.2 (vx_runS (As := As.map (tV ad)) (own := mi.1.cls) ⟨hC.1, hC.2.1, hC.2.2.2.2.1, hC.2.2.2.2.2.1, hC.2.2.2.2.2.2.1⟩ (hsp l hC.2.2.2.2.2.2.2.2.1 D ad H.size)
    (cwS As.length hC.2.2.2.2.2.2.1 (goodS hl hv (by rw [← hcn]; exact hok.2.1) hok.1) rfl rfl rfl ⟨hcn, hok.2.2.1⟩ ⟨by show d' + 1 ≤ R.frames; omega, by show 8 + (mj.2.2.1 + 11) + 64 * d' ≤ R.locals; have := hok.2.2.2; omega⟩)
    ⟨PcS_blind, PcS_now hC hD hAs⟩ rfl (by rw [List.length_map]) hD.lh.1 (by rw [List.map_append, List.map_reverse]) (lv_room (Nat.le_trans (rest_cat ad) (by omega))) hd ⟨by omega, by omega⟩)
    (fun E ce q9 S' ad' H1 locs1 hq hD' _ hce hcv hcl => throw_on hC hh hQX E ce q9 S' ad' H1 locs1 hq hD' hce hcv hcl) kk
/-- a constructor's call (it throws nothing) -/
theorem vx_of_va {mc ms : Nat} {g : JFrame} {rest : List Value} {Qa : State → Outcome → State → Prop} {XC : String → State → State → Prop} {free : Addr → Prop} (h : va_Run p l e R s m args below meth c H locs cells slots mc ms g rest Qa free) : vx_Run p l e R s m args below meth c H locs cells slots mc ms g rest Qa XC free := fun T hT X => Or.inl (h T hT X)
theorem wp_callI {c i : Nat} (hsp : Spec mj d' k1 (vR c i :: As) S Q1 (fun _ _ => False)) (hok : MIok mj As.length) (hret : mj.2.2.2.1 = none) (hnm : mj.1.name = "<init>") (him : Cond.instanceMethod mj.1 ∈ TW) (hl : Cond.methodLink mi.1.cls x mj.1 ∈ TW) (hd : decode mi.2.1 pc = .ok (.invokespecial x, 3)) (hdd : d' + 1 ≤ d) (hk : k1 + k2 ≤ k) (hst : st = As.reverse ++ vR c i :: rest) (hr : rest.length ≤ 4)
    (kk : ∀ (r : Option sV) (S' : OM), Q1 r S' → WP mi d k2 (pc + 3) L (conc r rest) S' Q QX) : WP mi d k pc L st S Q QX := by
  intro p l e R s m args below meth cc D A lv0 ad0 hC H locs cells slots ls ad hD
  subst hst
  have hV := LvS_app hD.lvs
  have hAs : LvS S.1 (vR c i :: As) := ⟨hV.2.1, LvS_rev hV.1⟩
  have hb1 := hD.2.2.2.2.2.2.1
  have hb2 := hD.2.2.2.2.2.2.2
  have hf1 := hC.2.2.2.2.2.2.2.2.2.2.2.1
  have hf2 := hC.2.2.2.2.2.2.2.2.2.2.2.2.1
  have hM := Met_of (hsp l hC.2.2.2.2.2.2.2.2.1 D ad H.size) (fun E s t z => z.1.elim fun S' z => z.elim fun ad' z => z.1)
  obtain ⟨hw1, hw2, hw3, hw4⟩ := hok
  rw [hret] at hM hw1
  have hts := hC.2.2.2.2.2.2.1
  refine run_go (QX1 := fun _ _ => False) hC hD hk hV.2.2 (vx_of_va (va_runI (As := As.map (tV ad)) (own := mi.1.cls) (b := ad c i) (maxL := mj.2.2.1) (bytes := mj.2.1) ⟨hC.1, hC.2.1, hC.2.2.2.2.1, hC.2.2.2.2.2.1, hts⟩ hM
    (cwI As.length hts (code_good hw1) rfl rfl rfl (hts _ hw2) (hts _ hl) (hts _ him) hnm hw3 ⟨by show d' + 1 ≤ R.frames; omega, by show 8 + (mj.2.2.1 + 11) + 64 * d' ≤ R.locals; omega⟩)
    ⟨PcS_blind, PcS_now hC hD hAs⟩ rfl (by rw [List.length_map]) hD.lh.1 (by rw [List.map_append, List.map_reverse]; rfl) (lv_room (Nat.le_trans (rest_cat ad) (by omega))) hd ⟨by omega, by omega⟩))
    (fun E ce q9 S' ad' H1 locs1 hq hD' _ hce hcv hcl => hq.elim) kk
theorem wp_callIN {c i : Nat} {host : String} (hsp : Spec mj d' k1 (vR c i :: As) S Q1 (fun _ _ => False)) (hok : MIok mj As.length) (hret : mj.2.2.2.1 = none) (hnm : mj.1.name = "<init>") (him : Cond.instanceMethod mj.1 ∈ TW) (hl : ∀ s, KN s → va_Nw (.methodLinkNest mi.1.cls x mj.1 host) s) (hd : decode mi.2.1 pc = .ok (.invokespecial x, 3)) (hdd : d' + 1 ≤ d) (hk : k1 + k2 ≤ k) (hst : st = As.reverse ++ vR c i :: rest) (hr : rest.length ≤ 4)
    (kk : ∀ (r : Option sV) (S' : OM), Q1 r S' → WP mi d k2 (pc + 3) L (conc r rest) S' Q QX) : WP mi d k pc L st S Q QX := by
  intro p l e R s m args below meth cc D A lv0 ad0 hC H locs cells slots ls ad hD
  subst hst
  have hV := LvS_app hD.lvs
  have hAs : LvS S.1 (vR c i :: As) := ⟨hV.2.1, LvS_rev hV.1⟩
  have hb1 := hD.2.2.2.2.2.2.1
  have hb2 := hD.2.2.2.2.2.2.2
  have hf1 := hC.2.2.2.2.2.2.2.2.2.2.2.1
  have hf2 := hC.2.2.2.2.2.2.2.2.2.2.2.2.1
  have hM := Met_of (hsp l hC.2.2.2.2.2.2.2.2.1 D ad H.size) (fun E s t z => z.1.elim fun S' z => z.elim fun ad' z => z.1)
  obtain ⟨hw1, hw2, hw3, hw4⟩ := hok
  rw [hret] at hM hw1
  have hts := hC.2.2.2.2.2.2.1
  refine run_go (QX1 := fun _ _ => False) hC hD hk hV.2.2 (vx_of_va (va_runIN (As := As.map (tV ad)) (own := mi.1.cls) (host := host) (b := ad c i) (maxL := mj.2.2.1) (bytes := mj.2.1) ⟨hC.1, hC.2.1, hC.2.2.2.2.1, hC.2.2.2.2.2.1, hts⟩ hM
    ⟨va_cnB As.length hts (code_good hw1) rfl rfl rfl (hl s hC.2.2.2.2.2.2.2.1.2) (hts _ hw2) hw3 ⟨by show d' + 1 ≤ R.frames; omega, by show 8 + (mj.2.2.1 + 11) + 64 * d' ≤ R.locals; omega⟩, hnm, hts _ him⟩
    ⟨PcS_blind, PcS_now hC hD hAs⟩ rfl (by rw [List.length_map]) hD.lh.1 (by rw [List.map_append, List.map_reverse]; rfl) (lv_room (Nat.le_trans (rest_cat ad) (by omega))) hd ⟨by omega, by omega⟩))
    (fun E ce q9 S' ad' H1 locs1 hq hD' _ hce hcv hcl => hq.elim) kk
end WPC
