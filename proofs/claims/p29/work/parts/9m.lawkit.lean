/-! what the law's own methods use: calls over a fuller stack, the script, the rows that the law makes -/
section LK9
theorem ct_L_18 : Cond.constant RL 18 (-1000001) ∈ TW := tc2 70 rfl rfl
theorem ct_L_21 : Cond.constant RL 21 (-1000002) ∈ TW := tc2 71 rfl rfl
theorem ct_L_28 : Cond.constant RL 28 (-1000003) ∈ TW := tc2 213 rfl rfl
theorem wp_ishr {mi : MI} {d k pc : Nat} {L : List (Option sV)} {st : List sV} {S : OM} {Q : Option sV → OM → Prop} {QX : String → OM → Prop} {x y : Int32} (hd : decode mi.2.1 pc = .ok (.ishr, 1)) (h : WP mi d k (pc + 1) L (vI (x >>> (y &&& 31)) :: st) S Q QX) : WP mi d k pc L (vI y :: vI x :: st) S Q QX := by
  intro p l e R s m args below meth c D A lv0 ad0 hC H locs cells slots ls ad hD
  exact lv_ishr hC.1 hC.2.1 hd (h p l e R s m args below meth c D A lv0 ad0 hC H locs cells slots ls ad (hD.stk ⟨trivial, hD.lvs.2.2⟩))
theorem lv_room24 {m : MethodId} {pc : Nat} {ls : Array Slot} {rest : List Value} {st : List Value} (h : (st.map fun v => v.category).sum ≤ 24) : 2 * (F0 m pc ls rest).monitorRoom + (st.map fun v => v.category).sum ≤ 24 := by
  show 2 * 0 + _ ≤ 24
  omega
section R24
variable {p : Program} {l : Launch} {e : Env} {R : Room} {s : State} {m : MethodId} {args : Array Value} {below : List Frame} {meth : Method} {c : Code} {H : Heap} {locs : List Loc} {cells slots : Nat}
variable {y : MethodName} {bytes cc : ByteArray} {maxL nL mc ms n index : Nat} {ret : Option FieldType} {hh : List (Nat × Nat × Nat × Nat)} {ws : List Cond} {rm : Room} {Pc : Array Value → State → Prop} {Qc : Array Value → State → Outcome → State → Prop} {XC : String → State → State → Prop} {free : Addr → Prop} {Ts : List Cond} {own : String} {As rest : List Value} {g : JFrame}
theorem run24 (S : CallFix p m c cc nL s args Ts own) (hM : vx_Met l y ws rm Pc Qc XC mc ms free) (cw : CallB R s args own index y bytes maxL ret ws rm mc ms n ∧ (Cond.static y).before args s = true) (hr24 : 24 + (maxL + 11) + rm.locals ≤ R.locals) (hp : PreS s H Pc As)
    (hg : g.method = m) (hn : As.length = n) (hsize : g.locals.size = nL) (hstack : g.stack = As.reverse ++ rest) (hW : 2 * g.monitorRoom + (rest.map fun v => v.category).sum ≤ 24) (hdg : decode cc g.pc = .ok (.invokestatic index, 3)) (hf : cells + mc ≤ R.cells ∧ slots + ms ≤ R.slots) :
    vx_Run p l e R s m args below meth c H locs cells slots mc ms g rest (Qc As.toArray) XC free := by
  obtain ⟨⟨hrc, hrs, hfr, -, hws, hcw, hcode, hini, hy, hlen, hl⟩, hstt⟩ := cw
  have hK : vx_Back l R p e below s args y 3 24 (PreOf R mc ms Pc) (PostOf Qc mc ms free) (vx_Post XC mc ms free) := vx_back (bytes := bytes) (maxL := maxL) (ret := ret) hM hp.1 hrc hrs hfr hr24 hws hcw (fun a' U hW => word_at hW (Or.inl (by first | rfl | simp [Cond.onTables, Cond.keeps, Cond.steady])) hini)
  obtain ⟨hx, hb, hml, ho, -⟩ := S
  intro T hT X
  rcases vx_callS X hx (bytes := bytes) (maxL := maxL) (ret := ret) ho hl hstt hini hcode hy hK hg (hsize.trans hml.symm) (argsL := As) (rest := rest) (fun sig h => hn.trans (hlen sig h)) hstack hW (by rw [hb]; exact hdg)
    (fun vm₁ hW₁ => ⟨hf.1, hf.2, hp.2 (T.setVm vm₁) hT hW₁⟩) with ⟨v, vm₁, ⟨U', l2, c2, s2⟩, hW₁, X', ⟨g', mk, t, L, e1, e2, hq, h1, hL, h2, h3⟩, st⟩ | ⟨q, vm₁, ⟨U', l2, c2, s2⟩, hW₁, X', ⟨g', mk, t, L, E, ce, e1, e2, hq, hce, hcv, hcl, h1, hL, h2, h3⟩, st⟩
  · dsimp only [Pt.U, Pt.locs, Pt.cells, Pt.slots] at X' e1 e2 h1 h2 h3 st
    subst h1; subst h2; subst h3
    exact Or.inl ⟨v, (T.setVm vm₁).calling g' mk As.toArray, t, U', L, hT, X', hL, e1, e2, hq, st⟩
  · dsimp only [Pt.U, Pt.locs, Pt.cells, Pt.slots] at X' e1 e2 h1 h2 h3 st hcl
    subst h1; subst h2; subst h3
    exact Or.inr ⟨q, (T.setVm vm₁).calling g' mk As.toArray, t, U', L, E, ce, hT, X', hL, e1, e2, hq, hce, hcv, vx_cls hW₁ hcl, st⟩
end R24
section W24
variable {mi mj : MI} {d d' k k1 k2 pc x n : Nat} {L : List (Option sV)} {st rest : List sV} {S : OM} {As : List sV} {Q Q1 : Option sV → OM → Prop} {QX QX1 : String → OM → Prop}
theorem wp_callS24 (hsp : Spec mj d' k1 As S Q1 QX1) (hok : MIok mj As.length) (h29 : mj.2.2.1 ≤ 29) (hv : Cond.static mj.1 ∈ TW) (hcn : mj.1.cls = mi.1.cls) (hl : Cond.methodLink mi.1.cls x mj.1 ∈ TW) (hd : decode mi.2.1 pc = .ok (.invokestatic x, 3)) (hh : mi.2.2.2.2.1 = []) (hdd : d' + 1 ≤ d) (hk : k1 + k2 ≤ k) (hst : st = As.reverse ++ rest) (hr : rest.length ≤ 12) (hQX : ∀ E S', QX1 E S' → QX E S')
    (kk : ∀ (r : Option sV) (S' : OM), Q1 r S' → WP mi d k2 (pc + 3) L (conc r rest) S' Q QX) : WP mi d k pc L st S Q QX := by
  intro p l e R s m args below meth cc D A lv0 ad0 hC H locs cells slots ls ad hD
  subst hst
  have hV := LvS_app hD.lvs
  have hAs : LvS S.1 As := LvS_rev hV.1
  have hb1 := hD.2.2.2.2.2.2.1
  have hb2 := hD.2.2.2.2.2.2.2
  have hf1 := hC.2.2.2.2.2.2.2.2.2.2.2.1
  have hf2 := hC.2.2.2.2.2.2.2.2.2.2.2.2.1
  refine run_go hC hD hk hV.2 (run24 (As := As.map (tV ad)) (own := mi.1.cls) ⟨hC.1, hC.2.1, hC.2.2.2.2.1, hC.2.2.2.2.2.1, hC.2.2.2.2.2.2.1⟩ (hsp l hC.2.2.2.2.2.2.2.2.1 D ad H.size)
    (cwS As.length hC.2.2.2.2.2.2.1 (goodS hl hv (by rw [← hcn]; exact hok.2.1) hok.1) rfl rfl rfl ⟨hcn, hok.2.2.1⟩ ⟨by show d' + 1 ≤ R.frames; omega, by show 8 + (mj.2.2.1 + 11) + 64 * d' ≤ R.locals; omega⟩)
    (by show 24 + (mj.2.2.1 + 11) + 64 * d' ≤ R.locals; omega)
    ⟨PcS_blind, PcS_now hC hD hAs⟩ rfl (by rw [List.length_map]) hD.lh.1 (by rw [List.map_append, List.map_reverse]) (lv_room24 (Nat.le_trans (rest_cat ad) (by omega))) hd ⟨by omega, by omega⟩)
    (fun E ce q9 S' ad' H1 locs1 hq hD' _ hce hcv hcl => throw_on hC hh hQX E ce q9 S' ad' H1 locs1 hq hD' hce hcv hcl) kk
/-- a method that reads the script -/
def PcA (N : Nat) (xs : Nat → Int32) (D : DD) (ad : Ad) (S : OM) (As : List sV) (sz : Nat) : Array Value → State → Prop := va_Pc (As.map (tV ad)) (fun U => (U.heap.size = sz ∧ MM D S ad U.heap ∧ Kst D U ∧ LvS S.1 As ∧ Sta D (ownA D S ad sz) U U.heap) ∧ va_X (D.2.2.2 3) N xs U U.heap ∧ D.2.2.2 3 < U.heap.size ∧ ¬ ownA D S ad sz (D.2.2.2 3))
theorem PcA_blind {N : Nat} {xs : Nat → Int32} {D : DD} {ad : Ad} {S : OM} {As : List sV} {sz : Nat} : FrameBlind (PcA N xs D ad S As sz) := fun a U g mk q => by
  obtain ⟨q0, ⟨q1, q2, q3, q4, q5⟩, q6, q7, q8⟩ := q
  exact ⟨q0, ⟨q1, q2, Kst.same (s := U) (U := U.calling g mk a) rfl q3, q4, Sta.same (s := U) (U := U.calling g mk a) rfl q5⟩, va_X.moved (u := U) (U := U.calling g mk a) (Vm.Alike.refl _) q6, q7, q8⟩
def SpecA (N : Nat) (xs : Nat → Int32) (mi : MI) (d k : Nat) (As : List sV) (S : OM) (Q : Option sV → OM → Prop) (QX : String → OM → Prop) : Prop :=
  ∀ (l : Launch), l.stackTraces = false → ∀ (D : DD) (ad : Ad) (sz : Nat), vx_Met l mi.1 (Cond.code mi.1 mi.2.1 mi.2.2.1 mi.2.2.2.1 :: TW) (rmm d k) (PcA N xs D ad S As sz) (Qn Q D (ownA D S ad sz) S.1 ad) (Xn QX D (ownA D S ad sz) S.1 ad) k (700 * k) (ownA D S ad sz)
theorem specA_of {N : Nat} {xs : Nat → Int32} {mi : MI} {d k : Nat} {As : List sV} {S : OM} {Q : Option sV → OM → Prop} {QX : String → OM → Prop} (hy : plainName mi.1.cls = true) (hh : mi.2.2.2.2.1 = []) (hx : mi.2.2.2.2.2 = some (N, xs)) (hc : catS As) (hn : As.length ≤ mi.2.2.1) (h : WP mi d k 0 (entL As mi.2.2.1) [] S Q QX) : SpecA N xs mi d k As S Q QX := by
  intro l hl D ad sz
  refine vx_ofW (cc := mi.2.1) (maxL := mi.2.2.1) (ret := mi.2.2.2.1) hy rfl ?_
  intro p e s m args below meth c s₁ B hml ht hv
  obtain ⟨rfl, ⟨hsz, hM, hK, hV, hSt⟩, hX, hlt, hnA⟩ := hv
  have hts := atoms_spec (ws := Cond.code mi.1 mi.2.1 mi.2.2.1 mi.2.2.2.1 :: TW) B.pre
  have hT : c.exceptionTable.toList = tableOf mi.2.2.2.2.1 := by
    rw [hh]
    exact List.eq_nil_iff_forall_not_mem.mpr (fun x hx => ht x hx)
  rw [lg_entry_eq]
  exact h p l e (rmm d k) s m _ below meth c D (ownA D S ad sz) S.1 ad ⟨B.exec, B.bytes, B.returns, B.notSynchronized, hml, findClass_of_methodNamed B.named, fun w hw => hts w (List.mem_cons_of_mem _ hw), hK, hl, hT, (name_of_methodNamed B.named B.method).1, Nat.le_refl _, Nat.le_refl _, fun q hq => Or.inr (by rw [← hsz]; exact hq), hSt, fun N' xs' z => by
      rw [hx] at z
      cases z
      exact ⟨hX, hlt, hnA⟩⟩ s.heap [] 0 0 _ ad
    ⟨hM, va_S_own, va_S.rf, Ext.rf (D := D), trivial, LH_entry hc hV hn, by show 0 + k ≤ k; omega, by show 0 + 700 * k ≤ 700 * k; omega⟩
theorem wp_callSA {N : Nat} {xs : Nat → Int32} (hxs : mi.2.2.2.2.2 = some (N, xs)) (hsp : SpecA N xs mj d' k1 As S Q1 QX1) (hok : MIok mj As.length) (h29 : mj.2.2.1 ≤ 29) (hv : Cond.static mj.1 ∈ TW) (hcn : mj.1.cls = mi.1.cls) (hl : Cond.methodLink mi.1.cls x mj.1 ∈ TW) (hd : decode mi.2.1 pc = .ok (.invokestatic x, 3)) (hh : mi.2.2.2.2.1 = []) (hdd : d' + 1 ≤ d) (hk : k1 + k2 ≤ k) (hst : st = As.reverse ++ rest) (hr : rest.length ≤ 12) (hQX : ∀ E S', QX1 E S' → QX E S')
    (kk : ∀ (r : Option sV) (S' : OM), Q1 r S' → WP mi d k2 (pc + 3) L (conc r rest) S' Q QX) : WP mi d k pc L st S Q QX := by
  intro p l e R s m args below meth cc D A lv0 ad0 hC H locs cells slots ls ad hD
  subst hst
  have hV := LvS_app hD.lvs
  have hAs : LvS S.1 As := LvS_rev hV.1
  have hb1 := hD.2.2.2.2.2.2.1
  have hb2 := hD.2.2.2.2.2.2.2
  have hf1 := hC.2.2.2.2.2.2.2.2.2.2.2.1
  have hf2 := hC.2.2.2.2.2.2.2.2.2.2.2.2.1
  obtain ⟨hX, hbl, hbA⟩ := hC.2.2.2.2.2.2.2.2.2.2.2.2.2.2.2 N xs hxs
  have hS := hD.2.2.1
  have hnow : ∀ U : State, U.heap = H → s.WarmedH U.vm → PcA N xs D ad S As H.size (As.map (tV ad)).toArray U := fun U hU hW => by
    obtain ⟨q0, q1⟩ := PcS_now hC hD hAs U hU hW
    refine ⟨q0, q1, ?_, ?_, fun z => hbA (own_A hC hD _ z)⟩
    · rw [hU]
      exact va_X.moved hW.alike (hX.kept (hS.2.1 _ hbl hbA))
    · rw [hU]
      exact Nat.lt_of_lt_of_le hbl hS.1
  refine run_go hC hD hk hV.2 (run24 (As := As.map (tV ad)) (own := mi.1.cls) ⟨hC.1, hC.2.1, hC.2.2.2.2.1, hC.2.2.2.2.2.1, hC.2.2.2.2.2.2.1⟩ (hsp l hC.2.2.2.2.2.2.2.2.1 D ad H.size)
    (cwS As.length hC.2.2.2.2.2.2.1 (goodS hl hv (by rw [← hcn]; exact hok.2.1) hok.1) rfl rfl rfl ⟨hcn, hok.2.2.1⟩ ⟨by show d' + 1 ≤ R.frames; omega, by show 8 + (mj.2.2.1 + 11) + 64 * d' ≤ R.locals; omega⟩)
    (by show 24 + (mj.2.2.1 + 11) + 64 * d' ≤ R.locals; omega)
    ⟨PcA_blind, hnow⟩ rfl (by rw [List.length_map]) hD.lh.1 (by rw [List.map_append, List.map_reverse]) (lv_room24 (Nat.le_trans (rest_cat ad) (by omega))) hd ⟨by omega, by omega⟩)
    (fun E ce q9 S' ad' H1 locs1 hq hD' _ hce hcv hcl => throw_on hC hh hQX E ce q9 S' ad' H1 locs1 hq hD' hce hcv hcl) kk
end W24
/-! the law's memory: the class's, and its own rows -/
abbrev LM : Type := CM × RH
abbrev LR : Type := Option (Int32 × LM × Nat)
def gW (u : LM) (y j : Nat) : Int32 := u.2 y j
def sW (u : LM) (y j : Nat) (v : Int32) : LM := (u.1, up2 u.2 y j v)
/-- a call of the class -/
def lk (o : CR Int32) (u : LM) (k : Int32 → LM → LR) : LR := match o with | none => none | some p => (k p.1 (p.2.1, u.2)).map fun q => (q.1, q.2.1, p.2.2 + q.2.2)
theorem lk_e0 {o : CR Int32} {u u9 : LM} {k : Int32 → LM → LR} {r : Int32} {n : Nat} (h : lk o u k = some (r, u9, n)) : ∃ a m1 n1 n2, o = some (a, m1, n1) ∧ k a (m1, u.2) = some (r, u9, n2) ∧ n1 + n2 = n := by
  cases o with
  | none => cases h
  | some p =>
    have h : (k p.1 (p.2.1, u.2)).map (fun q => (q.1, q.2.1, p.2.2 + q.2.2)) = some (r, u9, n) := h
    cases hk : k p.1 (p.2.1, u.2) with
    | none => rw [hk] at h; cases h
    | some q =>
      rw [hk] at h
      cases h
      exact ⟨p.1, p.2.1, p.2.2, q.2.2, rfl, hk, rfl⟩
theorem lk_e {o : CR Int32} {u u9 : LM} {k : Int32 → LM → LR} {r : Int32} {n : Nat} (h : lk o u k = some (r, u9, n)) : ∃ (a : Int32) (u1 : LM) (n1 n2 : Nat), o = some (a, u1.1, n1) ∧ u.2 = u1.2 ∧ k a u1 = some (r, u9, n2) ∧ n1 + n2 = n := by
  obtain ⟨a, m1, n1, n2, h1, h2, h3⟩ := lk_e0 h
  exact ⟨a, (m1, u.2), n1, n2, h1, rfl, h2, h3⟩
/-- a call of a method of the law -/
def lb (o : LR) (k : Int32 → LM → LR) : LR := match o with | none => none | some p => (k p.1 p.2.1).map fun q => (q.1, q.2.1, p.2.2 + q.2.2)
theorem lb_e {o : LR} {u9 : LM} {k : Int32 → LM → LR} {r : Int32} {n : Nat} (h : lb o k = some (r, u9, n)) : ∃ a u1 n1 n2, o = some (a, u1, n1) ∧ k a u1 = some (r, u9, n2) ∧ n1 + n2 = n := by
  cases o with
  | none => cases h
  | some p =>
    have h : (k p.1 p.2.1).map (fun q => (q.1, q.2.1, p.2.2 + q.2.2)) = some (r, u9, n) := h
    cases hk : k p.1 p.2.1 with
    | none => rw [hk] at h; cases h
    | some q =>
      rw [hk] at h
      cases h
      exact ⟨p.1, p.2.1, p.2.2, q.2.2, rfl, hk, rfl⟩
theorem ls_e {a r : Int32} {u u9 : LM} {g n : Nat} (h : some (a, u, g) = some (r, u9, n)) : a = r ∧ u = u9 ∧ g = n := by
  have := Option.some.inj h
  exact ⟨congrArg Prod.fst this, congrArg (fun x => x.2.1) this, congrArg (fun x => x.2.2) this⟩
theorem cq_ald {mi : MI} {d k pc : Nat} {L : List (Option sV)} {st : List sV} {Q : Option sV → OM → Prop} {QX : String → OM → Prop} {out : Int64} {u : LM} {c y i : Nat} {j : Int32} (hk : kd c = 1) (hc : c = 200 + y) (hj : vp_in j (len c)) (hd : decode mi.2.1 pc = .ok (.iaload, 1))
    (h : WP mi d k (pc + 1) L (vI (gW u y j.toNatClampNeg) :: st) (cM u.1 out u.2) Q QX) : WP mi d k pc L (vI j :: vR c i :: st) (cM u.1 out u.2) Q QX := wp_ialdR hk hc hj hd h
theorem cq_ast {mi : MI} {d k pc : Nat} {L : List (Option sV)} {st : List sV} {Q : Option sV → OM → Prop} {QX : String → OM → Prop} {out : Int64} {u u1 : LM} {c y i : Nat} {j x : Int32} (e : sW u y j.toNatClampNeg x = u1) (hk : kd c = 1) (hc : c = 200 + y) (hj : vp_in j (len c)) (hd : decode mi.2.1 pc = .ok (.iastore, 1))
    (h : WP mi d k (pc + 1) L st (cM u1.1 out u1.2) Q QX) : WP mi d k pc L (vI x :: vI j :: vR c i :: st) (cM u.1 out u.2) Q QX := by
  subst e
  exact wp_iastR hk hc hj hd h
/-- what a method of the law gives -/
def PW (out : Int64) (r : Int32) (u9 : LM) : Option sV → OM → Prop := fun r' S' => r' = some (vI r) ∧ S' = cM u9.1 out u9.2
/-- the law's own methods catch what the class throws -/
def ctc (ov : Int32 → Int32) (cd : Nat → Option Int32) (o : CR (Int32 ⊕ Nat)) : CR Int32 := match o with
  | none => none
  | some (.inl x, m, g) => some (ov x, m, g)
  | some (.inr j, m, g) => match cd j with | none => none | some v => some (v, m, g)
theorem ctc_e {ov : Int32 → Int32} {cd : Nat → Option Int32} {o : CR (Int32 ⊕ Nat)} {r : Int32} {m : CM} {n : Nat} (h : ctc ov cd o = some (r, m, n)) : ∃ v : Int32 ⊕ Nat, o = some (v, m, n) ∧ (∀ x, v = .inl x → r = ov x) ∧ ∀ j, v = .inr j → ∃ y, cd j = some y ∧ y = r := by
  unfold ctc at h
  match o, h with
  | some (.inl x, m', g), h =>
    have h : some (ov x, m', g) = some (r, m, n) := h
    cases h
    exact ⟨_, rfl, fun x h => (by cases h; rfl), fun j h => (by cases h)⟩
  | some (.inr j, m', g), h =>
    have h : (match cd j with | none => none | some v => some (v, m', g)) = some (r, m, n) := h
    cases hc : cd j with
    | none => rw [hc] at h; cases h
    | some v =>
      rw [hc] at h
      cases h
      exact ⟨_, rfl, fun x h => (by cases h), fun j' h => (by cases h; exact ⟨_, hc, rfl⟩)⟩
def lowV (v n : Int32) : Int32 := (v &&& 2147483647) - (v &&& 2147483647) / n * n
def atV (N : Nat) (xs : Nat → Int32) (k : Int32) : Int32 := if nI N ≤ k then 1809302513 * (k + 1) + 866772439 else xs k.toNatClampNeg
abbrev mAt (N : Nat) (xs : Nat → Int32) : MI := (yL_at, cL_at, 2, (some .int), [], some (N, xs))
theorem wL_low {v n : Int32} {S : OM} (hn : ¬ n = 0) : Spec mL_low 1 0 [vI v, vI n] S (fun r S' => r = some (vI (lowV v n)) ∧ S' = S) NX := by
  refine spec_of (by decide) rfl (by simp [catS, cat1]) (Nat.le_of_ble_eq_true rfl) ?_
  show WP mL_low 1 0 0 [some (vI v), some (vI n)] [] S _ NX
  refine wp_iload_n dL_low_0 rfl ?_
  refine wp_ldc ct_L_9 dL_low_1 ?_
  refine wp_iand dL_low_3 ?_
  refine wp_iload_n dL_low_4 rfl ?_
  refine wp_irem dL_low_5 hn ?_
  exact wp_ireturn rfl dL_low_6 ⟨rfl, rfl⟩
theorem wL_at {N : Nat} {xs : Nat → Int32} {k : Int32} {S : OM} (hk : ¬ k < 0) (hN : N ≤ 4000) : SpecA N xs (mAt N xs) 1 0 [vR 74 0, vI k] S (fun r S' => r = some (vI (atV N xs k)) ∧ S' = S) NX := by
  obtain ⟨lv, fr, fi, ai, ar, li, out, rho⟩ := S
  refine specA_of (show plainName mL_at.1.cls = true by decide) rfl rfl (by simp [catS, cat1]) (Nat.le_of_ble_eq_true rfl) ?_
  show WP (mAt N xs) 1 0 0 [some (vR 74 0), some (vI k)] [] (lv, fr, fi, ai, ar, li, out, rho) _ NX
  refine wp_iload_n dL_at_0 rfl ?_
  refine wp_aload_n dL_at_1 rfl ?_
  refine wp_slen (N := N) (xs := xs) rfl dL_at_2 ?_
  refine wp_icmp_ge (tgt := 12) dL_at_3 (by decide) (fun c => ?_) (fun c => ?_)
  · have c : nI N ≤ k := c
    refine wp_ldc ct_L_7 dL_at_12 ?_
    refine wp_iload_n dL_at_14 rfl ?_
    refine wp_iconst (v := 1) dL_at_15 (by decide) ?_
    refine wp_iadd dL_at_16 ?_
    refine wp_imul dL_at_17 ?_
    refine wp_ldc ct_L_8 dL_at_18 ?_
    refine wp_iadd dL_at_20 ?_
    exact wp_ireturn rfl dL_at_21 ⟨by unfold atV; rw [if_pos c], rfl⟩
  · have c : ¬ nI N ≤ k := c
    have hin : vp_in k N := by
      intro z
      rcases z with z | z
      · exact hk z
      · apply c
        rw [Int32.le_iff_toInt_le, nI_toInt (by omega)]
        rw [Int32.lt_iff_toInt_lt] at hk
        have e : (Int32.ofNat N).toInt = N := nI_toInt (by omega)
        have e0 : (0 : Int32).toInt = 0 := by decide
        have z : N ≤ k.toInt.toNat := z
        omega
    refine wp_aload_n dL_at_6 rfl ?_
    refine wp_iload_n dL_at_7 rfl ?_
    refine wp_sld (N := N) (xs := xs) rfl hin dL_at_8 ?_
    refine wp_goto (tgt := 21) dL_at_9 (by decide) ?_
    exact wp_ireturn rfl dL_at_21 ⟨by unfold atV; rw [if_neg c], rfl⟩
end LK9
