/-! the claim out of the law's walk -/
/-! THE CLAIM OUT OF ONE WALK OF THE LAW'S BODY. Your part is whole_start (and what it stands on); all else here is the same for every law, but numbers. -/
def R_law : String := "BrambleMeshLaw"
def lw_P (b : Addr) (xs : List Int32) (args : Array Value) (s : State) : Prop := args = #[.ref b] ∧ s.IntsAt b xs ∧ xs.length ≤ 260 ∧ (Jvm.Cond.and given_1 narrow_1).before args s = true
def lw_Q (_ : Array Value) (s : State) (o : Outcome) (t : State) : Prop := o = .returned (some (.int 1)) ∧ Framed s o t [] 794257 6719000
def lw_Z (below : List Frame) (a : Array Value) (s : State) : State → Prop := fun t => ∃ o, t.status = .running ∧ Ended t below o ∧ lw_Q a s o t
/-- the law's own end, with 1 on the stack, nothing written that was there before, its room as the claim has it -/
theorem lw_ret {p : Program} {l : Launch} {e : Env} {s : State} {m : MethodId} {below : List Frame} {meth : Method} {c : Code} {b : Nat} (hx : p.tables.exec = Jvm.exec) (hb : c.code = code) (hr : meth.sig.returnType = ret) (hlocks : meth.locks = false) {pc : Nat} {H : Heap} {ls : Array Slot} (hdg : decode code pc = .ok (.ireturn, 1)) : W p l e room_1 s m #[Value.ref b] below meth c H [] 794257 6719000 (lw_Z below #[Value.ref b] s) (F0 m pc ls [.int 1]) := by
  intro T hT X
  obtain ⟨fs, hret, hrun, hended, hW, hframe⟩ := X.leave (v := some (.int 1)) (hlocks := hlocks) (fun h => by rw [hr] at h; cases h)
  have hmeth' : T.vm.method? m = some meth := X.method'
  refine ⟨T.setFrames fs, ?_, .returned (some (.int 1)), hrun, hended, rfl, ⟨_, rfl⟩, hW, hframe⟩
  jvm_step X.here [X.here.top, hx, hb, hdg, hmeth', hr, ret, narrow_b1]
  (try refine ⟨rfl, ?_⟩); (try refine ⟨rfl, ?_⟩)
  first | (intro acts; rw [hret _ acts rfl rfl rfl]) | rw [hret _ _ rfl rfl rfl]
  exact Steps.refl _
/-- what holds at the law's entry: the machine, the code, the tables' words (any of lw_tbl by 'hts w (by decide +kernel)'), the script of L ints xs at the cell b, what the Statement gives of the start (any of its parts by flat_of_before) -/
def lw_At (p : Program) (s : State) (m : MethodId) (meth : Method) (c : Code) (b L : Nat) (xs : Nat → Int32) : Prop :=
  p.tables.exec = Jvm.exec ∧ c.code = code ∧ meth.sig.returnType = ret ∧ c.maxLocals = 14 ∧ s.vm.findClass R_law = some m.cls ∧ (∀ w ∈ lw_tbl, w.before #[Value.ref b] s = true) ∧ va_X b L xs s s.heap ∧ b < s.heap.size ∧ meth.locks = false ∧ (Jvm.Cond.and given_1 narrow_1).before #[Value.ref b] s = true ∧ c.exceptionTable.toList = [] ∧ meth.name = yL_law.name
theorem lw_end {R : Room} (hR1 : R.cells = 794257) (hR2 : R.slots = 6719000) {below : List Frame} {a : Array Value} {s t : State} {D : DD} {lv0 : Nat → Nat → Bool} {ad0 : Ad} (h : vx_MQ below (Qn (fun r _ => r = some (vI 1)) D (fun q => s.heap.size ≤ q) lv0 ad0) (Xn NX D (fun q => s.heap.size ≤ q) lv0 ad0) a s R.cells R.slots (fun q => s.heap.size ≤ q) t) : lw_Z below a s t := by
  obtain ⟨o, h1, h2, h3⟩ := h
  rcases h3 with ⟨⟨⟨r, S', ad', ho, hq, -⟩, -⟩, L, hF, hL⟩ | ⟨q, -, E, ce, L, ⟨⟨S', ad', hx, -⟩, -⟩, -⟩
  · refine ⟨o, h1, h2, ?_, hF.1, hF.2.1, ?_⟩
    · rw [ho, hq]
      rfl
    · have h4 := hF.2.2
      rw [hR1, hR2] at h4
      exact h4.sift (fun x hx => Or.inr (hL x hx))
  · exact hx.elim
/-- YOUR PART -/
theorem whole_start {p : Program} {e : Env} {s : State} {m : MethodId} {below : List Frame} {meth : Method} {c : Code} (l : Launch) (hflags : l.flags = flags0) {b L : Nat} {xs : Nat → Int32} (hL : L ≤ 260) (C0 : lw_At p s m meth c b L xs) : W p l e room_1 s m #[Value.ref b] below meth c s.heap [] 0 0 (lw_Z below #[Value.ref b] s) (entryFrame m ([Value.ref b] : List Value).toArray 14) := by
  obtain ⟨hx, hcode, hret, hml, hown, hts, hX, hbl, hlk, hgv, htab, hname⟩ := C0
  have hA : ∀ a : Nat, a < s.heap.size → ¬ (fun q => s.heap.size ≤ q) a := fun a h1 h2 => absurd h1 (Nat.not_lt.mpr h2)
  have hTW : ∀ w ∈ TW, w.before #[Value.ref b] s = true := fun w hw => hts w (List.mem_filter.mp hw).1
  obtain ⟨dC, dI, hcls⟩ := start_cls hTW
  obtain ⟨dA, harr⟩ := start_arr hTW (hts _ (by decide +kernel)) (hts _ (by decide +kernel)) (hts _ (by decide +kernel)) (hts _ (by decide +kernel)) (hts _ (by decide +kernel))
  obtain ⟨te, hemp⟩ := start_emp (A := fun q => s.heap.size ≤ q) hts hgv hA
  have hp := start_pol (A := fun q => s.heap.size ≤ q) hts hgv hA
  have hthr := start_thr (A := fun q => s.heap.size ≤ q) hts hgv hA
  obtain ⟨tp, htp, htp3⟩ : ∃ tp : Nat → Nat, (∀ j, j < 3 → va_Z "BrambleMesh" (polN j) "[I" (.ref (tp j)) (fun q => s.heap.size ≤ q) s s.heap ∧ va_T .int (tp j) 3 (fun i => .int (polV j i)) (fun q => s.heap.size ≤ q) s s.heap) ∧ tp 3 = b := by
    refine ⟨fun j => if h : j < 3 then Classical.choose (hp j h) else b, fun j hj => ?_, ?_⟩
    · dsimp only
      rw [dif_pos hj]
      exact Classical.choose_spec (hp j hj)
    · show (if h : 3 < 3 then Classical.choose (hp 3 h) else b) = b
      exact dif_neg (by decide)
  have hst : l.stackTraces = false := by
    unfold Launch.stackTraces
    rw [hflags]
    decide +kernel
  have C : Ctx (mLaw9 L xs) 60 p l room_1 s m #[Value.ref b] meth c (((dC, dI), dA, te, tp) : DD) (fun q => s.heap.size ≤ q) := ⟨hx, hcode, hret, hlk, hml, hown, hTW, ⟨start_K hcls harr, start_KN hts hgv⟩, hst, htab, hname, by decide, by decide, fun q h => h, ⟨hthr.1, hthr.2, htp, hemp, start_str hts hgv⟩, fun N xs' z => by
    cases z
    show va_X (tp 3) L xs s s.heap ∧ tp 3 < s.heap.size ∧ ¬ (fun q => s.heap.size ≤ q) (tp 3)
    rw [htp3]
    exact ⟨hX, hbl, hA b hbl⟩⟩
  have hlv : LvS (fun _ _ => false) [vR 74 0] := ⟨Or.inr ⟨by decide, by decide, rfl⟩, trivial⟩
  have hM : MM (((dC, dI), dA, te, tp) : DD) (cM cm0 0 rho0) (fun c _ => tp (c - 71)) s.heap := by
    refine ⟨fun c i h => ?_, fun c i c' i' h => ?_, fun c i k t j h => ?_, fun c i k j h => ?_, fun c i j h => ?_, fun j hj => ?_, fun c i h => ?_⟩
    · exact absurd h (by show ¬ (false = true); decide)
    · rcases h with h | ⟨-, -, h, -⟩
      · exact absurd h (by show ¬ (false = true); decide)
      · exact absurd h (by show ¬ (false = true); decide)
    · exact absurd h (by show ¬ (false = true); decide)
    · exact absurd h (by show ¬ (false = true); decide)
    · exact absurd h (by show ¬ (false = true); decide)
    · show tp (71 + j - 71) = tp j
      rw [Nat.add_sub_cancel_left]
    · exact absurd h (by show ¬ (false = true); decide)
  have hOw : ∀ q, own (((dC, dI), dA, te, tp) : DD) (fun _ _ => false) (fun c _ => tp (c - 71)) q → s.heap.size ≤ q := fun q h => by
    obtain ⟨c, i, h, -⟩ := h
    rcases h with h | ⟨-, -, h, -⟩
    · cases h
    · cases h
  have ht : [Value.ref b] = ([vR 74 0] : List sV).map (tV (fun c _ => tp (c - 71))) := by
    show [Value.ref b] = [Value.ref (tp (74 - 71))]
    rw [show 74 - 71 = 3 from rfl, htp3]
  have hw := law_main (N := L) (xs := xs) (by omega) (Q := fun r _ => r = some (vI 1)) (QX := NX) (fun _ => rfl) p l e room_1 s m #[Value.ref b] below meth c _ _ (fun _ _ => false) (fun c _ => tp (c - 71)) C s.heap [] 0 0 _ (fun c _ => tp (c - 71))
    ⟨hM, hOw, va_S.rf, Ext.rf (D := (((dC, dI), dA, te, tp) : DD)), trivial, LH_entry (n := 14) (As := [vR 74 0]) (by simp [catS, cat1]) hlv (by decide), by decide, by decide⟩
  have e9 : entryFrame m ([Value.ref b] : List Value).toArray 14 = entryFrame m (([vR 74 0] : List sV).map (tV (fun c _ => tp (c - 71)))).toArray 14 := by rw [ht]
  rw [e9, lg_entry_eq]
  intro T hT X
  obtain ⟨t, a1, a2⟩ := hw T hT X
  exact ⟨t, a1, lw_end rfl rfl a2⟩
set_option maxHeartbeats 4000000 in
theorem lw_walk (l : Launch) (hflags : l.flags = flags0) (b : Addr) (xs : List Int32) : MetFree l x (headSpec (Jvm.Cond.code x code maxLocals ret :: tables_1) room_1) (lw_P b xs) (fun _ _ _ _ _ => True) lw_Q := by
  refine MetFree.of_bodyS (code := code) (maxLocals := maxLocals) (ret := ret) (by decide) ?_ ?_
  · intro args s m h hn
    obtain ⟨meth, c, h1, h2, h3, h4, h5, h6, -, -⟩ := Cond.code_spec hn (atoms_spec (ws := Jvm.Cond.code x code maxLocals ret :: tables_1) h _ List.mem_cons_self)
    exact ⟨meth, c, h1, h2, h3, h4, h5, h6⟩
  · intro p e s m args below meth c s₁ B hml0 hP _
    obtain ⟨rfl, hx, hbd, hgv⟩ := hP
    obtain ⟨scr, harrAt, hlist, hof, hsmall⟩ := hx
    obtain ⟨hcb, hkn, -, -⟩ := State.arrayAt?_spec harrAt
    have hown : s.vm.findClass R_law = some m.cls := findClass_of_methodNamed B.named
    have hts0 : ∀ c ∈ (Jvm.Cond.code x code maxLocals ret :: tables_1), c.before #[Value.ref b] s = true := atoms_spec (ws := Jvm.Cond.code x code maxLocals ret :: tables_1) B.pre
    have hts : ∀ w ∈ lw_tbl, w.before #[Value.ref b] s = true := k2_hts_sels lw_privs (fun w hw => hts0 w (List.mem_cons_of_mem _ hw)) lw_privs_ok
    have hml : c.maxLocals = 14 := B.maxLocals_eq (hts0 _ List.mem_cons_self)
    have X₀ : Stand p l e room_1 s m #[Value.ref b] below meth c s₁ [] 0 0 := Stand.of_body B
    have htab : c.exceptionTable.toList = [] := by
      obtain ⟨meth', c', hm', hc', -, -, -, -, hempty, -⟩ := Cond.code_spec B.named (hts0 _ List.mem_cons_self)
      cases B.method.symm.trans hm'
      cases X₀.code.symm.trans hc'
      have h0 : c.exceptionTable.size = 0 := by simpa [Array.isEmpty] using hempty
      exact List.eq_nil_of_length_eq_zero (by simpa using h0)
    have hh0 : s₁.heap = s.heap := by rw [B.state]; rfl
    have hsz : scr.slots.size = xs.length := by rw [← Array.length_toList, hlist, List.length_map]
    have hval : ∀ j : Nat, j < xs.length → scr.slots[j]? = some (.int (xs.getD j 0)) := fun j hj => by
      rw [← Array.getElem?_toList, hlist]
      simp [hj]
    have hbl : b < s.heap.size := (Array.getElem?_eq_some_iff.mp hcb).1
    have hX : va_X b xs.length (fun j => xs.getD j 0) s s.heap := ⟨scr, hcb, hof, hkn, hsz, hval⟩
    have K : W p l e room_1 s m #[Value.ref b] below meth c s₁.heap [] 0 0 (lw_Z below #[Value.ref b] s) (entryFrame m ([Value.ref b] : List Value).toArray 14) := by
      rw [hh0]
      exact whole_start l hflags hbd ⟨B.exec, B.bytes, B.returns, hml, hown, hts, hX, hbl, B.notSynchronized, hgv, htab, (name_of_methodNamed B.named B.method).1⟩
    obtain ⟨t, a1, o, b1, b2, b3⟩ := K s₁ rfl X₀
    exact ⟨t, o, a1, b1, b2, b3⟩
theorem lw_pre_spec {args : Array Value} {s : State} (h : (Jvm.Cond.and given_1 narrow_1).before args s = true) (hr : rest_1_c.before args s = true) : ∃ (b : Addr) (xs : List Int32), lw_P b xs args s := by
  have hs := flat_of_before _ h
  have hq := flat_of_before _ hr
  have hc : (Cond.count 1).before args s = true := hs _ (by decide +kernel)
  have harr : (Cond.arrayOf (.arg 0) .int).before args s = true := hs _ (by decide +kernel)
  have hle : (Cond.le (.length (.arg 0)) (.int 260)).before args s = true := hs _ (by decide +kernel)
  have hlen : (Cond.isInt (.length (.arg 0))).before args s = true := hq _ (by decide +kernel)
  have hall : (Cond.all (.arg 0) (.isInt (.elem (.arg 0) (.index 0)))).before args s = true := hq _ (by decide +kernel)
  obtain ⟨b, xs, hb, hx⟩ := State.ints_of_pre rfl harr hlen hall
  have hsm : xs.length < 2 ^ 31 := hx.choose_spec.2.2.2
  have hev : (Term.length (.arg 0)).eval args s none [] s = some (.int xs.length.toInt32) := hx.length_eval hb
  have hv := Cond.le_ints hev (show (Term.int 260).eval args s none [] s = some (.int 260) from rfl)
  have hd : xs.length.toInt32 ≤ 260 := by
    simpa [Cond.before, Cond.holds, hv] using hle
  have hN : xs.length ≤ 260 := (Int32.ofNat_le_ofNat hsm (by decide)).mp (show Int32.ofNat xs.length ≤ Int32.ofNat 260 from hd)
  exact ⟨b, xs, Cond.one_arg hc (show args[0]? = some (.ref b) from hb), hx, hN, h⟩
theorem lw_comes (l : Launch) (hflags : l.flags = flags0) : Comes l x (Jvm.Cond.code x code maxLocals ret :: tables_1) room_1 (fun tb e args s => Calls_1 tb e args s ∧ rest_1 tb e args s ∧ Pre_1 tb e args s)
    (fun _ _ args s o t => lw_Q args s o t) := by
  intro p e ha hc hk s m args below hf hfit hheap happ hpre
  obtain ⟨b, xs, hP⟩ := lw_pre_spec hpre.2.2 hpre.2.1
  obtain ⟨k, o, h1, h2, h3, hQ⟩ := lw_walk l hflags b xs p e ha hc hk s m args below hf ((Spec.applies_iff_loose hf).mp happ).1 hP trivial
  exact ⟨k, o, h1, h2, h3, hQ⟩
theorem lw_frame {s t : State} {o : Outcome} {args : Array Value} (h : Framed s o t [] 794257 6719000) :
    Framed s o t (fieldLocs frame_1_writes args s ++ arrayLocs frame_1_arrays args s ++ staticLocs frame_1_statics s) 794257 6719000 := h
theorem lw_limb (L : Cond) (hL : ∀ (args : Array Value) (s t : State), L.after args s (.returned (some (.int 1))) t = true) :
    ArmFor flags0 classFile x code maxLocals ret World_1 tables_1 room_1 Calls_1 rest_1 Pre_1
      (fun tb e a s o t => postC L tb e a s o t ∧ Framed s o t (fieldLocs frame_1_writes a s ++ arrayLocs frame_1_arrays a s ++ staticLocs frame_1_statics s) 794257 6719000) := by
  intro l hflags _ _ p e ha hc hk s m args below hf hfit hheap happ hpre
  obtain ⟨k, o, h1, h2, h3, rfl, hF⟩ := lw_comes l hflags p e ha hc hk s m args below hf hfit hheap happ hpre
  exact ⟨k, _, h1, h2, h3, hL args s _, lw_frame hF⟩
theorem i_vc : Claimed_1_1 ∧ Claimed_1_2 := ⟨lw_limb limb_1_1 (fun args s t => by simp [limb_1_1, Cond.after, Cond.holds, Cond.value]), lw_limb limb_1_2 (fun args s t => Cond.after_iff.mpr (by
  first | (rw [show limb_1_2 = Cond.eq .result (.int 1) from rfl, Cond.eq_ints (x := 1) (y := 1) rfl rfl]; simp; done) | (simp [limb_1_2, Cond.value, Term.eval]; done)))⟩

