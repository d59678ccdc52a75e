/-! java.util.ArrayList over the machine: its members' contracts (worlds of the kit: the list's cell and the row behind it) -/
section JL
variable {l : Launch} {D : DD}
theorem jHead {y : MethodName} {cc : ByteArray} {maxL : Nat} {ret : Option FieldType} {rm : Room} {As : List Value} {Pre : State → Prop} {Qc : Array Value → State → Outcome → State → Prop} {mc ms : Nat} {free : Addr → Prop} (hy : plainName y.cls = true) (hlen : (lg_sl As).length ≤ maxL)
    (body : ∀ (p : Program) (e : Env) (s : State) (m : MethodId) (below : List Frame) (meth : Method) (c : Code) (ls : Array Slot), p.tables.exec = Jvm.exec → c.code = cc → meth.sig.returnType = ret → meth.locks = false → c.maxLocals = maxL → s.vm.findClass y.cls = some m.cls → (∀ w ∈ TW, w.before As.toArray s = true) → meth.name = y.name → Pre s → lv_has ls maxL (lv_args 0 As) → W p l e rm s m As.toArray below meth c s.heap [] 0 0 (MQ below Qc As.toArray s mc ms free) (F0 m 0 ls [])) : Met l y (Cond.code y cc maxL ret :: TW) rm (va_Pc As Pre) Qc mc ms free := by
  refine Met.ofW (cc := cc) (maxL := maxL) (ret := ret) hy rfl ?_
  intro p e s m args below meth c s₁ B hml hv
  obtain ⟨rfl, hpre⟩ := hv
  have hts := atoms_spec (ws := Cond.code y cc maxL ret :: TW) B.pre
  rw [lg_entry_eq]
  exact body p e s m below meth c _ B.exec B.bytes B.returns B.notSynchronized hml (findClass_of_methodNamed B.named) (fun w hw => hts w (List.mem_cons_of_mem _ hw)) (name_of_methodNamed B.named B.method).1 hpre (lv_entry As hlen)
abbrev lO (a d : Nat) (m n : Int32) : Nat × va_E := (a, .inr (10, [.int m, .ref d, .int n]))
abbrev lA (D : DD) (d cap : Nat) (f : Nat → Option Nat) : Nat × va_E := (d, .inl (D.2.1 7, cap, .inr (.inr (.inr (.inr f)))))
def jA (a d sz : Nat) : Nat → Prop := fun q => q = a ∨ q = d ∨ sz ≤ q
theorem D1 {A : Nat → Prop} {a : Nat} {x : va_E} (ha : A a) : va_D A [(a, x)] := by
  refine ⟨fun i j p q hi hj _ => ?_, fun k q hk => ?_⟩
  · have h1 := (List.getElem?_eq_some_iff.mp hi).1
    have h2 := (List.getElem?_eq_some_iff.mp hj).1
    simp at h1 h2
    omega
  · have h1 := (List.getElem?_eq_some_iff.mp hk).1
    simp at h1
    subst h1
    simp at hk
    rw [← hk]
    exact ha
theorem D2 {A : Nat → Prop} {a b : Nat} {x y : va_E} (h : a ≠ b) (ha : A a) (hb : A b) : va_D A [(a, x), (b, y)] := by
  have key : ∀ (k : Nat) (q : Nat × va_E), [(a, x), (b, y)][k]? = some q → (k = 0 ∧ q.1 = a) ∨ (k = 1 ∧ q.1 = b) := by
    intro k q hk
    match k, hk with
    | 0, hk => simp at hk; exact Or.inl ⟨rfl, by rw [← hk]⟩
    | 1, hk => simp at hk; exact Or.inr ⟨rfl, by rw [← hk]⟩
    | _ + 2, hk => simp at hk
  refine ⟨fun i j p q hi hj he => ?_, fun k q hk => ?_⟩
  · rcases key i p hi with ⟨e1, e2⟩ | ⟨e1, e2⟩ <;> rcases key j q hj with ⟨e3, e4⟩ | ⟨e3, e4⟩
    · omega
    · exact absurd (by rw [← e2, ← e4]; exact he) h
    · exact absurd (by rw [← e2, ← e4]; exact he.symm) h
    · omega
  · rcases key k q hk with ⟨-, e2⟩ | ⟨-, e2⟩
    · rw [e2]; exact ha
    · rw [e2]; exact hb
theorem alW : ∀ w ∈ u_ws RJx4a65c TJx4a65c 3, w ∈ TW := TW_all (by decide +kernel)
theorem jblind {As : List Value} {PH : Heap → Prop} : FrameBlind (va_Pc As (fun U => PH U.heap ∧ Kst D U)) := fun a U g mk q => ⟨q.1, q.2.1, Kst.same (s := U) (U := U.calling g mk a) rfl q.2.2⟩
theorem goodS9 {own9 : String} {x : Nat} {y : MethodName} {bytes : ByteArray} {maxL : Nat} {ret : Option FieldType} (h1 : Cond.methodLink own9 x y ∈ TW) (h2 : Cond.static y ∈ TW) (h4 : Cond.initialized y.cls ∈ TW) (h5 : Cond.code y bytes maxL ret ∈ TW) : GoodIn TW (va_wsS own9 x y (Cond.code y bytes maxL ret :: TW)) := by
  intro w hw
  unfold va_wsS at hw
  simp only [List.cons_append, List.nil_append, List.mem_cons] at hw
  rcases hw with rfl | rfl | rfl | rfl | hw
  · exact good_TW h1
  · exact good_TW h2
  · exact good_TW h4
  · exact good_TW h5
  · exact good_TW hw
section JR
variable {p : Program} {e : Env} {R : Room} {s : State} {m : MethodId} {args : Array Value} {below : List Frame} {meth : Method} {c : Code} {H : Heap} {locs : List Loc} {cells slots pc : Nat} {Q : State → Prop} {ls : Array Slot} {rest st0 : List Value}
theorem jgoV {r : Option Value} {Qa : State → Outcome → State → Prop} (hr : va_Run p l e R s m args below meth c H locs cells slots 0 0 (F0 m pc ls st0) rest Qa (fun _ => False)) (hq : ∀ st v t, Qa st (.returned v) t → v = r ∧ t.heap = st.heap) (kk : W p l e R s m args below meth c H locs cells slots Q (F0 m (pc + 3) ls (r.toList ++ rest))) : W p l e R s m args below meth c H locs cells slots Q (F0 m pc ls st0) := by
  intro T hT X
  obtain ⟨v, st₀, t, T', L9, h0, X', hL, e1, e2, hv, stp⟩ := hr T hT X
  obtain ⟨rfl, hh⟩ := hq _ _ _ hv
  have hn : L9 = [] := List.eq_nil_iff_forall_not_mem.mpr (fun q hq => hL q hq)
  subst hn
  rw [List.append_nil] at X'
  obtain ⟨t2, a1, b1⟩ := kk T' (by rw [e1, hh, h0]) X'
  exact ⟨t2, stp t2 a1, b1⟩
end JR
theorem jSize (a d : Nat) (m n : Int32) : Met l yJx4a65c_size_8abf5 (Cond.code yJx4a65c_size_8abf5 cJx4a65c_size_8abf5 1 (some .int) :: TW) rm0 (va_Pc [.ref a] (fun U => va_P D.1 cls [lO a d m n] U.heap ∧ Kst D U)) (fun _ st o t => o = .returned (some (.int n)) ∧ t.heap = st.heap) 0 0 (fun _ => False) := by
  refine jHead (by decide) (Nat.le_of_ble_eq_true rfl) ?_
  intro p e s m' below meth c ls hx hb hr hlk hml hown hT hnm hpre hl
  obtain ⟨hP, hK⟩ := hpre
  refine lv_aload_n hx hb dJx4a65c_size_8abf5_0 rfl (lv_at hl 0 rfl) ?_
  refine va_get (D := D.1) (ci := 10) (v := .int n) (C := RJx4a65c) (T := TJx4a65c) (N := 3) hx hb hT alW hown hK.1 hP 0 rfl rfl 2 (by decide) (hT _ fl_Jx4a65c_48) (fun _ h => h) rfl dJx4a65c_size_8abf5_1 ?_
  exact W.iret hx hb hr (fun t ht hW => ⟨rfl, ht⟩) (fun q h => by cases h) dJx4a65c_size_8abf5_4 hlk
theorem jEmpty (a d : Nat) (m n : Int32) : Met l yJx4a65c_isEmpty_aae02 (Cond.code yJx4a65c_isEmpty_aae02 cJx4a65c_isEmpty_aae02 1 (some .boolean) :: TW) rm0 (va_Pc [.ref a] (fun U => va_P D.1 cls [lO a d m n] U.heap ∧ Kst D U)) (fun _ st o t => o = .returned (some (.int (if n = 0 then 1 else 0))) ∧ t.heap = st.heap) 0 0 (fun _ => False) := by
  refine jHead (by decide) (Nat.le_of_ble_eq_true rfl) ?_
  intro p e s m' below meth c ls hx hb hr hlk hml hown hT hnm hpre hl
  obtain ⟨hP, hK⟩ := hpre
  refine lv_aload_n hx hb dJx4a65c_isEmpty_aae02_0 rfl (lv_at hl 0 rfl) ?_
  refine va_get (D := D.1) (ci := 10) (v := .int n) (C := RJx4a65c) (T := TJx4a65c) (N := 3) hx hb hT alW hown hK.1 hP 0 rfl rfl 2 (by decide) (hT _ fl_Jx4a65c_48) (fun _ h => h) rfl dJx4a65c_isEmpty_aae02_1 ?_
  refine lv_if_ne (tgt := 11) hx hb dJx4a65c_isEmpty_aae02_4 (by decide) (fun h0 => ?_) (fun h0 => ?_)
  · refine lv_iconst (v := 0) hx hb dJx4a65c_isEmpty_aae02_11 (by decide) ?_
    exact W.zret hx hb hr rfl (fun t ht hW => ⟨by rw [if_neg h0], ht⟩) (fun q h => by cases h) dJx4a65c_isEmpty_aae02_12 hlk
  · refine lv_iconst (v := 1) hx hb dJx4a65c_isEmpty_aae02_7 (by decide) ?_
    refine lv_goto (tgt := 12) hx hb dJx4a65c_isEmpty_aae02_8 (by decide) ?_
    exact W.zret hx hb hr rfl (fun t ht hW => ⟨by rw [if_pos (by first | exact h0 | exact Classical.not_not.mp h0)], ht⟩) (fun q h => by cases h) dJx4a65c_isEmpty_aae02_12 hlk
theorem jCheck3 (i n : Int32) (h0 : ¬ i < 0) (hn : i < n) : Met l yJ3_checkIndex_8e157 (Cond.code yJ3_checkIndex_8e157 cJ3_checkIndex_8e157 3 (some .int) :: TW) rm0 (va_Pc [.int i, .int n, .null] (fun U => True ∧ Kst D U)) (fun _ st o t => o = .returned (some (.int i)) ∧ t.heap = st.heap) 0 0 (fun _ => False) := by
  refine jHead (by decide) (Nat.le_of_ble_eq_true rfl) ?_
  intro p e s m' below meth c ls hx hb hr hlk hml hown hT hnm hpre hl
  refine lv_iload_n hx hb dJ3_checkIndex_8e157_0 rfl (lv_at hl 0 rfl) ?_
  refine lv_if_lt (tgt := 9) hx hb dJ3_checkIndex_8e157_1 (by decide) (fun z => absurd z h0) (fun _ => ?_)
  refine lv_iload_n hx hb dJ3_checkIndex_8e157_4 rfl (lv_at hl 0 rfl) ?_
  refine lv_iload_n hx hb dJ3_checkIndex_8e157_5 rfl (lv_at hl 1 rfl) ?_
  refine lv_icmp_lt (tgt := 16) hx hb dJ3_checkIndex_8e157_6 (by decide) (fun _ => ?_) (fun z => absurd hn z)
  refine lv_iload_n hx hb dJ3_checkIndex_8e157_16 rfl (lv_at hl 0 rfl) ?_
  exact W.iret hx hb hr (fun t ht hW => ⟨rfl, ht⟩) (fun q h => by cases h) dJ3_checkIndex_8e157_17 hlk
theorem jCheck (i n : Int32) (h0 : ¬ i < 0) (hn : i < n) : Met l yJ15_checkIndex_7cf53 (Cond.code yJ15_checkIndex_7cf53 cJ15_checkIndex_7cf53 2 (some .int) :: TW) { frames := 1, cells := 0, slots := 0, locals := 40 } (va_Pc [.int i, .int n] (fun U => True ∧ Kst D U)) (fun _ st o t => o = .returned (some (.int i)) ∧ t.heap = st.heap) 0 0 (fun _ => False) := by
  refine jHead (by decide) (Nat.le_of_ble_eq_true rfl) ?_
  intro p e s m' below meth c ls hx hb hr hlk hml hown hT hnm hpre hl
  refine lv_iload_n hx hb dJ15_checkIndex_7cf53_0 rfl (lv_at hl 0 rfl) ?_
  refine lv_iload_n hx hb dJ15_checkIndex_7cf53_1 rfl (lv_at hl 1 rfl) ?_
  refine lv_null hx hb dJ15_checkIndex_7cf53_2 ?_
  refine jgoV (r := some (.int i)) (va_runS (As := [.int i, .int n, .null]) (rest := []) ⟨hx, hb, hml, hown, hT⟩ (jCheck3 (D := D) i n h0 hn) (va_cwS 3 hT (goodS9 ml_J15_105 sm_J3_checkIndex_8e157 in_J3 cd_J3_checkIndex_8e157) rfl rfl rfl (by decide +kernel) ⟨by decide, by decide⟩) ⟨jblind (PH := fun _ => True), fun U hU hW => ⟨rfl, trivial, Kst.warm hW hpre.2⟩⟩ rfl rfl hl.1 rfl (lv_room (by decide)) dJ15_checkIndex_7cf53_3 ⟨by decide, by decide⟩) (fun st v t hq => ⟨Outcome.returned.inj hq.1, hq.2⟩) ?_
  exact W.iret hx hb hr (fun t ht hW => ⟨rfl, ht⟩) (fun q h => by cases h) dJ15_checkIndex_7cf53_6 hlk
theorem jElem (a d cap : Nat) (m n i : Int32) (f : Nat → Option Nat) (hi : vp_in i cap) : Met l yJx4a65c_elementData_915e3 (Cond.code yJx4a65c_elementData_915e3 cJx4a65c_elementData_915e3 2 (some (.object "java/lang/Object")) :: TW) rm0 (va_Pc [.ref a, .int i] (fun U => va_P D.1 cls [lO a d m n, lA D d cap f] U.heap ∧ Kst D U)) (fun _ st o t => o = .returned (some (va_rf (f i.toNatClampNeg))) ∧ t.heap = st.heap) 0 0 (fun _ => False) := by
  refine jHead (by decide) (Nat.le_of_ble_eq_true rfl) ?_
  intro p e s m' below meth c ls hx hb hr hlk hml hown hT hnm hpre hl
  obtain ⟨hP, hK⟩ := hpre
  refine lv_aload_n hx hb dJx4a65c_elementData_915e3_0 rfl (lv_at hl 0 rfl) ?_
  refine va_get (D := D.1) (ci := 10) (v := .ref d) (C := RJx4a65c) (T := TJx4a65c) (N := 3) hx hb hT alW hown hK.1 hP 0 rfl rfl 1 (by decide) (hT _ fl_Jx4a65c_9) (fun _ h => h) rfl dJx4a65c_elementData_915e3_1 ?_
  refine lv_iload_n hx hb dJx4a65c_elementData_915e3_4 rfl (lv_at hl 1 rfl) ?_
  refine va_aldq hx hb hK.1 hP 1 7 rfl (tys_at D (by decide)) hi dJx4a65c_elementData_915e3_5 ?_
  exact W.aret hx hb hr (Or.inl ⟨_, rfl⟩) (by cases f i.toNatClampNeg with | none => exact Or.inl rfl | some q => exact Or.inr ⟨_, rfl⟩) (fun t ht hW => ⟨rfl, ht⟩) (fun q h => by cases h) dJx4a65c_elementData_915e3_6 hlk
theorem goodV9 {own9 : String} {x : Nat} {y : MethodName} {bytes : ByteArray} {maxL : Nat} {ret : Option FieldType} (h1 : Cond.methodLink own9 x y ∈ TW) (h2 : Cond.instanceMethod y ∈ TW) (h3 : Cond.selects y.cls y y ∈ TW) (h4 : Cond.initialized y.cls ∈ TW) (h5 : Cond.code y bytes maxL ret ∈ TW) : GoodIn TW (wsV own9 x y.cls y (Cond.code y bytes maxL ret :: TW)) := goodV h1 h2 h3 h4 h5
theorem jGet (a d cap : Nat) (m n i : Int32) (f : Nat → Option Nat) (h0 : ¬ i < 0) (hn : i < n) (hi : vp_in i cap) : Met l yJx4a65c_get_915e3 (Cond.code yJx4a65c_get_915e3 cJx4a65c_get_915e3 2 (some (.object "java/lang/Object")) :: TW) { frames := 2, cells := 0, slots := 0, locals := 80 } (va_Pc [.ref a, .int i] (fun U => va_P D.1 cls [lO a d m n, lA D d cap f] U.heap ∧ Kst D U)) (fun _ st o t => o = .returned (some (va_rf (f i.toNatClampNeg))) ∧ t.heap = st.heap) 0 0 (fun _ => False) := by
  refine jHead (by decide) (Nat.le_of_ble_eq_true rfl) ?_
  intro p e s m' below meth c ls hx hb hr hlk hml hown hT hnm hpre hl
  obtain ⟨hP, hK⟩ := hpre
  refine lv_iload_n hx hb dJx4a65c_get_915e3_0 rfl (lv_at hl 1 rfl) ?_
  refine lv_aload_n hx hb dJx4a65c_get_915e3_1 rfl (lv_at hl 0 rfl) ?_
  refine va_get (D := D.1) (ci := 10) (v := .int n) (C := RJx4a65c) (T := TJx4a65c) (N := 3) hx hb hT alW hown hK.1 hP 0 rfl rfl 2 (by decide) (hT _ fl_Jx4a65c_48) (fun _ h => h) rfl dJx4a65c_get_915e3_2 ?_
  refine jgoV (r := some (.int i)) (va_runS (As := [.int i, .int n]) (rest := []) ⟨hx, hb, hml, hown, hT⟩ (jCheck (D := D) i n h0 hn) (va_cwS 2 hT (goodS9 ml_Jx4a65c_118 sm_J15_checkIndex_7cf53 in_J15 cd_J15_checkIndex_7cf53) rfl rfl rfl (by decide +kernel) ⟨by decide, by decide⟩) ⟨jblind (PH := fun _ => True), fun U hU hW => ⟨rfl, trivial, Kst.warm hW hK⟩⟩ rfl rfl hl.1 rfl (lv_room (by decide)) dJx4a65c_get_915e3_5 ⟨by decide, by decide⟩) (fun st v t hq => ⟨Outcome.returned.inj hq.1, hq.2⟩) ?_
  refine lv_pop hx hb dJx4a65c_get_915e3_8 rfl ?_
  refine lv_aload_n hx hb dJx4a65c_get_915e3_9 rfl (lv_at hl 0 rfl) ?_
  refine lv_iload_n hx hb dJx4a65c_get_915e3_10 rfl (lv_at hl 1 rfl) ?_
  refine jgoV (r := some (va_rf (f i.toNatClampNeg))) (va_runV (As := [.int i]) (b := a) (rest := []) (C := RJx4a65c) ⟨hx, hb, hml, hown, hT⟩ (jElem (D := D) a d cap m n i f hi) (cwV 1 hT (goodV9 ml_Jx4a65c_123 im_Jx4a65c_elementData_915e3 se_Jx4a65c_elementData_915e3 in_Jx4a65c cd_Jx4a65c_elementData_915e3) rfl rfl rfl (by decide +kernel) ⟨by decide, by decide⟩) ⟨jblind, va_recv hK.1 hP (ci := 10) (q0 := 0) rfl rfl, fun U hU hW => ⟨rfl, by rw [hU]; exact hP, Kst.warm hW hK⟩⟩ rfl rfl hl.1 rfl (lv_room (by decide)) dJx4a65c_get_915e3_11 ⟨by decide, by decide⟩) (fun st v t hq => ⟨Outcome.returned.inj hq.1, hq.2⟩) ?_
  exact W.aret hx hb hr (Or.inl ⟨_, rfl⟩) (by cases f i.toNatClampNeg with | none => exact Or.inl rfl | some q => exact Or.inr ⟨_, rfl⟩) (fun t ht hW => ⟨rfl, ht⟩) (fun q h => by cases h) dJx4a65c_get_915e3_14 hlk
end JL
