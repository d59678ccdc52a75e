section JN
variable {l : Launch} {D : DD}
/-- ArrayList's shared empty row -/
def stE (D : DD) (A : Nat → Prop) (U : State) : Prop := va_Z "java/util/ArrayList" "DEFAULTCAPACITY_EMPTY_ELEMENTDATA" "[Ljava/lang/Object;" (.ref D.2.2.1) A U U.heap ∧ va_T (.object bO) D.2.2.1 0 (fun _ => .null) A U U.heap
theorem stE.same {A : Nat → Prop} {U V : State} (hv : U.vm = V.vm) (hh : V.heap = U.heap) (h : stE D A U) : stE D A V := by
  have ha : U.vm.Alike V.vm := by rw [hv]; exact Vm.Alike.refl _
  exact ⟨by rw [hh]; exact h.1.moved ha, by rw [hh]; exact h.2.moved ha⟩
theorem stE.on {A B : Nat → Prop} {s U : State} {H : Heap} {locs : List Loc} (h : stE D A s) (hS : va_S A s.heap H locs) (hW : s.WarmedH U.vm) (hU : U.heap = H) (hAB : ∀ q, B q → A q) : stE D B U :=
  ⟨by rw [hU]; exact ((h.1.kept hS.2.1).moved hW.alike).narrow hAB, by rw [hU]; exact ((h.2.kept hS.2.1).moved hW.alike).narrow hAB⟩
def capG (n : Nat) : Nat := n + n / 2
def elG (n : Nat) (f : Nat → Option Nat) : Nat → Option Nat := va_cpy f (fun _ => none) 0 0 n

theorem jGrow1G (a d n sz : Nat) (m : Int32) (f : Nat → Option Nat) (h2 : 10 ≤ n) (hn : n ≤ 450) (had : a ≠ d) : Met l yJx4a65c_grow_92f84 (Cond.code yJx4a65c_grow_92f84 cJx4a65c_grow_92f84 4 (some (.array (.object "java/lang/Object"))) :: TW) { frames := 3, cells := 1, slots := capG n, locals := 192 } (va_Pc [.ref a, .int (nI (n + 1))] (fun U => (U.heap.size = sz ∧ va_P D.1 cls [lO a d m (nI n), lA D d n f] U.heap ∧ (∀ i, i < n → ∀ y, f i = some y → va_Any bO U U.heap y ∧ y < sz ∧ y ≠ a)) ∧ Kst D U)) (fun _ st oc t => ∃ q, oc = .returned (some (.ref q)) ∧ sz ≤ q ∧ va_P D.1 cls [lO a q m (nI n), lA D q (capG n) (elG n f)] t.heap ∧ va_F (jA a d sz) st t) 1 (capG n) (jA a d sz) := by
  refine jHead (by decide) (Nat.le_of_ble_eq_true rfl) ?_
  intro p e s m' below meth c ls hx hb hr hlk hml hown hT hnm hpre hl
  obtain ⟨⟨hsz, hP, hAny⟩, hK⟩ := hpre
  subst hsz
  have hcap : capG n ≤ 700 := by unfold capG; omega
  have hD : va_D (jA a d s.heap.size) [lO a d m (nI n), lA D d n f] := D2 had (Or.inl rfl) (Or.inr (Or.inl rfl))
  have hS : va_S (jA a d s.heap.size) s.heap s.heap [] := va_S.rf
  have hal : a < s.heap.size := vx_lt hP (k := 0) rfl
  refine lv_aload_n hx hb dJx4a65c_grow_92f84_0 rfl (lv_at hl 0 rfl) ?_
  refine va_get (D := D.1) (ci := 10) (v := .ref d) (C := RJx4a65c) (T := TJx4a65c) (N := 3) hx hb hT alW hown hK.1 hP 0 rfl rfl 1 (by decide) (hT _ fl_Jx4a65c_9) (fun _ h => h) rfl dJx4a65c_grow_92f84_1 ?_
  refine va_alen hx hb hK.1 hP 1 7 rfl (tys_at D (by decide)) (v := nI n) rfl dJx4a65c_grow_92f84_4 ?_
  refine lv_istore_n (lv' := [(2, .int (nI n)), (0, .ref a), (1, .int (nI (n + 1)))]) hx hb dJx4a65c_grow_92f84_5 rfl hl (by decide) rfl (fun ls hl => ?_)
  refine lv_iload_n hx hb dJx4a65c_grow_92f84_6 rfl (lv_at hl 0 rfl) ?_
  refine lv_if_gt (tgt := 20) hx hb dJx4a65c_grow_92f84_7 (by decide) (fun _ => ?_) (fun z => absurd (show nI 0 < nI n from nI_lt (by omega) (by omega)) (by rw [nI_0]; exact z))
  refine lv_iload_n hx hb dJx4a65c_grow_92f84_20 rfl (lv_at hl 0 rfl) ?_
  refine lv_iload_n hx hb dJx4a65c_grow_92f84_21 rfl (lv_at hl 2 rfl) ?_
  refine lv_iload_n hx hb dJx4a65c_grow_92f84_22 rfl (lv_at hl 0 rfl) ?_
  refine lv_isub hx hb dJx4a65c_grow_92f84_23 ?_
  refine lv_iload_n hx hb dJx4a65c_grow_92f84_24 rfl (lv_at hl 0 rfl) ?_
  refine lv_iconst (v := 1) hx hb dJx4a65c_grow_92f84_25 (by decide) ?_
  refine lv_ishr hx hb dJx4a65c_grow_92f84_26 ?_
  have es : nI n >>> ((1 : Int32) &&& 31) = nI (n / 2) := by
    have k := pk_shrN (n := n) (by omega) ((1 : Int32) &&& 31) 1 (by decide)
    rw [Nat.pow_one] at k
    exact k
  have ed : nI (n + 1) - nI n = nI 1 := by
    have k := pk_sub (a := n + 1) (b := n) (by omega)
    rw [Nat.add_sub_cancel_left] at k
    exact k
  rw [es, ed]
  have eN : n + (if 1 < n / 2 then n / 2 else 1) = capG n := by unfold capG; rw [if_pos (by omega)]
  refine jgoV (r := some (.int (nI (n + (if 1 < n / 2 then n / 2 else 1))))) (va_runS (As := [.int (nI n), .int (nI 1), .int (nI (n / 2))]) (rest := []) ⟨hx, hb, hml, hown, hT⟩ (jNewLength (D := D) n 1 (n / 2) (by omega) (by rw [eN]; omega) (by omega) (by omega) (by omega)) (va_cwS 3 hT (goodS9 ml_Jx4a65c_73 sm_J8_newLength_cabcc in_J8 cd_J8_newLength_cabcc) rfl rfl rfl (by decide +kernel) ⟨Nat.le_of_ble_eq_true rfl, Nat.le_of_ble_eq_true rfl⟩) ⟨jblind (PH := fun _ => True), fun U hU hW => ⟨rfl, trivial, Kst.warm hW hK⟩⟩ rfl rfl hl.1 rfl (lv_room (Nat.le_of_ble_eq_true rfl)) dJx4a65c_grow_92f84_27 ⟨Nat.zero_le _, Nat.zero_le _⟩) (fun st v t hq => ⟨Outcome.returned.inj hq.1, hq.2⟩) ?_
  rw [eN]
  refine lv_istore_n (lv' := [(3, .int (nI (capG n))), (2, .int (nI n)), (0, .ref a), (1, .int (nI (n + 1)))]) hx hb dJx4a65c_grow_92f84_30 rfl hl (by decide) rfl (fun ls hl => ?_)
  refine lv_aload_n hx hb dJx4a65c_grow_92f84_31 rfl (lv_at hl 2 rfl) ?_
  refine lv_aload_n hx hb dJx4a65c_grow_92f84_32 rfl (lv_at hl 2 rfl) ?_
  refine va_get (D := D.1) (ci := 10) (v := .ref d) (C := RJx4a65c) (T := TJx4a65c) (N := 3) hx hb hT alW hown hK.1 hP 0 rfl rfl 1 (by decide) (hT _ fl_Jx4a65c_9) (fun _ h => h) rfl dJx4a65c_grow_92f84_33 ?_
  refine lv_iload_n hx hb dJx4a65c_grow_92f84_36 rfl (lv_at hl 0 rfl) ?_
  refine jgo (A0 := jA a d s.heap.size) (va_runS (As := [.ref d, .int (nI (capG n))]) (rest := [.ref a]) ⟨hx, hb, hml, hown, hT⟩ (jCopy2 (D := D) d n (capG n) s.heap.size f (by unfold capG; omega) hcap) (va_cwS 2 hT (goodS9 ml_Jx4a65c_66 sm_J7_copyOf_1904c in_J7 cd_J7_copyOf_1904c) rfl rfl rfl (by decide +kernel) ⟨Nat.le_of_ble_eq_true rfl, Nat.le_of_ble_eq_true rfl⟩) ⟨fun a U g mk q => ⟨q.1, ⟨q.2.1.1, q.2.1.2.1, fun i hi y hy => ⟨Any_same (q.2.1.2.2 i hi y hy).1, (q.2.1.2.2 i hi y hy).2⟩⟩, Kst.same (s := U) (U := U.calling g mk a) rfl q.2.2⟩, fun U hU hW => ⟨rfl, ⟨by rw [hU], by rw [hU]; exact hP.sub [1] rfl, fun i hi y hy => ⟨Any_warm hW hU (hAny i hi y hy).1, (hAny i hi y hy).2.1⟩⟩, Kst.warm hW hK⟩⟩ rfl rfl hl.1 rfl (lv_room (Nat.le_of_ble_eq_true rfl)) dJx4a65c_grow_92f84_37 ⟨Nat.le_refl _, Nat.le_of_eq (Nat.zero_add _)⟩) hS (fun q h => h.elim (fun z => Or.inr (Or.inl z)) (fun z => Or.inr (Or.inr z))) (fun st v t h0 hq => by obtain ⟨q, -, hn⟩ := hq; exact hn.F) (fun v st t H1 locs1 h0 ht hq hS1 => ?_)
  obtain ⟨q, hv, n1, n2, n3, n4⟩ := hq
  cases hv
  rw [h0] at n2 n3 n4
  rw [ht] at n1 n3 n4
  have hP : va_P D.1 cls [lO a d m (nI n), lA D q (capG n) (elG n f)] H1 := fun k x hk => by
    match k, hk with
    | 0, hk => simp at hk; subst hk; exact va_at.kept (hP 0 _ rfl) (n4 a hal)
    | 1, hk => simp at hk; subst hk; exact n1
    | _ + 2, hk => simp at hk
  have hD : va_D (jA a d s.heap.size) [lO a d m (nI n), lA D q (capG n) (elG n f)] := D2 (by omega) (Or.inl rfl) (Or.inr (Or.inr n2))
  have hS := hS1
  refine lv_dup_x1 hx hb dJx4a65c_grow_92f84_40 rfl rfl ?_
  refine va_put (D := D.1) (ci := 10) (v := .ref q) (ty := .array (.object bO)) (C := RJx4a65c) (T := TJx4a65c) (N := 3) hx hb hT alW tyJx4a65c tyJx4a65c_ok nmJx4a65c hown hK.1 hP hD hS 0 rfl rfl 1 (by decide) (hT _ fl_Jx4a65c_9) (fun _ h => h) rfl (by decide +kernel) rfl rfl (Nat.le_of_ble_eq_true rfl) dJx4a65c_grow_92f84_41 (fun H locs hP hD hS => ?_)
  refine W.widen (k := 1) (n := capG n) (Nat.le_refl _) (by omega) ?_
  exact W.aret hx hb hr (Or.inr ⟨_, rfl⟩) (Or.inr ⟨_, rfl⟩) (fun t9 ht9 hW => ⟨q, rfl, n2, by rw [ht9]; exact hP, hS.F ht9⟩) hS.2.2 dJx4a65c_grow_92f84_44 hlk

theorem jGrow1E (a sz : Nat) (m : Int32) (had : a ≠ D.2.2.1) : Met l yJx4a65c_grow_92f84 (Cond.code yJx4a65c_grow_92f84 cJx4a65c_grow_92f84 4 (some (.array (.object "java/lang/Object"))) :: TW) { frames := 3, cells := 1, slots := 10, locals := 192 } (va_Pc [.ref a, .int 1] (fun U => (U.heap.size = sz ∧ va_P D.1 cls [lO a D.2.2.1 m 0] U.heap ∧ stE D (jA a a sz) U) ∧ Kst D U)) (fun _ st oc t => ∃ q, oc = .returned (some (.ref q)) ∧ sz ≤ q ∧ va_P D.1 cls [lO a q m 0, lA D q 10 (fun _ => none)] t.heap ∧ va_F (jA a a sz) st t) 1 10 (jA a a sz) := by
  refine jHead (by decide) (Nat.le_of_ble_eq_true rfl) ?_
  intro p e s m' below meth c ls hx hb hr hlk hml hown hT hnm hpre hl
  obtain ⟨⟨hsz, hP, hE⟩, hK⟩ := hpre
  subst hsz
  have hD : va_D (jA a a s.heap.size) [lO a D.2.2.1 m 0] := D1 (Or.inl rfl)
  have hS : va_S (jA a a s.heap.size) s.heap s.heap [] := va_S.rf
  have hal : a < s.heap.size := vx_lt hP (k := 0) rfl
  refine lv_aload_n hx hb dJx4a65c_grow_92f84_0 rfl (lv_at hl 0 rfl) ?_
  refine va_get (D := D.1) (ci := 10) (v := .ref D.2.2.1) (C := RJx4a65c) (T := TJx4a65c) (N := 3) hx hb hT alW hown hK.1 hP 0 rfl rfl 1 (by decide) (hT _ fl_Jx4a65c_9) (fun _ h => h) rfl dJx4a65c_grow_92f84_1 ?_
  refine va_tlen hx hb hE.2 hS (v := 0) (by decide) dJx4a65c_grow_92f84_4 ?_
  refine lv_istore_n (lv' := [(2, .int 0), (0, .ref a), (1, .int 1)]) hx hb dJx4a65c_grow_92f84_5 rfl hl (by decide) rfl (fun ls hl => ?_)
  refine lv_iload_n hx hb dJx4a65c_grow_92f84_6 rfl (lv_at hl 0 rfl) ?_
  refine lv_if_gt (tgt := 20) hx hb dJx4a65c_grow_92f84_7 (by decide) (fun z => absurd z (by decide)) (fun _ => ?_)
  refine lv_aload_n hx hb dJx4a65c_grow_92f84_10 rfl (lv_at hl 1 rfl) ?_
  refine va_get (D := D.1) (ci := 10) (v := .ref D.2.2.1) (C := RJx4a65c) (T := TJx4a65c) (N := 3) hx hb hT alW hown hK.1 hP 0 rfl rfl 1 (by decide) (hT _ fl_Jx4a65c_9) (fun _ h => h) rfl dJx4a65c_grow_92f84_11 ?_
  refine va_gets hx hb hE.1 hS hown (hT _ fl_Jx4a65c_39) (fun _ q => q) dJx4a65c_grow_92f84_14 ?_
  refine lv_acmp_eq (rx := some D.2.2.1) (ry := some D.2.2.1) (tgt := 45) hx hb dJx4a65c_grow_92f84_17 (by decide) (fun _ => ?_) (fun z => absurd rfl z)
  refine lv_aload_n hx hb dJx4a65c_grow_92f84_45 rfl (lv_at hl 1 rfl) ?_
  refine lv_bipush (v := 10) hx hb dJx4a65c_grow_92f84_46 (by decide) ?_
  refine lv_iload_n hx hb dJx4a65c_grow_92f84_48 rfl (lv_at hl 2 rfl) ?_
  refine va_mmax hx hb (hml.trans hl.1.symm) hown (hT _ ml_Jx4a65c_79) (hT _ sm_J9_max_7cf53) (hT _ in_J9) (hT _ cd_J9_max_7cf53) (Nat.le_of_ble_eq_true rfl) (Nat.le_of_ble_eq_true rfl) (Nat.zero_le _) (Nat.zero_le _) dJx4a65c_grow_92f84_49 ?_
  rw [if_neg (by decide)]
  refine W.anew hx hb hown (hT _ kl_Jx4a65c_7) (va_AO.use hK.2.2.2.2.1) rfl dJx4a65c_grow_92f84_52 rfl (by decide) (by decide) (Nat.le_of_ble_eq_true rfl) (Nat.le_of_ble_eq_true rfl) fun cA kA9 comp f1 f2 f3 f4 => ?_
  have hRA := (hK.1.2 7 _ (tys_at D (by decide))).2
  have hcA : cA = D.2.1 7 := by obtain ⟨a1, a2, a3, a4, a5, a6⟩ := hRA; exact Option.some.inj (f1.symm.trans a6)
  subst hcA
  have h10 : (10 : Int32).toNatClampNeg = 10 := by decide
  rw [h10]
  generalize hH1 : s.heap.push ({ cls := D.2.1 7, slots := Array.replicate 10 .null, vm := .none } : Cell) = H1
  have z1 : H1.size = s.heap.size + 1 := by rw [← hH1, Array.size_push]
  have e1 : H1[s.heap.size]? = some (vp_cell (D.2.1 7) (10, .inr (.inr (.inr (.inr (fun _ => none)))))) := by rw [← hH1, Array.getElem?_push_size, vp_cell_q, arrV_new]; rfl
  have o1 : ∀ q : Nat, q < s.heap.size → H1[q]? = s.heap[q]? := fun q hq => by rw [← hH1, Array.getElem?_push, if_neg (Nat.ne_of_lt hq)]
  have hP : va_P D.1 cls [lO a D.2.2.1 m 0, lA D s.heap.size 10 (fun _ => none)] H1 := fun k x hk => by
    match k, hk with
    | 0, hk => simp at hk; subst hk; exact va_at.kept (hP 0 _ rfl) (o1 a hal)
    | 1, hk => simp at hk; subst hk; exact e1
    | _ + 2, hk => simp at hk
  have hD : va_D (jA a a s.heap.size) [lO a D.2.2.1 m 0, lA D s.heap.size 10 (fun _ => none)] := D2 (by omega) (Or.inl rfl) (Or.inr (Or.inr (Nat.le_refl _)))
  have hS : va_S (jA a a s.heap.size) s.heap H1 [] := ⟨by omega, fun q h1 _ => o1 q h1, fun _ h => by cases h⟩
  refine lv_dup_x1 hx hb dJx4a65c_grow_92f84_55 rfl rfl ?_
  refine va_put (D := D.1) (ci := 10) (v := .ref s.heap.size) (ty := .array (.object bO)) (C := RJx4a65c) (T := TJx4a65c) (N := 3) hx hb hT alW tyJx4a65c tyJx4a65c_ok nmJx4a65c hown hK.1 hP hD hS 0 rfl rfl 1 (by decide) (hT _ fl_Jx4a65c_9) (fun _ h => h) rfl (by decide +kernel) rfl rfl (Nat.le_of_ble_eq_true rfl) dJx4a65c_grow_92f84_56 (fun H locs hP hD hS => ?_)
  refine W.widen (k := 1) (n := 10) (Nat.le_refl _) (Nat.le_refl _) ?_
  exact W.aret hx hb hr (Or.inr ⟨_, rfl⟩) (Or.inr ⟨_, rfl⟩) (fun t9 ht9 hW => ⟨s.heap.size, rfl, Nat.le_refl _, by rw [ht9]; exact hP, hS.F ht9⟩) hS.2.2 dJx4a65c_grow_92f84_59 hlk

theorem jGrow0G (a d n sz : Nat) (m : Int32) (f : Nat → Option Nat) (h2 : 10 ≤ n) (hn : n ≤ 450) (had : a ≠ d) : Met l yJx4a65c_grow_d5877 (Cond.code yJx4a65c_grow_d5877 cJx4a65c_grow_d5877 1 (some (.array (.object "java/lang/Object"))) :: TW) { frames := 4, cells := 1, slots := capG n, locals := 256 } (va_Pc [.ref a] (fun U => (U.heap.size = sz ∧ va_P D.1 cls [lO a d m (nI n), lA D d n f] U.heap ∧ (∀ i, i < n → ∀ y, f i = some y → va_Any bO U U.heap y ∧ y < sz ∧ y ≠ a)) ∧ Kst D U)) (fun _ st oc t => ∃ q, oc = .returned (some (.ref q)) ∧ sz ≤ q ∧ va_P D.1 cls [lO a q m (nI n), lA D q (capG n) (elG n f)] t.heap ∧ va_F (jA a d sz) st t) 1 (capG n) (jA a d sz) := by
  refine jHead (by decide) (Nat.le_of_ble_eq_true rfl) ?_
  intro p e s m' below meth c ls hx hb hr hlk hml hown hT hnm hpre hl
  obtain ⟨⟨hsz, hP, hAny⟩, hK⟩ := hpre
  subst hsz
  have hS : va_S (jA a d s.heap.size) s.heap s.heap [] := va_S.rf
  refine lv_aload_n hx hb dJx4a65c_grow_d5877_0 rfl (lv_at hl 0 rfl) ?_
  refine lv_aload_n hx hb dJx4a65c_grow_d5877_1 rfl (lv_at hl 0 rfl) ?_
  refine va_get (D := D.1) (ci := 10) (v := .int (nI n)) (C := RJx4a65c) (T := TJx4a65c) (N := 3) hx hb hT alW hown hK.1 hP 0 rfl rfl 2 (by decide) (hT _ fl_Jx4a65c_48) (fun _ h => h) rfl dJx4a65c_grow_d5877_2 ?_
  refine lv_iconst (v := 1) hx hb dJx4a65c_grow_d5877_5 (by decide) ?_
  refine lv_iadd hx hb dJx4a65c_grow_d5877_6 ?_
  rw [nI_1 n]
  refine jgo (A0 := jA a d s.heap.size) (va_runV (As := [.int (nI (n + 1))]) (b := a) (rest := []) (C := RJx4a65c) ⟨hx, hb, hml, hown, hT⟩ (jGrow1G (D := D) a d n s.heap.size m f h2 hn had) (cwV 1 hT (goodV9 ml_Jx4a65c_69 im_Jx4a65c_grow_92f84 se_Jx4a65c_grow_92f84 in_Jx4a65c cd_Jx4a65c_grow_92f84) rfl rfl rfl (by decide +kernel) ⟨Nat.le_of_ble_eq_true rfl, Nat.le_of_ble_eq_true rfl⟩) ⟨fun a U g mk q => ⟨q.1, ⟨q.2.1.1, q.2.1.2.1, fun i hi y hy => ⟨Any_same (q.2.1.2.2 i hi y hy).1, (q.2.1.2.2 i hi y hy).2⟩⟩, Kst.same (s := U) (U := U.calling g mk a) rfl q.2.2⟩, va_recv hK.1 hP (ci := 10) (q0 := 0) rfl rfl, fun U hU hW => ⟨rfl, ⟨by rw [hU], by rw [hU]; exact hP, fun i hi y hy => ⟨Any_warm hW hU (hAny i hi y hy).1, (hAny i hi y hy).2⟩⟩, Kst.warm hW hK⟩⟩ rfl rfl hl.1 rfl (lv_room (Nat.le_of_ble_eq_true rfl)) dJx4a65c_grow_d5877_7 ⟨Nat.le_refl _, Nat.le_of_eq (Nat.zero_add _)⟩) hS (fun q h => h) (fun st v t h0 hq => by obtain ⟨q, -, -, -, hn⟩ := hq; exact hn) (fun v st t H1 locs1 h0 ht hq hS1 => ?_)
  obtain ⟨q, hv, n1, n2, n3⟩ := hq
  cases hv
  refine W.widen (k := 1) (n := capG n) (Nat.le_refl _) (Nat.le_of_eq (Nat.zero_add _)) ?_
  exact W.aret hx hb hr (Or.inr ⟨_, rfl⟩) (Or.inr ⟨_, rfl⟩) (fun t9 ht9 hW => ⟨q, rfl, n1, by rw [ht9, ← ht]; exact n2, hS1.F ht9⟩) hS1.2.2 dJx4a65c_grow_d5877_10 hlk

theorem jGrow0E (a sz : Nat) (m : Int32) (had : a ≠ D.2.2.1) : Met l yJx4a65c_grow_d5877 (Cond.code yJx4a65c_grow_d5877 cJx4a65c_grow_d5877 1 (some (.array (.object "java/lang/Object"))) :: TW) { frames := 4, cells := 1, slots := 10, locals := 256 } (va_Pc [.ref a] (fun U => (U.heap.size = sz ∧ va_P D.1 cls [lO a D.2.2.1 m 0] U.heap ∧ stE D (jA a a sz) U) ∧ Kst D U)) (fun _ st oc t => ∃ q, oc = .returned (some (.ref q)) ∧ sz ≤ q ∧ va_P D.1 cls [lO a q m 0, lA D q 10 (fun _ => none)] t.heap ∧ va_F (jA a a sz) st t) 1 (10) (jA a a sz) := by
  refine jHead (by decide) (Nat.le_of_ble_eq_true rfl) ?_
  intro p e s m' below meth c ls hx hb hr hlk hml hown hT hnm hpre hl
  obtain ⟨⟨hsz, hP, hAny⟩, hK⟩ := hpre
  subst hsz
  have hS : va_S (jA a a s.heap.size) s.heap s.heap [] := va_S.rf
  refine lv_aload_n hx hb dJx4a65c_grow_d5877_0 rfl (lv_at hl 0 rfl) ?_
  refine lv_aload_n hx hb dJx4a65c_grow_d5877_1 rfl (lv_at hl 0 rfl) ?_
  refine va_get (D := D.1) (ci := 10) (v := .int (0)) (C := RJx4a65c) (T := TJx4a65c) (N := 3) hx hb hT alW hown hK.1 hP 0 rfl rfl 2 (by decide) (hT _ fl_Jx4a65c_48) (fun _ h => h) rfl dJx4a65c_grow_d5877_2 ?_
  refine lv_iconst (v := 1) hx hb dJx4a65c_grow_d5877_5 (by decide) ?_
  refine lv_iadd hx hb dJx4a65c_grow_d5877_6 ?_
  rw [(by decide : (0 : Int32) + 1 = 1)]
  refine jgo (A0 := jA a a s.heap.size) (va_runV (As := [.int (1)]) (b := a) (rest := []) (C := RJx4a65c) ⟨hx, hb, hml, hown, hT⟩ (jGrow1E (D := D) a s.heap.size m had) (cwV 1 hT (goodV9 ml_Jx4a65c_69 im_Jx4a65c_grow_92f84 se_Jx4a65c_grow_92f84 in_Jx4a65c cd_Jx4a65c_grow_92f84) rfl rfl rfl (by decide +kernel) ⟨Nat.le_of_ble_eq_true rfl, Nat.le_of_ble_eq_true rfl⟩) ⟨fun a U g mk q => ⟨q.1, ⟨q.2.1.1, q.2.1.2.1, q.2.1.2.2.same rfl rfl⟩, Kst.same (s := U) (U := U.calling g mk a) rfl q.2.2⟩, va_recv hK.1 hP (ci := 10) (q0 := 0) rfl rfl, fun U hU hW => ⟨rfl, ⟨by rw [hU], by rw [hU]; exact hP, hAny.on hS hW hU (fun _ z => z)⟩, Kst.warm hW hK⟩⟩ rfl rfl hl.1 rfl (lv_room (Nat.le_of_ble_eq_true rfl)) dJx4a65c_grow_d5877_7 ⟨Nat.le_refl _, Nat.le_of_eq (Nat.zero_add _)⟩) hS (fun q h => h) (fun st v t h0 hq => by obtain ⟨q, -, -, -, hn⟩ := hq; exact hn) (fun v st t H1 locs1 h0 ht hq hS1 => ?_)
  obtain ⟨q, hv, n1, n2, n3⟩ := hq
  cases hv
  refine W.widen (k := 1) (n := 10) (Nat.le_refl _) (Nat.le_of_eq (Nat.zero_add _)) ?_
  exact W.aret hx hb hr (Or.inr ⟨_, rfl⟩) (Or.inr ⟨_, rfl⟩) (fun t9 ht9 hW => ⟨q, rfl, n1, by rw [ht9, ← ht]; exact n2, hS1.F ht9⟩) hS1.2.2 dJx4a65c_grow_d5877_10 hlk

end JN
