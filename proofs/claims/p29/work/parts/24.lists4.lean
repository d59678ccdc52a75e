section JO
variable {l : Launch} {D : DD}
theorem F_wk {A B : Nat → Prop} {s t : State} (h : va_F A s t) (hAB : ∀ q, A q → B q) : va_F B s t := ⟨h.1, fun q h1 h2 => h.2 q h1 (fun z => h2 (hAB q z))⟩
theorem jAdd3G (a d n v sz : Nat) (m : Int32) (f : Nat → Option Nat) (h2 : 10 ≤ n) (hn : n ≤ 450) (had : a ≠ d) (hvd : v ≠ d) : Met l yJx4a65c_add_72be8 (Cond.code yJx4a65c_add_72be8 cJx4a65c_add_72be8 4 none :: TW) { frames := 5, cells := 1, slots := capG n, locals := 320 } (va_Pc [.ref a, .ref v, .ref d, .int (nI n)] (fun U => (U.heap.size = sz ∧ va_P D.1 cls [lO a d m (nI n), lA D d n f] U.heap ∧ (va_Any bO U U.heap v ∧ v < sz ∧ v ≠ a) ∧ (∀ i, i < n → ∀ y, f i = some y → va_Any bO U U.heap y ∧ y < sz ∧ y ≠ a)) ∧ Kst D U)) (fun _ st oc t => ∃ q, oc = .returned none ∧ (q = d ∨ sz ≤ q) ∧ q ≠ a ∧ va_P D.1 cls [lO a q m (nI (n + 1)), lA D q (capG n) (va_up (elG n f) n (some v))] t.heap ∧ va_F (jA a d sz) st t) 1 (capG n) (jA a d sz) := by
  refine jHead (by decide) (Nat.le_of_ble_eq_true rfl) ?_
  intro p e s m' below meth c ls hx hb hr hlk hml hown hT hnm hpre hl
  obtain ⟨⟨hsz, hP, hV, hE⟩, hK⟩ := hpre
  subst hsz
  have hS : va_S (jA a d s.heap.size) s.heap s.heap [] := va_S.rf
  have hal : a < s.heap.size := vx_lt hP (k := 0) rfl
  refine lv_iload_n hx hb dJx4a65c_add_72be8_0 rfl (lv_at hl 3 rfl) ?_
  refine lv_aload_n hx hb dJx4a65c_add_72be8_1 rfl (lv_at hl 2 rfl) ?_
  refine va_alen hx hb hK.1 hP 1 7 rfl (tys_at D (by decide)) (v := nI n) rfl dJx4a65c_add_72be8_2 ?_
  refine lv_icmp_ne (tgt := 11) hx hb dJx4a65c_add_72be8_3 (by decide) (fun z => absurd rfl z) (fun _ => ?_)
  refine lv_aload_n hx hb dJx4a65c_add_72be8_6 rfl (lv_at hl 0 rfl) ?_
  refine jgo (A0 := jA a d s.heap.size) (va_runV (As := []) (b := a) (rest := []) (C := RJx4a65c) ⟨hx, hb, hml, hown, hT⟩ (jGrow0G (D := D) a d n s.heap.size m f h2 hn had) (cwV 0 hT (goodV9 ml_Jx4a65c_129 im_Jx4a65c_grow_d5877 se_Jx4a65c_grow_d5877 in_Jx4a65c cd_Jx4a65c_grow_d5877) rfl rfl rfl (by decide +kernel) ⟨Nat.le_of_ble_eq_true rfl, Nat.le_of_ble_eq_true rfl⟩) ⟨fun a U g mk q => ⟨q.1, ⟨q.2.1.1, q.2.1.2.1, fun i hi y hy => ⟨Any_same (q.2.1.2.2 i hi y hy).1, (q.2.1.2.2 i hi y hy).2⟩⟩, Kst.same (s := U) (U := U.calling g mk a) rfl q.2.2⟩, va_recv hK.1 hP (ci := 10) (q0 := 0) rfl rfl, fun U hU hW => ⟨rfl, ⟨by rw [hU], by rw [hU]; exact hP, fun i hi y hy => ⟨Any_warm hW hU (hE i hi y hy).1, (hE i hi y hy).2⟩⟩, Kst.warm hW hK⟩⟩ rfl rfl hl.1 rfl (lv_room (Nat.le_of_ble_eq_true rfl)) dJx4a65c_add_72be8_7 ⟨Nat.le_refl _, Nat.le_of_eq (Nat.zero_add _)⟩) hS (fun q h => h) (fun st v t h0 hq => by obtain ⟨q, -, -, -, hn⟩ := hq; exact hn) (fun v9 st t H1 locs1 h0 ht hq hS1 => ?_)
  obtain ⟨q, hv, n1, n2, n3⟩ := hq
  cases hv
  rw [ht] at n2
  have hqa : q ≠ a := (Nat.ne_of_lt (Nat.lt_of_lt_of_le hal n1)).symm
  have hP : va_P D.1 cls [lO a q m (nI n), lA D q (capG n) (elG n f)] H1 := n2
  have hD : va_D (jA a d s.heap.size) [lO a q m (nI n), lA D q (capG n) (elG n f)] := D2 (by omega) (Or.inl rfl) (Or.inr (Or.inr n1))
  have hS := hS1
  have hV9 : va_Any bO s H1 v := hV.1.kept (Vm.Alike.refl _) (hS.2.1 v hV.2.1 (fun z => by rcases z with z | z | z <;> omega))
  refine lv_astore_n (lv' := [(2, .ref q), (0, .ref a), (1, .ref v), (3, .int (nI n))]) hx hb dJx4a65c_add_72be8_10 rfl hl (by decide) rfl (fun ls hl => ?_)
  refine lv_aload_n hx hb dJx4a65c_add_72be8_11 rfl (lv_at hl 0 rfl) ?_
  refine lv_iload_n hx hb dJx4a65c_add_72be8_12 rfl (lv_at hl 3 rfl) ?_
  refine lv_aload_n hx hb dJx4a65c_add_72be8_13 rfl (lv_at hl 2 rfl) ?_
  refine va_astqM hx hb hK.1 hP hD hS 1 7 (E := bO) rfl (tys_at D (by decide)) hV9 (vp_in_nI (show n < capG n by unfold capG; omega) (by unfold capG; omega)) dJx4a65c_add_72be8_14 (fun H2 locs2 hP hD hS => ?_)
  rw [(nI_clamp (show n < 2 ^ 31 by omega) : (nI n).toNatClampNeg = n)] at hP hD
  refine lv_aload_n hx hb dJx4a65c_add_72be8_15 rfl (lv_at hl 1 rfl) ?_
  refine lv_iload_n hx hb dJx4a65c_add_72be8_16 rfl (lv_at hl 3 rfl) ?_
  refine lv_iconst (v := 1) hx hb dJx4a65c_add_72be8_17 (by decide) ?_
  refine lv_iadd hx hb dJx4a65c_add_72be8_18 ?_
  rw [nI_1 n]
  refine va_put (D := D.1) (ci := 10) (v := .int (nI (n + 1))) (ty := .int) (C := RJx4a65c) (T := TJx4a65c) (N := 3) hx hb hT alW tyJx4a65c tyJx4a65c_ok nmJx4a65c hown hK.1 hP hD hS 0 rfl rfl 2 (by decide) (hT _ fl_Jx4a65c_48) (fun _ h => h) rfl (by decide +kernel) rfl rfl (Nat.le_of_ble_eq_true rfl) dJx4a65c_add_72be8_19 (fun H locs hP hD hS => ?_)
  refine W.widen (k := 1) (n := capG n) (Nat.le_refl _) (Nat.le_of_eq (by first | rfl | exact Nat.zero_add _)) ?_
  exact W.vret hx hb hr (fun t9 ht9 hW => ⟨q, rfl, Or.inr n1, hqa, by rw [ht9]; exact hP, hS.F ht9⟩) hS.2.2 dJx4a65c_add_72be8_22 hlk
theorem jAdd3E (a v sz : Nat) (m : Int32) (had : a ≠ D.2.2.1) : Met l yJx4a65c_add_72be8 (Cond.code yJx4a65c_add_72be8 cJx4a65c_add_72be8 4 none :: TW) { frames := 5, cells := 1, slots := 10, locals := 320 } (va_Pc [.ref a, .ref v, .ref D.2.2.1, .int (0)] (fun U => (U.heap.size = sz ∧ va_P D.1 cls [lO a D.2.2.1 m 0] U.heap ∧ (va_Any bO U U.heap v ∧ v < sz ∧ v ≠ a) ∧ stE D (jA a a sz) U) ∧ Kst D U)) (fun _ st oc t => ∃ q, oc = .returned none ∧ (sz ≤ q) ∧ q ≠ a ∧ va_P D.1 cls [lO a q m (1), lA D q (10) (va_up (fun _ => none) 0 (some v))] t.heap ∧ va_F (jA a a sz) st t) 1 (10) (jA a a sz) := by
  refine jHead (by decide) (Nat.le_of_ble_eq_true rfl) ?_
  intro p e s m' below meth c ls hx hb hr hlk hml hown hT hnm hpre hl
  obtain ⟨⟨hsz, hP, hV, hE⟩, hK⟩ := hpre
  subst hsz
  have hS : va_S (jA a a s.heap.size) s.heap s.heap [] := va_S.rf
  have hal : a < s.heap.size := vx_lt hP (k := 0) rfl
  refine lv_iload_n hx hb dJx4a65c_add_72be8_0 rfl (lv_at hl 3 rfl) ?_
  refine lv_aload_n hx hb dJx4a65c_add_72be8_1 rfl (lv_at hl 2 rfl) ?_
  refine va_tlen hx hb hE.2 hS (v := 0) (by decide) dJx4a65c_add_72be8_2 ?_
  refine lv_icmp_ne (tgt := 11) hx hb dJx4a65c_add_72be8_3 (by decide) (fun z => absurd rfl z) (fun _ => ?_)
  refine lv_aload_n hx hb dJx4a65c_add_72be8_6 rfl (lv_at hl 0 rfl) ?_
  refine jgo (A0 := jA a a s.heap.size) (va_runV (As := []) (b := a) (rest := []) (C := RJx4a65c) ⟨hx, hb, hml, hown, hT⟩ (jGrow0E (D := D) a s.heap.size m had) (cwV 0 hT (goodV9 ml_Jx4a65c_129 im_Jx4a65c_grow_d5877 se_Jx4a65c_grow_d5877 in_Jx4a65c cd_Jx4a65c_grow_d5877) rfl rfl rfl (by decide +kernel) ⟨Nat.le_of_ble_eq_true rfl, Nat.le_of_ble_eq_true rfl⟩) ⟨fun a U g mk q => ⟨q.1, ⟨q.2.1.1, q.2.1.2.1, q.2.1.2.2.same rfl rfl⟩, Kst.same (s := U) (U := U.calling g mk a) rfl q.2.2⟩, va_recv hK.1 hP (ci := 10) (q0 := 0) rfl rfl, fun U hU hW => ⟨rfl, ⟨by rw [hU], by rw [hU]; exact hP, hE.on hS hW hU (fun _ z => z)⟩, Kst.warm hW hK⟩⟩ rfl rfl hl.1 rfl (lv_room (Nat.le_of_ble_eq_true rfl)) dJx4a65c_add_72be8_7 ⟨Nat.le_refl _, Nat.le_of_eq (Nat.zero_add _)⟩) hS (fun q h => h) (fun st v t h0 hq => by obtain ⟨q, -, -, -, hn⟩ := hq; exact hn) (fun v9 st t H1 locs1 h0 ht hq hS1 => ?_)
  obtain ⟨q, hv, n1, n2, n3⟩ := hq
  cases hv
  rw [ht] at n2
  have hqa : q ≠ a := (Nat.ne_of_lt (Nat.lt_of_lt_of_le hal n1)).symm
  have hP : va_P D.1 cls [lO a q m (0), lA D q (10) (fun _ => none)] H1 := n2
  have hD : va_D (jA a a s.heap.size) [lO a q m (0), lA D q (10) (fun _ => none)] := D2 (by omega) (Or.inl rfl) (Or.inr (Or.inr n1))
  have hS := hS1
  have hV9 : va_Any bO s H1 v := hV.1.kept (Vm.Alike.refl _) (hS.2.1 v hV.2.1 (fun z => by rcases z with z | z | z <;> omega))
  refine lv_astore_n (lv' := [(2, .ref q), (0, .ref a), (1, .ref v), (3, .int (0))]) hx hb dJx4a65c_add_72be8_10 rfl hl (by decide) rfl (fun ls hl => ?_)
  refine lv_aload_n hx hb dJx4a65c_add_72be8_11 rfl (lv_at hl 0 rfl) ?_
  refine lv_iload_n hx hb dJx4a65c_add_72be8_12 rfl (lv_at hl 3 rfl) ?_
  refine lv_aload_n hx hb dJx4a65c_add_72be8_13 rfl (lv_at hl 2 rfl) ?_
  refine va_astqM hx hb hK.1 hP hD hS 1 7 (E := bO) rfl (tys_at D (by decide)) hV9 ((by unfold vp_in; decide)) dJx4a65c_add_72be8_14 (fun H2 locs2 hP hD hS => ?_)
  rw [(by decide : (0 : Int32).toNatClampNeg = 0)] at hP hD
  refine lv_aload_n hx hb dJx4a65c_add_72be8_15 rfl (lv_at hl 1 rfl) ?_
  refine lv_iload_n hx hb dJx4a65c_add_72be8_16 rfl (lv_at hl 3 rfl) ?_
  refine lv_iconst (v := 1) hx hb dJx4a65c_add_72be8_17 (by decide) ?_
  refine lv_iadd hx hb dJx4a65c_add_72be8_18 ?_
  rw [(by decide : (0 : Int32) + 1 = 1)]
  refine va_put (D := D.1) (ci := 10) (v := .int (1)) (ty := .int) (C := RJx4a65c) (T := TJx4a65c) (N := 3) hx hb hT alW tyJx4a65c tyJx4a65c_ok nmJx4a65c hown hK.1 hP hD hS 0 rfl rfl 2 (by decide) (hT _ fl_Jx4a65c_48) (fun _ h => h) rfl (by decide +kernel) rfl rfl (Nat.le_of_ble_eq_true rfl) dJx4a65c_add_72be8_19 (fun H locs hP hD hS => ?_)
  refine W.widen (k := 1) (n := 10) (Nat.le_refl _) (Nat.le_of_eq (by first | rfl | exact Nat.zero_add _)) ?_
  exact W.vret hx hb hr (fun t9 ht9 hW => ⟨q, rfl, n1, hqa, by rw [ht9]; exact hP, hS.F ht9⟩) hS.2.2 dJx4a65c_add_72be8_22 hlk
theorem jAdd3R (a d n cap v sz : Nat) (m : Int32) (f : Nat → Option Nat) (hn : n < cap) (hc : cap ≤ 700) (had : a ≠ d) (hvd : v ≠ d) : Met l yJx4a65c_add_72be8 (Cond.code yJx4a65c_add_72be8 cJx4a65c_add_72be8 4 none :: TW) { frames := 5, cells := 0, slots := 0, locals := 320 } (va_Pc [.ref a, .ref v, .ref d, .int (nI n)] (fun U => (U.heap.size = sz ∧ va_P D.1 cls [lO a d m (nI n), lA D d cap f] U.heap ∧ (va_Any bO U U.heap v ∧ v < sz ∧ v ≠ a) ∧ True) ∧ Kst D U)) (fun _ st oc t => ∃ q, oc = .returned none ∧ (q = d ∨ sz ≤ q) ∧ q ≠ a ∧ va_P D.1 cls [lO a q m (nI (n + 1)), lA D q (cap) (va_up f n (some v))] t.heap ∧ va_F (jA a d sz) st t) 0 (0) (jA a d sz) := by
  refine jHead (by decide) (Nat.le_of_ble_eq_true rfl) ?_
  intro p e s m' below meth c ls hx hb hr hlk hml hown hT hnm hpre hl
  obtain ⟨⟨hsz, hP, hV, hE⟩, hK⟩ := hpre
  subst hsz
  have hS : va_S (jA a d s.heap.size) s.heap s.heap [] := va_S.rf
  have hal : a < s.heap.size := vx_lt hP (k := 0) rfl
  refine lv_iload_n hx hb dJx4a65c_add_72be8_0 rfl (lv_at hl 3 rfl) ?_
  refine lv_aload_n hx hb dJx4a65c_add_72be8_1 rfl (lv_at hl 2 rfl) ?_
  have hD : va_D (jA a d s.heap.size) [lO a d m (nI n), lA D d cap f] := D2 had (Or.inl rfl) (Or.inr (Or.inl rfl))
  refine va_alen hx hb hK.1 hP 1 7 rfl (tys_at D (by decide)) (v := nI cap) rfl dJx4a65c_add_72be8_2 ?_
  refine lv_icmp_ne (tgt := 11) hx hb dJx4a65c_add_72be8_3 (by decide) (fun _ => ?_) (fun z => absurd (by simpa using z) (fun z => absurd ((nI_eq (by omega) (by omega)).mp z) (by omega)))
  have hV9 : va_Any bO s s.heap v := hV.1
  refine lv_aload_n hx hb dJx4a65c_add_72be8_11 rfl (lv_at hl 2 rfl) ?_
  refine lv_iload_n hx hb dJx4a65c_add_72be8_12 rfl (lv_at hl 3 rfl) ?_
  refine lv_aload_n hx hb dJx4a65c_add_72be8_13 rfl (lv_at hl 1 rfl) ?_
  refine va_astqM hx hb hK.1 hP hD hS 1 7 (E := bO) rfl (tys_at D (by decide)) hV9 (vp_in_nI hn (by omega)) dJx4a65c_add_72be8_14 (fun H2 locs2 hP hD hS => ?_)
  rw [(nI_clamp (show n < 2 ^ 31 by omega) : (nI n).toNatClampNeg = n)] at hP hD
  refine lv_aload_n hx hb dJx4a65c_add_72be8_15 rfl (lv_at hl 0 rfl) ?_
  refine lv_iload_n hx hb dJx4a65c_add_72be8_16 rfl (lv_at hl 3 rfl) ?_
  refine lv_iconst (v := 1) hx hb dJx4a65c_add_72be8_17 (by decide) ?_
  refine lv_iadd hx hb dJx4a65c_add_72be8_18 ?_
  rw [nI_1 n]
  refine va_put (D := D.1) (ci := 10) (v := .int (nI (n + 1))) (ty := .int) (C := RJx4a65c) (T := TJx4a65c) (N := 3) hx hb hT alW tyJx4a65c tyJx4a65c_ok nmJx4a65c hown hK.1 hP hD hS 0 rfl rfl 2 (by decide) (hT _ fl_Jx4a65c_48) (fun _ h => h) rfl (by decide +kernel) rfl rfl (Nat.le_of_ble_eq_true rfl) dJx4a65c_add_72be8_19 (fun H locs hP hD hS => ?_)
  refine W.widen (k := 0) (n := 0) (Nat.le_refl _) (Nat.le_of_eq (by first | rfl | exact Nat.zero_add _)) ?_
  exact W.vret hx hb hr (fun t9 ht9 hW => ⟨d, rfl, Or.inl rfl, had.symm, by rw [ht9]; exact hP, hS.F ht9⟩) hS.2.2 dJx4a65c_add_72be8_22 hlk
theorem jAddG (a d n v sz : Nat) (m : Int32) (f : Nat → Option Nat) (h2 : 10 ≤ n) (hn : n ≤ 450) (had : a ≠ d) (hvd : v ≠ d) : Met l yJx4a65c_add_9ea2d (Cond.code yJx4a65c_add_9ea2d cJx4a65c_add_9ea2d 2 (some .boolean) :: TW) { frames := 6, cells := 1, slots := capG n, locals := 384 } (va_Pc [.ref a, .ref v] (fun U => (U.heap.size = sz ∧ va_P D.1 cls [lO a d m (nI n), lA D d n f] U.heap ∧ (va_Any bO U U.heap v ∧ v < sz ∧ v ≠ a) ∧ (∀ i, i < n → ∀ y, f i = some y → va_Any bO U U.heap y ∧ y < sz ∧ y ≠ a ∧ y ≠ d)) ∧ Kst D U)) (fun _ st oc t => ∃ q m9, oc = .returned (some (.int 1)) ∧ (q = d ∨ sz ≤ q) ∧ q ≠ a ∧ va_P D.1 cls [lO a q m9 (nI (n + 1)), lA D q (capG n) (va_up (elG n f) n (some v))] t.heap ∧ va_F (jA a d sz) st t) 1 (capG n) (jA a d sz) := by
  refine jHead (by decide) (Nat.le_of_ble_eq_true rfl) ?_
  intro p e s m' below meth c ls hx hb hr hlk hml hown hT hnm hpre hl
  obtain ⟨⟨hsz, hP, hV, hE⟩, hK⟩ := hpre
  subst hsz
  have hS : va_S (jA a d s.heap.size) s.heap s.heap [] := va_S.rf
  have hD : va_D (jA a d s.heap.size) [lO a d m (nI n), lA D d n f] := D2 had (Or.inl rfl) (Or.inr (Or.inl rfl))
  refine lv_aload_n hx hb dJx4a65c_add_9ea2d_0 rfl (lv_at hl 0 rfl) ?_
  refine lv_dup hx hb dJx4a65c_add_9ea2d_1 rfl ?_
  refine va_get (D := D.1) (ci := 10) (v := .int m) (C := RJx4a65c) (T := TJx4a65c) (N := 3) hx hb hT alW hown hK.1 hP 0 rfl rfl 0 (by decide) (hT _ fl_Jx4a65c_63) (fun _ h => u_same (hT _ sf_modCount) _ h) rfl dJx4a65c_add_9ea2d_2 ?_
  refine lv_iconst (v := 1) hx hb dJx4a65c_add_9ea2d_5 (by decide) ?_
  refine lv_iadd hx hb dJx4a65c_add_9ea2d_6 ?_
  refine lv_topi (fun m1 em1 => ?_)
  refine va_put (D := D.1) (ci := 10) (v := .int m1) (ty := .int) (C := RJx4a65c) (T := TJx4a65c) (N := 3) hx hb hT alW tyJx4a65c tyJx4a65c_ok nmJx4a65c hown hK.1 hP hD hS 0 rfl rfl 0 (by decide) (hT _ fl_Jx4a65c_63) (fun _ h => u_same (hT _ sf_modCount) _ h) rfl (by decide +kernel) rfl rfl (Nat.le_of_ble_eq_true rfl) dJx4a65c_add_9ea2d_7 (fun H locs hP hD hS => ?_)
  have hP : va_P D.1 cls [lO a d m1 (nI n), lA D d n f] H := hP
  have hsz1 : s.heap.size ≤ H.size := hS.1
  have hkeep : ∀ y, y < s.heap.size → y ≠ a → (y ≠ d ∨ d = a) → va_Any bO s s.heap y → va_Any bO s H y := fun y h1 h3 h4 h5 => h5.kept (Vm.Alike.refl _) (hS.2.1 y h1 (fun z => by rcases z with z | z | z <;> omega))
  refine lv_aload_n hx hb dJx4a65c_add_9ea2d_10 rfl (lv_at hl 0 rfl) ?_
  refine lv_aload_n hx hb dJx4a65c_add_9ea2d_11 rfl (lv_at hl 1 rfl) ?_
  refine lv_aload_n hx hb dJx4a65c_add_9ea2d_12 rfl (lv_at hl 0 rfl) ?_
  refine va_get (D := D.1) (ci := 10) (v := .ref d) (C := RJx4a65c) (T := TJx4a65c) (N := 3) hx hb hT alW hown hK.1 hP 0 rfl rfl 1 (by decide) (hT _ fl_Jx4a65c_9) (fun _ h => h) rfl dJx4a65c_add_9ea2d_13 ?_
  refine lv_aload_n hx hb dJx4a65c_add_9ea2d_16 rfl (lv_at hl 0 rfl) ?_
  refine va_get (D := D.1) (ci := 10) (v := .int (nI n)) (C := RJx4a65c) (T := TJx4a65c) (N := 3) hx hb hT alW hown hK.1 hP 0 rfl rfl 2 (by decide) (hT _ fl_Jx4a65c_48) (fun _ h => h) rfl dJx4a65c_add_9ea2d_17 ?_
  have hwk : ∀ q, jA a d H.size q → jA a d s.heap.size q := fun q z => by rcases z with z | z | z; exact Or.inl z; exact Or.inr (Or.inl z); exact Or.inr (Or.inr (Nat.le_trans hsz1 z))
  refine jgo (A0 := jA a d s.heap.size) (va_runV (As := [.ref v, .ref d, .int (nI n)]) (b := a) (rest := []) (C := RJx4a65c) ⟨hx, hb, hml, hown, hT⟩ (jAdd3G (D := D) a d n v H.size m1 f h2 hn had hvd) (cwV 3 hT (goodV9 ml_Jx4a65c_131 im_Jx4a65c_add_72be8 se_Jx4a65c_add_72be8 in_Jx4a65c cd_Jx4a65c_add_72be8) rfl rfl rfl (by decide +kernel) ⟨Nat.le_of_ble_eq_true rfl, Nat.le_of_ble_eq_true rfl⟩) ⟨fun a U g mk q => ⟨q.1, ⟨q.2.1.1, q.2.1.2.1, ⟨Any_same q.2.1.2.2.1.1, q.2.1.2.2.1.2⟩, fun i hi y hy => ⟨Any_same (q.2.1.2.2.2 i hi y hy).1, (q.2.1.2.2.2 i hi y hy).2⟩⟩, Kst.same (s := U) (U := U.calling g mk a) rfl q.2.2⟩, va_recv hK.1 hP (ci := 10) (q0 := 0) rfl rfl, fun U hU hW => ⟨rfl, ⟨by rw [hU], by rw [hU]; exact hP, ⟨Any_warm hW hU (hkeep v hV.2.1 hV.2.2 (Or.inl hvd) hV.1), Nat.lt_of_lt_of_le hV.2.1 hsz1, hV.2.2⟩, fun i hi y hy => ⟨(Any_warm hW hU (hkeep y (hE i hi y hy).2.1 (hE i hi y hy).2.2.1 (Or.inl (hE i hi y hy).2.2.2) (hE i hi y hy).1)), Nat.lt_of_lt_of_le (hE i hi y hy).2.1 hsz1, (hE i hi y hy).2.2.1⟩⟩, Kst.warm hW hK⟩⟩ rfl rfl hl.1 rfl (lv_room (Nat.le_of_ble_eq_true rfl)) dJx4a65c_add_9ea2d_20 ⟨Nat.le_refl _, Nat.le_of_eq (Nat.zero_add _)⟩) hS hwk (fun st v t h0 hq => by obtain ⟨q, -, -, -, -, hn⟩ := hq; exact F_wk hn hwk) (fun v9 st t H1 locs1 h0 ht hq hS1 => ?_)
  obtain ⟨q, hv, n1, n2, n3, n4⟩ := hq
  cases hv
  refine lv_iconst (v := 1) hx hb dJx4a65c_add_9ea2d_23 (by decide) ?_
  refine W.widen (k := 1) (n := capG n) (Nat.le_refl _) (Nat.le_of_eq (by first | rfl | exact Nat.zero_add _)) ?_
  exact W.zret hx hb hr rfl (fun t9 ht9 hW => ⟨q, m1, rfl, n1.imp_right (Nat.le_trans hsz1), n2, by rw [ht9, ← ht]; exact n3, hS1.F ht9⟩) hS1.2.2 dJx4a65c_add_9ea2d_24 hlk
theorem jAddE (a v sz : Nat) (m : Int32) (had : a ≠ D.2.2.1) : Met l yJx4a65c_add_9ea2d (Cond.code yJx4a65c_add_9ea2d cJx4a65c_add_9ea2d 2 (some .boolean) :: TW) { frames := 6, cells := 1, slots := 10, locals := 384 } (va_Pc [.ref a, .ref v] (fun U => (U.heap.size = sz ∧ va_P D.1 cls [lO a D.2.2.1 m 0] U.heap ∧ (va_Any bO U U.heap v ∧ v < sz ∧ v ≠ a) ∧ stE D (jA a a sz) U) ∧ Kst D U)) (fun _ st oc t => ∃ q m9, oc = .returned (some (.int 1)) ∧ (sz ≤ q) ∧ q ≠ a ∧ va_P D.1 cls [lO a q m9 (1), lA D q (10) (va_up (fun _ => none) 0 (some v))] t.heap ∧ va_F (jA a a sz) st t) 1 (10) (jA a a sz) := by
  refine jHead (by decide) (Nat.le_of_ble_eq_true rfl) ?_
  intro p e s m' below meth c ls hx hb hr hlk hml hown hT hnm hpre hl
  obtain ⟨⟨hsz, hP, hV, hE⟩, hK⟩ := hpre
  subst hsz
  have hS : va_S (jA a a s.heap.size) s.heap s.heap [] := va_S.rf
  have hD : va_D (jA a a s.heap.size) [lO a D.2.2.1 m 0] := D1 (Or.inl rfl)
  refine lv_aload_n hx hb dJx4a65c_add_9ea2d_0 rfl (lv_at hl 0 rfl) ?_
  refine lv_dup hx hb dJx4a65c_add_9ea2d_1 rfl ?_
  refine va_get (D := D.1) (ci := 10) (v := .int m) (C := RJx4a65c) (T := TJx4a65c) (N := 3) hx hb hT alW hown hK.1 hP 0 rfl rfl 0 (by decide) (hT _ fl_Jx4a65c_63) (fun _ h => u_same (hT _ sf_modCount) _ h) rfl dJx4a65c_add_9ea2d_2 ?_
  refine lv_iconst (v := 1) hx hb dJx4a65c_add_9ea2d_5 (by decide) ?_
  refine lv_iadd hx hb dJx4a65c_add_9ea2d_6 ?_
  refine lv_topi (fun m1 em1 => ?_)
  refine va_put (D := D.1) (ci := 10) (v := .int m1) (ty := .int) (C := RJx4a65c) (T := TJx4a65c) (N := 3) hx hb hT alW tyJx4a65c tyJx4a65c_ok nmJx4a65c hown hK.1 hP hD hS 0 rfl rfl 0 (by decide) (hT _ fl_Jx4a65c_63) (fun _ h => u_same (hT _ sf_modCount) _ h) rfl (by decide +kernel) rfl rfl (Nat.le_of_ble_eq_true rfl) dJx4a65c_add_9ea2d_7 (fun H locs hP hD hS => ?_)
  have hP : va_P D.1 cls [lO a D.2.2.1 m1 0] H := hP
  have hsz1 : s.heap.size ≤ H.size := hS.1
  have hkeep : ∀ y, y < s.heap.size → y ≠ a → (y ≠ a ∨ a = a) → va_Any bO s s.heap y → va_Any bO s H y := fun y h1 h3 h4 h5 => h5.kept (Vm.Alike.refl _) (hS.2.1 y h1 (fun z => by rcases z with z | z | z <;> omega))
  refine lv_aload_n hx hb dJx4a65c_add_9ea2d_10 rfl (lv_at hl 0 rfl) ?_
  refine lv_aload_n hx hb dJx4a65c_add_9ea2d_11 rfl (lv_at hl 1 rfl) ?_
  refine lv_aload_n hx hb dJx4a65c_add_9ea2d_12 rfl (lv_at hl 0 rfl) ?_
  refine va_get (D := D.1) (ci := 10) (v := .ref D.2.2.1) (C := RJx4a65c) (T := TJx4a65c) (N := 3) hx hb hT alW hown hK.1 hP 0 rfl rfl 1 (by decide) (hT _ fl_Jx4a65c_9) (fun _ h => h) rfl dJx4a65c_add_9ea2d_13 ?_
  refine lv_aload_n hx hb dJx4a65c_add_9ea2d_16 rfl (lv_at hl 0 rfl) ?_
  refine va_get (D := D.1) (ci := 10) (v := .int (0)) (C := RJx4a65c) (T := TJx4a65c) (N := 3) hx hb hT alW hown hK.1 hP 0 rfl rfl 2 (by decide) (hT _ fl_Jx4a65c_48) (fun _ h => h) rfl dJx4a65c_add_9ea2d_17 ?_
  have hwk : ∀ q, jA a a H.size q → jA a a s.heap.size q := fun q z => by rcases z with z | z | z; exact Or.inl z; exact Or.inr (Or.inl z); exact Or.inr (Or.inr (Nat.le_trans hsz1 z))
  refine jgo (A0 := jA a a s.heap.size) (va_runV (As := [.ref v, .ref D.2.2.1, .int (0)]) (b := a) (rest := []) (C := RJx4a65c) ⟨hx, hb, hml, hown, hT⟩ (jAdd3E (D := D) a v H.size m1 had) (cwV 3 hT (goodV9 ml_Jx4a65c_131 im_Jx4a65c_add_72be8 se_Jx4a65c_add_72be8 in_Jx4a65c cd_Jx4a65c_add_72be8) rfl rfl rfl (by decide +kernel) ⟨Nat.le_of_ble_eq_true rfl, Nat.le_of_ble_eq_true rfl⟩) ⟨fun a U g mk q => ⟨q.1, ⟨q.2.1.1, q.2.1.2.1, ⟨Any_same q.2.1.2.2.1.1, q.2.1.2.2.1.2⟩, q.2.1.2.2.2.same rfl rfl⟩, Kst.same (s := U) (U := U.calling g mk a) rfl q.2.2⟩, va_recv hK.1 hP (ci := 10) (q0 := 0) rfl rfl, fun U hU hW => ⟨rfl, ⟨by rw [hU], by rw [hU]; exact hP, ⟨Any_warm hW hU (hkeep v hV.2.1 hV.2.2 (Or.inr rfl) hV.1), Nat.lt_of_lt_of_le hV.2.1 hsz1, hV.2.2⟩, hE.on hS hW hU hwk⟩, Kst.warm hW hK⟩⟩ rfl rfl hl.1 rfl (lv_room (Nat.le_of_ble_eq_true rfl)) dJx4a65c_add_9ea2d_20 ⟨Nat.le_refl _, Nat.le_of_eq (Nat.zero_add _)⟩) hS hwk (fun st v t h0 hq => by obtain ⟨q, -, -, -, -, hn⟩ := hq; exact F_wk hn hwk) (fun v9 st t H1 locs1 h0 ht hq hS1 => ?_)
  obtain ⟨q, hv, n1, n2, n3, n4⟩ := hq
  cases hv
  refine lv_iconst (v := 1) hx hb dJx4a65c_add_9ea2d_23 (by decide) ?_
  refine W.widen (k := 1) (n := 10) (Nat.le_refl _) (Nat.le_of_eq (by first | rfl | exact Nat.zero_add _)) ?_
  exact W.zret hx hb hr rfl (fun t9 ht9 hW => ⟨q, m1, rfl, Nat.le_trans hsz1 n1, n2, by rw [ht9, ← ht]; exact n3, hS1.F ht9⟩) hS1.2.2 dJx4a65c_add_9ea2d_24 hlk
theorem jAddR (a d n cap v sz : Nat) (m : Int32) (f : Nat → Option Nat) (hn : n < cap) (hc : cap ≤ 700) (had : a ≠ d) (hvd : v ≠ d) : Met l yJx4a65c_add_9ea2d (Cond.code yJx4a65c_add_9ea2d cJx4a65c_add_9ea2d 2 (some .boolean) :: TW) { frames := 6, cells := 0, slots := 0, locals := 384 } (va_Pc [.ref a, .ref v] (fun U => (U.heap.size = sz ∧ va_P D.1 cls [lO a d m (nI n), lA D d cap f] U.heap ∧ (va_Any bO U U.heap v ∧ v < sz ∧ v ≠ a) ∧ True) ∧ Kst D U)) (fun _ st oc t => ∃ q m9, oc = .returned (some (.int 1)) ∧ (q = d ∨ sz ≤ q) ∧ q ≠ a ∧ va_P D.1 cls [lO a q m9 (nI (n + 1)), lA D q (cap) (va_up f n (some v))] t.heap ∧ va_F (jA a d sz) st t) 0 (0) (jA a d sz) := by
  refine jHead (by decide) (Nat.le_of_ble_eq_true rfl) ?_
  intro p e s m' below meth c ls hx hb hr hlk hml hown hT hnm hpre hl
  obtain ⟨⟨hsz, hP, hV, hE⟩, hK⟩ := hpre
  subst hsz
  have hS : va_S (jA a d s.heap.size) s.heap s.heap [] := va_S.rf
  have hD : va_D (jA a d s.heap.size) [lO a d m (nI n), lA D d cap f] := D2 had (Or.inl rfl) (Or.inr (Or.inl rfl))
  refine lv_aload_n hx hb dJx4a65c_add_9ea2d_0 rfl (lv_at hl 0 rfl) ?_
  refine lv_dup hx hb dJx4a65c_add_9ea2d_1 rfl ?_
  refine va_get (D := D.1) (ci := 10) (v := .int m) (C := RJx4a65c) (T := TJx4a65c) (N := 3) hx hb hT alW hown hK.1 hP 0 rfl rfl 0 (by decide) (hT _ fl_Jx4a65c_63) (fun _ h => u_same (hT _ sf_modCount) _ h) rfl dJx4a65c_add_9ea2d_2 ?_
  refine lv_iconst (v := 1) hx hb dJx4a65c_add_9ea2d_5 (by decide) ?_
  refine lv_iadd hx hb dJx4a65c_add_9ea2d_6 ?_
  refine lv_topi (fun m1 em1 => ?_)
  refine va_put (D := D.1) (ci := 10) (v := .int m1) (ty := .int) (C := RJx4a65c) (T := TJx4a65c) (N := 3) hx hb hT alW tyJx4a65c tyJx4a65c_ok nmJx4a65c hown hK.1 hP hD hS 0 rfl rfl 0 (by decide) (hT _ fl_Jx4a65c_63) (fun _ h => u_same (hT _ sf_modCount) _ h) rfl (by decide +kernel) rfl rfl (Nat.le_of_ble_eq_true rfl) dJx4a65c_add_9ea2d_7 (fun H locs hP hD hS => ?_)
  have hP : va_P D.1 cls [lO a d m1 (nI n), lA D d cap f] H := hP
  have hsz1 : s.heap.size ≤ H.size := hS.1
  have hkeep : ∀ y, y < s.heap.size → y ≠ a → (y ≠ d ∨ d = a) → va_Any bO s s.heap y → va_Any bO s H y := fun y h1 h3 h4 h5 => h5.kept (Vm.Alike.refl _) (hS.2.1 y h1 (fun z => by rcases z with z | z | z <;> omega))
  refine lv_aload_n hx hb dJx4a65c_add_9ea2d_10 rfl (lv_at hl 0 rfl) ?_
  refine lv_aload_n hx hb dJx4a65c_add_9ea2d_11 rfl (lv_at hl 1 rfl) ?_
  refine lv_aload_n hx hb dJx4a65c_add_9ea2d_12 rfl (lv_at hl 0 rfl) ?_
  refine va_get (D := D.1) (ci := 10) (v := .ref d) (C := RJx4a65c) (T := TJx4a65c) (N := 3) hx hb hT alW hown hK.1 hP 0 rfl rfl 1 (by decide) (hT _ fl_Jx4a65c_9) (fun _ h => h) rfl dJx4a65c_add_9ea2d_13 ?_
  refine lv_aload_n hx hb dJx4a65c_add_9ea2d_16 rfl (lv_at hl 0 rfl) ?_
  refine va_get (D := D.1) (ci := 10) (v := .int (nI n)) (C := RJx4a65c) (T := TJx4a65c) (N := 3) hx hb hT alW hown hK.1 hP 0 rfl rfl 2 (by decide) (hT _ fl_Jx4a65c_48) (fun _ h => h) rfl dJx4a65c_add_9ea2d_17 ?_
  have hwk : ∀ q, jA a d H.size q → jA a d s.heap.size q := fun q z => by rcases z with z | z | z; exact Or.inl z; exact Or.inr (Or.inl z); exact Or.inr (Or.inr (Nat.le_trans hsz1 z))
  refine jgo (A0 := jA a d s.heap.size) (va_runV (As := [.ref v, .ref d, .int (nI n)]) (b := a) (rest := []) (C := RJx4a65c) ⟨hx, hb, hml, hown, hT⟩ (jAdd3R (D := D) a d n cap v H.size m1 f hn hc had hvd) (cwV 3 hT (goodV9 ml_Jx4a65c_131 im_Jx4a65c_add_72be8 se_Jx4a65c_add_72be8 in_Jx4a65c cd_Jx4a65c_add_72be8) rfl rfl rfl (by decide +kernel) ⟨Nat.le_of_ble_eq_true rfl, Nat.le_of_ble_eq_true rfl⟩) ⟨fun a U g mk q => ⟨q.1, ⟨q.2.1.1, q.2.1.2.1, ⟨Any_same q.2.1.2.2.1.1, q.2.1.2.2.1.2⟩, trivial⟩, Kst.same (s := U) (U := U.calling g mk a) rfl q.2.2⟩, va_recv hK.1 hP (ci := 10) (q0 := 0) rfl rfl, fun U hU hW => ⟨rfl, ⟨by rw [hU], by rw [hU]; exact hP, ⟨Any_warm hW hU (hkeep v hV.2.1 hV.2.2 (Or.inl hvd) hV.1), Nat.lt_of_lt_of_le hV.2.1 hsz1, hV.2.2⟩, trivial⟩, Kst.warm hW hK⟩⟩ rfl rfl hl.1 rfl (lv_room (Nat.le_of_ble_eq_true rfl)) dJx4a65c_add_9ea2d_20 ⟨Nat.le_refl _, Nat.le_of_eq (Nat.zero_add _)⟩) hS hwk (fun st v t h0 hq => by obtain ⟨q, -, -, -, -, hn⟩ := hq; exact F_wk hn hwk) (fun v9 st t H1 locs1 h0 ht hq hS1 => ?_)
  obtain ⟨q, hv, n1, n2, n3, n4⟩ := hq
  cases hv
  refine lv_iconst (v := 1) hx hb dJx4a65c_add_9ea2d_23 (by decide) ?_
  refine W.widen (k := 0) (n := 0) (Nat.le_refl _) (Nat.le_of_eq (by first | rfl | exact Nat.zero_add _)) ?_
  exact W.zret hx hb hr rfl (fun t9 ht9 hW => ⟨q, m1, rfl, n1.imp_right (Nat.le_trans hsz1), n2, by rw [ht9, ← ht]; exact n3, hS1.F ht9⟩) hS1.2.2 dJx4a65c_add_9ea2d_24 hlk
end JO
