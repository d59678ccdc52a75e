section JQ
variable {l : Launch} {D : DD}
abbrev lB (a : Nat) : Nat × va_E := (a, .inr (10, [.int 0, .null, .int 0]))
theorem jInitC (a : Nat) : Met l yJxa1e45_init_da8c8 (Cond.code yJxa1e45_init_da8c8 cJxa1e45_init_da8c8 1 none :: TW) { frames := 1, cells := 0, slots := 0, locals := 32 } (va_Pc [.ref a] (fun U => True ∧ Kst D U)) (fun _ st oc t => oc = .returned none ∧ t.heap = st.heap) 0 0 (fun _ => False) := by
  refine jHead (by decide) (Nat.le_of_ble_eq_true rfl) ?_
  intro p e s m' below meth c ls hx hb hr hlk hml hown hT hnm hpre hl
  refine lv_aload_n hx hb dJxa1e45_init_da8c8_0 rfl (lv_at hl 0 rfl) ?_
  refine W.objInit hx hb hown (hT _ ml_Jxa1e45_1) (hT _ im_objInit) (hT _ cd_objInit) rfl (hl.1.trans hml.symm) rfl dJxa1e45_init_da8c8_1 (Nat.le_of_ble_eq_true rfl) (Nat.le_of_ble_eq_true rfl) ?_
  exact W.vret hx hb hr (fun t9 ht9 hW => ⟨rfl, ht9⟩) (fun q h => by cases h) dJxa1e45_init_da8c8_4 hlk
theorem jInitL (a sz : Nat) : Met l yJxc12de_init_da8c8 (Cond.code yJxc12de_init_da8c8 cJxc12de_init_da8c8 1 none :: TW) { frames := 2, cells := 0, slots := 0, locals := 64 } (va_Pc [.ref a] (fun U => (U.heap.size = sz ∧ va_P D.1 cls [lB a] U.heap) ∧ Kst D U)) (fun _ st oc t => oc = .returned none ∧ va_P D.1 cls [lB a] t.heap ∧ va_F (jA a a sz) st t) 0 0 (jA a a sz) := by
  refine jHead (by decide) (Nat.le_of_ble_eq_true rfl) ?_
  intro p e s m' below meth c ls hx hb hr hlk hml hown hT hnm hpre hl
  obtain ⟨⟨hsz, hP⟩, hK⟩ := hpre
  subst hsz
  have hS : va_S (jA a a s.heap.size) s.heap s.heap [] := va_S.rf
  have hD : va_D (jA a a s.heap.size) [lB a] := D1 (Or.inl rfl)
  refine lv_aload_n hx hb dJxc12de_init_da8c8_0 rfl (lv_at hl 0 rfl) ?_
  refine jgoV (r := none) (va_runI (As := []) (b := a) (rest := []) (own := RJxc12de) ⟨hx, hb, hml, hown, hT⟩ (jInitC (D := D) a) (cwI 0 hT (code_good cd_Jxa1e45_init_da8c8) rfl rfl rfl (hT _ in_Jxa1e45) (hT _ ml_Jxc12de_1) (hT _ im_Jxa1e45_init_da8c8) rfl (by decide +kernel) ⟨by decide, by decide⟩) ⟨jblind (PH := fun _ => True), fun U hU hW => ⟨rfl, trivial, Kst.warm hW hK⟩⟩ rfl rfl hl.1 rfl (lv_room (by decide)) dJxc12de_init_da8c8_1 ⟨by decide, by decide⟩) (fun st v t hq => ⟨Outcome.returned.inj hq.1, hq.2⟩) ?_
  refine lv_aload_n hx hb dJxc12de_init_da8c8_4 rfl (lv_at hl 0 rfl) ?_
  refine lv_iconst (v := 0) hx hb dJxc12de_init_da8c8_5 (by decide) ?_
  refine va_put (D := D.1) (ci := 10) (v := .int 0) (ty := .int) (C := RJx4a65c) (T := TJx4a65c) (N := 3) hx hb hT alW tyJx4a65c tyJx4a65c_ok nmJx4a65c hown hK.1 hP hD hS 0 rfl rfl 0 (by decide) (hT _ fl_Jxc12de_7) (fun _ h => h) rfl (by decide +kernel) rfl rfl (Nat.le_of_ble_eq_true rfl) dJxc12de_init_da8c8_6 (fun H locs hP hD hS => ?_)
  exact W.vret hx hb hr (fun t9 ht9 hW => ⟨rfl, by rw [ht9]; exact hP, hS.F ht9⟩) hS.2.2 dJxc12de_init_da8c8_9 hlk
theorem jInit (a sz : Nat) : Met l yJx4a65c_init_da8c8 (Cond.code yJx4a65c_init_da8c8 cJx4a65c_init_da8c8 1 none :: TW) { frames := 3, cells := 0, slots := 0, locals := 128 } (va_Pc [.ref a] (fun U => (U.heap.size = sz ∧ va_P D.1 cls [lB a] U.heap ∧ va_Z "java/util/ArrayList" "DEFAULTCAPACITY_EMPTY_ELEMENTDATA" "[Ljava/lang/Object;" (.ref D.2.2.1) (jA a a sz) U U.heap) ∧ Kst D U)) (fun _ st oc t => oc = .returned none ∧ va_P D.1 cls [lO a D.2.2.1 0 0] t.heap ∧ va_F (jA a a sz) st t) 0 0 (jA a a sz) := by
  refine jHead (by decide) (Nat.le_of_ble_eq_true rfl) ?_
  intro p e s m' below meth c ls hx hb hr hlk hml hown hT hnm hpre hl
  obtain ⟨⟨hsz, hP, hZ⟩, hK⟩ := hpre
  subst hsz
  have hS : va_S (jA a a s.heap.size) s.heap s.heap [] := va_S.rf
  refine lv_aload_n hx hb dJx4a65c_init_da8c8_0 rfl (lv_at hl 0 rfl) ?_
  refine jgo (A0 := jA a a s.heap.size) (va_runI (As := []) (b := a) (rest := []) (own := RJx4a65c) ⟨hx, hb, hml, hown, hT⟩ (jInitL (D := D) a s.heap.size) (cwI 0 hT (code_good cd_Jxc12de_init_da8c8) rfl rfl rfl (hT _ in_Jxc12de) (hT _ ml_Jx4a65c_1) (hT _ im_Jxc12de_init_da8c8) rfl (by decide +kernel) ⟨by decide, by decide⟩) ⟨fun a U g mk q => ⟨q.1, q.2.1, Kst.same (s := U) (U := U.calling g mk a) rfl q.2.2⟩, fun U hU hW => ⟨rfl, ⟨by rw [hU], by rw [hU]; exact hP⟩, Kst.warm hW hK⟩⟩ rfl rfl hl.1 rfl (lv_room (by decide)) dJx4a65c_init_da8c8_1 ⟨by decide, by decide⟩) hS (fun q h => h) (fun st v t h0 hq => hq.2.2) (fun v9 st t H1 locs1 h0 ht hq hS1 => ?_)
  obtain ⟨hv, n1, n2⟩ := hq
  cases hv
  rw [ht] at n1
  have hP : va_P D.1 cls [lB a] H1 := n1
  have hD : va_D (jA a a s.heap.size) [lB a] := D1 (Or.inl rfl)
  have hS := hS1
  refine lv_aload_n hx hb dJx4a65c_init_da8c8_4 rfl (lv_at hl 0 rfl) ?_
  refine va_gets hx hb hZ hS hown (hT _ fl_Jx4a65c_39) (fun _ q => q) dJx4a65c_init_da8c8_5 ?_
  refine va_put (D := D.1) (ci := 10) (v := .ref D.2.2.1) (ty := .array (.object bO)) (C := RJx4a65c) (T := TJx4a65c) (N := 3) hx hb hT alW tyJx4a65c tyJx4a65c_ok nmJx4a65c hown hK.1 hP hD hS 0 rfl rfl 1 (by decide) (hT _ fl_Jx4a65c_9) (fun _ h => h) rfl (by decide +kernel) rfl rfl (Nat.le_of_ble_eq_true rfl) dJx4a65c_init_da8c8_8 (fun H locs hP hD hS => ?_)
  exact W.vret hx hb hr (fun t9 ht9 hW => ⟨rfl, by rw [ht9]; exact hP, hS.F ht9⟩) hS.2.2 dJx4a65c_init_da8c8_11 hlk
end JQ
