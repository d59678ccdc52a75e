section JP
variable {l : Launch} {D : DD}
def remF (f : Nat → Option Nat) (i n : Nat) : Nat → Option Nat := va_up (if i < n - 1 then va_cpy f f (i + 1) i (n - 1 - i) else f) (n - 1) none
theorem nI_s {a b : Nat} (h : b ≤ a) : nI a - nI b = nI (a - b) := pk_sub h
theorem jFast (a d cap n i sz : Nat) (m : Int32) (f : Nat → Option Nat) (hi : i < n) (hn : n ≤ cap) (hc : cap ≤ 700) (had : a ≠ d) : Met l yJx4a65c_fastRemove_b59b0 (Cond.code yJx4a65c_fastRemove_b59b0 cJx4a65c_fastRemove_b59b0 4 none :: TW) { frames := 1, cells := 0, slots := 0, locals := 96 } (va_Pc [.ref a, .ref d, .int (nI i)] (fun U => (U.heap.size = sz ∧ va_P D.1 cls [lO a d m (nI n), lA D d cap f] U.heap ∧ (∀ j, j < n → ∀ y, f j = some y → va_Any bO U U.heap y ∧ y < sz ∧ y ≠ a ∧ y ≠ d)) ∧ Kst D U)) (fun _ st oc t => ∃ m9, oc = .returned none ∧ va_P D.1 cls [lO a d m9 (nI (n - 1)), lA D d cap (remF f i n)] t.heap ∧ va_F (jA a d sz) st t) 0 0 (jA a d sz) := by
  refine jHead (by decide) (Nat.le_of_ble_eq_true rfl) ?_
  intro p e s m' below meth c ls hx hb hr hlk hml hown hT hnm hpre hl
  obtain ⟨⟨hsz, hP, hE⟩, hK⟩ := hpre
  subst hsz
  have hS : va_S (jA a d s.heap.size) s.heap s.heap [] := va_S.rf
  have hD : va_D (jA a d s.heap.size) [lO a d m (nI n), lA D d cap f] := D2 had (Or.inl rfl) (Or.inr (Or.inl rfl))
  refine lv_aload_n hx hb dJx4a65c_fastRemove_b59b0_0 rfl (lv_at hl 0 rfl) ?_
  refine lv_dup hx hb dJx4a65c_fastRemove_b59b0_1 rfl ?_
  refine va_get (D := D.1) (ci := 10) (v := .int m) (C := RJx4a65c) (T := TJx4a65c) (N := 3) hx hb hT alW hown hK.1 hP 0 rfl rfl 0 (by decide) (hT _ fl_Jx4a65c_63) (fun _ h => u_same (hT _ sf_modCount) _ h) rfl dJx4a65c_fastRemove_b59b0_2 ?_
  refine lv_iconst (v := 1) hx hb dJx4a65c_fastRemove_b59b0_5 (by decide) ?_
  refine lv_iadd hx hb dJx4a65c_fastRemove_b59b0_6 ?_
  refine lv_topi (fun m1 em1 => ?_)
  refine va_put (D := D.1) (ci := 10) (v := .int m1) (ty := .int) (C := RJx4a65c) (T := TJx4a65c) (N := 3) hx hb hT alW tyJx4a65c tyJx4a65c_ok nmJx4a65c hown hK.1 hP hD hS 0 rfl rfl 0 (by decide) (hT _ fl_Jx4a65c_63) (fun _ h => u_same (hT _ sf_modCount) _ h) rfl (by decide +kernel) rfl rfl (Nat.le_of_ble_eq_true rfl) dJx4a65c_fastRemove_b59b0_7 (fun H locs hP hD hS => ?_)
  have hP : va_P D.1 cls [lO a d m1 (nI n), lA D d cap f] H := hP
  refine lv_aload_n hx hb dJx4a65c_fastRemove_b59b0_10 rfl (lv_at hl 0 rfl) ?_
  refine va_get (D := D.1) (ci := 10) (v := .int (nI n)) (C := RJx4a65c) (T := TJx4a65c) (N := 3) hx hb hT alW hown hK.1 hP 0 rfl rfl 2 (by decide) (hT _ fl_Jx4a65c_48) (fun _ h => h) rfl dJx4a65c_fastRemove_b59b0_11 ?_
  refine lv_iconst (v := 1) hx hb dJx4a65c_fastRemove_b59b0_14 (by decide) ?_
  refine lv_isub hx hb dJx4a65c_fastRemove_b59b0_15 ?_
  rw [show nI n - 1 = nI (n - 1) from nI_s (a := n) (b := 1) (by omega)]
  refine lv_dup hx hb dJx4a65c_fastRemove_b59b0_16 rfl ?_
  refine lv_istore_n (lv' := [(3, .int (nI (n - 1))), (0, .ref a), (1, .ref d), (2, .int (nI i))]) hx hb dJx4a65c_fastRemove_b59b0_17 rfl hl (by decide) rfl (fun ls hl => ?_)
  refine lv_iload_n hx hb dJx4a65c_fastRemove_b59b0_18 rfl (lv_at hl 3 rfl) ?_
  have hcopy : i < n - 1 → ∀ (hz : True), True := fun _ _ => trivial
  refine lv_icmp_le (tgt := 34) hx hb dJx4a65c_fastRemove_b59b0_19 (by decide) (fun z => ?_) (fun z => ?_)
  · have hge : ¬ i < n - 1 := fun h => absurd ((nI_leI (a := n - 1) (b := i) (by omega) (by omega)).mp z) (by omega)
    have hP : va_P D.1 cls [lO a d m1 (nI n), lA D d cap (if i < n - 1 then va_cpy f f (i + 1) i (n - 1 - i) else f)] H := by rw [if_neg hge]; exact hP
    have hD : va_D (jA a d s.heap.size) [lO a d m1 (nI n), lA D d cap (if i < n - 1 then va_cpy f f (i + 1) i (n - 1 - i) else f)] := D2 had (Or.inl rfl) (Or.inr (Or.inl rfl))
    refine lv_aload_n hx hb dJx4a65c_fastRemove_b59b0_34 rfl (lv_at hl 2 rfl) ?_
    refine lv_aload_n hx hb dJx4a65c_fastRemove_b59b0_35 rfl (lv_at hl 1 rfl) ?_
    refine lv_iload_n hx hb dJx4a65c_fastRemove_b59b0_36 rfl (lv_at hl 0 rfl) ?_
    refine lv_dup_x1 hx hb dJx4a65c_fastRemove_b59b0_37 rfl rfl ?_
    refine va_put (D := D.1) (ci := 10) (v := .int (nI (n - 1))) (ty := .int) (C := RJx4a65c) (T := TJx4a65c) (N := 3) hx hb hT alW tyJx4a65c tyJx4a65c_ok nmJx4a65c hown hK.1 hP hD hS 0 rfl rfl 2 (by decide) (hT _ fl_Jx4a65c_48) (fun _ h => h) rfl (by decide +kernel) rfl rfl (Nat.le_of_ble_eq_true rfl) dJx4a65c_fastRemove_b59b0_38 (fun H locs hP hD hS => ?_)
    refine lv_null hx hb dJx4a65c_fastRemove_b59b0_41 ?_
    refine va_astqN hx hb hK.1 hP hD hS 1 7 (C := bO) rfl (tys_at D (by decide)) (vp_in_nI (show n - 1 < cap by omega) (by omega)) dJx4a65c_fastRemove_b59b0_42 (fun H2 locs2 hP hD hS => ?_)
    rw [(nI_clamp (show n - 1 < 2 ^ 31 by omega) : (nI (n - 1)).toNatClampNeg = n - 1)] at hP hD
    exact W.vret hx hb hr (fun t9 ht9 hW => ⟨m1, rfl, by rw [ht9]; exact hP, hS.F ht9⟩) hS.2.2 dJx4a65c_fastRemove_b59b0_43 hlk
  · have hlt : i < n - 1 := Nat.lt_of_not_le (fun h => z (nI_le h (by omega)))
    refine lv_aload_n hx hb dJx4a65c_fastRemove_b59b0_22 rfl (lv_at hl 2 rfl) ?_
    refine lv_iload_n hx hb dJx4a65c_fastRemove_b59b0_23 rfl (lv_at hl 3 rfl) ?_
    refine lv_iconst (v := 1) hx hb dJx4a65c_fastRemove_b59b0_24 (by decide) ?_
    refine lv_iadd hx hb dJx4a65c_fastRemove_b59b0_25 ?_
    rw [nI_1 i]
    refine lv_aload_n hx hb dJx4a65c_fastRemove_b59b0_26 rfl (lv_at hl 2 rfl) ?_
    refine lv_iload_n hx hb dJx4a65c_fastRemove_b59b0_27 rfl (lv_at hl 3 rfl) ?_
    refine lv_iload_n hx hb dJx4a65c_fastRemove_b59b0_28 rfl (lv_at hl 0 rfl) ?_
    refine lv_iload_n hx hb dJx4a65c_fastRemove_b59b0_29 rfl (lv_at hl 3 rfl) ?_
    refine lv_isub hx hb dJx4a65c_fastRemove_b59b0_30 ?_
    rw [nI_s (a := n - 1) (b := i) (by omega)]
    have c1 : (nI (i + 1)).toNatClampNeg = i + 1 := nI_clamp (by omega)
    have c2 : (nI i).toNatClampNeg = i := nI_clamp (by omega)
    have c3 : (nI (n - 1 - i)).toNatClampNeg = n - 1 - i := nI_clamp (by omega)
    refine va_copyM (A := jA a d s.heap.size) (H0 := s.heap) hx hb (hml.trans hl.1.symm) hown (hT _ ml_Jx4a65c_112) (hT _ nt_arraycopy) (hT _ st_arraycopy) (hT _ in_J10) hK.1 hP hD (locs := locs) hS 1 1 7 7 (E0 := bO) (E1 := bO) rfl rfl (tys_at D (by decide)) (tys_at D (by decide)) (nI_pos (by omega)) (nI_pos (by omega)) (nI_pos (by omega)) (by rw [c1, c3]; omega) (by rw [c2, c3]; omega) (fun k hk y hy => ?_) (Nat.le_of_ble_eq_true rfl) (Nat.le_of_ble_eq_true rfl) dJx4a65c_fastRemove_b59b0_31 (fun H2 locs2 hP hD hS => ?_)
    · rw [c3] at hk
      rw [c1] at hy
      have hv := hE (i + 1 + k) (by omega) y hy
      exact hv.1.kept (Vm.Alike.refl _) (hS.2.1 y hv.2.1 (fun z => by rcases z with z | z | z; exact hv.2.2.1 z; exact hv.2.2.2 z; omega))
    · rw [c1, c2, c3] at hP hD
      have hP : va_P D.1 cls [lO a d m1 (nI n), lA D d cap (if i < n - 1 then va_cpy f f (i + 1) i (n - 1 - i) else f)] H2 := by rw [if_pos hlt]; exact hP
      have hD : va_D (jA a d s.heap.size) [lO a d m1 (nI n), lA D d cap (if i < n - 1 then va_cpy f f (i + 1) i (n - 1 - i) else f)] := D2 had (Or.inl rfl) (Or.inr (Or.inl rfl))
      refine lv_aload_n hx hb dJx4a65c_fastRemove_b59b0_34 rfl (lv_at hl 2 rfl) ?_
      refine lv_aload_n hx hb dJx4a65c_fastRemove_b59b0_35 rfl (lv_at hl 1 rfl) ?_
      refine lv_iload_n hx hb dJx4a65c_fastRemove_b59b0_36 rfl (lv_at hl 0 rfl) ?_
      refine lv_dup_x1 hx hb dJx4a65c_fastRemove_b59b0_37 rfl rfl ?_
      refine va_put (D := D.1) (ci := 10) (v := .int (nI (n - 1))) (ty := .int) (C := RJx4a65c) (T := TJx4a65c) (N := 3) hx hb hT alW tyJx4a65c tyJx4a65c_ok nmJx4a65c hown hK.1 hP hD hS 0 rfl rfl 2 (by decide) (hT _ fl_Jx4a65c_48) (fun _ h => h) rfl (by decide +kernel) rfl rfl (Nat.le_of_ble_eq_true rfl) dJx4a65c_fastRemove_b59b0_38 (fun H locs hP hD hS => ?_)
      refine lv_null hx hb dJx4a65c_fastRemove_b59b0_41 ?_
      refine va_astqN hx hb hK.1 hP hD hS 1 7 (C := bO) rfl (tys_at D (by decide)) (vp_in_nI (show n - 1 < cap by omega) (by omega)) dJx4a65c_fastRemove_b59b0_42 (fun H2 locs2 hP hD hS => ?_)
      rw [(nI_clamp (show n - 1 < 2 ^ 31 by omega) : (nI (n - 1)).toNatClampNeg = n - 1)] at hP hD
      exact W.vret hx hb hr (fun t9 ht9 hW => ⟨m1, rfl, by rw [ht9]; exact hP, hS.F ht9⟩) hS.2.2 dJx4a65c_fastRemove_b59b0_43 hlk
theorem jRemove (x : Nat) (a d cap n i sz : Nat) (m : Int32) (f : Nat → Option Nat) (hi : i < n) (hn : n ≤ cap) (hc : cap ≤ 700) (had : a ≠ d) (hfx : f i = some x) : Met l yJx4a65c_remove_915e3 (Cond.code yJx4a65c_remove_915e3 cJx4a65c_remove_915e3 4 (some (.object "java/lang/Object")) :: TW) { frames := 2, cells := 0, slots := 0, locals := 160 } (va_Pc [.ref a, .int (nI i)] (fun U => (U.heap.size = sz ∧ va_P D.1 cls [lO a d m (nI n), lA D d cap f] U.heap ∧ (∀ j, j < n → ∀ y, f j = some y → va_Any bO U U.heap y ∧ y < sz ∧ y ≠ a ∧ y ≠ d)) ∧ Kst D U)) (fun _ st oc t => ∃ m9, oc = .returned (some (.ref x)) ∧ va_P D.1 cls [lO a d m9 (nI (n - 1)), lA D d cap (remF f i n)] t.heap ∧ va_F (jA a d sz) st t) 0 0 (jA a d sz) := by
  refine jHead (by decide) (Nat.le_of_ble_eq_true rfl) ?_
  intro p e s m' below meth c ls hx hb hr hlk hml hown hT hnm hpre hl
  obtain ⟨⟨hsz, hP, hE⟩, hK⟩ := hpre
  subst hsz
  have hS : va_S (jA a d s.heap.size) s.heap s.heap [] := va_S.rf
  refine lv_iload_n hx hb dJx4a65c_remove_915e3_0 rfl (lv_at hl 1 rfl) ?_
  refine lv_aload_n hx hb dJx4a65c_remove_915e3_1 rfl (lv_at hl 0 rfl) ?_
  refine va_get (D := D.1) (ci := 10) (v := .int (nI n)) (C := RJx4a65c) (T := TJx4a65c) (N := 3) hx hb hT alW hown hK.1 hP 0 rfl rfl 2 (by decide) (hT _ fl_Jx4a65c_48) (fun _ h => h) rfl dJx4a65c_remove_915e3_2 ?_
  refine jgoV (r := some (.int (nI i))) (va_runS (As := [.int (nI i), .int (nI n)]) (rest := []) ⟨hx, hb, hml, hown, hT⟩ (jCheck (D := D) (nI i) (nI n) (nI_pos (by omega)) (nI_lt hi (by omega))) (va_cwS 2 hT (goodS9 ml_Jx4a65c_118 sm_J15_checkIndex_7cf53 in_J15 cd_J15_checkIndex_7cf53) rfl rfl rfl (by decide +kernel) ⟨by decide, by decide⟩) ⟨jblind (PH := fun _ => True), fun U hU hW => ⟨rfl, trivial, Kst.warm hW hK⟩⟩ rfl rfl hl.1 rfl (lv_room (by decide)) dJx4a65c_remove_915e3_5 ⟨by decide, by decide⟩) (fun st v t hq => ⟨Outcome.returned.inj hq.1, hq.2⟩) ?_
  refine lv_pop hx hb dJx4a65c_remove_915e3_8 rfl ?_
  refine lv_aload_n hx hb dJx4a65c_remove_915e3_9 rfl (lv_at hl 0 rfl) ?_
  refine va_get (D := D.1) (ci := 10) (v := .ref d) (C := RJx4a65c) (T := TJx4a65c) (N := 3) hx hb hT alW hown hK.1 hP 0 rfl rfl 1 (by decide) (hT _ fl_Jx4a65c_9) (fun _ h => h) rfl dJx4a65c_remove_915e3_10 ?_
  refine lv_astore_n (lv' := [(2, .ref d), (0, .ref a), (1, .int (nI i))]) hx hb dJx4a65c_remove_915e3_13 rfl hl (by decide) rfl (fun ls hl => ?_)
  refine lv_aload_n hx hb dJx4a65c_remove_915e3_14 rfl (lv_at hl 0 rfl) ?_
  refine lv_iload_n hx hb dJx4a65c_remove_915e3_15 rfl (lv_at hl 2 rfl) ?_
  refine va_aldq hx hb hK.1 hP 1 7 rfl (tys_at D (by decide)) (vp_in_nI (show i < cap by omega) (by omega)) dJx4a65c_remove_915e3_16 ?_
  rw [(nI_clamp (show i < 2 ^ 31 by omega) : (nI i).toNatClampNeg = i)]
  rw [hfx]
  refine lv_astore_n (lv' := [(3, .ref x), (2, .ref d), (0, .ref a), (1, .int (nI i))]) hx hb dJx4a65c_remove_915e3_17 rfl hl (by decide) rfl (fun ls hl => ?_)
  refine lv_aload_n hx hb dJx4a65c_remove_915e3_18 rfl (lv_at hl 2 rfl) ?_
  refine lv_aload_n hx hb dJx4a65c_remove_915e3_19 rfl (lv_at hl 1 rfl) ?_
  refine lv_iload_n hx hb dJx4a65c_remove_915e3_20 rfl (lv_at hl 3 rfl) ?_
  refine jgo (A0 := jA a d s.heap.size) (va_runV (As := [.ref d, .int (nI i)]) (b := a) (rest := []) (C := RJx4a65c) ⟨hx, hb, hml, hown, hT⟩ (jFast (D := D) a d cap n i s.heap.size m f hi hn hc had) (cwV 2 hT (goodV9 ml_Jx4a65c_144 im_Jx4a65c_fastRemove_b59b0 se_Jx4a65c_fastRemove_b59b0 in_Jx4a65c cd_Jx4a65c_fastRemove_b59b0) rfl rfl rfl (by decide +kernel) ⟨Nat.le_of_ble_eq_true rfl, Nat.le_of_ble_eq_true rfl⟩) ⟨fun a U g mk q => ⟨q.1, ⟨q.2.1.1, q.2.1.2.1, fun i hi y hy => ⟨Any_same (q.2.1.2.2 i hi y hy).1, (q.2.1.2.2 i hi y hy).2⟩⟩, Kst.same (s := U) (U := U.calling g mk a) rfl q.2.2⟩, va_recv hK.1 hP (ci := 10) (q0 := 0) rfl rfl, fun U hU hW => ⟨rfl, ⟨by rw [hU], by rw [hU]; exact hP, fun i hi y hy => ⟨Any_warm hW hU (hE i hi y hy).1, (hE i hi y hy).2⟩⟩, Kst.warm hW hK⟩⟩ rfl rfl hl.1 rfl (lv_room (Nat.le_of_ble_eq_true rfl)) dJx4a65c_remove_915e3_21 ⟨Nat.le_refl _, Nat.le_refl _⟩) hS (fun q h => h) (fun st v t h0 hq => by obtain ⟨q, -, -, hn⟩ := hq; exact hn) (fun v9 st t H1 locs1 h0 ht hq hS1 => ?_)
  obtain ⟨m9, hv, n3, n4⟩ := hq
  cases hv
  refine lv_aload_n hx hb dJx4a65c_remove_915e3_24 rfl (lv_at hl 0 rfl) ?_
  exact W.aret hx hb hr (Or.inl ⟨_, rfl⟩) (Or.inr ⟨_, rfl⟩) (fun t9 ht9 hW => ⟨m9, rfl, by rw [ht9, ← ht]; exact n3, hS1.F ht9⟩) hS1.2.2 dJx4a65c_remove_915e3_25 hlk
end JP
