section WPR
variable {mi : MI} {d k pc : Nat} {L L' : List (Option sV)} {st : List sV} {S : OM} {Q : Option sV → OM → Prop} {QX : String → OM → Prop}
/-- a value of one word -/
def cat1 (v : sV) : Prop := match v with | .inr (.inr _) => False | _ => True
theorem cat1_1 {v : sV} (ad : Ad) (h : cat1 v) : (tV ad v).category = 1 := by
  rcases v with x | o | x
  · rfl
  · cases o <;> rfl
  · exact h.elim
theorem wp_iconst {n : Int} {v : Int32} (hd : decode mi.2.1 pc = .ok (.iconst n, 1)) (hv : Int32.ofInt n = v) (h : WP mi d k (pc + 1) L (vI v :: st) S Q QX) : WP mi d k pc L (st) S Q QX := by
  intro p l e R s m args below meth c D A lv0 ad0 hC H locs cells slots ls ad hD
  exact lv_iconst hC.1 hC.2.1 hd hv (h p l e R s m args below meth c D A lv0 ad0 hC H locs cells slots ls ad (hD.stk ⟨trivial, hD.lvs⟩))
theorem wp_bipush {n : Int} {v : Int32} (hd : decode mi.2.1 pc = .ok (.bipush n, 2)) (hv : (Int8.ofInt n).toInt32 = v) (h : WP mi d k (pc + 2) L (vI v :: st) S Q QX) : WP mi d k pc L (st) S Q QX := by
  intro p l e R s m args below meth c D A lv0 ad0 hC H locs cells slots ls ad hD
  exact lv_bipush hC.1 hC.2.1 hd hv (h p l e R s m args below meth c D A lv0 ad0 hC H locs cells slots ls ad (hD.stk ⟨trivial, hD.lvs⟩))
theorem wp_sipush {n : Int} {v : Int32} (hd : decode mi.2.1 pc = .ok (.sipush n, 3)) (hv : (Int16.ofInt n).toInt32 = v) (h : WP mi d k (pc + 3) L (vI v :: st) S Q QX) : WP mi d k pc L (st) S Q QX := by
  intro p l e R s m args below meth c D A lv0 ad0 hC H locs cells slots ls ad hD
  exact lv_sipush hC.1 hC.2.1 hd hv (h p l e R s m args below meth c D A lv0 ad0 hC H locs cells slots ls ad (hD.stk ⟨trivial, hD.lvs⟩))
theorem wp_lconst {n : Fin 2} {v : Int64} (hd : decode mi.2.1 pc = .ok (.lconst n, 1)) (hv : Int64.ofNat (n : Nat) = v) (h : WP mi d k (pc + 1) L (vL v :: st) S Q QX) : WP mi d k pc L (st) S Q QX := by
  intro p l e R s m args below meth c D A lv0 ad0 hC H locs cells slots ls ad hD
  exact lv_lconst hC.1 hC.2.1 hd hv (h p l e R s m args below meth c D A lv0 ad0 hC H locs cells slots ls ad (hD.stk ⟨trivial, hD.lvs⟩))
theorem wp_ldc {x : Nat} {v : Int32} (hw : Cond.constant mi.1.cls x v ∈ TW) (hd : decode mi.2.1 pc = .ok (.ldc x, 2)) (h : WP mi d k (pc + 2) L (vI v :: st) S Q QX) : WP mi d k pc L (st) S Q QX := by
  intro p l e R s m args below meth c D A lv0 ad0 hC H locs cells slots ls ad hD
  exact lv_ldc hC.1 hC.2.1 hC.2.2.2.2.2.1 (hC.2.2.2.2.2.2.1 _ hw) hd (h p l e R s m args below meth c D A lv0 ad0 hC H locs cells slots ls ad (hD.stk ⟨trivial, hD.lvs⟩))
theorem wp_ldcw {x : Nat} {v : Int32} (hw : Cond.constant mi.1.cls x v ∈ TW) (hd : decode mi.2.1 pc = .ok (.ldc_w x, 3)) (h : WP mi d k (pc + 3) L (vI v :: st) S Q QX) : WP mi d k pc L (st) S Q QX := by
  intro p l e R s m args below meth c D A lv0 ad0 hC H locs cells slots ls ad hD
  exact lv_ldcw hC.1 hC.2.1 hC.2.2.2.2.2.1 (hC.2.2.2.2.2.2.1 _ hw) hd (h p l e R s m args below meth c D A lv0 ad0 hC H locs cells slots ls ad (hD.stk ⟨trivial, hD.lvs⟩))
theorem wp_null (hd : decode mi.2.1 pc = .ok (.aconst_null, 1)) (h : WP mi d k (pc + 1) L (vN :: st) S Q QX) : WP mi d k pc L (st) S Q QX := by
  intro p l e R s m args below meth c D A lv0 ad0 hC H locs cells slots ls ad hD
  exact lv_null hC.1 hC.2.1 hd (h p l e R s m args below meth c D A lv0 ad0 hC H locs cells slots ls ad (hD.stk ⟨trivial, hD.lvs⟩))
theorem wp_iload_n {n : Fin 4} {x : Int32} (hd : decode mi.2.1 pc = .ok (.iload_n n, 1)) (hL : L[(n : Nat)]? = some (some (vI x))) (h : WP mi d k (pc + 1) L (vI x :: st) S Q QX) : WP mi d k pc L (st) S Q QX := by
  intro p l e R s m args below meth c D A lv0 ad0 hC H locs cells slots ls ad hD
  exact lv_iload_n hC.1 hC.2.1 hd rfl (hD.lh.2.2.2 _ _ hL).1 (h p l e R s m args below meth c D A lv0 ad0 hC H locs cells slots ls ad (hD.stk ⟨trivial, hD.lvs⟩))
theorem wp_iload {i : Nat} {x : Int32} (hd : decode mi.2.1 pc = .ok (.iload i, 2)) (hL : L[i]? = some (some (vI x))) (h : WP mi d k (pc + 2) L (vI x :: st) S Q QX) : WP mi d k pc L (st) S Q QX := by
  intro p l e R s m args below meth c D A lv0 ad0 hC H locs cells slots ls ad hD
  exact lv_iload hC.1 hC.2.1 hd (hD.lh.2.2.2 _ _ hL).1 (h p l e R s m args below meth c D A lv0 ad0 hC H locs cells slots ls ad (hD.stk ⟨trivial, hD.lvs⟩))
theorem wp_aload_n {n : Fin 4} {o : Option (Nat × Nat)} (hd : decode mi.2.1 pc = .ok (.aload_n n, 1)) (hL : L[(n : Nat)]? = some (some (.inr (.inl o)))) (h : WP mi d k (pc + 1) L (.inr (.inl o) :: st) S Q QX) : WP mi d k pc L st S Q QX := by
  intro p l e R s m args below meth c D A lv0 ad0 hC H locs cells slots ls ad hD
  obtain ⟨h1, h2, h3⟩ := hD.lh.2.2.2 _ _ hL
  cases o with
  | none => exact lv_aload_nN hC.1 hC.2.1 hd rfl h1 (h p l e R s m args below meth c D A lv0 ad0 hC H locs cells slots ls ad (hD.stk ⟨h3, hD.lvs⟩))
  | some q => exact lv_aload_n hC.1 hC.2.1 hd rfl h1 (h p l e R s m args below meth c D A lv0 ad0 hC H locs cells slots ls ad (hD.stk ⟨h3, hD.lvs⟩))
theorem wp_aload {i : Nat} {o : Option (Nat × Nat)} (hd : decode mi.2.1 pc = .ok (.aload i, 2)) (hL : L[i]? = some (some (.inr (.inl o)))) (h : WP mi d k (pc + 2) L (.inr (.inl o) :: st) S Q QX) : WP mi d k pc L st S Q QX := by
  intro p l e R s m args below meth c D A lv0 ad0 hC H locs cells slots ls ad hD
  obtain ⟨h1, h2, h3⟩ := hD.lh.2.2.2 _ _ hL
  cases o with
  | none => exact lv_aloadN hC.1 hC.2.1 hd h1 (h p l e R s m args below meth c D A lv0 ad0 hC H locs cells slots ls ad (hD.stk ⟨h3, hD.lvs⟩))
  | some q => exact lv_aload hC.1 hC.2.1 hd h1 (h p l e R s m args below meth c D A lv0 ad0 hC H locs cells slots ls ad (hD.stk ⟨h3, hD.lvs⟩))
theorem wp_istore_n {n : Fin 4} {x : Int32} (hd : decode mi.2.1 pc = .ok (.istore_n n, 1)) (hn : Nat.ble ((n : Nat) + 1) L.length = true) (hL : L.set (n : Nat) (some (vI x)) = L') (h : WP mi d k (pc + 1) L' st S Q QX) : WP mi d k pc L (vI x :: st) S Q QX := by
  intro p l e R s m args below meth c D A lv0 ad0 hC H locs cells slots ls ad hD
  subst hL
  exact lv_istore_n hC.1 hC.2.1 hd rfl hD.lh.has (by have := Nat.le_of_ble_eq_true hn; rw [hD.lh.2.2.1] at this; omega) rfl (fun ls' hl => h p l e R s m args below meth c D A lv0 ad0 hC H locs cells slots ls' ad (hD.loc (hD.lh.put (v := vI x) rfl trivial hl) hD.lvs.2))
theorem wp_astore_n {n : Fin 4} {o : Option (Nat × Nat)} (hd : decode mi.2.1 pc = .ok (.astore_n n, 1)) (hn : Nat.ble ((n : Nat) + 1) L.length = true) (hL : L.set (n : Nat) (some (.inr (.inl o))) = L') (h : WP mi d k (pc + 1) L' st S Q QX) : WP mi d k pc L (.inr (.inl o) :: st) S Q QX := by
  intro p l e R s m args below meth c D A lv0 ad0 hC H locs cells slots ls ad hD
  subst hL
  have hn' : (n : Nat) < mi.2.2.1 := by have := Nat.le_of_ble_eq_true hn; rw [hD.lh.2.2.1] at this; omega
  cases o with
  | none => exact lv_astore_nN hC.1 hC.2.1 hd rfl hD.lh.has hn' rfl (fun ls' hl => h p l e R s m args below meth c D A lv0 ad0 hC H locs cells slots ls' ad (hD.loc (hD.lh.put (v := vN) rfl hD.lvs.1 hl) hD.lvs.2))
  | some q => exact lv_astore_n hC.1 hC.2.1 hd rfl hD.lh.has hn' rfl (fun ls' hl => h p l e R s m args below meth c D A lv0 ad0 hC H locs cells slots ls' ad (hD.loc (hD.lh.put (v := .inr (.inl (some q))) rfl hD.lvs.1 hl) hD.lvs.2))
theorem wp_istore {i : Nat} {x : Int32} (hd : decode mi.2.1 pc = .ok (.istore i, 2)) (hn : Nat.ble (i + 1) L.length = true) (hL : L.set i (some (vI x)) = L') (h : WP mi d k (pc + 2) L' st S Q QX) : WP mi d k pc L (vI x :: st) S Q QX := by
  intro p l e R s m args below meth c D A lv0 ad0 hC H locs cells slots ls ad hD
  subst hL
  exact lv_istore hC.1 hC.2.1 hd hD.lh.has (by have := Nat.le_of_ble_eq_true hn; rw [hD.lh.2.2.1] at this; omega) rfl (fun ls' hl => h p l e R s m args below meth c D A lv0 ad0 hC H locs cells slots ls' ad (hD.loc (hD.lh.put (v := vI x) rfl trivial hl) hD.lvs.2))
theorem wp_astore {i : Nat} {o : Option (Nat × Nat)} (hd : decode mi.2.1 pc = .ok (.astore i, 2)) (hn : Nat.ble (i + 1) L.length = true) (hL : L.set i (some (.inr (.inl o))) = L') (h : WP mi d k (pc + 2) L' st S Q QX) : WP mi d k pc L (.inr (.inl o) :: st) S Q QX := by
  intro p l e R s m args below meth c D A lv0 ad0 hC H locs cells slots ls ad hD
  subst hL
  have hn' : i < mi.2.2.1 := by have := Nat.le_of_ble_eq_true hn; rw [hD.lh.2.2.1] at this; omega
  cases o with
  | none => exact lv_astoreN hC.1 hC.2.1 hd hD.lh.has hn' rfl (fun ls' hl => h p l e R s m args below meth c D A lv0 ad0 hC H locs cells slots ls' ad (hD.loc (hD.lh.put (v := vN) rfl hD.lvs.1 hl) hD.lvs.2))
  | some q => exact lv_astore hC.1 hC.2.1 hd hD.lh.has hn' rfl (fun ls' hl => h p l e R s m args below meth c D A lv0 ad0 hC H locs cells slots ls' ad (hD.loc (hD.lh.put (v := .inr (.inl (some q))) rfl hD.lvs.1 hl) hD.lvs.2))
theorem wp_iinc {i : Nat} {n : Int} {x v : Int32} (hd : decode mi.2.1 pc = .ok (.iinc i n, 3)) (hx : L[i]? = some (some (vI x))) (hv : x + Int32.ofInt n = v) (hL : L.set i (some (vI v)) = L') (h : WP mi d k (pc + 3) L' st S Q QX) : WP mi d k pc L st S Q QX := by
  intro p l e R s m args below meth c D A lv0 ad0 hC H locs cells slots ls ad hD
  subst hL
  obtain ⟨j, hj⟩ := List.getElem?_of_mem (lhl_mem (ad := ad) hx)
  exact lv_iinc hC.1 hC.2.1 hd hD.lh.has hj hv (by have := (List.getElem?_eq_some_iff.mp hx).1; rw [hD.lh.2.2.1] at this; exact this) rfl (fun ls' hl => h p l e R s m args below meth c D A lv0 ad0 hC H locs cells slots ls' ad (hD.loc (hD.lh.put (v := vI v) rfl trivial hl) hD.lvs))
theorem wp_dup {v : sV} (hd : decode mi.2.1 pc = .ok (.dup, 1)) (hv : cat1 v) (h : WP mi d k (pc + 1) L (v :: v :: st) S Q QX) : WP mi d k pc L (v :: st) S Q QX := by
  intro p l e R s m args below meth c D A lv0 ad0 hC H locs cells slots ls ad hD
  exact lv_dup hC.1 hC.2.1 hd (cat1_1 ad hv) (h p l e R s m args below meth c D A lv0 ad0 hC H locs cells slots ls ad (hD.stk ⟨hD.lvs.1, hD.lvs⟩))
theorem wp_dup2 {v u : sV} (hd : decode mi.2.1 pc = .ok (.dup2, 1)) (hv : cat1 v) (hu : cat1 u) (h : WP mi d k (pc + 1) L (v :: u :: v :: u :: st) S Q QX) : WP mi d k pc L (v :: u :: st) S Q QX := by
  intro p l e R s m args below meth c D A lv0 ad0 hC H locs cells slots ls ad hD
  exact lv_dup2_11 hC.1 hC.2.1 hd (cat1_1 ad hv) (cat1_1 ad hu) (h p l e R s m args below meth c D A lv0 ad0 hC H locs cells slots ls ad (hD.stk ⟨hD.lvs.1, hD.lvs.2.1, hD.lvs⟩))
theorem wp_pop {v : sV} (hd : decode mi.2.1 pc = .ok (.pop, 1)) (hv : cat1 v) (h : WP mi d k (pc + 1) L (st) S Q QX) : WP mi d k pc L (v :: st) S Q QX := by
  intro p l e R s m args below meth c D A lv0 ad0 hC H locs cells slots ls ad hD
  exact lv_pop hC.1 hC.2.1 hd (cat1_1 ad hv) (h p l e R s m args below meth c D A lv0 ad0 hC H locs cells slots ls ad (hD.stk hD.lvs.2))
theorem wp_iadd {x y : Int32} (hd : decode mi.2.1 pc = .ok (.iadd, 1)) (h : WP mi d k (pc + 1) L (vI (x + y) :: st) S Q QX) : WP mi d k pc L (vI y :: vI x :: st) S Q QX := by
  intro p l e R s m args below meth c D A lv0 ad0 hC H locs cells slots ls ad hD
  exact lv_iadd hC.1 hC.2.1 hd (h p l e R s m args below meth c D A lv0 ad0 hC H locs cells slots ls ad (hD.stk ⟨trivial, hD.lvs.2.2⟩))
theorem wp_isub {x y : Int32} (hd : decode mi.2.1 pc = .ok (.isub, 1)) (h : WP mi d k (pc + 1) L (vI (x - y) :: st) S Q QX) : WP mi d k pc L (vI y :: vI x :: st) S Q QX := by
  intro p l e R s m args below meth c D A lv0 ad0 hC H locs cells slots ls ad hD
  exact lv_isub hC.1 hC.2.1 hd (h p l e R s m args below meth c D A lv0 ad0 hC H locs cells slots ls ad (hD.stk ⟨trivial, hD.lvs.2.2⟩))
theorem wp_imul {x y : Int32} (hd : decode mi.2.1 pc = .ok (.imul, 1)) (h : WP mi d k (pc + 1) L (vI (x * y) :: st) S Q QX) : WP mi d k pc L (vI y :: vI x :: st) S Q QX := by
  intro p l e R s m args below meth c D A lv0 ad0 hC H locs cells slots ls ad hD
  exact lv_imul hC.1 hC.2.1 hd (h p l e R s m args below meth c D A lv0 ad0 hC H locs cells slots ls ad (hD.stk ⟨trivial, hD.lvs.2.2⟩))
theorem wp_iand {x y : Int32} (hd : decode mi.2.1 pc = .ok (.iand, 1)) (h : WP mi d k (pc + 1) L (vI (x &&& y) :: st) S Q QX) : WP mi d k pc L (vI y :: vI x :: st) S Q QX := by
  intro p l e R s m args below meth c D A lv0 ad0 hC H locs cells slots ls ad hD
  exact lv_iand hC.1 hC.2.1 hd (h p l e R s m args below meth c D A lv0 ad0 hC H locs cells slots ls ad (hD.stk ⟨trivial, hD.lvs.2.2⟩))
theorem wp_idiv {x y : Int32} (hd : decode mi.2.1 pc = .ok (.idiv, 1)) (hne : ¬ y = 0) (h : WP mi d k (pc + 1) L (vI (x / y) :: st) S Q QX) : WP mi d k pc L (vI y :: vI x :: st) S Q QX := by
  intro p l e R s m args below meth c D A lv0 ad0 hC H locs cells slots ls ad hD
  exact lv_idiv hC.1 hC.2.1 hd hne (h p l e R s m args below meth c D A lv0 ad0 hC H locs cells slots ls ad (hD.stk ⟨trivial, hD.lvs.2.2⟩))
theorem wp_irem {x y : Int32} (hd : decode mi.2.1 pc = .ok (.irem, 1)) (hne : ¬ y = 0) (h : WP mi d k (pc + 1) L (vI (x - x / y * y) :: st) S Q QX) : WP mi d k pc L (vI y :: vI x :: st) S Q QX := by
  intro p l e R s m args below meth c D A lv0 ad0 hC H locs cells slots ls ad hD
  exact lv_irem hC.1 hC.2.1 hd hne (h p l e R s m args below meth c D A lv0 ad0 hC H locs cells slots ls ad (hD.stk ⟨trivial, hD.lvs.2.2⟩))
theorem wp_i2l {x : Int32} (hd : decode mi.2.1 pc = .ok (.i2l, 1)) (h : WP mi d k (pc + 1) L (vL x.toInt64 :: st) S Q QX) : WP mi d k pc L (vI x :: st) S Q QX := by
  intro p l e R s m args below meth c D A lv0 ad0 hC H locs cells slots ls ad hD
  exact lv_i2l hC.1 hC.2.1 hd rfl (h p l e R s m args below meth c D A lv0 ad0 hC H locs cells slots ls ad (hD.stk ⟨trivial, hD.lvs.2⟩))
theorem wp_lcmp {x y : Int64} (hd : decode mi.2.1 pc = .ok (.lcmp, 1)) (h : WP mi d k (pc + 1) L (vI (lg_cmp x y) :: st) S Q QX) : WP mi d k pc L (vL y :: vL x :: st) S Q QX := by
  intro p l e R s m args below meth c D A lv0 ad0 hC H locs cells slots ls ad hD
  exact W.lcmp hC.1 hC.2.1 hd (h p l e R s m args below meth c D A lv0 ad0 hC H locs cells slots ls ad (hD.stk ⟨trivial, hD.lvs.2.2⟩))
theorem wp_if_eq {x : Int32} {off : Int} {tgt : Nat} (hd : decode mi.2.1 pc = .ok (.ifCond .eq off, 3)) (ht : (pc : Int) + off = (tgt : Int)) (kt : x = 0 → WP mi d k tgt L st S Q QX) (kf : ¬ x = 0 → WP mi d k (pc + 3) L st S Q QX) : WP mi d k pc L (vI x :: st) S Q QX := by
  intro p l e R s m args below meth c D A lv0 ad0 hC H locs cells slots ls ad hD
  exact lv_if_eq hC.1 hC.2.1 hd ht (fun q => kt q p l e R s m args below meth c D A lv0 ad0 hC H locs cells slots ls ad (hD.stk hD.lvs.2)) (fun q => kf q p l e R s m args below meth c D A lv0 ad0 hC H locs cells slots ls ad (hD.stk hD.lvs.2))
theorem wp_icmp_eq {x y : Int32} {off : Int} {tgt : Nat} (hd : decode mi.2.1 pc = .ok (.if_icmp .eq off, 3)) (ht : (pc : Int) + off = (tgt : Int)) (kt : x = y → WP mi d k tgt L st S Q QX) (kf : ¬ x = y → WP mi d k (pc + 3) L st S Q QX) : WP mi d k pc L (vI y :: vI x :: st) S Q QX := by
  intro p l e R s m args below meth c D A lv0 ad0 hC H locs cells slots ls ad hD
  exact lv_icmp_eq hC.1 hC.2.1 hd ht (fun q => kt q p l e R s m args below meth c D A lv0 ad0 hC H locs cells slots ls ad (hD.stk hD.lvs.2.2)) (fun q => kf q p l e R s m args below meth c D A lv0 ad0 hC H locs cells slots ls ad (hD.stk hD.lvs.2.2))
theorem wp_if_ne {x : Int32} {off : Int} {tgt : Nat} (hd : decode mi.2.1 pc = .ok (.ifCond .ne off, 3)) (ht : (pc : Int) + off = (tgt : Int)) (kt : ¬ x = 0 → WP mi d k tgt L st S Q QX) (kf : x = 0 → WP mi d k (pc + 3) L st S Q QX) : WP mi d k pc L (vI x :: st) S Q QX := by
  intro p l e R s m args below meth c D A lv0 ad0 hC H locs cells slots ls ad hD
  exact lv_if_ne hC.1 hC.2.1 hd ht (fun q => kt q p l e R s m args below meth c D A lv0 ad0 hC H locs cells slots ls ad (hD.stk hD.lvs.2)) (fun q => kf q p l e R s m args below meth c D A lv0 ad0 hC H locs cells slots ls ad (hD.stk hD.lvs.2))
theorem wp_icmp_ne {x y : Int32} {off : Int} {tgt : Nat} (hd : decode mi.2.1 pc = .ok (.if_icmp .ne off, 3)) (ht : (pc : Int) + off = (tgt : Int)) (kt : ¬ x = y → WP mi d k tgt L st S Q QX) (kf : x = y → WP mi d k (pc + 3) L st S Q QX) : WP mi d k pc L (vI y :: vI x :: st) S Q QX := by
  intro p l e R s m args below meth c D A lv0 ad0 hC H locs cells slots ls ad hD
  exact lv_icmp_ne hC.1 hC.2.1 hd ht (fun q => kt q p l e R s m args below meth c D A lv0 ad0 hC H locs cells slots ls ad (hD.stk hD.lvs.2.2)) (fun q => kf q p l e R s m args below meth c D A lv0 ad0 hC H locs cells slots ls ad (hD.stk hD.lvs.2.2))
theorem wp_if_lt {x : Int32} {off : Int} {tgt : Nat} (hd : decode mi.2.1 pc = .ok (.ifCond .lt off, 3)) (ht : (pc : Int) + off = (tgt : Int)) (kt : x < 0 → WP mi d k tgt L st S Q QX) (kf : ¬ x < 0 → WP mi d k (pc + 3) L st S Q QX) : WP mi d k pc L (vI x :: st) S Q QX := by
  intro p l e R s m args below meth c D A lv0 ad0 hC H locs cells slots ls ad hD
  exact lv_if_lt hC.1 hC.2.1 hd ht (fun q => kt q p l e R s m args below meth c D A lv0 ad0 hC H locs cells slots ls ad (hD.stk hD.lvs.2)) (fun q => kf q p l e R s m args below meth c D A lv0 ad0 hC H locs cells slots ls ad (hD.stk hD.lvs.2))
theorem wp_icmp_lt {x y : Int32} {off : Int} {tgt : Nat} (hd : decode mi.2.1 pc = .ok (.if_icmp .lt off, 3)) (ht : (pc : Int) + off = (tgt : Int)) (kt : x < y → WP mi d k tgt L st S Q QX) (kf : ¬ x < y → WP mi d k (pc + 3) L st S Q QX) : WP mi d k pc L (vI y :: vI x :: st) S Q QX := by
  intro p l e R s m args below meth c D A lv0 ad0 hC H locs cells slots ls ad hD
  exact lv_icmp_lt hC.1 hC.2.1 hd ht (fun q => kt q p l e R s m args below meth c D A lv0 ad0 hC H locs cells slots ls ad (hD.stk hD.lvs.2.2)) (fun q => kf q p l e R s m args below meth c D A lv0 ad0 hC H locs cells slots ls ad (hD.stk hD.lvs.2.2))
theorem wp_if_ge {x : Int32} {off : Int} {tgt : Nat} (hd : decode mi.2.1 pc = .ok (.ifCond .ge off, 3)) (ht : (pc : Int) + off = (tgt : Int)) (kt : 0 ≤ x → WP mi d k tgt L st S Q QX) (kf : ¬ 0 ≤ x → WP mi d k (pc + 3) L st S Q QX) : WP mi d k pc L (vI x :: st) S Q QX := by
  intro p l e R s m args below meth c D A lv0 ad0 hC H locs cells slots ls ad hD
  exact lv_if_ge hC.1 hC.2.1 hd ht (fun q => kt q p l e R s m args below meth c D A lv0 ad0 hC H locs cells slots ls ad (hD.stk hD.lvs.2)) (fun q => kf q p l e R s m args below meth c D A lv0 ad0 hC H locs cells slots ls ad (hD.stk hD.lvs.2))
theorem wp_icmp_ge {x y : Int32} {off : Int} {tgt : Nat} (hd : decode mi.2.1 pc = .ok (.if_icmp .ge off, 3)) (ht : (pc : Int) + off = (tgt : Int)) (kt : y ≤ x → WP mi d k tgt L st S Q QX) (kf : ¬ y ≤ x → WP mi d k (pc + 3) L st S Q QX) : WP mi d k pc L (vI y :: vI x :: st) S Q QX := by
  intro p l e R s m args below meth c D A lv0 ad0 hC H locs cells slots ls ad hD
  exact lv_icmp_ge hC.1 hC.2.1 hd ht (fun q => kt q p l e R s m args below meth c D A lv0 ad0 hC H locs cells slots ls ad (hD.stk hD.lvs.2.2)) (fun q => kf q p l e R s m args below meth c D A lv0 ad0 hC H locs cells slots ls ad (hD.stk hD.lvs.2.2))
theorem wp_if_gt {x : Int32} {off : Int} {tgt : Nat} (hd : decode mi.2.1 pc = .ok (.ifCond .gt off, 3)) (ht : (pc : Int) + off = (tgt : Int)) (kt : 0 < x → WP mi d k tgt L st S Q QX) (kf : ¬ 0 < x → WP mi d k (pc + 3) L st S Q QX) : WP mi d k pc L (vI x :: st) S Q QX := by
  intro p l e R s m args below meth c D A lv0 ad0 hC H locs cells slots ls ad hD
  exact lv_if_gt hC.1 hC.2.1 hd ht (fun q => kt q p l e R s m args below meth c D A lv0 ad0 hC H locs cells slots ls ad (hD.stk hD.lvs.2)) (fun q => kf q p l e R s m args below meth c D A lv0 ad0 hC H locs cells slots ls ad (hD.stk hD.lvs.2))
theorem wp_icmp_gt {x y : Int32} {off : Int} {tgt : Nat} (hd : decode mi.2.1 pc = .ok (.if_icmp .gt off, 3)) (ht : (pc : Int) + off = (tgt : Int)) (kt : y < x → WP mi d k tgt L st S Q QX) (kf : ¬ y < x → WP mi d k (pc + 3) L st S Q QX) : WP mi d k pc L (vI y :: vI x :: st) S Q QX := by
  intro p l e R s m args below meth c D A lv0 ad0 hC H locs cells slots ls ad hD
  exact lv_icmp_gt hC.1 hC.2.1 hd ht (fun q => kt q p l e R s m args below meth c D A lv0 ad0 hC H locs cells slots ls ad (hD.stk hD.lvs.2.2)) (fun q => kf q p l e R s m args below meth c D A lv0 ad0 hC H locs cells slots ls ad (hD.stk hD.lvs.2.2))
theorem wp_if_le {x : Int32} {off : Int} {tgt : Nat} (hd : decode mi.2.1 pc = .ok (.ifCond .le off, 3)) (ht : (pc : Int) + off = (tgt : Int)) (kt : x ≤ 0 → WP mi d k tgt L st S Q QX) (kf : ¬ x ≤ 0 → WP mi d k (pc + 3) L st S Q QX) : WP mi d k pc L (vI x :: st) S Q QX := by
  intro p l e R s m args below meth c D A lv0 ad0 hC H locs cells slots ls ad hD
  exact lv_if_le hC.1 hC.2.1 hd ht (fun q => kt q p l e R s m args below meth c D A lv0 ad0 hC H locs cells slots ls ad (hD.stk hD.lvs.2)) (fun q => kf q p l e R s m args below meth c D A lv0 ad0 hC H locs cells slots ls ad (hD.stk hD.lvs.2))
theorem wp_icmp_le {x y : Int32} {off : Int} {tgt : Nat} (hd : decode mi.2.1 pc = .ok (.if_icmp .le off, 3)) (ht : (pc : Int) + off = (tgt : Int)) (kt : x ≤ y → WP mi d k tgt L st S Q QX) (kf : ¬ x ≤ y → WP mi d k (pc + 3) L st S Q QX) : WP mi d k pc L (vI y :: vI x :: st) S Q QX := by
  intro p l e R s m args below meth c D A lv0 ad0 hC H locs cells slots ls ad hD
  exact lv_icmp_le hC.1 hC.2.1 hd ht (fun q => kt q p l e R s m args below meth c D A lv0 ad0 hC H locs cells slots ls ad (hD.stk hD.lvs.2.2)) (fun q => kf q p l e R s m args below meth c D A lv0 ad0 hC H locs cells slots ls ad (hD.stk hD.lvs.2.2))
theorem wp_goto {off : Int} {tgt : Nat} (hd : decode mi.2.1 pc = .ok (.goto off, 3)) (ht : (pc : Int) + off = (tgt : Int)) (h : WP mi d k tgt L st S Q QX) : WP mi d k pc L st S Q QX := by
  intro p l e R s m args below meth c D A lv0 ad0 hC H locs cells slots ls ad hD
  exact lv_goto hC.1 hC.2.1 hd ht (h p l e R s m args below meth c D A lv0 ad0 hC H locs cells slots ls ad hD)
theorem wp_ifnull {o : Option (Nat × Nat)} {off : Int} {tgt : Nat} (hd : decode mi.2.1 pc = .ok (.ifnull off, 3)) (ht : (pc : Int) + off = (tgt : Int)) (kt : o = none → WP mi d k tgt L st S Q QX) (kf : ¬ o = none → WP mi d k (pc + 3) L st S Q QX) : WP mi d k pc L (.inr (.inl o) :: st) S Q QX := by
  intro p l e R s m args below meth c D A lv0 ad0 hC H locs cells slots ls ad hD
  cases o with
  | none => exact lv_ifnullN hC.1 hC.2.1 hd ht (kt rfl p l e R s m args below meth c D A lv0 ad0 hC H locs cells slots ls ad (hD.stk hD.lvs.2))
  | some q => exact lv_ifnull hC.1 hC.2.1 hd (kf (fun q => nomatch q) p l e R s m args below meth c D A lv0 ad0 hC H locs cells slots ls ad (hD.stk hD.lvs.2))
theorem wp_ifnonnull {o : Option (Nat × Nat)} {off : Int} {tgt : Nat} (hd : decode mi.2.1 pc = .ok (.ifnonnull off, 3)) (ht : (pc : Int) + off = (tgt : Int)) (kt : ¬ o = none → WP mi d k tgt L st S Q QX) (kf : o = none → WP mi d k (pc + 3) L st S Q QX) : WP mi d k pc L (.inr (.inl o) :: st) S Q QX := by
  intro p l e R s m args below meth c D A lv0 ad0 hC H locs cells slots ls ad hD
  cases o with
  | none => exact lv_ifnonnullN hC.1 hC.2.1 hd (kf rfl p l e R s m args below meth c D A lv0 ad0 hC H locs cells slots ls ad (hD.stk hD.lvs.2))
  | some q => exact lv_ifnonnull hC.1 hC.2.1 hd ht (kt (fun q => nomatch q) p l e R s m args below meth c D A lv0 ad0 hC H locs cells slots ls ad (hD.stk hD.lvs.2))
theorem wp_acmp_ne {c1 i1 c2 i2 : Nat} {off : Int} {tgt : Nat} (hd : decode mi.2.1 pc = .ok (.if_acmp .ne off, 3)) (ht : (pc : Int) + off = (tgt : Int)) (hc : ¬ (71 ≤ c1 ∧ c1 < 75)) (hc2 : ¬ (71 ≤ c2 ∧ c2 < 75)) (kt : ¬ (c1 = c2 ∧ i1 = i2) → WP mi d k tgt L st S Q QX) (kf : c1 = c2 ∧ i1 = i2 → WP mi d k (pc + 3) L st S Q QX) : WP mi d k pc L (vR c2 i2 :: vR c1 i1 :: st) S Q QX := by
  intro p l e R s m args below meth c D A lv0 ad0 hC H locs cells slots ls ad hD
  have h2 : S.1 c2 i2 = true := hD.lvs.1.elim id (fun q => absurd ⟨q.1, q.2.1⟩ hc2)
  have h1 : S.1 c1 i1 = true := hD.lvs.2.1.elim id (fun q => absurd ⟨q.1, q.2.1⟩ hc)
  refine lv_acmp_ne (rx := some (ad c1 i1)) (ry := some (ad c2 i2)) hC.1 hC.2.1 hd ht (fun q => kt (fun z => q (by rw [z.1, z.2])) p l e R s m args below meth c D A lv0 ad0 hC H locs cells slots ls ad (hD.stk hD.lvs.2.2)) (fun q => kf ?_ p l e R s m args below meth c D A lv0 ad0 hC H locs cells slots ls ad (hD.stk hD.lvs.2.2))
  exact hD.1.2.1 c1 i1 c2 i2 (Or.inl h1) (Or.inl h2) (Option.some.inj q)
theorem wp_tableIn {dflt lo hi : Int} {offs : Array Int} {n : Nat} {x : Int32} {off : Int} {tgt : Nat} (hd : decode mi.2.1 pc = .ok (.tableswitch dflt lo hi offs, n)) (h1 : ¬ x.toInt < lo) (h2 : ¬ hi < x.toInt) (ho : offs[(x.toInt - lo).toNat]? = some off) (ht : (pc : Int) + off = (tgt : Int)) (h : WP mi d k tgt L st S Q QX) : WP mi d k pc L (vI x :: st) S Q QX := by
  intro p l e R s m args below meth c D A lv0 ad0 hC H locs cells slots ls ad hD
  exact lv_tableIn hC.1 hC.2.1 hd h1 h2 ho ht (h p l e R s m args below meth c D A lv0 ad0 hC H locs cells slots ls ad (hD.stk hD.lvs.2))
theorem wp_tableOut {dflt lo hi : Int} {offs : Array Int} {n : Nat} {x : Int32} {tgt : Nat} (hd : decode mi.2.1 pc = .ok (.tableswitch dflt lo hi offs, n)) (h1 : x.toInt < lo ∨ hi < x.toInt) (ht : (pc : Int) + dflt = (tgt : Int)) (h : WP mi d k tgt L st S Q QX) : WP mi d k pc L (vI x :: st) S Q QX := by
  intro p l e R s m args below meth c D A lv0 ad0 hC H locs cells slots ls ad hD
  exact lv_tableOut hC.1 hC.2.1 hd h1 ht (h p l e R s m args below meth c D A lv0 ad0 hC H locs cells slots ls ad (hD.stk hD.lvs.2))
theorem wp_ireturn {x : Int32} (hr : mi.2.2.2.1 = some .int) (hd : decode mi.2.1 pc = .ok (.ireturn, 1)) (hq : Q (some (vI x)) S) : WP mi d k pc L [vI x] S Q QX := by
  intro p l e R s m args below meth c D A lv0 ad0 hC H locs cells slots ls ad hD
  refine W.widen (k := R.cells) (n := R.slots) (by have := hD.2.2.2.2.2.2.1; omega) (by have := hD.2.2.2.2.2.2.2; omega) (vx_ret ?_)
  exact W.iret hC.1 hC.2.1 (hC.2.2.1.trans hr) (fun t ht hW => ⟨⟨(some (vI x)), S, ad, rfl, hq, by rw [ht]; exact hD.1, hD.2.2.2.1, fun v hv => by cases hv; trivial, hD.2.1⟩, hD.2.2.1.F ht⟩) hD.2.2.1.2.2 hd hC.2.2.2.1
theorem wp_zreturn {x : Int32} (hr : mi.2.2.2.1 = some .boolean) (hx : x = 0 ∨ x = 1) (hd : decode mi.2.1 pc = .ok (.ireturn, 1)) (hq : Q (some (vI x)) S) : WP mi d k pc L [vI x] S Q QX := by
  intro p l e R s m args below meth c D A lv0 ad0 hC H locs cells slots ls ad hD
  refine W.widen (k := R.cells) (n := R.slots) (by have := hD.2.2.2.2.2.2.1; omega) (by have := hD.2.2.2.2.2.2.2; omega) (vx_ret ?_)
  exact W.zret hC.1 hC.2.1 (hC.2.2.1.trans hr) (by rcases hx with rfl | rfl <;> rfl) (fun t ht hW => ⟨⟨(some (vI x)), S, ad, rfl, hq, by rw [ht]; exact hD.1, hD.2.2.2.1, fun v hv => by cases hv; trivial, hD.2.1⟩, hD.2.2.1.F ht⟩) hD.2.2.1.2.2 hd hC.2.2.2.1
theorem wp_return (hr : mi.2.2.2.1 = none) (hd : decode mi.2.1 pc = .ok (.return_, 1)) (hq : Q none S) : WP mi d k pc L [] S Q QX := by
  intro p l e R s m args below meth c D A lv0 ad0 hC H locs cells slots ls ad hD
  refine W.widen (k := R.cells) (n := R.slots) (by have := hD.2.2.2.2.2.2.1; omega) (by have := hD.2.2.2.2.2.2.2; omega) (vx_ret ?_)
  exact W.vret hC.1 hC.2.1 (hC.2.2.1.trans hr) (fun t ht hW => ⟨⟨none, S, ad, rfl, hq, by rw [ht]; exact hD.1, hD.2.2.2.1, fun v hv => (by cases hv), hD.2.1⟩, hD.2.2.1.F ht⟩) hD.2.2.1.2.2 hd hC.2.2.2.1
theorem wp_areturn {o : Option (Nat × Nat)} {C : String} (hr : mi.2.2.2.1 = some (.object C)) (hd : decode mi.2.1 pc = .ok (.areturn, 1)) (hq : Q (some (.inr (.inl o))) S) : WP mi d k pc L [.inr (.inl o)] S Q QX := by
  intro p l e R s m args below meth c D A lv0 ad0 hC H locs cells slots ls ad hD
  refine W.widen (k := R.cells) (n := R.slots) (by have := hD.2.2.2.2.2.2.1; omega) (by have := hD.2.2.2.2.2.2.2; omega) (vx_ret ?_)
  exact W.aret hC.1 hC.2.1 (hC.2.2.1.trans hr) (Or.inl ⟨_, rfl⟩) (by cases o with | none => exact Or.inl rfl | some q => exact Or.inr ⟨_, rfl⟩) (fun t ht hW => ⟨⟨some (.inr (.inl o)), S, ad, rfl, hq, by rw [ht]; exact hD.1, hD.2.2.2.1, fun v hv => by cases hv; exact hD.lvs.1, hD.2.1⟩, hD.2.2.1.F ht⟩) hD.2.2.1.2.2 hd hC.2.2.2.1
end WPR
