/-! the class's memory, and the rows over it -/
section C8
abbrev CM : Type := (Nat → Nat → Bool) × (Nat → Nat → Option Nat) × (Nat → Nat → Int32) × (Nat → Nat → Nat → Int32) × (Nat → Nat → Nat → Option Nat) × (Nat → Nat → List Nat)
def cM (m : CM) (out : Int64) (rho : RH) : OM := (m.1, m.2.1, m.2.2.1, m.2.2.2.1, m.2.2.2.2.1, m.2.2.2.2.2, out, rho)
def gV (m : CM) (c i : Nat) : Bool := m.1 c i
def gR (m : CM) (f i : Nat) : Option Nat := m.2.1 f i
def gI (m : CM) (f i : Nat) : Int32 := m.2.2.1 f i
def gA (m : CM) (c i j : Nat) : Int32 := m.2.2.2.1 c i j
def gO (m : CM) (c i j : Nat) : Option Nat := m.2.2.2.2.1 c i j
def gL (m : CM) (c i : Nat) : List Nat := m.2.2.2.2.2 c i
def sR (m : CM) (f i : Nat) (o : Option Nat) : CM := (m.1, up2 m.2.1 f i o, m.2.2)
def sI (m : CM) (f i : Nat) (v : Int32) : CM := (m.1, m.2.1, up2 m.2.2.1 f i v, m.2.2.2)
def sA (m : CM) (c i j : Nat) (v : Int32) : CM := (m.1, m.2.1, m.2.2.1, up3 m.2.2.2.1 c i j v, m.2.2.2.2)
def sO (m : CM) (c i j : Nat) (o : Option Nat) : CM := (m.1, m.2.1, m.2.2.1, m.2.2.2.1, up3 m.2.2.2.2.1 c i j o, m.2.2.2.2.2)
def sL (m : CM) (c i : Nat) (xs : List Nat) : CM := (m.1, m.2.1, m.2.2.1, m.2.2.2.1, m.2.2.2.2.1, up2 m.2.2.2.2.2 c i xs)
def sN (m : CM) (c i : Nat) : CM := (up2 m.1 c i true, clr m.2.1 c i none, clr m.2.2.1 c i 0, m.2.2.2)
def sNA (m : CM) (c i : Nat) : CM := (up2 m.1 c i true, m.2.1, m.2.2.1, up2 m.2.2.2.1 c i (fun _ => 0), m.2.2.2.2)
def sNO (m : CM) (c i : Nat) : CM := (up2 m.1 c i true, m.2.1, m.2.2.1, m.2.2.2.1, up2 m.2.2.2.2.1 c i (fun _ => none), m.2.2.2.2.2)
def sNL (m : CM) (c i : Nat) : CM := (up2 m.1 c i true, m.2.1, m.2.2.1, m.2.2.2.1, m.2.2.2.2.1, up2 m.2.2.2.2.2 c i [])
def sNM (m : CM) : CM := (mlv m.1, m.2.1, m.2.2.1, mai m.2.2.2.1, mar m.2.2.2.2.1, m.2.2.2.2.2)
/-- value, memory, gas -/
abbrev CR (α : Type) : Type := Option (α × CM × Nat)
def cb {α β : Type} (o : CR α) (k : α → CM → CR β) : CR β := match o with | none => none | some p => (k p.1 p.2.1).map fun q => (q.1, q.2.1, p.2.2 + q.2.2)
theorem cb_e {α β : Type} {o : CR α} {k : α → CM → CR β} {r : β} {m : CM} {n : Nat} (h : cb o k = some (r, m, n)) : ∃ a m1 n1 n2, o = some (a, m1, n1) ∧ k a m1 = some (r, m, n2) ∧ n1 + n2 = n := by
  cases o with
  | none => cases h
  | some p =>
    have h : (k p.1 p.2.1).map (fun q => (q.1, q.2.1, p.2.2 + q.2.2)) = some (r, m, n) := h
    cases hk : k p.1 p.2.1 with
    | none => rw [hk] at h; cases h
    | some q =>
      rw [hk] at h
      cases h
      exact ⟨p.1, p.2.1, p.2.2, q.2.2, rfl, hk, rfl⟩
def cg {β : Type} (g : Nat) (o : CR β) : CR β := o.map fun q => (q.1, q.2.1, q.2.2 + g)
theorem cg_e {β : Type} {g : Nat} {o : CR β} {r : β} {m : CM} {n : Nat} (h : cg g o = some (r, m, n)) : ∃ n2, o = some (r, m, n2) ∧ n2 + g = n := by
  cases o with
  | none => cases h
  | some q => cases h; exact ⟨q.2.2, rfl, rfl⟩
/-- a reference that must not be null -/
def od {β : Type} (o : Option Nat) (k : Nat → Option β) : Option β := match o with | none => none | some i => k i
theorem od_e {β : Type} {o : Option Nat} {k : Nat → Option β} {x : β} (h : od o k = some x) : ∃ i, o = some i ∧ k i = some x := by
  cases o with
  | none => cases h
  | some i => exact ⟨i, rfl, h⟩
theorem cs_e {α : Type} {a r : α} {m m' : CM} {g n : Nat} (h : some (a, m, g) = some (r, m', n)) : a = r ∧ m = m' ∧ g = n := by
  have := Option.some.inj h
  exact ⟨congrArg Prod.fst this, congrArg (fun x => x.2.1) this, congrArg (fun x => x.2.2) this⟩
def Pc (out : Int64) (rho : RH) (v : Option sV) (m : CM) : Option sV → OM → Prop := fun r' S' => r' = v ∧ S' = cM m out rho
/-- of a public method: its value, or which exception -/
def PcE (out : Int64) (rho : RH) (v : Int32 ⊕ Nat) (vd : Bool) (m : CM) : Option sV → OM → Prop := fun r' S' => (∃ x, v = .inl x ∧ r' = (if vd then none else some (vI x))) ∧ S' = cM m out rho
def XcE (out : Int64) (rho : RH) (v : Int32 ⊕ Nat) (m : CM) : String → OM → Prop := fun E S' => (∃ j, v = .inr j ∧ j < 3 ∧ E = eCl j) ∧ S' = cM m out rho
variable {mi : MI} {d k pc x : Nat} {L : List (Option sV)} {st : List sV} {Q : Option sV → OM → Prop} {QX : String → OM → Prop} {m m1 : CM} {out : Int64} {rho : RH} {c i y f t : Nat}
theorem cp_getI (hc : c < 9) (hy : y < nF c) (ht : tg c y = 0) (hf : 128 * c + y = f) (hw : Cond.fieldLink mi.1.cls x (cT c y).1 (cT c y).2.1 (cT c y).2.2.1 ∈ TW) (hd : decode mi.2.1 pc = .ok (.getfield x, 3))
    (h : WP mi d k (pc + 3) L (vI (gI m f i) :: st) (cM m out rho) Q QX) : WP mi d k pc L (vR c i :: st) (cM m out rho) Q QX := wp_getI hc hy ht hf hw hd h
theorem cp_getR {o : Option Nat} (hc : c < 10) (hy : y < nF c) (ht : tg c y = t + 1) (hf : 128 * c + y = f) (hw : Cond.fieldLink mi.1.cls x (cT c y).1 (cT c y).2.1 (cT c y).2.2.1 ∈ TW) (hd : decode mi.2.1 pc = .ok (.getfield x, 3)) (ho : gR m f i = o)
    (h : WP mi d k (pc + 3) L (vO t o :: st) (cM m out rho) Q QX) : WP mi d k pc L (vR c i :: st) (cM m out rho) Q QX := wp_getR hc hy ht hf hw hd ho h
theorem cp_getS {j : Nat} (hc : c < 10) (hy : y < nF c) (ht : tg c y = t + 1) (hf : 128 * c + y = f) (hw : Cond.fieldLink mi.1.cls x (cT c y).1 (cT c y).2.1 (cT c y).2.2.1 ∈ TW) (hd : decode mi.2.1 pc = .ok (.getfield x, 3)) (ho : gR m f i = some j)
    (h : WP mi d k (pc + 3) L (vR t j :: st) (cM m out rho) Q QX) : WP mi d k pc L (vR c i :: st) (cM m out rho) Q QX := wp_getR hc hy ht hf hw hd ho h
theorem cp_putI {v : Int32} (e : sI m f i v = m1) (hc : c < 9) (hy : y < nF c) (ht : tg c y = 0) (hf : 128 * c + y = f) (hfin : (cT c y).2.2.2 = false ∨ (mi.1.name = "<init>" ∧ (cT c y).1 = mi.1.cls)) (hw : Cond.fieldLink mi.1.cls x (cT c y).1 (cT c y).2.1 (cT c y).2.2.1 ∈ TW) (hd : decode mi.2.1 pc = .ok (.putfield x, 3)) (hY : cY c y = .int)
    (h : WP mi d k (pc + 3) L st (cM m1 out rho) Q QX) : WP mi d k pc L (vI v :: vR c i :: st) (cM m out rho) Q QX := by subst e; exact wp_putI hc hy ht hf hfin hw hd hY h
theorem cp_putB {v : Int32} (e : sI m f i v = m1) (hc : c < 9) (hy : y < nF c) (ht : tg c y = 0) (hf : 128 * c + y = f) (hfin : (cT c y).2.2.2 = false ∨ (mi.1.name = "<init>" ∧ (cT c y).1 = mi.1.cls)) (hw : Cond.fieldLink mi.1.cls x (cT c y).1 (cT c y).2.1 (cT c y).2.2.1 ∈ TW) (hd : decode mi.2.1 pc = .ok (.putfield x, 3)) (hY : cY c y = .boolean) (hv : v = 0 ∨ v = 1)
    (h : WP mi d k (pc + 3) L st (cM m1 out rho) Q QX) : WP mi d k pc L (vI v :: vR c i :: st) (cM m out rho) Q QX := by subst e; exact wp_putB hc hy ht hf hfin hw hd hY hv h
theorem cp_putR {o : Option Nat} (e : sR m f i o = m1) (hc : c < 10) (hy : y < nF c) (ht : tg c y = t + 1) (hf : 128 * c + y = f) (hfin : (cT c y).2.2.2 = false ∨ (mi.1.name = "<init>" ∧ (cT c y).1 = mi.1.cls)) (hw : Cond.fieldLink mi.1.cls x (cT c y).1 (cT c y).2.1 (cT c y).2.2.1 ∈ TW) (hd : decode mi.2.1 pc = .ok (.putfield x, 3)) (hn : ∀ v : Value, narrow (cY c y) v = v) (hft : fits (cY c y) .null = true) (hft2 : ∀ a : Nat, fits (cY c y) (.ref a) = true) (h71 : ¬ (71 ≤ t ∧ t < 75))
    (h : WP mi d k (pc + 3) L st (cM m1 out rho) Q QX) : WP mi d k pc L (vO t o :: vR c i :: st) (cM m out rho) Q QX := by subst e; exact wp_putR hc hy ht hf hfin hw hd hn hft hft2 h h71
theorem cp_iald {j : Int32} (hk : kd c = 1) (hc : c < 200) (hj : vp_in j (len c)) (hd : decode mi.2.1 pc = .ok (.iaload, 1))
    (h : WP mi d k (pc + 1) L (vI (gA m c i j.toNatClampNeg) :: st) (cM m out rho) Q QX) : WP mi d k pc L (vI j :: vR c i :: st) (cM m out rho) Q QX := wp_iald hk hc hj hd h
theorem cp_bald {j : Int32} (hk : kd c = 2) (hc : c < 200) (hj : vp_in j (len c)) (hd : decode mi.2.1 pc = .ok (.baload, 1))
    (h : WP mi d k (pc + 1) L (vI (gA m c i j.toNatClampNeg) :: st) (cM m out rho) Q QX) : WP mi d k pc L (vI j :: vR c i :: st) (cM m out rho) Q QX := wp_bald hk hc hj hd h
theorem cp_iast {j v : Int32} (e : sA m c i j.toNatClampNeg v = m1) (hk : kd c = 1) (hc : c < 200) (hj : vp_in j (len c)) (hd : decode mi.2.1 pc = .ok (.iastore, 1))
    (h : WP mi d k (pc + 1) L st (cM m1 out rho) Q QX) : WP mi d k pc L (vI v :: vI j :: vR c i :: st) (cM m out rho) Q QX := by subst e; exact wp_iast hk hc hj hd h
theorem cp_bast {j v : Int32} (e : sA m c i j.toNatClampNeg v = m1) (hk : kd c = 2) (hc : c < 200) (hj : vp_in j (len c)) (hx : v = 0 ∨ v = 1) (hd : decode mi.2.1 pc = .ok (.bastore, 1))
    (h : WP mi d k (pc + 1) L st (cM m1 out rho) Q QX) : WP mi d k pc L (vI v :: vI j :: vR c i :: st) (cM m out rho) Q QX := by subst e; exact wp_bast hk hc hj hx hd h
theorem cp_aald {j : Int32} {o : Nat} (hk : kd c = 3) (hc : c < 44) (ht : tA c = t) (hj : vp_in j (len c)) (hd : decode mi.2.1 pc = .ok (.aaload, 1)) (ho : gO m c i j.toNatClampNeg = some o)
    (h : WP mi d k (pc + 1) L (vR t o :: st) (cM m out rho) Q QX) : WP mi d k pc L (vI j :: vR c i :: st) (cM m out rho) Q QX := by subst ht; exact wp_aald hk hc hj hd ho h
theorem cp_aast {j : Int32} {v : Nat} (e : sO m c i j.toNatClampNeg (some v) = m1) (hk : kd c = 3) (hc : c = 41 ∨ c = 42 ∨ c = 43) (ht : tA c = t) (hj : vp_in j (len c)) (hd : decode mi.2.1 pc = .ok (.aastore, 1))
    (h : WP mi d k (pc + 1) L st (cM m1 out rho) Q QX) : WP mi d k pc L (vR t v :: vI j :: vR c i :: st) (cM m out rho) Q QX := by subst e; exact wp_aast hk hc ht hj hd h
theorem cp_new (e : sN m c i = m1) (hc : c < 9) (hn : gV m c i = false) (hw1 : Cond.classLink mi.1.cls x (cn c) ∈ TW) (hw2 : Cond.instantiable (cn c) (nF c) ∈ TW) (hw3 : Cond.initialized (cn c) ∈ TW) (hd : decode mi.2.1 pc = .ok (.new x, 3))
    (h : WP mi d k (pc + 3) L (vR c i :: st) (cM m1 out rho) Q QX) : WP mi d (k + 1) pc L st (cM m out rho) Q QX := by subst e; exact wp_new hc (fun z => by rw [show m.1 c i = false from hn] at z; cases z) hw1 hw2 hw3 hd h
theorem cp_newa {N : Int32} {a : ArrayType} (e : sNA m c i = m1) (hc : kd c = 1 ∨ kd c = 2) (hc2 : c < 200) (hn : gV m c i = false) (hN : ¬ N < 0) (hN2 : N.toNatClampNeg = len c) (hlen : len c ≤ 700) (hw : Cond.arrayClass (newarray.typeOf a) ∈ TW) (ht : newarray.typeOf a = tyr (kA c)) (hd : decode mi.2.1 pc = .ok (.newarray a, 2)) (h9 : c ≠ 9)
    (h : WP mi d k (pc + 2) L (vR c i :: st) (cM m1 out rho) Q QX) : WP mi d (k + 1) pc L (vI N :: st) (cM m out rho) Q QX := by subst e; exact wp_newa hc hc2 (fun z => by rw [show m.1 c i = false from hn] at z; cases z) hN hN2 hlen hw ht hd h9 h
theorem cp_anew {N : Int32} (e : sNO m c i = m1) (hk : kd c = 3) (hc : c = 41 ∨ c = 42 ∨ c = 43) (hn : gV m c i = false) (hN : ¬ N < 0) (hN2 : N.toNatClampNeg = len c) (hw : Cond.classLink mi.1.cls x (cn (tA c)) ∈ TW) (hao : ∀ s, KN s → va_AO (cn (tA c)) s) (hd : decode mi.2.1 pc = .ok (.anewarray x, 3))
    (h : WP mi d k (pc + 3) L (vR c i :: st) (cM m1 out rho) Q QX) : WP mi d (k + 1) pc L (vI N :: st) (cM m out rho) Q QX := by subst e; exact wp_anew hk hc (fun z => by rw [show m.1 c i = false from hn] at z; cases z) hN hN2 hw hao hd h
theorem cp_newlist {x2 : Nat} (e : sNL m c i = m1) (hk : kd c = 4) (hn : gV m c i = false) (hdd : 8 ≤ d) (hw1 : Cond.classLink mi.1.cls x RJx4a65c ∈ TW) (hw : Cond.methodLink mi.1.cls x2 yJx4a65c_init_da8c8 ∈ TW) (hd : decode mi.2.1 pc = .ok (.new x, 3)) (hd2 : decode mi.2.1 (pc + 3) = .ok (.dup, 1)) (hd3 : decode mi.2.1 (pc + 4) = .ok (.invokespecial x2, 3)) (hr : st.length ≤ 3)
    (h : WP mi d k (pc + 7) L (vR c i :: st) (cM m1 out rho) Q QX) : WP mi d (k + 1) pc L st (cM m out rho) Q QX := by subst e; exact wp_newlist hk (fun z => by rw [show m.1 c i = false from hn] at z; cases z) hdd hw1 hw hd hd2 hd3 hr h
theorem cp_mna {a b : Int32} (e : sNM m = m1) (hb : b = 49) (ha : a = 3) (hn : ∀ c i, mP c i → gV m c i = false) (hw : Cond.classLink mi.1.cls x "[[I" ∈ TW) (hw2 : Cond.arrayClass .int ∈ TW) (hd : decode mi.2.1 pc = .ok (.multianewarray x 2, 4))
    (h : WP mi d k (pc + 4) L (vR 40 0 :: st) (cM m1 out rho) Q QX) : WP mi d (k + 4) pc L (vI b :: vI a :: st) (cM m out rho) Q QX := by subst e; exact wp_mna hb ha (fun c i z q => by rw [show m.1 c i = false from hn c i z] at q; cases q) hw hw2 hd h
theorem cp_size (hk : kd c = 4) (hdd : 8 ≤ d) (hw : Cond.methodLink mi.1.cls x yJx4a65c_size_8abf5 ∈ TW) (hd : decode mi.2.1 pc = .ok (.invokevirtual x, 3)) (hr : st.length ≤ 4)
    (h : WP mi d k (pc + 3) L (vI (nI (gL m c i).length) :: st) (cM m out rho) Q QX) : WP mi d k pc L (vR c i :: st) (cM m out rho) Q QX := wp_size hk hdd hw hd hr h
theorem cp_isEmpty (hk : kd c = 4) (hdd : 8 ≤ d) (hw : Cond.methodLink mi.1.cls x yJx4a65c_isEmpty_aae02 ∈ TW) (hd : decode mi.2.1 pc = .ok (.invokevirtual x, 3)) (hr : st.length ≤ 4)
    (h : WP mi d k (pc + 3) L (vI (if nI (gL m c i).length = 0 then 1 else 0) :: st) (cM m out rho) Q QX) : WP mi d k pc L (vR c i :: st) (cM m out rho) Q QX := wp_isEmpty hk hdd hw hd hr h
theorem cp_get {j : Int32} {v : Nat} (hk : kd c = 4) (ht : tA c = t) (hdd : 8 ≤ d) (h0 : ¬ j < 0) (hy : (gL m c i)[j.toNatClampNeg]? = some v) (hw : Cond.methodLink mi.1.cls x yJx4a65c_get_915e3 ∈ TW) (hd : decode mi.2.1 pc = .ok (.invokevirtual x, 3)) (hr : st.length ≤ 4)
    (h : WP mi d k (pc + 3) L (vR t v :: st) (cM m out rho) Q QX) : WP mi d k pc L (vI j :: vR c i :: st) (cM m out rho) Q QX := wp_get hk ht hdd h0 hy hw hd hr h
theorem cp_add {v : Nat} (e : sL m c i (gL m c i ++ [v]) = m1) (hk : kd c = 4) (ht : tA c = t) (hdd : 8 ≤ d) (hlen : (gL m c i).length ≤ 450) (hw : Cond.methodLink mi.1.cls x yJx4a65c_add_9ea2d ∈ TW) (hd : decode mi.2.1 pc = .ok (.invokevirtual x, 3)) (hr : st.length ≤ 4)
    (h : WP mi d k (pc + 3) L (vI 1 :: st) (cM m1 out rho) Q QX) : WP mi d (k + 1) pc L (vR t v :: vR c i :: st) (cM m out rho) Q QX := by subst e; exact wp_add hk ht hdd hlen hw hd hr h
theorem cp_remove {j : Int32} {v : Nat} (e : sL m c i ((gL m c i).eraseIdx j.toNatClampNeg) = m1) (hk : kd c = 4) (ht : tA c = t) (hdd : 8 ≤ d) (h0 : ¬ j < 0) (hy : (gL m c i)[j.toNatClampNeg]? = some v) (hw : Cond.methodLink mi.1.cls x yJx4a65c_remove_915e3 ∈ TW) (hd : decode mi.2.1 pc = .ok (.invokevirtual x, 3)) (hr : st.length ≤ 4)
    (h : WP mi d k (pc + 3) L (vR t v :: st) (cM m1 out rho) Q QX) : WP mi d k pc L (vI j :: vR c i :: st) (cM m out rho) Q QX := by subst e; exact wp_remove hk ht hdd h0 hy hw hd hr h
theorem cp_gets {j : Nat} (hj : j < 3) (hw : Cond.fieldLink mi.1.cls x "BrambleMesh" (polN j) "[I" ∈ TW) (hd : decode mi.2.1 pc = .ok (.getstatic x, 3))
    (h : WP mi d k (pc + 3) L (vR (71 + j) 0 :: st) (cM m out rho) Q QX) : WP mi d k pc L st (cM m out rho) Q QX := wp_gets hj hw hd h
theorem cp_ialdS {j : Nat} {y : Int32} (hj : j < 3) (hy : vp_in y 3) (hd : decode mi.2.1 pc = .ok (.iaload, 1))
    (h : WP mi d k (pc + 1) L (vI (polV j y.toNatClampNeg) :: st) (cM m out rho) Q QX) : WP mi d k pc L (vI y :: vR (71 + j) 0 :: st) (cM m out rho) Q QX := wp_ialdS hj hy hd h
theorem cp_cast (hc : c < 10) (hw : Cond.classLink mi.1.cls x (cn c) ∈ TW) (hd : decode mi.2.1 pc = .ok (.checkcast x, 3))
    (h : WP mi d k (pc + 3) L (vR c i :: st) (cM m out rho) Q QX) : WP mi d k pc L (vR c i :: st) (cM m out rho) Q QX := wp_cast hc hw hd h
theorem cp_ifnull {o : Option Nat} {off : Int} {tgt : Nat} {S : OM} (hd : decode mi.2.1 pc = .ok (.ifnull off, 3)) (ht : (pc : Int) + off = (tgt : Int)) (kt : o = none → WP mi d k tgt L st S Q QX) (kf : ¬ o = none → WP mi d k (pc + 3) L st S Q QX) : WP mi d k pc L (vO c o :: st) S Q QX :=
  wp_ifnull hd ht (fun z => kt (by cases o with | none => rfl | some i => cases z)) (fun z => kf (fun q => z (by rw [q]; rfl)))
theorem cp_ifnonnull {o : Option Nat} {off : Int} {tgt : Nat} {S : OM} (hd : decode mi.2.1 pc = .ok (.ifnonnull off, 3)) (ht : (pc : Int) + off = (tgt : Int)) (kt : ¬ o = none → WP mi d k tgt L st S Q QX) (kf : o = none → WP mi d k (pc + 3) L st S Q QX) : WP mi d k pc L (vO c o :: st) S Q QX :=
  wp_ifnonnull hd ht (fun z => kt (fun q => z (by rw [q]; rfl))) (fun z => kf (by cases o with | none => rfl | some i => cases z))
theorem cp_acmp_ne {i1 i2 : Nat} {off : Int} {tgt : Nat} {S : OM} (hd : decode mi.2.1 pc = .ok (.if_acmp .ne off, 3)) (ht : (pc : Int) + off = (tgt : Int)) (hc : ¬ (71 ≤ c ∧ c < 75)) (kt : ¬ i1 = i2 → WP mi d k tgt L st S Q QX) (kf : i1 = i2 → WP mi d k (pc + 3) L st S Q QX) : WP mi d k pc L (vR c i2 :: vR c i1 :: st) S Q QX :=
  wp_acmp_ne hd ht hc hc (fun z => kt (fun q => z ⟨rfl, q⟩)) (fun z => kf z.2)
theorem mP4 (h : gV m 40 0 = false ∧ gV m 37 0 = false ∧ gV m 37 1 = false ∧ gV m 37 2 = false) : ∀ c i, mP c i → gV m c i = false := fun c i z => by
  rcases z with ⟨rfl, rfl⟩ | ⟨rfl, z⟩
  · exact h.1
  · have : i = 0 ∨ i = 1 ∨ i = 2 := by omega
    rcases this with rfl | rfl | rfl
    · exact h.2.1
    · exact h.2.2.1
    · exact h.2.2.2
theorem wp_tabAt {dflt hi : Int} {offs : Array Int} {n i tgt : Nat} {x : Int32} {off : Int} {S : OM} (hx : x = nI i) (hd : decode mi.2.1 pc = .ok (.tableswitch dflt 0 hi offs, n)) (h1 : (i : Int) ≤ hi) (h2 : i < 1000) (ho : offs[i]? = some off) (ht : (pc : Int) + off = (tgt : Int)) (h : WP mi d k tgt L st S Q QX) : WP mi d k pc L (vI x :: st) S Q QX := by
  have e : x.toInt = (i : Int) := by rw [hx]; exact nI_toInt (by omega)
  refine wp_tableIn hd (by rw [e]; omega) (by rw [e]; omega) ?_ ht h
  rw [e]
  simpa using ho
/-- how long a row of references is -/
theorem cp_rlen (hk : kd c = 3) (h71 : c < 44) (hd : decode mi.2.1 pc = .ok (.arraylength, 1))
    (h : WP mi d k (pc + 1) L (vI (nI (len c)) :: st) (cM m out rho) Q QX) : WP mi d k pc L (vR c i :: st) (cM m out rho) Q QX := by
  intro p l e R s m9 args below meth cc D A lv0 ad0 hC H locs cells slots ls ad hD
  have hl := lv_of hD.lvs.1 (show ¬ (71 ≤ c ∧ c < 75) by omega)
  have hr := refs_of hD.1 hl hk
  have hgo := h p l e R s m9 args below meth cc D A lv0 ad0 hC H locs cells slots ls ad (hD.stk ⟨trivial, hD.lvs.2⟩)
  have hP : va_P D.1 cls [(ad c i, .inl (D.2.1 (kA c), (len c, .inr (.inr (.inr (.inr (fun j => ((cM m out rho).2.2.2.2.1 c i j).map (ad (tA c)))))))))] H := fun k q hq => by
    match k, hq with
    | 0, hq => simp at hq; subst hq; exact hr
    | _ + 1, hq => simp at hq
  exact va_alen hC.1 hC.2.1 hC.2.2.2.2.2.2.2.1.1 hP 0 (kA c) rfl (tys_at D (kA_lt c)) rfl hd hgo
end C8
