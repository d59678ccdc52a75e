section
/-- an array class over an array type, said by the tables (the printed text below names it) -/
def va_AOA (t : FieldType) (U : State) : Prop := (Cond.arrayOver (.array t)).before #[] U = true
theorem va_AOA.use {t : FieldType} {A : Array Value} {U : State} (h : va_AOA t U) : (Cond.arrayOver (.array t)).before A U = true := h
/-! ===== BEGIN words of one list among another's, by their places ===== -/
theorem goodIn_r {big : List Cond} (ws : List Cond) (ps : List Nat) (hp : ws = ps.filterMap (fun i => big[i]?)) (h : ws.all goodWord = true) : GoodIn big ws := by
  intro w hw
  have h1 := List.all_eq_true.mp h w hw
  rw [hp] at hw
  obtain ⟨i, -, hi⟩ := List.mem_filterMap.mp hw
  have hm : w ∈ big := by first | exact List.mem_of_getElem? hi | exact List.getElem?_mem hi
  exact ⟨hm, good_of_word h1⟩
theorem goodIn_app {big a b : List Cond} (ha : GoodIn big a) (hb : GoodIn big b) : GoodIn big (a ++ b) := fun w h => (List.mem_append.mp h).elim (ha w) (hb w)
theorem goodIn_ca {big a b : List Cond} {c : Cond} (ha : GoodIn big (c :: a)) (hb : GoodIn big b) : GoodIn big (c :: (a ++ b)) := fun w h => (List.mem_cons.mp h).elim (fun e => ha w (List.mem_cons.mpr (Or.inl e))) (fun h => (List.mem_append.mp h).elim (fun h => ha w (List.mem_cons.mpr (Or.inr h))) (hb w))
theorem goodIn_sub {big ws : List Cond} (hm : ∀ w ∈ ws, w ∈ big) (h : ws.all goodWord = true) : GoodIn big ws := fun w hw => ⟨hm w hw, good_of_word (List.all_eq_true.mp h w hw)⟩
/-! ===== END ===== -/

/-! ===== BEGIN new T[n][m]: the outer array a place, the inner ones among the pooled ===== -/
/-- f, but v at every address of l -/
def vr_up {α : Type} (f : Nat → α) (l : List Nat) (v : α) : Nat → α := fun a => if a ∈ l then v else f a
theorem vr_up_in {α : Type} {f : Nat → α} {l : List Nat} {v : α} {a : Nat} (h : a ∈ l) : vr_up f l v a = v := if_pos h
theorem vr_up_ne {α : Type} {f : Nat → α} {l : List Nat} {v : α} {a : Nat} (h : a ∉ l) : vr_up f l v a = f a := if_neg h
theorem vr_rows {L l : List Nat} {f : Nat → va_E} {e : va_E} (h : ∀ a, a ∈ l → a ∉ L) : va_pl L f ++ l.map (fun a => (a, e)) = va_pl (L ++ l) (vr_up f l e) := by
  unfold va_pl
  rw [List.map_append]
  congr 1
  · apply List.map_congr_left
    intro a ha
    rw [vr_up_ne (fun q => h a q ha)]
  · apply List.map_congr_left
    intro a ha
    rw [vr_up_in ha]
theorem vr_lay {X rows : va_W} {x : Nat × va_E} {pl : va_W} {D : va_G} {cl : List vw_C} {H : Heap} (hP : va_P D cl (((X ++ pl) ++ [x]) ++ rows) H) : va_P D cl ((X ++ [x]) ++ (pl ++ rows)) H := by
  rw [List.append_assoc (X ++ pl)] at hP
  have h := va_P.swap hP
  rw [← List.append_assoc X] at h
  have h2 := va_P.swap h
  rw [List.append_assoc (X ++ [x])] at h2
  exact h2
theorem vr_layD {X rows : va_W} {x : Nat × va_E} {pl : va_W} {A : Nat → Prop} (hD : va_D A (((X ++ pl) ++ [x]) ++ rows)) : va_D A ((X ++ [x]) ++ (pl ++ rows)) := by
  rw [List.append_assoc (X ++ pl)] at hD
  have h := va_D.swap hD
  rw [← List.append_assoc X] at h
  have h2 := va_D.swap h
  rw [List.append_assoc (X ++ [x])] at h2
  exact h2
theorem vr_outer (c : ClassId) (N h0 : Nat) : ∀ i : Nat, Jvm.Free.Multi.outerC c N h0 i = arrV c N (fun j => va_rf (if j < i then some (h0 + 1 + j) else none))
  | 0 => by
    show ({ cls := c, slots := Array.replicate N .null, vm := .none } : Cell) = _
    rw [arrV_new]
    refine congrArg (arrV c N) (funext fun j => ?_)
    simp [va_rf]
  | i + 1 => by
    show (Jvm.Free.Multi.outerC c N h0 i).setSlot i (.ref (h0 + 1 + i)) = _
    rw [vr_outer c N h0 i, arrV_store]
    refine congrArg (arrV c N) (funext fun j => ?_)
    by_cases e : j = i
    · subst e
      simp [updV, va_rf]
    · by_cases h : j < i
      · simp [updV, e, h, Nat.lt_succ_of_lt h]
      · simp [updV, e, h, show ¬ j < i + 1 by omega]
section VGM
variable {p : Program} {l : Launch} {e : Env} {R : Room} {s : State} {m : MethodId} {args : Array Value} {below : List Frame} {meth : Method} {c : Code} {H : Heap} {locs : List Loc} {cells slots : Nat} {Q : State → Prop}
variable {cc : ByteArray} {pc : Nat} {ls : Array Slot} {rest : List Value} {D : va_G} {cl : List vw_C} {A : Nat → Prop} {a : Nat} {tys : List (ClassId × FieldType)} {ws : va_W} {H0 : Heap}
theorem va_mna {X : va_W} {L : List Nat} {f : Nat → va_E} {cc : ByteArray} (hexec : p.tables.exec = Jvm.exec) (hb : c.code = cc) {own : String} {index : Nat} {ty : FieldType} {cy : ClassId} (hown : s.vm.findClass own = some m.cls) (hclink : (Cond.classLink own index ("[" ++ (FieldType.array ty).toString)).before args s = true) (hover : va_AOA ty s) (harr : (Cond.arrayClass ty).before args s = true) (hcy : s.vm.findClass (FieldType.array ty).toString = some cy)
    (hK : va_K D cl tys s) (hP : va_P D cl (X ++ va_pl L f) H) (hD : va_D A (X ++ va_pl L f)) (hS : va_S A H0 H locs) (hA : ∀ q, H0.size ≤ q → A q) {n k : Int32} {N' K' : Nat} {z : vp_A} (hn : ¬ n < 0) (hk : ¬ k < 0) (hN : n.toNatClampNeg = N') (hM : k.toNatClampNeg = K')
    (hb1 : N' * 4 ≤ 536870912) (hb2 : K' * componentBytes ty ≤ 536870912) (hb3 : K' ≤ 536870912) (hdf : fits ty (defaultValue ty) = true) (hdd : (defaultValue ty).isDefault = true) (hcells : cells + (1 + N') ≤ R.cells) (hslots : slots + (N' + N' * K') ≤ R.slots) (hz : ∀ c : ClassId, Jvm.Free.Multi.innerC c K' (defaultValue ty) = vp_cell c z) (hdg : decode cc pc = .ok (.multianewarray index 2, 4))
    (kk : ∀ (q : Nat) (r : Nat → Nat) (cA : ClassId) (H1 : Heap), (∀ i j : Nat, i < N' → j < N' → r i = r j → i = j) → (∀ i : Nat, i < N' → r i ∉ L) → va_K D cl (tys ++ [(cA, .array ty)]) s →
      va_P D cl ((X ++ [(q, .inl (cA, N', .inr (.inr (.inr (.inr (fun i => if i < N' then some (r i) else none))))))]) ++ va_pl (L ++ (List.range N').map r) (vr_up f ((List.range N').map r) (.inl (cy, z)))) H1 → va_D A ((X ++ [(q, .inl (cA, N', .inr (.inr (.inr (.inr (fun i => if i < N' then some (r i) else none))))))]) ++ va_pl (L ++ (List.range N').map r) (vr_up f ((List.range N').map r) (.inl (cy, z)))) → va_S A H0 H1 locs →
      W p l e R s m args below meth c H1 locs (cells + 1 + N') (slots + N' + N' * K') Q (F0 m (pc + 4) ls (.ref q :: rest))) : W p l e R s m args below meth c H locs cells slots Q (F0 m pc ls (.int k :: .int n :: rest)) := by
  subst hN
  subst hM
  intro T hT Xs
  obtain ⟨vm₁, cA, comp, -, fA, fC, hO, -, X', step⟩ := Xs.multianewarray2F hexec hown hclink (va_AOA.use hover) harr (g := F0 m pc ls (.int k :: .int n :: rest)) rfl (by rw [hb]; exact hdg) rfl hn hk hb1 hb2 hb3 hdf hdd hcells hslots
  have ec : some cy = some comp := hcy.symm.trans fC
  cases ec
  generalize hF : Jvm.Free.Multi.fill (T.setVm vm₁) cA cy n.toNatClampNeg k.toNatClampNeg (defaultValue ty) n.toNatClampNeg = F at X' step
  have hTh : (T.setVm vm₁).heap = H := hT
  obtain ⟨f1, f2, -, -⟩ := Jvm.Free.Multi.fill_facts (T.setVm vm₁) cA cy n.toNatClampNeg k.toNatClampNeg (defaultValue ty) n.toNatClampNeg
  rw [hF, hTh] at f1 f2
  have hold : ∀ x : Nat, x < H.size → F.heap[x]? = H[x]? := fun x hx => by
    have := Jvm.Free.Multi.fill_old (T.setVm vm₁) cA cy n.toNatClampNeg k.toNatClampNeg (defaultValue ty) (a := x) (by rw [hTh]; exact hx) n.toNatClampNeg
    rw [hF, hTh] at this
    exact this
  have hrow : ∀ j : Nat, j < n.toNatClampNeg → F.heap[H.size + 1 + j]? = some (vp_cell cy z) := fun j hj => by
    have := Jvm.Free.Multi.fill_inner (T.setVm vm₁) cA cy n.toNatClampNeg k.toNatClampNeg (defaultValue ty) n.toNatClampNeg j hj
    rw [hF, hTh, hz] at this
    exact this
  have hout : Jvm.Free.Multi.outerC cA n.toNatClampNeg H.size n.toNatClampNeg = vp_cell cA (n.toNatClampNeg, .inr (.inr (.inr (.inr (fun i => if i < n.toNatClampNeg then some (H.size + 1 + i) else none))))) := by
    rw [vp_cell_q]
    exact vr_outer cA n.toNatClampNeg H.size n.toNatClampNeg
  rw [hout] at f2
  have hlt : ∀ a, a ∈ L → a < H.size := fun a ha => by
    obtain ⟨k9, hk9⟩ := va_pl_get (X := X) (f := f) ha
    exact (hP k9 _ hk9).lt
  have hnl : ∀ i : Nat, i < n.toNatClampNeg → H.size + 1 + i ∉ L := fun i _ h => by
    have := hlt _ h
    omega
  have hnm : ∀ a, a ∈ (List.range n.toNatClampNeg).map (fun i => H.size + 1 + i) → a ∉ L := fun a ha h => by
    obtain ⟨i, -, rfl⟩ := List.mem_map.mp ha
    have := hlt _ h
    omega
  have hP0 : va_P D cl (X ++ va_pl L f) F.heap := hP.kept (fun k9 x hx => hold x.1 ((hP k9 x hx).lt))
  have hP1 : va_P D cl ((X ++ va_pl L f) ++ [(H.size, .inl (cA, n.toNatClampNeg, .inr (.inr (.inr (.inr (fun i => if i < n.toNatClampNeg then some (H.size + 1 + i) else none))))))]) F.heap := hP0.app (fun k9 x hx => by
    have h0 : k9 < 1 := (List.getElem?_eq_some_iff.mp hx).1
    rw [show k9 = 0 by omega] at hx
    cases hx
    exact f2)
  have hP2 : va_P D cl (((X ++ va_pl L f) ++ [(H.size, .inl (cA, n.toNatClampNeg, .inr (.inr (.inr (.inr (fun i => if i < n.toNatClampNeg then some (H.size + 1 + i) else none))))))]) ++ ((List.range n.toNatClampNeg).map (fun i => H.size + 1 + i)).map (fun a => (a, .inl (cy, z)))) F.heap := hP1.app (fun k9 x hx => by
    obtain ⟨a, ha, rfl⟩ := List.mem_map.mp (List.mem_of_getElem? hx)
    obtain ⟨i, hi, rfl⟩ := List.mem_map.mp ha
    exact hrow i (List.mem_range.mp hi))
  have hD2 : va_D A (((X ++ va_pl L f) ++ [(H.size, .inl (cA, n.toNatClampNeg, .inr (.inr (.inr (.inr (fun i => if i < n.toNatClampNeg then some (H.size + 1 + i) else none))))))]) ++ ((List.range n.toNatClampNeg).map (fun i => H.size + 1 + i)).map (fun a => (a, .inl (cy, z)))) := by
    have hD1 := hD.push (e := .inl (cA, n.toNatClampNeg, .inr (.inr (.inr (.inr (fun i => if i < n.toNatClampNeg then some (H.size + 1 + i) else none)))))) hP rfl (hA _ hS.1)
    generalize hW1 : (X ++ va_pl L f) ++ [(H.size, .inl (cA, n.toNatClampNeg, .inr (.inr (.inr (.inr (fun i => if i < n.toNatClampNeg then some (H.size + 1 + i) else none))))))] = W1 at hD1 hP1 ⊢
    have hle : ∀ (k9 : Nat) (x : Nat × va_E), W1[k9]? = some x → x.1 ≤ H.size := fun k9 x hx => by
      rw [← hW1] at hx
      by_cases hl : k9 < (X ++ va_pl L f).length
      · rw [List.getElem?_append_left hl] at hx
        exact Nat.le_of_lt ((hP k9 x hx).lt)
      · rw [List.getElem?_append_right (by omega)] at hx
        have h0 : k9 - (X ++ va_pl L f).length < 1 := (List.getElem?_eq_some_iff.mp hx).1
        rw [show k9 - (X ++ va_pl L f).length = 0 by omega] at hx
        cases hx
        exact Nat.le_refl _
    have hr : ∀ (k9 : Nat) (x : Nat × va_E), (((List.range n.toNatClampNeg).map (fun i => H.size + 1 + i)).map (fun a => ((a, .inl (cy, z)) : Nat × va_E)))[k9]? = some x → x.1 = H.size + 1 + k9 := fun k9 x hx => by
      rw [List.getElem?_map, List.getElem?_map] at hx
      by_cases h9 : k9 < n.toNatClampNeg
      · rw [List.getElem?_range h9] at hx
        cases hx
        rfl
      · have hn0 : (List.range n.toNatClampNeg)[k9]? = none := List.getElem?_eq_none (by rw [List.length_range]; omega)
        rw [hn0] at hx
        cases hx
    refine ⟨fun i j x y hi hj hxy => ?_, fun k9 x hx => ?_⟩
    · by_cases h1 : i < W1.length <;> by_cases h2 : j < W1.length
      · rw [List.getElem?_append_left h1] at hi
        rw [List.getElem?_append_left h2] at hj
        exact hD1.1 i j x y hi hj hxy
      · rw [List.getElem?_append_left h1] at hi
        rw [List.getElem?_append_right (by omega)] at hj
        have := hle _ _ hi
        have := hr _ _ hj
        omega
      · rw [List.getElem?_append_right (by omega)] at hi
        rw [List.getElem?_append_left h2] at hj
        have := hle _ _ hj
        have := hr _ _ hi
        omega
      · rw [List.getElem?_append_right (by omega)] at hi hj
        have := hr _ _ hi
        have := hr _ _ hj
        omega
    · by_cases h1 : k9 < W1.length
      · rw [List.getElem?_append_left h1] at hx
        exact hD1.2 k9 x hx
      · rw [List.getElem?_append_right (by omega)] at hx
        have := hr _ _ hx
        exact hA _ (by have := hS.1; omega)
  have hAr : ArrOfT s cA (.array ty) := fun N9 z9 => by
    obtain ⟨-, k9, hk9, cm9, hkk9⟩ := (hO 0 0 0).1
    exact ⟨(fun q hq => by cases hq), k9, hk9, cm9, hkk9⟩
  have hK2 : va_K D cl (tys ++ [(cA, .array ty)]) s := ⟨hK.1, fun k9 x hx => by
    by_cases hl : k9 < tys.length
    · rw [List.getElem?_append_left hl] at hx
      exact hK.2 k9 x hx
    · rw [List.getElem?_append_right (by omega)] at hx
      have h0 : k9 - tys.length < 1 := (List.getElem?_eq_some_iff.mp hx).1
      rw [show k9 - tys.length = 0 by omega] at hx
      cases hx
      exact ⟨hAr, fA⟩⟩
  obtain ⟨t, a1, b1⟩ := kk H.size (fun i => H.size + 1 + i) cA F.heap (fun i j _ _ h => by have h9 : H.size + 1 + i = H.size + 1 + j := h; omega) hnl hK2 (by rw [← vr_rows hnm]; exact vr_lay hP2) (by rw [← vr_rows hnm]; exact vr_layD hD2) ⟨by rw [f1]; have := hS.1; omega, fun x h1 h2 => (hold x (Nat.lt_of_lt_of_le h1 hS.1)).trans (hS.2.1 x h1 h2), hS.2.2⟩ F rfl X'
  refine ⟨t, step t ?_, b1⟩
  have e : T.heap.size = H.size := by rw [hT]
  rw [e]
  exact a1
end VGM
/-! ===== END ===== -/

/-! ===== BEGIN exceptions that leave a method, and their catching by the caller (launches without stack traces) ===== -/
section VXA
/-! The laws vx_back, vx_callV, vx_callS, vx_callSW, vx_throw0, vx_throwS follow proofs of the library, with one case more: JvmDerived/Free/Laws.lean (Back.of_free), Shelf42/LK1.lean (callV, callS), Shelf/KitTraced.lean (throwNew0V, throwNewS). -/
/-- where a method has thrown q: the class by its name, the cell, what was written, the world -/
def vx_T (XC : String → State → State → Prop) (st : State) (q : Addr) (t : State) (mc ms : Nat) (free : Addr → Prop) : Prop :=
  ∃ (E : String) (ce : Cell) (L : List Loc), XC E st t ∧ t.heap[q]? = some ce ∧ ce.vm = .none ∧ st.vm.findClass E = some ce.cls ∧ st.WarmedH t.vm ∧ st.sameButNew ({ t with vm := st.vm } : State) L mc ms ∧ ∀ z ∈ L, free z.base
def vx_Q (Qc : Array Value → State → Outcome → State → Prop) (XC : String → State → State → Prop) (mc ms : Nat) (free : Addr → Prop) : Array Value → State → Outcome → State → Prop := fun a st o t =>
  (Qc a st o t ∧ ∃ L, FrameEnd st o t L mc ms ∧ ∀ q ∈ L, free q.base) ∨ ∃ q, o = .threw q ∧ vx_T XC st q t mc ms free
/-- a callee that returns or throws -/
def vx_Met (l : Launch) (y : MethodName) (ws : List Cond) (rm : Room) (Pc : Array Value → State → Prop) (Qc : Array Value → State → Outcome → State → Prop) (XC : String → State → State → Prop) (mc ms : Nat) (free : Addr → Prop) : Prop :=
  MetFree l y (headSpec ws rm) Pc (fun _ _ _ _ _ => True) (vx_Q Qc XC mc ms free)
def vx_Post (XC : String → State → State → Prop) (mc ms : Nat) (free : Addr → Prop) : Pt → Array Value → Addr → Pt → Prop := fun A a q B =>
  ∃ (g : JFrame) (mk : MethodId) (t : State) (L : List Loc) (E : String) (ce : Cell), B.U.heap = t.heap ∧ B.U.vm = t.vm ∧ XC E (A.U.calling g mk a) t ∧ t.heap[q]? = some ce ∧ ce.vm = .none ∧ A.U.vm.findClass E = some ce.cls ∧ B.locs = A.locs ++ L ∧ (∀ z ∈ L, free z.base) ∧ B.cells = A.cells + mc ∧ B.slots = A.slots + ms
def vx_Back (l : Launch) (R : Room) (p : Program) (e : Env) (below : List Frame) (s : State) (sargs : Array Value) (y : MethodName) (len W9 : Nat)
    (Pre : Pt → Array Value → Prop) (Post : Pt → Array Value → Option Value → Pt → Prop) (PostX : Pt → Array Value → Addr → Pt → Prop) : Prop :=
  ∀ (m : MethodId) (meth : Method) (c : Code) (A : Pt) (g : JFrame) (ig : Instr) (mk : MethodId) (a : Array Value),
    Stand p l e R s m sargs below meth c A.U A.locs A.cells A.slots → g.method = m → g.locals.size = c.maxLocals → decode c.code g.pc = .ok (ig, len) →
    2 * g.monitorRoom + (g.stack.map fun v => v.category).sum ≤ W9 → A.U.methodNamed? y = some mk → Pre A a →
    (∃ (v : Option Value) (B : Pt), Stand p l e R s m sargs below meth c B.U B.locs B.cells B.slots ∧ Post A a v B ∧
      Steps p.tables e below (doInvoke e (A.U.setTop g) [] mk a).1 (B.U.setTop { g with pc := g.pc + len, stack := v.toList ++ g.stack })) ∨
    (∃ (q : Addr) (B : Pt), Stand p l e R s m sargs below meth c B.U B.locs B.cells B.slots ∧ PostX A a q B ∧
      Steps p.tables e below (doInvoke e (A.U.setTop g) [] mk a).1 ((B.U.setTop g).pushFrame (.throwing q)))
section Payer
variable {l : Launch} {R : Room} {p : Program} {e : Env} {below : List Frame} {s : State} {sargs : Array Value} {y : MethodName} {len W9 : Nat}
theorem vx_back {ws : List Cond} {rm : Room} {Pc : Array Value → State → Prop} {Qc : Array Value → State → Outcome → State → Prop} {XC : String → State → State → Prop} {mc ms : Nat} {free : Addr → Prop} {bytes : ByteArray} {maxL : Nat} {ret : Option FieldType}
    (hM : vx_Met l y ws rm Pc Qc XC mc ms free) (hblind : FrameBlind Pc) (hrc : rm.cells = mc) (hrs : rm.slots = ms)
    (hframes : rm.frames + 1 ≤ R.frames) (hlocals : W9 + (maxL + 11) + rm.locals ≤ R.locals)
    (hws : ∀ w ∈ ws, ∀ a' U, s.WarmedH U.vm → w.before a' U = true) (hcode : Cond.code y bytes maxL ret ∈ ws) (hinit : ∀ a' U, s.WarmedH U.vm → (Cond.initialized y.cls).before a' U = true) :
    vx_Back l R p e below s sargs y len W9 (PreOf R mc ms Pc) (PostOf Qc mc ms free) (vx_Post XC mc ms free) := by
  intro m meth c A g ig mk a X hg hsize hdg hW hn hp
  have h1 : (headSpec ws rm).pre.before a A.U = true := atoms_intro fun w hw => hws w hw _ _ X.warmed
  have h2 : (Cond.code y bytes maxL ret).before a A.U = true := hws _ hcode _ _ X.warmed
  have h3 : (Cond.initialized y.cls).before a A.U = true := hinit _ _ X.warmed
  have h4 : A.cells + (headSpec ws rm).room.cells ≤ R.cells := by rw [show (headSpec ws rm).room.cells = mc from hrc]; exact hp.1
  have h5 : A.slots + (headSpec ws rm).room.slots ≤ R.slots := by rw [show (headSpec ws rm).room.slots = ms from hrs]; exact hp.2.1
  have hPc : Pc a (A.U.calling g mk a) := hblind _ _ _ _ hp.2.2
  obtain ⟨U, Ls, c0, s0⟩ := A
  dsimp only [Pt.U, Pt.locs, Pt.cells, Pt.slots] at h1 h2 h3 h4 h5 X hn hPc ⊢
  obtain ⟨methY, cY, hmY, hcY, -, hlY, -, -, -, -⟩ := Cond.code_spec hn h2
  obtain ⟨kY, hkY, -⟩ := className_of_methodNamed hn
  have hinitY : kY.init = .initialized := Cond.initialized_spec (findClass_of_methodNamed hn) hkY h3
  have h : At U g.method c below := by rw [hg]; exact X.here
  have hlocals9 : W9 + (maxL + 11) + (headSpec ws rm).room.locals ≤ R.locals := hlocals
  have happ : (headSpec ws rm).appliesLoose y e.platform (U.calling g mk a) = true :=
    Spec.appliesLoose_calling (g := g) h hdg hn hkY hinitY
      (X.room_calling (g := g) (R' := (headSpec ws rm).room) hsize hmY hcY hframes (by rw [hlY]; omega) h4 h5) h1
  obtain ⟨mid, hmid⟩ := h.above
  have hfr : (U.setTop g).frames = (.java g :: mid) ++ below := by rw [State.frames_setTop' g h.top, hmid]; rfl
  obtain ⟨o, s₂, hsteps, -, hend, hq⟩ := Steps.callFree hM p X.admits X.cas X.clock (acts := []) hfr happ hPc trivial
  have hq' : vx_Q Qc XC mc ms free a (U.calling g mk a) o s₂ := hq
  rw [State.frames_setTop' g h.top] at hend
  obtain ⟨g₀, hg0⟩ := Option.isSome_iff_exists.mp h.top
  obtain ⟨r, hr⟩ := State.topJava?_eq_some.mp hg0
  have hr' : (({ U with heap := s₂.heap, slotsUsed := s₂.slotsUsed } : State).setVm s₂.vm).frames = .java g₀ :: r := hr
  rcases hq' with ⟨hqc, L, hfe, hL⟩ | ⟨q, rfl, E, ce, L, hx, hce, hcv, hcl, hW₂, hsm, hL⟩
  · obtain ⟨⟨v, rfl⟩, hW₂, e2, q2, q3, q4, q5, q6⟩ := id hfe
    have e3 : s₂ = ({ (U.calling g mk a).setFrames s₂.frames with heap := s₂.heap, slotsUsed := s₂.slotsUsed } : State).setVm s₂.vm := by
      have : s₂ = ({ s₂ with vm := (U.calling g mk a).vm } : State).setVm s₂.vm := rfl
      rw [e2] at this
      exact this
    obtain ⟨c₂, i₂, len₂, hc₂, hd₂, hf₂⟩ := hend
    have hW' : U.WarmedH s₂.vm := hW₂
    have hcc : c₂ = c := by
      have h1 : s₂.code? g.method = U.code? g.method := by
        rw [State.code?_eq, State.code?_eq, hW'.alike.method?]
      exact Option.some.inj (hc₂.symm.trans (h1.trans h.code))
    subst hcc
    have hlen : len₂ = len := by rw [hdg] at hd₂; cases hd₂; rfl
    subst hlen
    have hs₂ : s₂ = (({ U with heap := s₂.heap, slotsUsed := s₂.slotsUsed } : State).setVm s₂.vm).setTop { g with pc := g.pc + len₂, stack := v.toList ++ g.stack } := by
      refine e3.trans ?_
      rw [hf₂, State.calling_eq h.top, State.setFrames_setFrames, State.setTop_of_frames _ hr', hr]
      rfl
    have hsame : U.sameButNew ({ U with heap := s₂.heap, slotsUsed := s₂.slotsUsed } : State) L mc ms := by
      refine ⟨?_, q2, q3, q4, q5, q6⟩
      obtain ⟨t, ht, -⟩ := State.frames_cons hr
      show ({ U with heap := s₂.heap, slotsUsed := s₂.slotsUsed } : State) = { U.setFrames U.frames with heap := s₂.heap, slotsUsed := s₂.slotsUsed }
      rw [State.setFrames_self ht]
    subst hg
    refine Or.inl ⟨v, ⟨(({ U with heap := s₂.heap, slotsUsed := s₂.slotsUsed } : State).setVm s₂.vm), Ls ++ L, c0 + mc, s0 + ms⟩,
      ⟨X.admits, X.cas, X.clock, X.frames, X.room, X.hears, X.method, X.code, (X.here.setHeapUsed s₂.heap s₂.slotsUsed).setVm hW'.alike, X.tail, State.WarmedH.trans X.warmed hW', X.limits, X.bytes, X.same.trans (hsame.setVm s.vm)⟩,
      ⟨g, mk, s₂, L, rfl, rfl, hqc, rfl, hL, rfl, rfl⟩, ?_⟩
    show Steps p.tables e below _ ((({ U with heap := s₂.heap, slotsUsed := s₂.slotsUsed } : State).setVm s₂.vm).setTop { g with pc := g.pc + len₂, stack := v.toList ++ g.stack })
    rw [← hs₂]
    exact hsteps
  · obtain ⟨e2, q2, q3, q4, q5, q6⟩ := id hsm
    have e3 : s₂ = ({ (U.calling g mk a).setFrames s₂.frames with heap := s₂.heap, slotsUsed := s₂.slotsUsed } : State).setVm s₂.vm := by
      have : s₂ = ({ s₂ with vm := (U.calling g mk a).vm } : State).setVm s₂.vm := rfl
      rw [e2] at this
      exact this
    have hf₂ : s₂.frames = .throwing q :: .java g :: U.frames.tail := hend
    have hW' : U.WarmedH s₂.vm := hW₂
    have hs₂ : s₂ = ((({ U with heap := s₂.heap, slotsUsed := s₂.slotsUsed } : State).setVm s₂.vm).setTop g).pushFrame (.throwing q) := by
      refine e3.trans ?_
      rw [hf₂, State.calling_eq h.top, State.setFrames_setFrames, State.pushFrame, State.frames_setTop _ hr', State.setTop_of_frames _ hr', State.setFrames_setFrames, hr]
      rfl
    have hsame : U.sameButNew ({ U with heap := s₂.heap, slotsUsed := s₂.slotsUsed } : State) L mc ms := by
      refine ⟨?_, q2, q3, q4, q5, q6⟩
      obtain ⟨t, ht, -⟩ := State.frames_cons hr
      show ({ U with heap := s₂.heap, slotsUsed := s₂.slotsUsed } : State) = { U.setFrames U.frames with heap := s₂.heap, slotsUsed := s₂.slotsUsed }
      rw [State.setFrames_self ht]
    subst hg
    refine Or.inr ⟨q, ⟨(({ U with heap := s₂.heap, slotsUsed := s₂.slotsUsed } : State).setVm s₂.vm), Ls ++ L, c0 + mc, s0 + ms⟩,
      ⟨X.admits, X.cas, X.clock, X.frames, X.room, X.hears, X.method, X.code, (X.here.setHeapUsed s₂.heap s₂.slotsUsed).setVm hW'.alike, X.tail, State.WarmedH.trans X.warmed hW', X.limits, X.bytes, X.same.trans (hsame.setVm s.vm)⟩,
      ⟨g, mk, s₂, L, E, ce, rfl, rfl, hx, hce, hcv, hcl, rfl, hL, rfl, rfl⟩, ?_⟩
    show Steps p.tables e below _ (((({ U with heap := s₂.heap, slotsUsed := s₂.slotsUsed } : State).setVm s₂.vm).setTop g).pushFrame (.throwing q))
    rw [← hs₂]
    exact hsteps
end Payer
section Calls
variable {p : Program} {l : Launch} {e : Env} {R : Room} {s : State} {m : MethodId} {args : Array Value} {below : List Frame} {meth : Method} {c : Code} {T : State} {locs : List Loc} {cells slots : Nat}
theorem vx_callV (X : Stand p l e R s m args below meth c T locs cells slots) (hexec : p.tables.exec = Jvm.exec) {own C : String} {index : Nat} {y : MethodName} {bytes : ByteArray} {maxL : Nat} {ret : Option FieldType}
    (hown : s.vm.findClass own = some m.cls) (hlink : (Cond.methodLink own index y).before args s = true) (hinst : (Cond.instanceMethod y).before args s = true) (hsel : (Cond.selects C y y).before args s = true)
    (hcode : (Cond.code y bytes maxL ret).before args s = true) (hy : y.cls ≠ "java/lang/invoke/MethodHandle" ∧ y.cls ≠ "java/lang/invoke/VarHandle")
    {W9 : Nat} {Pre : Pt → Array Value → Prop} {Post : Pt → Array Value → Option Value → Pt → Prop} {PostX : Pt → Array Value → Addr → Pt → Prop} (hK : vx_Back l R p e below s args y 3 W9 Pre Post PostX)
    {b : Addr} {cellB : Cell} (hcell : T.heap[b]? = some cellB) (hobj : cellB.vm.isStatics = false) (hcls : s.vm.findClass C = some cellB.cls)
    {g : JFrame} (hg : g.method = m) (hsize : g.locals.size = c.maxLocals) {argsL rest : List Value} (hlen : ∀ sig, parseMethodDescriptor y.desc = some sig → argsL.length = sig.parameters.length)
    (hstack : g.stack = argsL.reverse ++ .ref b :: rest) (hW : 2 * g.monitorRoom + (rest.map fun v => v.category).sum ≤ W9) (hdg : decode c.code g.pc = .ok (.invokevirtual index, 3))
    (hpre : ∀ vm₁, s.WarmedH vm₁ → Pre ⟨T.setVm vm₁, locs, cells, slots⟩ (Value.ref b :: argsL).toArray) :
    (∃ (v : Option Value) (vm₁ : Vm) (B : Pt), s.WarmedH vm₁ ∧ Stand p l e R s m args below meth c B.U B.locs B.cells B.slots ∧ Post ⟨T.setVm vm₁, locs, cells, slots⟩ (Value.ref b :: argsL).toArray v B ∧
      ∀ target, Steps p.tables e below (B.U.setTop { g with pc := g.pc + 3, stack := v.toList ++ rest }) target → Steps p.tables e below (T.setTop g) target) ∨
    (∃ (q : Addr) (vm₁ : Vm) (B : Pt), s.WarmedH vm₁ ∧ Stand p l e R s m args below meth c B.U B.locs B.cells B.slots ∧ PostX ⟨T.setVm vm₁, locs, cells, slots⟩ (Value.ref b :: argsL).toArray q B ∧
      Steps p.tables e below (T.setTop g) ((B.U.setTop { g with stack := rest }).pushFrame (.throwing q))) := by
  obtain ⟨mk, methM, hnamed, hmethM, hstM, habM⟩ := Cond.instanceMethod_spec hinst
  obtain ⟨methM', cM, hmethM', -, -, -, -, -, -, hsigM⟩ := Cond.code_spec hnamed hcode
  cases hmethM.symm.trans hmethM'
  obtain ⟨c2, r2, m2, q1, q2, q3, q4, kP, hkP, hkPi⟩ := Cond.selects_spec hsel
  cases hcls.symm.trans q1
  cases (State.methodFound?_of_named hnamed hy).symm.trans q2
  cases hnamed.symm.trans q3
  have hselP : selectMethod e.platform s.vm cellB.cls mk = .method mk := by rw [Launch.admits_selectMethod X.admits]; exact q4
  obtain ⟨vm₁, X₁, hstep₁⟩ := X.invokevirtual hexec hown hlink hnamed hmethM hstM hkP hkPi hy (a := b) (cell := cellB) hcell
    (fun z h => by rw [h] at hobj; cases hobj) hselP hmethM habM hkP hkPi (g := g) hg (argsL := argsL) (rest := rest) (hlen _ hsigM) hstack hdg
  rcases hK m meth c ⟨T.setVm vm₁, locs, cells, slots⟩ { g with stack := rest } (.invokevirtual index) mk (Value.ref b :: argsL).toArray X₁ hg hsize hdg hW (X₁.named hnamed) (hpre vm₁ X₁.warmed) with ⟨v, B, X', hpost, hsteps⟩ | ⟨q, B, X', hpost, hsteps⟩
  · exact Or.inl ⟨v, vm₁, B, X₁.warmed, X', hpost, fun target h => hstep₁ _ fun acts => by rw [doInvoke_state]; exact hsteps.trans h⟩
  · exact Or.inr ⟨q, vm₁, B, X₁.warmed, X', hpost, hstep₁ _ fun acts => by rw [doInvoke_state]; exact hsteps⟩
theorem vx_callS (X : Stand p l e R s m args below meth c T locs cells slots) (hexec : p.tables.exec = Jvm.exec) {own : String} {index : Nat} {y : MethodName} {bytes : ByteArray} {maxL : Nat} {ret : Option FieldType}
    (hown : s.vm.findClass own = some m.cls) (hlink : (Cond.methodLink own index y).before args s = true) (hstat : (Cond.static y).before args s = true) (hinit : (Cond.initialized y.cls).before args s = true)
    (hcode : (Cond.code y bytes maxL ret).before args s = true) (hy : y.cls ≠ "java/lang/invoke/MethodHandle" ∧ y.cls ≠ "java/lang/invoke/VarHandle")
    {W9 : Nat} {Pre : Pt → Array Value → Prop} {Post : Pt → Array Value → Option Value → Pt → Prop} {PostX : Pt → Array Value → Addr → Pt → Prop} (hK : vx_Back l R p e below s args y 3 W9 Pre Post PostX)
    {g : JFrame} (hg : g.method = m) (hsize : g.locals.size = c.maxLocals) {argsL rest : List Value} (hlen : ∀ sig, parseMethodDescriptor y.desc = some sig → argsL.length = sig.parameters.length)
    (hstack : g.stack = argsL.reverse ++ rest) (hW : 2 * g.monitorRoom + (rest.map fun v => v.category).sum ≤ W9) (hdg : decode c.code g.pc = .ok (.invokestatic index, 3))
    (hpre : ∀ vm₁, s.WarmedH vm₁ → Pre ⟨T.setVm vm₁, locs, cells, slots⟩ argsL.toArray) :
    (∃ (v : Option Value) (vm₁ : Vm) (B : Pt), s.WarmedH vm₁ ∧ Stand p l e R s m args below meth c B.U B.locs B.cells B.slots ∧ Post ⟨T.setVm vm₁, locs, cells, slots⟩ argsL.toArray v B ∧
      ∀ target, Steps p.tables e below (B.U.setTop { g with pc := g.pc + 3, stack := v.toList ++ rest }) target → Steps p.tables e below (T.setTop g) target) ∨
    (∃ (q : Addr) (vm₁ : Vm) (B : Pt), s.WarmedH vm₁ ∧ Stand p l e R s m args below meth c B.U B.locs B.cells B.slots ∧ PostX ⟨T.setVm vm₁, locs, cells, slots⟩ argsL.toArray q B ∧
      Steps p.tables e below (T.setTop g) ((B.U.setTop { g with stack := rest }).pushFrame (.throwing q))) := by
  obtain ⟨mk, hnamed⟩ := Cond.code_named hcode
  obtain ⟨methM, cM, hmethM, -, -, -, -, -, -, hsigM⟩ := Cond.code_spec hnamed hcode
  have hstatic : methM.isStatic = true := Cond.static_spec hnamed hmethM hstat
  obtain ⟨kP, hkP, -⟩ := className_of_methodNamed hnamed
  have hinitP : kP.init = .initialized := Cond.initialized_spec (findClass_of_methodNamed hnamed) hkP hinit
  obtain ⟨vm₁, X₁, hstep₁⟩ := X.invokestatic hexec hown hlink hnamed hmethM hstatic hkP hinitP hy (g := g) hg (argsL := argsL) (rest := rest) (hlen _ hsigM) hstack hdg
  rcases hK m meth c ⟨T.setVm vm₁, locs, cells, slots⟩ { g with stack := rest } (.invokestatic index) mk argsL.toArray X₁ hg hsize hdg hW (X₁.named hnamed) (hpre vm₁ X₁.warmed) with ⟨v, B, X', hpost, hsteps⟩ | ⟨q, B, X', hpost, hsteps⟩
  · exact Or.inl ⟨v, vm₁, B, X₁.warmed, X', hpost, fun target h => hstep₁ _ fun acts => by rw [doInvoke_state]; exact hsteps.trans h⟩
  · exact Or.inr ⟨q, vm₁, B, X₁.warmed, X', hpost, hstep₁ _ fun acts => by rw [doInvoke_state]; exact hsteps⟩
end Calls
theorem vx_cls {s : State} {T : State} {vm₁ : Vm} {E : String} {k : ClassId} (hW : s.WarmedH vm₁) (h : (T.setVm vm₁).vm.findClass E = some k) : s.vm.findClass E = some k := by
  have h1 : vm₁.findClass E = some k := h
  rw [hW.alike.findClass] at h1
  exact h1
/-- the method's frame g, with q thrown over it -/
def vx_W (p : Program) (l : Launch) (e : Env) (R : Room) (s : State) (m : MethodId) (args : Array Value) (below : List Frame) (meth : Method) (c : Code) (H : Heap) (locs : List Loc) (cells slots : Nat) (Q : State → Prop) (g : JFrame) (q : Addr) : Prop :=
  ∀ T : State, T.heap = H → Stand p l e R s m args below meth c T locs cells slots → ∃ t, Steps p.tables e below ((T.setTop g).pushFrame (.throwing q)) t ∧ Q t
def vx_Run (p : Program) (l : Launch) (e : Env) (R : Room) (s : State) (m : MethodId) (args : Array Value) (below : List Frame) (meth : Method) (c : Code) (H : Heap) (locs : List Loc) (cells slots mc ms : Nat) (g : JFrame) (rest : List Value) (Qa : State → Outcome → State → Prop) (XC : String → State → State → Prop) (free : Addr → Prop) : Prop :=
  ∀ T : State, T.heap = H → Stand p l e R s m args below meth c T locs cells slots →
    (∃ (v : Option Value) (st₀ t T' : State) (L : List Loc), st₀.heap = H ∧ Stand p l e R s m args below meth c T' (locs ++ L) (cells + mc) (slots + ms) ∧ (∀ q ∈ L, free q.base) ∧ T'.heap = t.heap ∧ T'.vm = t.vm ∧ Qa st₀ (.returned v) t ∧
      Goes p e below T g T' { g with pc := g.pc + 3, stack := v.toList ++ rest }) ∨
    (∃ (q : Addr) (st₀ t T' : State) (L : List Loc) (E : String) (ce : Cell), st₀.heap = H ∧ Stand p l e R s m args below meth c T' (locs ++ L) (cells + mc) (slots + ms) ∧ (∀ z ∈ L, free z.base) ∧ T'.heap = t.heap ∧ T'.vm = t.vm ∧ XC E st₀ t ∧ t.heap[q]? = some ce ∧ ce.vm = .none ∧ s.vm.findClass E = some ce.cls ∧
      Steps p.tables e below (T.setTop g) ((T'.setTop { g with stack := rest }).pushFrame (.throwing q)))
def vx_X {S : Type} (px : S → Prop) (B : String → S → State → Prop) (A : Nat → Prop) : String → State → State → Prop := fun E st t => ∃ u : S, px u ∧ B E u t ∧ va_F A st t
section Runs
variable {p : Program} {l : Launch} {e : Env} {R : Room} {s : State} {m : MethodId} {args : Array Value} {below : List Frame} {meth : Method} {c : Code} {H : Heap} {locs : List Loc} {cells slots : Nat}
variable {y : MethodName} {bytes cc : ByteArray} {maxL nL mc ms n index : Nat} {ret : Option FieldType} {ws : List Cond} {rm : Room} {Pc : Array Value → State → Prop} {Qc : Array Value → State → Outcome → State → Prop} {XC : String → State → State → Prop} {free : Addr → Prop} {Ts : List Cond} {own C : String} {b : Addr} {As rest : List Value} {g : JFrame}
theorem vx_callBack (cb : CallB R s args own index y bytes maxL ret ws rm mc ms n) (hM : vx_Met l y ws rm Pc Qc XC mc ms free) (hbl : FrameBlind Pc) : vx_Back l R p e below s args y 3 8 (PreOf R mc ms Pc) (PostOf Qc mc ms free) (vx_Post XC mc ms free) := by
  obtain ⟨hrc, hrs, hfr, hlo, hws, hcw, -, hini, -⟩ := cb
  exact vx_back (bytes := bytes) (maxL := maxL) (ret := ret) hM hbl hrc hrs hfr hlo hws hcw (fun a' U hW => word_at hW (Or.inl (by first | rfl | simp [Cond.onTables, Cond.keeps, Cond.steady])) hini)
theorem vx_runV (S : CallFix p m c cc nL s args Ts own) (hM : vx_Met l y ws rm Pc Qc XC mc ms free) (cw : CallW R s args own C index y bytes maxL ret ws rm mc ms n) (hp : PreV s H C b Pc As)
    (hg : g.method = m) (hn : As.length = n) (hsize : g.locals.size = nL) (hstack : g.stack = As.reverse ++ .ref b :: rest) (hW : 2 * g.monitorRoom + (rest.map fun v => v.category).sum ≤ 8) (hdg : decode cc g.pc = .ok (.invokevirtual index, 3)) (hf : cells + mc ≤ R.cells ∧ slots + ms ≤ R.slots) :
    vx_Run p l e R s m args below meth c H locs cells slots mc ms g rest (Qc (Value.ref b :: As).toArray) XC free := by
  have hK : vx_Back l R p e below s args y 3 8 (PreOf R mc ms Pc) (PostOf Qc mc ms free) (vx_Post XC mc ms free) := vx_callBack cw.1 hM hp.1
  obtain ⟨⟨-, -, -, -, -, -, hcode, -, hy, hlen, hl⟩, hin, hse⟩ := cw
  obtain ⟨hx, hb, hml, ho, -⟩ := S
  obtain ⟨-, ⟨cellB, hcB, hoB, hclB⟩, hPc⟩ := hp
  intro T hT X
  rcases vx_callV X hx (C := C) (bytes := bytes) (maxL := maxL) (ret := ret) ho hl hin hse hcode hy hK (by rw [hT]; exact hcB) hoB hclB hg (hsize.trans hml.symm) (argsL := As) (rest := rest) (fun sig h => hn.trans (hlen sig h)) hstack hW (by rw [hb]; exact hdg)
    (fun vm₁ hW₁ => ⟨hf.1, hf.2, hPc (T.setVm vm₁) hT hW₁⟩) with ⟨v, vm₁, ⟨U', l2, c2, s2⟩, hW₁, X', ⟨g', mk, t, L, e1, e2, hq, h1, hL, h2, h3⟩, st⟩ | ⟨q, vm₁, ⟨U', l2, c2, s2⟩, hW₁, X', ⟨g', mk, t, L, E, ce, e1, e2, hq, hce, hcv, hcl, h1, hL, h2, h3⟩, st⟩
  · dsimp only [Pt.U, Pt.locs, Pt.cells, Pt.slots] at X' e1 e2 h1 h2 h3 st
    subst h1; subst h2; subst h3
    exact Or.inl ⟨v, (T.setVm vm₁).calling g' mk (Value.ref b :: As).toArray, t, U', L, hT, X', hL, e1, e2, hq, st⟩
  · dsimp only [Pt.U, Pt.locs, Pt.cells, Pt.slots] at X' e1 e2 h1 h2 h3 st hcl
    subst h1; subst h2; subst h3
    exact Or.inr ⟨q, (T.setVm vm₁).calling g' mk (Value.ref b :: As).toArray, t, U', L, E, ce, hT, X', hL, e1, e2, hq, hce, hcv, vx_cls hW₁ hcl, st⟩
theorem vx_runS (S : CallFix p m c cc nL s args Ts own) (hM : vx_Met l y ws rm Pc Qc XC mc ms free) (cw : CallB R s args own index y bytes maxL ret ws rm mc ms n ∧ (Cond.static y).before args s = true) (hp : PreS s H Pc As)
    (hg : g.method = m) (hn : As.length = n) (hsize : g.locals.size = nL) (hstack : g.stack = As.reverse ++ rest) (hW : 2 * g.monitorRoom + (rest.map fun v => v.category).sum ≤ 8) (hdg : decode cc g.pc = .ok (.invokestatic index, 3)) (hf : cells + mc ≤ R.cells ∧ slots + ms ≤ R.slots) :
    vx_Run p l e R s m args below meth c H locs cells slots mc ms g rest (Qc As.toArray) XC free := by
  have hK : vx_Back l R p e below s args y 3 8 (PreOf R mc ms Pc) (PostOf Qc mc ms free) (vx_Post XC mc ms free) := vx_callBack cw.1 hM hp.1
  obtain ⟨⟨-, -, -, -, -, -, hcode, hini, hy, hlen, hl⟩, hstt⟩ := cw
  obtain ⟨hx, hb, hml, ho, -⟩ := S
  intro T hT X
  rcases vx_callS X hx (bytes := bytes) (maxL := maxL) (ret := ret) ho hl hstt hini hcode hy hK hg (hsize.trans hml.symm) (argsL := As) (rest := rest) (fun sig h => hn.trans (hlen sig h)) hstack hW (by rw [hb]; exact hdg)
    (fun vm₁ hW₁ => ⟨hf.1, hf.2, hp.2 (T.setVm vm₁) hT hW₁⟩) with ⟨v, vm₁, ⟨U', l2, c2, s2⟩, hW₁, X', ⟨g', mk, t, L, e1, e2, hq, h1, hL, h2, h3⟩, st⟩ | ⟨q, vm₁, ⟨U', l2, c2, s2⟩, hW₁, X', ⟨g', mk, t, L, E, ce, e1, e2, hq, hce, hcv, hcl, h1, hL, h2, h3⟩, st⟩
  · dsimp only [Pt.U, Pt.locs, Pt.cells, Pt.slots] at X' e1 e2 h1 h2 h3 st
    subst h1; subst h2; subst h3
    exact Or.inl ⟨v, (T.setVm vm₁).calling g' mk As.toArray, t, U', L, hT, X', hL, e1, e2, hq, st⟩
  · dsimp only [Pt.U, Pt.locs, Pt.cells, Pt.slots] at X' e1 e2 h1 h2 h3 st hcl
    subst h1; subst h2; subst h3
    exact Or.inr ⟨q, (T.setVm vm₁).calling g' mk As.toArray, t, U', L, E, ce, hT, X', hL, e1, e2, hq, hce, hcv, vx_cls hW₁ hcl, st⟩
end Runs
section Rows
variable {p : Program} {l : Launch} {e : Env} {R : Room} {s : State} {m : MethodId} {args : Array Value} {below : List Frame} {meth : Method} {c : Code} {H : Heap} {locs : List Loc} {cells slots : Nat} {Q : State → Prop}
variable {mc ms : Nat} {free : Addr → Prop} {A0 A1 : Nat → Prop} {H0 : Heap} {a : Array Value} {pc : Nat} {ls : Array Slot} {st0 rest : List Value}
theorem vx_keep {st₀ t T' : State} {L : List Loc} (h0 : st₀.heap = H) (e1 : T'.heap = t.heap) (hS : va_S A0 H0 H locs) (hA : ∀ q, q < H.size → A1 q → A0 q) (hf : ∀ q, free q → A0 q) (hL : ∀ q ∈ L, free q.base) (hF : va_F A1 st₀ t) :
    H.size ≤ T'.heap.size ∧ (∀ q : Nat, q < H.size → ¬ A1 q → T'.heap[q]? = H[q]?) ∧ va_S A0 H0 T'.heap (locs ++ L) := by
  obtain ⟨hz, hk⟩ := hF
  rw [h0] at hz hk
  exact ⟨by rw [e1]; exact hz, fun q h1 h2 => by rw [e1]; exact hk q h1 h2,
    ⟨Nat.le_trans hS.1 (by rw [e1]; exact hz), fun q h1 h2 => by rw [e1, hk q (Nat.lt_of_lt_of_le h1 hS.1) (fun z => h2 (hA q (Nat.lt_of_lt_of_le h1 hS.1) z))]; exact hS.2.1 q h1 h2, fun q hq => by
      rcases List.mem_append.mp hq with h | h
      · exact hS.2.2 q h
      · exact hf _ (hL q h)⟩⟩
theorem vx_calli {S SX : Type} {post : Int32 → S → Prop} {px : SX → Prop} {B : S → State → Prop} {BX : String → SX → State → Prop} {AX : Nat → Prop} (hr : vx_Run p l e R s m args below meth c H locs cells slots mc ms (F0 m pc ls st0) rest (va_Qi post B A1 a) (vx_X px BX AX) free) (hS : va_S A0 H0 H locs) (hA : ∀ q, q < H.size → A1 q → A0 q) (hf : ∀ q, free q → A0 q) (hAX : ∀ q, q < H.size → AX q → A0 q)
    (kx : ∀ (E : String) (ce : Cell) (q9 : Addr) (u : SX) (t : State) (H1 : Heap) (locs1 : List Loc), t.heap = H1 → s.vm.Alike t.vm → px u → BX E u t → H.size ≤ H1.size → (∀ q : Nat, q < H.size → ¬ AX q → H1[q]? = H[q]?) → va_S A0 H0 H1 locs1 → H1[q9]? = some ce → ce.vm = .none → s.vm.findClass E = some ce.cls → vx_W p l e R s m args below meth c H1 locs1 (cells + mc) (slots + ms) Q (F0 m pc ls rest) q9)
    (kk : ∀ (r : Int32) (u : S) (t : State) (H1 : Heap) (locs1 : List Loc), t.heap = H1 → s.vm.Alike t.vm → post r u → B u t → H.size ≤ H1.size → (∀ q : Nat, q < H.size → ¬ A1 q → H1[q]? = H[q]?) → va_S A0 H0 H1 locs1 → W p l e R s m args below meth c H1 locs1 (cells + mc) (slots + ms) Q (F0 m (pc + 3) ls (.int r :: rest))) : W p l e R s m args below meth c H locs cells slots Q (F0 m pc ls st0) := by
  intro T hT X
  rcases hr T hT X with ⟨v, st₀, t, T', L, h0, X', hL, e1, e2, ⟨⟨r, u, hv, hp, hb⟩, hF⟩, st⟩ | ⟨q, st₀, t, T', L, E, ce, h0, X', hL, e1, e2, ⟨u, hp, hb, hF⟩, hce, hcv, hcl, st⟩
  · cases hv
    obtain ⟨k1, k2, k3⟩ := vx_keep h0 e1 hS hA hf hL hF
    obtain ⟨t2, a1, b1⟩ := kk r u t T'.heap (locs ++ L) e1.symm (by rw [← e2]; exact X'.warmed.alike) hp hb k1 k2 k3 T' rfl X'
    exact ⟨t2, st t2 a1, b1⟩
  · obtain ⟨k1, k2, k3⟩ := vx_keep h0 e1 hS hAX hf hL hF
    obtain ⟨t2, a1, b1⟩ := kx E ce q u t T'.heap (locs ++ L) e1.symm (by rw [← e2]; exact X'.warmed.alike) hp hb k1 k2 k3 (by rw [e1]; exact hce) hcv hcl T' rfl X'
    exact ⟨t2, st.trans a1, b1⟩
theorem vx_calll {S SX : Type} {post : Int64 → S → Prop} {px : SX → Prop} {B : S → State → Prop} {BX : String → SX → State → Prop} {AX : Nat → Prop} (hr : vx_Run p l e R s m args below meth c H locs cells slots mc ms (F0 m pc ls st0) rest (va_Ql post B A1 a) (vx_X px BX AX) free) (hS : va_S A0 H0 H locs) (hA : ∀ q, q < H.size → A1 q → A0 q) (hf : ∀ q, free q → A0 q) (hAX : ∀ q, q < H.size → AX q → A0 q)
    (kx : ∀ (E : String) (ce : Cell) (q9 : Addr) (u : SX) (t : State) (H1 : Heap) (locs1 : List Loc), t.heap = H1 → s.vm.Alike t.vm → px u → BX E u t → H.size ≤ H1.size → (∀ q : Nat, q < H.size → ¬ AX q → H1[q]? = H[q]?) → va_S A0 H0 H1 locs1 → H1[q9]? = some ce → ce.vm = .none → s.vm.findClass E = some ce.cls → vx_W p l e R s m args below meth c H1 locs1 (cells + mc) (slots + ms) Q (F0 m pc ls rest) q9)
    (kk : ∀ (r : Int64) (u : S) (t : State) (H1 : Heap) (locs1 : List Loc), t.heap = H1 → s.vm.Alike t.vm → post r u → B u t → H.size ≤ H1.size → (∀ q : Nat, q < H.size → ¬ A1 q → H1[q]? = H[q]?) → va_S A0 H0 H1 locs1 → W p l e R s m args below meth c H1 locs1 (cells + mc) (slots + ms) Q (F0 m (pc + 3) ls (.long r :: rest))) : W p l e R s m args below meth c H locs cells slots Q (F0 m pc ls st0) := by
  intro T hT X
  rcases hr T hT X with ⟨v, st₀, t, T', L, h0, X', hL, e1, e2, ⟨⟨r, u, hv, hp, hb⟩, hF⟩, st⟩ | ⟨q, st₀, t, T', L, E, ce, h0, X', hL, e1, e2, ⟨u, hp, hb, hF⟩, hce, hcv, hcl, st⟩
  · cases hv
    obtain ⟨k1, k2, k3⟩ := vx_keep h0 e1 hS hA hf hL hF
    obtain ⟨t2, a1, b1⟩ := kk r u t T'.heap (locs ++ L) e1.symm (by rw [← e2]; exact X'.warmed.alike) hp hb k1 k2 k3 T' rfl X'
    exact ⟨t2, st t2 a1, b1⟩
  · obtain ⟨k1, k2, k3⟩ := vx_keep h0 e1 hS hAX hf hL hF
    obtain ⟨t2, a1, b1⟩ := kx E ce q u t T'.heap (locs ++ L) e1.symm (by rw [← e2]; exact X'.warmed.alike) hp hb k1 k2 k3 (by rw [e1]; exact hce) hcv hcl T' rfl X'
    exact ⟨t2, st.trans a1, b1⟩
theorem vx_callf {S SX : Type} {post : UInt32 → S → Prop} {px : SX → Prop} {B : S → State → Prop} {BX : String → SX → State → Prop} {AX : Nat → Prop} (hr : vx_Run p l e R s m args below meth c H locs cells slots mc ms (F0 m pc ls st0) rest (va_Qf post B A1 a) (vx_X px BX AX) free) (hS : va_S A0 H0 H locs) (hA : ∀ q, q < H.size → A1 q → A0 q) (hf : ∀ q, free q → A0 q) (hAX : ∀ q, q < H.size → AX q → A0 q)
    (kx : ∀ (E : String) (ce : Cell) (q9 : Addr) (u : SX) (t : State) (H1 : Heap) (locs1 : List Loc), t.heap = H1 → s.vm.Alike t.vm → px u → BX E u t → H.size ≤ H1.size → (∀ q : Nat, q < H.size → ¬ AX q → H1[q]? = H[q]?) → va_S A0 H0 H1 locs1 → H1[q9]? = some ce → ce.vm = .none → s.vm.findClass E = some ce.cls → vx_W p l e R s m args below meth c H1 locs1 (cells + mc) (slots + ms) Q (F0 m pc ls rest) q9)
    (kk : ∀ (r : UInt32) (u : S) (t : State) (H1 : Heap) (locs1 : List Loc), t.heap = H1 → s.vm.Alike t.vm → post r u → B u t → H.size ≤ H1.size → (∀ q : Nat, q < H.size → ¬ A1 q → H1[q]? = H[q]?) → va_S A0 H0 H1 locs1 → W p l e R s m args below meth c H1 locs1 (cells + mc) (slots + ms) Q (F0 m (pc + 3) ls (.float r :: rest))) : W p l e R s m args below meth c H locs cells slots Q (F0 m pc ls st0) := by
  intro T hT X
  rcases hr T hT X with ⟨v, st₀, t, T', L, h0, X', hL, e1, e2, ⟨⟨r, u, hv, hp, hb⟩, hF⟩, st⟩ | ⟨q, st₀, t, T', L, E, ce, h0, X', hL, e1, e2, ⟨u, hp, hb, hF⟩, hce, hcv, hcl, st⟩
  · cases hv
    obtain ⟨k1, k2, k3⟩ := vx_keep h0 e1 hS hA hf hL hF
    obtain ⟨t2, a1, b1⟩ := kk r u t T'.heap (locs ++ L) e1.symm (by rw [← e2]; exact X'.warmed.alike) hp hb k1 k2 k3 T' rfl X'
    exact ⟨t2, st t2 a1, b1⟩
  · obtain ⟨k1, k2, k3⟩ := vx_keep h0 e1 hS hAX hf hL hF
    obtain ⟨t2, a1, b1⟩ := kx E ce q u t T'.heap (locs ++ L) e1.symm (by rw [← e2]; exact X'.warmed.alike) hp hb k1 k2 k3 (by rw [e1]; exact hce) hcv hcl T' rfl X'
    exact ⟨t2, st.trans a1, b1⟩
theorem vx_calld {S SX : Type} {post : UInt64 → S → Prop} {px : SX → Prop} {B : S → State → Prop} {BX : String → SX → State → Prop} {AX : Nat → Prop} (hr : vx_Run p l e R s m args below meth c H locs cells slots mc ms (F0 m pc ls st0) rest (va_Qd post B A1 a) (vx_X px BX AX) free) (hS : va_S A0 H0 H locs) (hA : ∀ q, q < H.size → A1 q → A0 q) (hf : ∀ q, free q → A0 q) (hAX : ∀ q, q < H.size → AX q → A0 q)
    (kx : ∀ (E : String) (ce : Cell) (q9 : Addr) (u : SX) (t : State) (H1 : Heap) (locs1 : List Loc), t.heap = H1 → s.vm.Alike t.vm → px u → BX E u t → H.size ≤ H1.size → (∀ q : Nat, q < H.size → ¬ AX q → H1[q]? = H[q]?) → va_S A0 H0 H1 locs1 → H1[q9]? = some ce → ce.vm = .none → s.vm.findClass E = some ce.cls → vx_W p l e R s m args below meth c H1 locs1 (cells + mc) (slots + ms) Q (F0 m pc ls rest) q9)
    (kk : ∀ (r : UInt64) (u : S) (t : State) (H1 : Heap) (locs1 : List Loc), t.heap = H1 → s.vm.Alike t.vm → post r u → B u t → H.size ≤ H1.size → (∀ q : Nat, q < H.size → ¬ A1 q → H1[q]? = H[q]?) → va_S A0 H0 H1 locs1 → W p l e R s m args below meth c H1 locs1 (cells + mc) (slots + ms) Q (F0 m (pc + 3) ls (.double r :: rest))) : W p l e R s m args below meth c H locs cells slots Q (F0 m pc ls st0) := by
  intro T hT X
  rcases hr T hT X with ⟨v, st₀, t, T', L, h0, X', hL, e1, e2, ⟨⟨r, u, hv, hp, hb⟩, hF⟩, st⟩ | ⟨q, st₀, t, T', L, E, ce, h0, X', hL, e1, e2, ⟨u, hp, hb, hF⟩, hce, hcv, hcl, st⟩
  · cases hv
    obtain ⟨k1, k2, k3⟩ := vx_keep h0 e1 hS hA hf hL hF
    obtain ⟨t2, a1, b1⟩ := kk r u t T'.heap (locs ++ L) e1.symm (by rw [← e2]; exact X'.warmed.alike) hp hb k1 k2 k3 T' rfl X'
    exact ⟨t2, st t2 a1, b1⟩
  · obtain ⟨k1, k2, k3⟩ := vx_keep h0 e1 hS hAX hf hL hF
    obtain ⟨t2, a1, b1⟩ := kx E ce q u t T'.heap (locs ++ L) e1.symm (by rw [← e2]; exact X'.warmed.alike) hp hb k1 k2 k3 (by rw [e1]; exact hce) hcv hcl T' rfl X'
    exact ⟨t2, st.trans a1, b1⟩
theorem vx_callv {S SX : Type} {post : S → Prop} {px : SX → Prop} {B : S → State → Prop} {BX : String → SX → State → Prop} {AX : Nat → Prop} (hr : vx_Run p l e R s m args below meth c H locs cells slots mc ms (F0 m pc ls st0) rest (va_Qv post B A1 a) (vx_X px BX AX) free) (hS : va_S A0 H0 H locs) (hA : ∀ q, q < H.size → A1 q → A0 q) (hf : ∀ q, free q → A0 q) (hAX : ∀ q, q < H.size → AX q → A0 q)
    (kx : ∀ (E : String) (ce : Cell) (q9 : Addr) (u : SX) (t : State) (H1 : Heap) (locs1 : List Loc), t.heap = H1 → s.vm.Alike t.vm → px u → BX E u t → H.size ≤ H1.size → (∀ q : Nat, q < H.size → ¬ AX q → H1[q]? = H[q]?) → va_S A0 H0 H1 locs1 → H1[q9]? = some ce → ce.vm = .none → s.vm.findClass E = some ce.cls → vx_W p l e R s m args below meth c H1 locs1 (cells + mc) (slots + ms) Q (F0 m pc ls rest) q9)
    (kk : ∀ (u : S) (t : State) (H1 : Heap) (locs1 : List Loc), t.heap = H1 → s.vm.Alike t.vm → post u → B u t → H.size ≤ H1.size → (∀ q : Nat, q < H.size → ¬ A1 q → H1[q]? = H[q]?) → va_S A0 H0 H1 locs1 → W p l e R s m args below meth c H1 locs1 (cells + mc) (slots + ms) Q (F0 m (pc + 3) ls (rest))) : W p l e R s m args below meth c H locs cells slots Q (F0 m pc ls st0) := by
  intro T hT X
  rcases hr T hT X with ⟨v, st₀, t, T', L, h0, X', hL, e1, e2, ⟨⟨u, hv, hp, hb⟩, hF⟩, st⟩ | ⟨q, st₀, t, T', L, E, ce, h0, X', hL, e1, e2, ⟨u, hp, hb, hF⟩, hce, hcv, hcl, st⟩
  · cases hv
    obtain ⟨k1, k2, k3⟩ := vx_keep h0 e1 hS hA hf hL hF
    obtain ⟨t2, a1, b1⟩ := kk u t T'.heap (locs ++ L) e1.symm (by rw [← e2]; exact X'.warmed.alike) hp hb k1 k2 k3 T' rfl X'
    exact ⟨t2, st t2 a1, b1⟩
  · obtain ⟨k1, k2, k3⟩ := vx_keep h0 e1 hS hAX hf hL hF
    obtain ⟨t2, a1, b1⟩ := kx E ce q u t T'.heap (locs ++ L) e1.symm (by rw [← e2]; exact X'.warmed.alike) hp hb k1 k2 k3 (by rw [e1]; exact hce) hcv hcl T' rfl X'
    exact ⟨t2, st.trans a1, b1⟩
/-- caught by the row x of this method's table; the rows ahead don't take it -/
theorem vx_catch {own name : String} {E : String} {ce : Cell} {q : Addr} (hown : s.vm.findClass own = some m.cls) (pre : List ExceptionTableEntry) (x : ExceptionTableEntry) (suf : List ExceptionTableEntry) (hsplit : c.exceptionTable.toList = pre ++ x :: suf)
    (hpass : ∀ z ∈ pre, covers z pc = false ∨ (z.catchType ≠ 0 ∧ ∃ nm : String, (Cond.classLink own z.catchType nm).before args s = true ∧ va_Nc E nm s)) (hx : covers x pc = true) (h0 : x.catchType ≠ 0)
    (hlink : (Cond.classLink own x.catchType name).before args s = true) (hcast : (Cond.castable E name).before args s = true) (hcell : H[q]? = some ce) (hv : ce.vm = .none) (hcl : s.vm.findClass E = some ce.cls)
    (kk : W p l e R s m args below meth c H locs cells slots Q (F0 m x.handlerPc ls [.ref q])) : vx_W p l e R s m args below meth c H locs cells slots Q (F0 m pc ls rest) q := by
  intro T hT X
  have hpl : e.platform.magicAccessors = ({} : Platform).magicAccessors := by rw [X.admits.platform]
  obtain ⟨c3, c4, hc3, hc4, hasg⟩ := Cond.castable_spec hcast
  cases Option.some.inj (hc3.symm.trans hcl)
  obtain ⟨c5, hc5, hcl5⟩ := Cond.classLink_spec hown hlink e.platform hpl
  cases Option.some.inj (hc4.symm.trans hc5)
  obtain ⟨vm', X', st⟩ := X.thenCaughtThrough q (g := F0 m pc ls rest) rfl (Steps.refl _) (by rw [hT]; exact hcell) (by rw [hv]; rfl) (by obtain ⟨k9, h9, -⟩ := Vm.findClass_spec hcl; exact ⟨k9, h9⟩) pre x suf hsplit
    (fun z hz => by
      rcases hpass z hz with h | ⟨hz0, nm, hl1, hn1⟩
      · exact Or.inl h
      · obtain ⟨c6, hc6, hcl6⟩ := Cond.classLink_spec hown hl1 e.platform hpl
        obtain ⟨a8, b8, h1, h2, h3⟩ := hn1
        cases Option.some.inj (h1.symm.trans hcl)
        cases Option.some.inj (h2.symm.trans hc6)
        exact Or.inr ⟨hz0, _, hcl6, h3⟩) hx (Or.inr ⟨h0, c4, hcl5, hasg⟩)
  obtain ⟨t, a1, b1⟩ := kk (T.setVm vm') hT X'
  exact ⟨t, st.trans a1, b1⟩
end Rows
section Ends
variable {p : Program} {l : Launch} {e : Env} {R : Room} {s : State} {m : MethodId} {args : Array Value} {below : List Frame} {meth : Method} {c : Code} {H : Heap} {locs : List Loc} {cells slots : Nat} {Q : State → Prop}
variable {mc ms : Nat} {free : Addr → Prop} {A0 A1 : Nat → Prop} {H0 : Heap} {a : Array Value} {ls : Array Slot} {st0 rest : List Value}
variable {Qc : Array Value → State → Outcome → State → Prop} {XC : String → State → State → Prop}
/-- what a body that may throw owes at its end -/
def vx_MQ (below : List Frame) (Qc : Array Value → State → Outcome → State → Prop) (XC : String → State → State → Prop) (a : Array Value) (s : State) (mc ms : Nat) (free : Addr → Prop) : State → Prop := fun t =>
  ∃ o, t.status = .running ∧ Ended t below o ∧ vx_Q Qc XC mc ms free a s o t
theorem vx_ret {g : JFrame} {mc ms : Nat} (k : W p l e R s m args below meth c H locs cells slots (MQ below Qc args s mc ms free) g) : W p l e R s m args below meth c H locs cells slots (vx_MQ below Qc XC args s mc ms free) g := by
  intro T hT X
  obtain ⟨t, a1, o, b1, b2, b3, b4⟩ := k T hT X
  exact ⟨t, a1, o, b1, b2, Or.inl ⟨b3, b4⟩⟩
/-- not caught here: it goes on to the caller -/
theorem vx_widen {g : JFrame} {q : Addr} {k n : Nat} (h1 : cells ≤ k) (h2 : slots ≤ n) (kk : vx_W p l e R s m args below meth c H locs k n Q g q) : vx_W p l e R s m args below meth c H locs cells slots Q g q := fun T hT X => kk T hT (stand_widen X h1 h2)
theorem vx_out {pc : Nat} {E : String} {ce : Cell} {q : Addr} {mc ms : Nat} (hout : ∀ x ∈ c.exceptionTable.toList, covers x pc = false) (hlocks : meth.locks = false) (hcell : H[q]? = some ce) (hv : ce.vm = .none) (hcl : s.vm.findClass E = some ce.cls)
    (hx : ∀ t : State, t.heap = H → s.vm.Alike t.vm → XC E s t) (hf : ∀ z ∈ locs, free z.base) (hc : cells ≤ mc) (hs : slots ≤ ms) :
    vx_W p l e R s m args below meth c H locs cells slots (vx_MQ below Qc XC args s mc ms free) (F0 m pc ls rest) q := by
  intro T hT X
  obtain ⟨st1, hrun, hend, hW, hsm⟩ := X.leaveThrown q (g := F0 m pc ls rest) rfl rfl rfl hout hlocks
  have hcell9 : (T.setFrames (.throwing q :: below)).heap[q]? = some ce := by
    show T.heap[q]? = some ce
    rw [hT]; exact hcell
  exact ⟨_, st1, .threw q, hrun, hend, Or.inr ⟨q, rfl, E, ce, locs, hx _ hT hW.alike, hcell9, hv, hcl, hW, hsm.mono hc hs, hf⟩⟩
theorem vx_frame {U : State} {k n : Nat} (h : s.sameButNew ({ U with vm := s.vm } : State) locs k n) : s.heap.size ≤ U.heap.size ∧ ∀ q : Nat, q < s.heap.size → (∀ z ∈ locs, z.base ≠ q) → U.heap[q]? = s.heap[q]? := by
  obtain ⟨-, h2, -, -, -, h6⟩ := h
  refine ⟨h2, fun q hq hz => ?_⟩
  obtain ⟨c9, e1, e2, e3, e4⟩ := h6 q _ (Array.getElem?_eq_getElem hq)
  have hs : c9.slots = (s.heap[q]).slots := Array.ext_getElem? fun i => e4 i fun hm => hz _ hm rfl
  have h9 : c9 = s.heap[q] := by
    rw [hs] at e2
    exact e2
  have e5 : U.heap[q]? = some c9 := e1
  rw [e5, h9, Array.getElem?_eq_getElem hq]
/-- the words of a throw but the four that speak of the heap -/
def vx_no (w : Cond) : Bool := decide (w ≠ .isRef (.static Bundle.tN "UNASSIGNED_STACK" Bundle.steD)) && decide (w ≠ .isRef (.static Bundle.tN "SUPPRESSED_SENTINEL" Bundle.listD)) && decide (w ≠ .laysStatic Bundle.tN "UNASSIGNED_STACK" Bundle.steD) && decide (w ≠ .laysStatic Bundle.tN "SUPPRESSED_SENTINEL" Bundle.listD)
def vx_at0 (own : String) (ic : Nat) (X : String) (names : List String) : List Cond := (Bundle.ownAtoms0 own ic X names).filter vx_no
def vx_atS (own : String) (ic : Nat) (X : String) (names : List String) : List Cond := (Bundle.ownAtoms own ic X names).filter vx_no
/-- a word that the tables alone decide, or a good one -/
def vx_ot (w : Cond) : Bool := w.onTables || goodWord w
theorem vx_ot_at {args a' : Array Value} {s U : State} {w : Cond} (hW : s.WarmedH U.vm) (hvm : s.vm = U.vm) (hg : vx_ot w = true) (h : w.before args s = true) : w.before a' U = true := by
  simp only [vx_ot, Bool.or_eq_true] at hg
  rcases hg with hg | hg
  · exact va_tabs hg hvm h
  · exact word_at hW (good_of_word hg) h
/-- a list's words: the good ones out of the method's own list, the others by premises of their own -/
theorem vx_hat {args : Array Value} {s : State} {L B : List Cond} (h1 : ∀ w ∈ L.filter goodWord, w.before args s = true) (h2 : ∀ w ∈ L.filter (fun w => !goodWord w), w ∈ B) (h3 : ∀ w ∈ B, w.before args s = true) : ∀ w ∈ L, w.before args s = true := by
  intro w hw
  by_cases g : goodWord w = true
  · exact h1 w (List.mem_filter.mpr ⟨hw, g⟩)
  · refine h3 w (h2 w (List.mem_filter.mpr ⟨hw, ?_⟩))
    show (!goodWord w) = true
    cases hgw : goodWord w
    · rfl
    · exact absurd hgw g
theorem vx_c {args : Array Value} {s : State} {w : Cond} {B : List Cond} (h : w.before args s = true) (t : ∀ w ∈ B, w.before args s = true) : ∀ w' ∈ w :: B, w'.before args s = true := fun w' h' => (List.mem_cons.mp h').elim (fun e => by rw [e]; exact h) (t w')
theorem vx_n {args : Array Value} {s : State} : ∀ w ∈ ([] : List Cond), w.before args s = true := fun _ h => nomatch h
theorem vx_own {args : Array Value} {s : State} {L : List Cond} (h1 : ∀ w ∈ L.filter vx_no, w.before args s = true)
    (hU : (Cond.isRef (.static Bundle.tN "UNASSIGNED_STACK" Bundle.steD)).before args s = true) (hN : (Cond.isRef (.static Bundle.tN "SUPPRESSED_SENTINEL" Bundle.listD)).before args s = true)
    (lU : (Cond.laysStatic Bundle.tN "UNASSIGNED_STACK" Bundle.steD).before args s = true) (lN : (Cond.laysStatic Bundle.tN "SUPPRESSED_SENTINEL" Bundle.listD).before args s = true) : ∀ w ∈ L, w.before args s = true := by
  intro w hw
  by_cases e1 : w = .isRef (.static Bundle.tN "UNASSIGNED_STACK" Bundle.steD)
  · rw [e1]; exact hU
  · by_cases e2 : w = .isRef (.static Bundle.tN "SUPPRESSED_SENTINEL" Bundle.listD)
    · rw [e2]; exact hN
    · by_cases e3 : w = .laysStatic Bundle.tN "UNASSIGNED_STACK" Bundle.steD
      · rw [e3]; exact lU
      · by_cases e4 : w = .laysStatic Bundle.tN "SUPPRESSED_SENTINEL" Bundle.listD
        · rw [e4]; exact lN
        · exact h1 w (List.mem_filter.mpr ⟨hw, by unfold vx_no; rw [decide_eq_true e1, decide_eq_true e2, decide_eq_true e3, decide_eq_true e4]; rfl⟩)
/-- where a static field lies, its class's statics cell in H -/
def vx_L (C n d : String) (A : Nat → Prop) (U : State) (H : Heap) : Prop := ∃ (c : ClassId) (k : Class) (i : Nat) (f : Field) (a : Nat) (cell : Cell), U.vm.findClass C = some c ∧ U.fieldFound? C n d = some (c, k, i, f) ∧ f.isStatic = true ∧ k.statics = some a ∧ H[a]? = some cell ∧ cell.vm.isStatics = true ∧ cell.cls = c ∧ f.slot < cell.slots.size ∧ k.staticTypes[f.slot]? = some f.type ∧ ¬ A a
theorem vx_L.moved {C n d : String} {A : Nat → Prop} {u U : State} {H : Heap} (hvm : u.vm.Alike U.vm) (h : vx_L C n d A u H) : vx_L C n d A U H := by
  obtain ⟨c, k, i, f, a, cell, h1, h2, h3, h4, h5, h6, h7, h8, h9, h10⟩ := h
  obtain ⟨k', hi', he⟩ := State.fieldFound?_setVm hvm h2
  exact ⟨c, k', i, f, a, cell, by rw [hvm.findClass]; exact h1, hi', h3, by rw [he]; exact h4, h5, h6, h7, h8, by rw [he]; exact h9, h10⟩
theorem vx_L.kept {C n d : String} {A : Nat → Prop} {U : State} {H H1 : Heap} (h : vx_L C n d A U H) (hq : ∀ a : Nat, a < H.size → ¬ A a → H1[a]? = H[a]?) : vx_L C n d A U H1 := by
  obtain ⟨c, k, i, f, a, cell, h1, h2, h3, h4, h5, h6, h7, h8, h9, h10⟩ := h
  exact ⟨c, k, i, f, a, cell, h1, h2, h3, h4, by rw [hq a (Array.getElem?_eq_some_iff.mp h5).1 h10]; exact h5, h6, h7, h8, h9, h10⟩
theorem vx_L.narrow {C n d : String} {A B : Nat → Prop} {U : State} {H : Heap} (h : vx_L C n d A U H) (hAB : ∀ q, B q → A q) : vx_L C n d B U H := by
  obtain ⟨c, k, i, f, a, cell, h1, h2, h3, h4, h5, h6, h7, h8, h9, h10⟩ := h
  exact ⟨c, k, i, f, a, cell, h1, h2, h3, h4, h5, h6, h7, h8, h9, fun z => h10 (hAB _ z)⟩
theorem vx_L.word {C n d : String} {A : Nat → Prop} {s : State} {args : Array Value} (h : vx_L C n d A s s.heap) : (Cond.laysStatic C n d).before args s = true := by
  obtain ⟨c, k, i, f, a, cell, h1, h2, h3, h4, h5, h6, h7, h8, h9, -⟩ := h
  show (Cond.laysStatic C n d).holds args s none s [] = true
  exact Cond.laysStatic_of h1 h2 h3 h4 h5 h6 h7 h8 h9
/-- .. and what it holds: null or some reference -/
def vx_Zq (C n d : String) (A : Nat → Prop) (U : State) (H : Heap) : Prop := va_Zq C n d A U H ∧ vx_L C n d A U H
theorem vx_Zq.moved {C n d : String} {A : Nat → Prop} {u U : State} {H : Heap} (hvm : u.vm.Alike U.vm) (h : vx_Zq C n d A u H) : vx_Zq C n d A U H := ⟨va_Zq.moved hvm h.1, vx_L.moved hvm h.2⟩
theorem vx_Zq.kept {C n d : String} {A : Nat → Prop} {U : State} {H H1 : Heap} (h : vx_Zq C n d A U H) (hq : ∀ a : Nat, a < H.size → ¬ A a → H1[a]? = H[a]?) : vx_Zq C n d A U H1 := ⟨va_Zq.kept h.1 hq, vx_L.kept h.2 hq⟩
theorem vx_Zq.narrow {C n d : String} {A B : Nat → Prop} {U : State} {H : Heap} (h : vx_Zq C n d A U H) (hAB : ∀ q, B q → A q) : vx_Zq C n d B U H := ⟨va_Zq.narrow h.1 hAB, vx_L.narrow h.2 hAB⟩
theorem vx_Zqof {args : Array Value} {s : State} {C n d : String} {A : Nat → Prop} (hl : (Cond.laysStatic C n d).before args s = true) (hini : (Cond.initialized C).before args s = true) (h : (Cond.isRef (.static C n d)).before args s = true) (hA : ∀ a : Nat, a < s.heap.size → ¬ A a) : vx_Zq C n d A s s.heap := by
  refine ⟨va_Zqof hl hini h hA, ?_⟩
  obtain ⟨c, k, i, f, a, cell, h1, h2, h3, h4, h5, h6, h7, h8, h9⟩ := Cond.laysStatic_spec hl
  exact ⟨c, k, i, f, a, cell, h1, h2, h3, h4, h5, h6, h7, h8, h9, hA a (Array.getElem?_eq_some_iff.mp h5).1⟩
theorem vx_isRef {C n d : String} {v : Value} {A : Nat → Prop} {s : State} {args : Array Value} (h : va_Z C n d v A s s.heap) (hv : v.isRef = true) : (Cond.isRef (.static C n d)).before args s = true := by
  obtain ⟨cf, kf, fi, f, a, cell, h1, h2, h3, h4, h5, h6, h7, -⟩ := h
  have he : (Term.static C n d).eval args s none [] s = some v := by
    simp [Term.eval, State.fieldNamed?, h1, h2, h4, h5, h6, h7]
  simp only [Cond.before, Cond.holds, Cond.value, he]
  cases v <;> simp_all [Value.isRef]
theorem vx_isRefq {C n d : String} {A : Nat → Prop} {s : State} {args : Array Value} (h : va_Zq C n d A s s.heap) : (Cond.isRef (.static C n d)).before args s = true := by
  rcases h with h | ⟨t, h⟩
  · exact vx_isRef h rfl
  · exact vx_isRef h rfl
/-- the same frame, seen from here: as if the method were called anew in this heap -/
theorem vx_rebase {T : State} (X : Stand p l e R s m args below meth c T locs cells slots) {R' : Room} (hf : R'.frames ≤ R.frames) (hl : R'.locals ≤ R.locals) (hc : cells + R'.cells ≤ R.cells) (hs : slots + R'.slots ≤ R.slots) :
    Stand p l e R' ((T.setVm s.vm).setFrames (.invoking m args :: below)) m args below meth c T [] 0 0 := by
  have htop : (T.setVm s.vm).topJava?.isSome := X.here.top
  have hF : ((T.setVm s.vm).setFrames (.invoking m args :: below)).frames = .invoking m args :: below := State.frames_setFrames _ (State.cur_lt_of_top htop)
  obtain ⟨g₀, hg0⟩ := Option.isSome_iff_exists.mp htop
  obtain ⟨r, hr⟩ := State.topJava?_eq_some.mp hg0
  have hl9 : e.platform.stackLimits (T.setVm s.vm).me = e.platform.stackLimits s.me := X.limits
  have hb9 : (T.setVm s.vm).me.stackBytes = s.me.stackBytes := X.bytes
  refine ⟨X.admits, X.cas, X.clock, hF, ?_, X.hears, X.method, X.code, X.here, X.tail, X.warmed, ?_, ?_, ?_⟩
  · have h := X.room
    have hU : ((T.setVm s.vm).setFrames (.invoking m args :: below)).localsInUse = s.localsInUse := by
      rw [State.localsInUse_invoking hF (meth := meth) (c := c) X.method X.code, State.localsInUse_invoking X.frames X.method X.code]
    simp only [State.hasRoom, Bool.and_eq_true, decide_eq_true_eq] at h ⊢
    obtain ⟨⟨⟨⟨h1, h2, h3, h4, h5, h6⟩, h7⟩, h8⟩, h9⟩ := h
    rw [X.frames, List.length_cons] at h2 h3
    have q1 := X.heapSize
    have q2 := X.used
    simp only [hF, hU, List.length_cons, State.stackLimits_setFrames, State.stackBytes_setFrames, hl9, hb9]
    refine ⟨⟨⟨⟨by omega, by omega, by omega, by omega, by omega, h6⟩, ?_⟩, ?_⟩, X.book⟩
    · show T.heap.size + R'.cells ≤ e.platform.maxCells
      omega
    · show T.slotsUsed + R'.slots ≤ e.platform.maxSlots
      omega
  · rw [State.stackLimits_setFrames]; rfl
  · rw [State.stackBytes_setFrames]; rfl
  · refine ⟨?_, Nat.le_refl _, Nat.le_refl _, ?_, ?_, fun a c9 h9 => ⟨c9, h9, rfl, rfl, fun _ _ => rfl⟩⟩
    · obtain ⟨t, ht, -⟩ := State.frames_cons hr
      show T.setVm s.vm = { ((T.setVm s.vm).setFrames (.invoking m args :: below)).setFrames (T.setVm s.vm).frames with heap := T.heap, slotsUsed := T.slotsUsed }
      rw [State.setFrames_setFrames, State.setFrames_self ht]
      rfl
    · show T.slotsUsed = T.slotsUsed + ((T.heap.toList.drop T.heap.size).map (·.slots.size)).sum
      rw [List.drop_eq_nil_of_le (Nat.le_of_eq Array.length_toList)]
      rfl
    · show ((T.heap.toList.drop T.heap.size).map (·.slots.size)).sum ≤ 0
      rw [List.drop_eq_nil_of_le (Nat.le_of_eq Array.length_toList)]
      exact Nat.le_refl _
/-- 'throw new E()': new; dup; invokespecial; athrow -/
theorem vx_throw0 {cc : ByteArray} {pc : Nat} (hexec : p.tables.exec = Jvm.exec) (hb : c.code = cc) (hl : l.stackTraces = false) {own cls : String} {names : List String} {ik ic mc ms : Nat} {A : Nat → Prop}
    (hown : s.vm.findClass own = some m.cls) (hcls : Bundle.fit cls = true) (hnames : ∀ n ∈ names, Bundle.fit n = true)
    (hk : (Cond.classLink own ik cls).before args s = true) (hini : (Cond.initialized cls).before args s = true) (hat : ∀ w ∈ vx_at0 own ic cls names, w.before args s = true)
    (hgood : ∀ w ∈ Cond.classLink own ik cls :: Cond.initialized cls :: vx_at0 own ic cls names, vx_ot w = true)
    (hU : vx_Zq Bundle.tN "UNASSIGNED_STACK" Bundle.steD A s s.heap) (hN : vx_Zq Bundle.tN "SUPPRESSED_SENTINEL" Bundle.listD A s s.heap) (hS : va_S A s.heap H locs) (hsize : ls.size = c.maxLocals)
    (d0 : decode cc pc = .ok (.new ik, 3)) (d3 : decode cc (pc + 3) = .ok (.dup, 1)) (d4 : decode cc (pc + 4) = .ok (.invokespecial ic, 3)) (d7 : decode cc (pc + 7) = .ok (.athrow, 1))
    (hout : ∀ x ∈ c.exceptionTable.toList, covers x (pc + 7) = false)
    (hRframes : names.length + 3 < R.frames) (hRlocals : (rest.map fun v => v.category).sum + (13 * (names.length + 1) + 42) ≤ R.locals) (hRcells : cells + 1 ≤ R.cells) (hRslots : slots + 6 ≤ R.slots) (hlocks : meth.locks = false)
    (hx : ∀ t : State, s.vm.Alike t.vm → H.size ≤ t.heap.size → (∀ q : Nat, q < H.size → t.heap[q]? = H[q]?) → XC cls s t)
    (hf : ∀ z ∈ locs, free z.base) (hc : cells + 1 ≤ mc) (hs : slots + 6 ≤ ms) :
    W p l e R s m args below meth c H locs cells slots (vx_MQ below Qc XC args s mc ms free) (F0 m pc ls rest) := by
  intro T hT X
  have htr : e.platform.stackTraces = false := (show e.platform.stackTraces = l.stackTraces by rw [X.admits.platform]).trans hl
  have Y := vx_rebase X (R' := { frames := R.frames, locals := R.locals, cells := 1, slots := 6 }) (Nat.le_refl _) (Nat.le_refl _) hRcells hRslots
  obtain ⟨s', hA⟩ : ∃ z, z = (T.setVm s.vm).setFrames (.invoking m args :: below) := ⟨_, rfl⟩
  rw [← hA] at Y
  have hvm : s'.vm = s.vm := by rw [hA]; rfl
  have hhp : s'.heap = H := by rw [hA]; exact hT
  have hW0 : s.WarmedH s'.vm := by rw [hvm]; exact State.WarmedH.refl s
  have hat' : ∀ w ∈ vx_at0 own ic cls names, w.before args s' = true := fun w hw => vx_ot_at hW0 hvm.symm (hgood w (List.mem_cons_of_mem _ (List.mem_cons_of_mem _ hw))) (hat w hw)
  have hk' : (Cond.classLink own ik cls).before args s' = true := vx_ot_at hW0 hvm.symm (hgood _ List.mem_cons_self) hk
  have hini' : (Cond.initialized cls).before args s' = true := vx_ot_at hW0 hvm.symm (hgood _ (List.mem_cons_of_mem _ List.mem_cons_self)) hini
  have hU' : vx_Zq Bundle.tN "UNASSIGNED_STACK" Bundle.steD A s' s'.heap := by rw [hhp]; exact vx_Zq.moved hW0.alike (hU.kept hS.2.1)
  have hN' : vx_Zq Bundle.tN "SUPPRESSED_SENTINEL" Bundle.listD A s' s'.heap := by rw [hhp]; exact vx_Zq.moved hW0.alike (hN.kept hS.2.1)
  have h : ∀ w ∈ Bundle.ownAtoms0 own ic cls names, w.before args s' = true := vx_own hat' (vx_isRefq hU'.1) (vx_isRefq hN'.1) hU'.2.word hN'.2.word
  have hown' : s'.vm.findClass own = some m.cls := by rw [hvm]; exact hown
  have hins : (Cond.instantiable cls 6).before args s' = true := h _ (by simp [Bundle.ownAtoms0])
  obtain ⟨vm₁, cX, kX, hfX, hkX, -, -, X₁, st1⟩ := Y.newCold hexec (own := own) (C := cls) (index := ik) (n := 6) hown' hk' hins hini'
    (g := F0 m pc ls rest) rfl (by rw [hb]; exact d0) (Nat.le_refl _) (Nat.le_refl _)
  generalize hT1 : (T.setVm vm₁).pushCell { cls := cX, slots := kX.instanceTypes.map defaultValue, vm := .none } = T1 at X₁ st1
  have hcat : (Value.ref T.heap.size).category = 1 := rfl
  have hcellA : T1.heap[T.heap.size]? = some (freshCell cX kX) := by rw [← hT1]; exact State.heap_pushCell_size _ _
  have d3' : decode c.code (pc + 3) = .ok (.dup, 1) := by rw [hb]; exact d3
  obtain ⟨U, hsteps, hrun, hend, hW, hsame, ce, hce, hO⟩ := X₁.ctorThrow0 hexec htr (own := own) (cls := cls) (names := names) (ic := ic) hown' hcls hnames h (fun x hx => nomatch hx) hfX hkX hcellA (by rw [hhp, hT]; exact Nat.le_refl _)
    (g := { method := m, pc := pc + 4, locals := ls, stack := .ref T.heap.size :: .ref T.heap.size :: rest, locked := none }) rfl hsize rfl rfl (rest := rest) rfl
    (by rw [hb]; exact d4) (by rw [hb]; exact d7) hout hRframes (by simp only [List.map_cons, List.sum_cons, hcat]; omega) hlocks
  obtain ⟨f1, f2⟩ := vx_frame hsame
  rw [hhp] at f1 f2
  have hWs : s.WarmedH U.vm := State.WarmedH.trans hW0 hW
  have hcl : s.vm.findClass cls = some ce.cls := by
    have h9 := hO.cls
    rw [hvm] at h9
    exact h9
  have hall : s.sameButNew ({ U with vm := s.vm } : State) locs mc ms := by
    subst hA
    obtain ⟨e1, e2⟩ := hsame
    rw [State.setFrames_setFrames] at e1
    have h2 : (T.setVm s.vm).sameButNew ({ U with vm := s.vm } : State) [] (0 + 1) (0 + 6) := ⟨e1, e2⟩
    have h3 := X.same.trans h2
    rw [List.append_nil] at h3
    exact h3.mono hc hs
  refine ⟨U, ?_, .threw T.heap.size, hrun, hend, Or.inr ⟨T.heap.size, rfl, cls, ce, locs, hx U hWs.alike f1 (fun q hq => f2 q hq (fun z hz => nomatch hz)), hce, hO.vm, hcl, hWs, hall, hf⟩⟩
  refine st1 _ ?_
  show Steps p.tables e below (T1.setTop { method := m, pc := pc + 3, locals := ls, stack := .ref T.heap.size :: rest, locked := none }) _
  jvm_step X₁.here [X₁.here.top, hexec, d3', Value.category]
  exact hsteps
/-- 'throw new E("text")': new; dup; ldc; invokespecial; athrow -/
theorem vx_throwS {cc : ByteArray} {pc : Nat} (hexec : p.tables.exec = Jvm.exec) (hb : c.code = cc) (hl : l.stackTraces = false) {own cls text : String} {names : List String} {ik is ic mc ms sa : Nat} {A : Nat → Prop}
    (hown : s.vm.findClass own = some m.cls) (hcls : Bundle.fit cls = true) (hnames : ∀ n ∈ names, Bundle.fit n = true)
    (hk : (Cond.classLink own ik cls).before args s = true) (hini : (Cond.initialized cls).before args s = true) (hstr : vk_R own is text sa s) (hat : ∀ w ∈ vx_atS own ic cls names, w.before args s = true)
    (hgood : ∀ w ∈ Cond.classLink own ik cls :: Cond.initialized cls :: vx_atS own ic cls names, vx_ot w = true)
    (hU : vx_Zq Bundle.tN "UNASSIGNED_STACK" Bundle.steD A s s.heap) (hN : vx_Zq Bundle.tN "SUPPRESSED_SENTINEL" Bundle.listD A s s.heap) (hS : va_S A s.heap H locs) (hsize : ls.size = c.maxLocals)
    (d0 : decode cc pc = .ok (.new ik, 3)) (d3 : decode cc (pc + 3) = .ok (.dup, 1)) (d4 : decode cc (pc + 4) = .ok (.ldc is, 2)) (d6 : decode cc (pc + 6) = .ok (.invokespecial ic, 3)) (d9 : decode cc (pc + 9) = .ok (.athrow, 1))
    (hout : ∀ x ∈ c.exceptionTable.toList, covers x (pc + 9) = false)
    (hRframes : names.length + 3 < R.frames) (hRlocals : (rest.map fun v => v.category).sum + (13 * (names.length + 1) + 43) ≤ R.locals) (hRcells : cells + 1 ≤ R.cells) (hRslots : slots + 6 ≤ R.slots) (hlocks : meth.locks = false)
    (hx : ∀ t : State, s.vm.Alike t.vm → H.size ≤ t.heap.size → (∀ q : Nat, q < H.size → t.heap[q]? = H[q]?) → XC cls s t)
    (hf : ∀ z ∈ locs, free z.base) (hc : cells + 1 ≤ mc) (hs : slots + 6 ≤ ms) :
    W p l e R s m args below meth c H locs cells slots (vx_MQ below Qc XC args s mc ms free) (F0 m pc ls rest) := by
  intro T hT X
  have htr : e.platform.stackTraces = false := (show e.platform.stackTraces = l.stackTraces by rw [X.admits.platform]).trans hl
  have Y := vx_rebase X (R' := { frames := R.frames, locals := R.locals, cells := 1, slots := 6 }) (Nat.le_refl _) (Nat.le_refl _) hRcells hRslots
  obtain ⟨s', hA⟩ : ∃ z, z = (T.setVm s.vm).setFrames (.invoking m args :: below) := ⟨_, rfl⟩
  rw [← hA] at Y
  have hvm : s'.vm = s.vm := by rw [hA]; rfl
  have hhp : s'.heap = H := by rw [hA]; exact hT
  have hW0 : s.WarmedH s'.vm := by rw [hvm]; exact State.WarmedH.refl s
  have hat' : ∀ w ∈ vx_atS own ic cls names, w.before args s' = true := fun w hw => vx_ot_at hW0 hvm.symm (hgood w (List.mem_cons_of_mem _ (List.mem_cons_of_mem _ hw))) (hat w hw)
  have hk' : (Cond.classLink own ik cls).before args s' = true := vx_ot_at hW0 hvm.symm (hgood _ List.mem_cons_self) hk
  have hini' : (Cond.initialized cls).before args s' = true := vx_ot_at hW0 hvm.symm (hgood _ (List.mem_cons_of_mem _ List.mem_cons_self)) hini
  have hU' : vx_Zq Bundle.tN "UNASSIGNED_STACK" Bundle.steD A s' s'.heap := by rw [hhp]; exact vx_Zq.moved hW0.alike (hU.kept hS.2.1)
  have hN' : vx_Zq Bundle.tN "SUPPRESSED_SENTINEL" Bundle.listD A s' s'.heap := by rw [hhp]; exact vx_Zq.moved hW0.alike (hN.kept hS.2.1)
  have h : ∀ w ∈ Bundle.ownAtoms own ic cls names, w.before args s' = true := vx_own hat' (vx_isRefq hU'.1) (vx_isRefq hN'.1) hU'.2.word hN'.2.word
  have hown' : s'.vm.findClass own = some m.cls := by rw [hvm]; exact hown
  have hins : (Cond.instantiable cls 6).before args s' = true := h _ (by simp [Bundle.ownAtoms])
  obtain ⟨vm₁, cX, kX, hfX, hkX, -, -, X₁, st1⟩ := Y.newCold hexec (own := own) (C := cls) (index := ik) (n := 6) hown' hk' hins hini'
    (g := F0 m pc ls rest) rfl (by rw [hb]; exact d0) (Nat.le_refl _) (Nat.le_refl _)
  generalize hT1 : (T.setVm vm₁).pushCell { cls := cX, slots := kX.instanceTypes.map defaultValue, vm := .none } = T1 at X₁ st1
  have hcat : (Value.ref T.heap.size).category = 1 := rfl
  have hcellA : T1.heap[T.heap.size]? = some (freshCell cX kX) := by rw [← hT1]; exact State.heap_pushCell_size _ _
  have d3' : decode c.code (pc + 3) = .ok (.dup, 1) := by rw [hb]; exact d3
  have d4' : decode c.code (pc + 4) = .ok (.ldc is, 2) := by rw [hb]; exact d4
  have hstr' : vk_R own is text sa s' := vk_R.warm hW0 hstr
  obtain ⟨U, hsteps, hrun, hend, hW, hsame, ce, hce, hO⟩ := X₁.ctorThrowS hexec htr (own := own) (cls := cls) (names := names) (ic := ic) hown' hcls hnames h (fun x hx => nomatch hx) hfX hkX hcellA (by rw [hhp, hT]; exact Nat.le_refl _) (msg := .ref sa) rfl
    (g := { method := m, pc := pc + 6, locals := ls, stack := .ref sa :: .ref T.heap.size :: .ref T.heap.size :: rest, locked := none }) rfl hsize rfl rfl (rest := rest) rfl
    (by rw [hb]; exact d6) (by rw [hb]; exact d9) hout hRframes (by simp only [List.map_cons, List.sum_cons, hcat]; omega) hlocks
  obtain ⟨f1, f2⟩ := vx_frame hsame
  rw [hhp] at f1 f2
  have hWs : s.WarmedH U.vm := State.WarmedH.trans hW0 hW
  have hcl : s.vm.findClass cls = some ce.cls := by
    have h9 := hO.cls
    rw [hvm] at h9
    exact h9
  have hall : s.sameButNew ({ U with vm := s.vm } : State) locs mc ms := by
    subst hA
    obtain ⟨e1, e2⟩ := hsame
    rw [State.setFrames_setFrames] at e1
    have h2 : (T.setVm s.vm).sameButNew ({ U with vm := s.vm } : State) [] (0 + 1) (0 + 6) := ⟨e1, e2⟩
    have h3 := X.same.trans h2
    rw [List.append_nil] at h3
    exact h3.mono hc hs
  refine ⟨U, ?_, .threw T.heap.size, hrun, hend, Or.inr ⟨T.heap.size, rfl, cls, ce, locs, hx U hWs.alike f1 (fun q hq => f2 q hq (fun z hz => nomatch hz)), hce, hO.vm, hcl, hWs, hall, hf⟩⟩
  refine st1 _ ?_
  show Steps p.tables e below (T1.setTop { method := m, pc := pc + 3, locals := ls, stack := .ref T.heap.size :: rest, locked := none }) _
  jvm_step X₁.here [X₁.here.top, hexec, d3', Value.category]
  exact X₁.ldcString hexec (own := own) (text := text) (index := is) (a := sa) hown' hstr'.1 hstr'.2
    (g := { method := m, pc := pc + 4, locals := ls, stack := .ref T.heap.size :: .ref T.heap.size :: rest, locked := none }) rfl d4' _ hsteps
/-- 'throw new E("text")', the text by a wide index -/
theorem vx_throwSW {cc : ByteArray} {pc : Nat} (hexec : p.tables.exec = Jvm.exec) (hb : c.code = cc) (hl : l.stackTraces = false) {own cls text : String} {names : List String} {ik is ic mc ms sa : Nat} {A : Nat → Prop}
    (hown : s.vm.findClass own = some m.cls) (hcls : Bundle.fit cls = true) (hnames : ∀ n ∈ names, Bundle.fit n = true)
    (hk : (Cond.classLink own ik cls).before args s = true) (hini : (Cond.initialized cls).before args s = true) (hstr : vk_R own is text sa s) (hat : ∀ w ∈ vx_atS own ic cls names, w.before args s = true)
    (hgood : ∀ w ∈ Cond.classLink own ik cls :: Cond.initialized cls :: vx_atS own ic cls names, vx_ot w = true)
    (hU : vx_Zq Bundle.tN "UNASSIGNED_STACK" Bundle.steD A s s.heap) (hN : vx_Zq Bundle.tN "SUPPRESSED_SENTINEL" Bundle.listD A s s.heap) (hS : va_S A s.heap H locs) (hsize : ls.size = c.maxLocals)
    (d0 : decode cc pc = .ok (.new ik, 3)) (d3 : decode cc (pc + 3) = .ok (.dup, 1)) (d4 : decode cc (pc + 4) = .ok (.ldc_w is, 3)) (d7 : decode cc (pc + 7) = .ok (.invokespecial ic, 3)) (d10 : decode cc (pc + 10) = .ok (.athrow, 1))
    (hout : ∀ x ∈ c.exceptionTable.toList, covers x (pc + 10) = false)
    (hRframes : names.length + 3 < R.frames) (hRlocals : (rest.map fun v => v.category).sum + (13 * (names.length + 1) + 43) ≤ R.locals) (hRcells : cells + 1 ≤ R.cells) (hRslots : slots + 6 ≤ R.slots) (hlocks : meth.locks = false)
    (hx : ∀ t : State, s.vm.Alike t.vm → H.size ≤ t.heap.size → (∀ q : Nat, q < H.size → t.heap[q]? = H[q]?) → XC cls s t)
    (hf : ∀ z ∈ locs, free z.base) (hc : cells + 1 ≤ mc) (hs : slots + 6 ≤ ms) :
    W p l e R s m args below meth c H locs cells slots (vx_MQ below Qc XC args s mc ms free) (F0 m pc ls rest) := by
  intro T hT X
  have htr : e.platform.stackTraces = false := (show e.platform.stackTraces = l.stackTraces by rw [X.admits.platform]).trans hl
  have Y := vx_rebase X (R' := { frames := R.frames, locals := R.locals, cells := 1, slots := 6 }) (Nat.le_refl _) (Nat.le_refl _) hRcells hRslots
  obtain ⟨s', hA⟩ : ∃ z, z = (T.setVm s.vm).setFrames (.invoking m args :: below) := ⟨_, rfl⟩
  rw [← hA] at Y
  have hvm : s'.vm = s.vm := by rw [hA]; rfl
  have hhp : s'.heap = H := by rw [hA]; exact hT
  have hW0 : s.WarmedH s'.vm := by rw [hvm]; exact State.WarmedH.refl s
  have hat' : ∀ w ∈ vx_atS own ic cls names, w.before args s' = true := fun w hw => vx_ot_at hW0 hvm.symm (hgood w (List.mem_cons_of_mem _ (List.mem_cons_of_mem _ hw))) (hat w hw)
  have hk' : (Cond.classLink own ik cls).before args s' = true := vx_ot_at hW0 hvm.symm (hgood _ List.mem_cons_self) hk
  have hini' : (Cond.initialized cls).before args s' = true := vx_ot_at hW0 hvm.symm (hgood _ (List.mem_cons_of_mem _ List.mem_cons_self)) hini
  have hU' : vx_Zq Bundle.tN "UNASSIGNED_STACK" Bundle.steD A s' s'.heap := by rw [hhp]; exact vx_Zq.moved hW0.alike (hU.kept hS.2.1)
  have hN' : vx_Zq Bundle.tN "SUPPRESSED_SENTINEL" Bundle.listD A s' s'.heap := by rw [hhp]; exact vx_Zq.moved hW0.alike (hN.kept hS.2.1)
  have h : ∀ w ∈ Bundle.ownAtoms own ic cls names, w.before args s' = true := vx_own hat' (vx_isRefq hU'.1) (vx_isRefq hN'.1) hU'.2.word hN'.2.word
  have hown' : s'.vm.findClass own = some m.cls := by rw [hvm]; exact hown
  have hins : (Cond.instantiable cls 6).before args s' = true := h _ (by simp [Bundle.ownAtoms])
  obtain ⟨vm₁, cX, kX, hfX, hkX, -, -, X₁, st1⟩ := Y.newCold hexec (own := own) (C := cls) (index := ik) (n := 6) hown' hk' hins hini'
    (g := F0 m pc ls rest) rfl (by rw [hb]; exact d0) (Nat.le_refl _) (Nat.le_refl _)
  generalize hT1 : (T.setVm vm₁).pushCell { cls := cX, slots := kX.instanceTypes.map defaultValue, vm := .none } = T1 at X₁ st1
  have hcat : (Value.ref T.heap.size).category = 1 := rfl
  have hcellA : T1.heap[T.heap.size]? = some (freshCell cX kX) := by rw [← hT1]; exact State.heap_pushCell_size _ _
  have d3' : decode c.code (pc + 3) = .ok (.dup, 1) := by rw [hb]; exact d3
  have d4' : decode c.code (pc + 4) = .ok (.ldc_w is, 3) := by rw [hb]; exact d4
  have hstr' : vk_R own is text sa s' := vk_R.warm hW0 hstr
  obtain ⟨U, hsteps, hrun, hend, hW, hsame, ce, hce, hO⟩ := X₁.ctorThrowS hexec htr (own := own) (cls := cls) (names := names) (ic := ic) hown' hcls hnames h (fun x hx => nomatch hx) hfX hkX hcellA (by rw [hhp, hT]; exact Nat.le_refl _) (msg := .ref sa) rfl
    (g := { method := m, pc := pc + 7, locals := ls, stack := .ref sa :: .ref T.heap.size :: .ref T.heap.size :: rest, locked := none }) rfl hsize rfl rfl (rest := rest) rfl
    (by rw [hb]; exact d7) (by rw [hb]; exact d10) hout hRframes (by simp only [List.map_cons, List.sum_cons, hcat]; omega) hlocks
  obtain ⟨f1, f2⟩ := vx_frame hsame
  rw [hhp] at f1 f2
  have hWs : s.WarmedH U.vm := State.WarmedH.trans hW0 hW
  have hcl : s.vm.findClass cls = some ce.cls := by
    have h9 := hO.cls
    rw [hvm] at h9
    exact h9
  have hall : s.sameButNew ({ U with vm := s.vm } : State) locs mc ms := by
    subst hA
    obtain ⟨e1, e2⟩ := hsame
    rw [State.setFrames_setFrames] at e1
    have h2 : (T.setVm s.vm).sameButNew ({ U with vm := s.vm } : State) [] (0 + 1) (0 + 6) := ⟨e1, e2⟩
    have h3 := X.same.trans h2
    rw [List.append_nil] at h3
    exact h3.mono hc hs
  refine ⟨U, ?_, .threw T.heap.size, hrun, hend, Or.inr ⟨T.heap.size, rfl, cls, ce, locs, hx U hWs.alike f1 (fun q hq => f2 q hq (fun z hz => nomatch hz)), hce, hO.vm, hcl, hWs, hall, hf⟩⟩
  refine st1 _ ?_
  show Steps p.tables e below (T1.setTop { method := m, pc := pc + 3, locals := ls, stack := .ref T.heap.size :: rest, locked := none }) _
  jvm_step X₁.here [X₁.here.top, hexec, d3', Value.category]
  exact X₁.ldcStringW hexec (own := own) (text := text) (index := is) (a := sa) hown' hstr'.1 hstr'.2
    (g := { method := m, pc := pc + 4, locals := ls, stack := .ref T.heap.size :: .ref T.heap.size :: rest, locked := none }) rfl d4' _ hsteps
end Ends
section Bodies
variable {l : Launch}
theorem vx_ofW {y : MethodName} {ws ws' : List Cond} {rm : Room} {Pc : Array Value → State → Prop} {Qc : Array Value → State → Outcome → State → Prop} {XC : String → State → State → Prop} {mc ms : Nat} {free : Addr → Prop} {cc : ByteArray} {maxL : Nat} {ret : Option FieldType}
    (hy : plainName y.cls = true) (hw : ws = Cond.code y cc maxL ret :: ws')
    (body : ∀ p e s m args below meth c s₁, BodyLoose p l y (headSpec ws rm) cc maxL ret e s m args below meth c s₁ → c.maxLocals = maxL → (∀ x ∈ c.exceptionTable.toList, False) → Pc args s →
      W p l e (headSpec ws rm).room s m args below meth c s.heap [] 0 0 (vx_MQ below Qc XC args s mc ms free) (entryFrame m args maxL)) : vx_Met l y ws rm Pc Qc XC mc ms free := by
  refine MetFree.of_bodyS (code := cc) (maxLocals := maxL) (ret := ret) hy ?_ ?_
  · intro args s m h hn
    obtain ⟨meth, c, h1, h2, h3, h4, h5, h6, -, -⟩ := Cond.code_spec hn (atoms_spec (ws := ws) h _ (by rw [hw]; exact List.mem_cons_self))
    exact ⟨meth, c, h1, h2, h3, h4, h5, h6⟩
  · intro p e s m args below meth c s₁ B hml hP _
    have hh0 : s₁.heap = s.heap := by rw [B.state]; rfl
    have ht : ∀ x ∈ c.exceptionTable.toList, False := by
      obtain ⟨meth9, c9, h1, h2, -, -, -, -, h7, -⟩ := Cond.code_spec B.named (atoms_spec (ws := ws) B.pre _ (by rw [hw]; exact List.mem_cons_self))
      cases Option.some.inj (h1.symm.trans B.method)
      cases Option.some.inj (h2.symm.trans (Stand.of_body B).code)
      intro x hx
      rw [Array.isEmpty_iff.mp h7] at hx
      cases hx
    obtain ⟨t, a1, o, b1, b2, b3⟩ := body p e s m args below meth c s₁ B hml ht hP s₁ hh0 (Stand.of_body B)
    exact ⟨t, o, a1, b1, b2, b3⟩
/-- the table of a body with handlers -/
theorem vx_table {p : Program} {x y : MethodName} {S : Spec} {cc bytes : ByteArray} {maxL maxL' : Nat} {ret ret' : Option FieldType} {e : Env} {s s₁ : State} {m : MethodId} {args : Array Value} {below : List Frame} {meth : Method} {c : Code} {hh : List (Nat × Nat × Nat × Nat)}
    (B : BodyLoose p l y S cc maxL ret e s m args below meth c s₁) (h : (Cond.codeWith y bytes maxL' ret' hh).before args s = true) : c.exceptionTable.toList = tableOf hh := by
  obtain ⟨m9, meth9, c9, hn9, h1, h2, -, -, h6, -⟩ := Cond.codeWith_spec h
  cases Option.some.inj (hn9.symm.trans B.named)
  cases Option.some.inj (h1.symm.trans B.method)
  cases Option.some.inj (h2.symm.trans (Stand.of_body B).code)
  rw [← h6, table_eq]
end Bodies
end VXA
/-! ===== END ===== -/
/-! ===== BEGIN a static call of a method with an exception table ===== -/
section VXS
variable {p : Program} {l : Launch} {e : Env} {R : Room} {s : State} {m : MethodId} {args : Array Value} {below : List Frame} {meth : Method} {c : Code} {T : State} {H : Heap} {locs : List Loc} {cells slots : Nat}
abbrev vx_CSW (R : Room) (s : State) (args : Array Value) (own : String) (index : Nat) (y : MethodName) (bytes : ByteArray) (maxL : Nat) (ret : Option FieldType) (hh : List (Nat × Nat × Nat × Nat)) (ws : List Cond) (rm : Room) (mc ms n : Nat) : Prop :=
  (rm.cells = mc ∧ rm.slots = ms ∧ rm.frames + 1 ≤ R.frames ∧ 8 + (maxL + 11) + rm.locals ≤ R.locals ∧ (∀ w ∈ ws, ∀ (a' : Array Value) (U : State), s.WarmedH U.vm → w.before a' U = true) ∧ Cond.codeWith y bytes maxL ret hh ∈ ws) ∧
  (Cond.codeWith y bytes maxL ret hh).before args s = true ∧ (Cond.initialized y.cls).before args s = true ∧ (y.cls ≠ "java/lang/invoke/MethodHandle" ∧ y.cls ≠ "java/lang/invoke/VarHandle") ∧
  (∀ sig, parseMethodDescriptor y.desc = some sig → n = sig.parameters.length) ∧ (Cond.methodLink own index y).before args s = true ∧ (Cond.static y).before args s = true
theorem vx_cwSW {own : String} {index maxL mc ms : Nat} {y : MethodName} {bytes : ByteArray} {ret : Option FieldType} {hh : List (Nat × Nat × Nat × Nat)} {Ts ws ws' : List Cond} {rm : Room} (n : Nat) (ht : ∀ w ∈ Ts, w.before args s = true) (hT : GoodIn Ts (va_wsS own index y ws)) (hw : ws = Cond.codeWith y bytes maxL ret hh :: ws') (hrc : rm.cells = mc) (hrs : rm.slots = ms)
    (hd : y.cls ≠ "java/lang/invoke/MethodHandle" ∧ y.cls ≠ "java/lang/invoke/VarHandle" ∧ (parseMethodDescriptor y.desc).map (fun d => d.parameters.length) = some n) (hR : rm.frames + 1 ≤ R.frames ∧ 8 + (maxL + 11) + rm.locals ≤ R.locals) :
    vx_CSW R s args own index y bytes maxL ret hh ws rm mc ms n := by
  have ok : ∀ w ∈ va_wsS own index y ws, w.before args s = true := fun w h => ht w (hT w h).1
  have hG : GoodIn Ts ws := fun w h => hT w (by unfold va_wsS; exact List.mem_append_right _ h)
  have hc : Cond.codeWith y bytes maxL ret hh ∈ ws := by rw [hw]; exact List.mem_cons_self
  refine ⟨⟨hrc, hrs, hR.1, hR.2, pay_in ht hG, hc⟩, ht _ (hG _ hc).1, ok _ (by simp [va_wsS]), ⟨hd.1, hd.2.1⟩, fun sig h => ?_, ok _ (by simp [va_wsS]), ok _ (by simp [va_wsS])⟩
  have h2 := hd.2.2
  rw [h] at h2
  exact (Option.some.inj h2).symm
theorem vx_callSW (X : Stand p l e R s m args below meth c T locs cells slots) (hexec : p.tables.exec = Jvm.exec) {own : String} {index : Nat} {y : MethodName} {bytes : ByteArray} {maxL : Nat} {ret : Option FieldType} {hh : List (Nat × Nat × Nat × Nat)}
    (hown : s.vm.findClass own = some m.cls) (hlink : (Cond.methodLink own index y).before args s = true) (hstat : (Cond.static y).before args s = true) (hinit : (Cond.initialized y.cls).before args s = true)
    (hcode : (Cond.codeWith y bytes maxL ret hh).before args s = true) (hy : y.cls ≠ "java/lang/invoke/MethodHandle" ∧ y.cls ≠ "java/lang/invoke/VarHandle")
    {W9 : Nat} {Pre : Pt → Array Value → Prop} {Post : Pt → Array Value → Option Value → Pt → Prop} (hK : Back l R p e below s args y 3 W9 Pre Post)
    {g : JFrame} (hg : g.method = m) (hsize : g.locals.size = c.maxLocals) {argsL rest : List Value} (hlen : ∀ sig, parseMethodDescriptor y.desc = some sig → argsL.length = sig.parameters.length)
    (hstack : g.stack = argsL.reverse ++ rest) (hW : 2 * g.monitorRoom + (rest.map fun v => v.category).sum ≤ W9) (hdg : decode c.code g.pc = .ok (.invokestatic index, 3))
    (hpre : ∀ vm₁, s.WarmedH vm₁ → Pre ⟨T.setVm vm₁, locs, cells, slots⟩ argsL.toArray) :
    ∃ (v : Option Value) (vm₁ : Vm) (B : Pt), s.WarmedH vm₁ ∧ Stand p l e R s m args below meth c B.U B.locs B.cells B.slots ∧ Post ⟨T.setVm vm₁, locs, cells, slots⟩ argsL.toArray v B ∧
      ∀ target, Steps p.tables e below (B.U.setTop { g with pc := g.pc + 3, stack := v.toList ++ rest }) target → Steps p.tables e below (T.setTop g) target := by
  obtain ⟨mk, methM, cM, hnamed, hmethM, -, -, -, -, -, -, hsigM⟩ := Cond.codeWith_spec hcode
  have hstatic : methM.isStatic = true := Cond.static_spec hnamed hmethM hstat
  obtain ⟨kP, hkP, -⟩ := className_of_methodNamed hnamed
  have hinitP : kP.init = .initialized := Cond.initialized_spec (findClass_of_methodNamed hnamed) hkP hinit
  obtain ⟨vm₁, X₁, hstep₁⟩ := X.invokestatic hexec hown hlink hnamed hmethM hstatic hkP hinitP hy (g := g) hg (argsL := argsL) (rest := rest) (hlen _ hsigM) hstack hdg
  obtain ⟨v, B, X', hpost, hsteps⟩ := hK m meth c ⟨T.setVm vm₁, locs, cells, slots⟩ { g with stack := rest } (.invokestatic index) mk argsL.toArray X₁ hg hsize hdg hW (X₁.named hnamed) (hpre vm₁ X₁.warmed)
  exact ⟨v, vm₁, B, X₁.warmed, X', hpost, fun target h => hstep₁ _ fun acts => by rw [doInvoke_state]; exact hsteps.trans h⟩
theorem vx_runSW {y : MethodName} {bytes cc : ByteArray} {maxL nL mc ms n index : Nat} {ret : Option FieldType} {hh : List (Nat × Nat × Nat × Nat)} {ws : List Cond} {rm : Room} {Pc : Array Value → State → Prop} {Qc : Array Value → State → Outcome → State → Prop} {free : Addr → Prop} {Ts : List Cond} {own : String} {As rest : List Value} {g : JFrame}
    (S : CallFix p m c cc nL s args Ts own) (hM : Met l y ws rm Pc Qc mc ms free) (cw : vx_CSW R s args own index y bytes maxL ret hh ws rm mc ms n) (hp : PreS s H Pc As)
    (hg : g.method = m) (hn : As.length = n) (hsize : g.locals.size = nL) (hstack : g.stack = As.reverse ++ rest) (hW : 2 * g.monitorRoom + (rest.map fun v => v.category).sum ≤ 8) (hdg : decode cc g.pc = .ok (.invokestatic index, 3)) (hf : cells + mc ≤ R.cells ∧ slots + ms ≤ R.slots) :
    va_Run p l e R s m args below meth c H locs cells slots mc ms g rest (Qc As.toArray) (free) := by
  obtain ⟨⟨hrc, hrs, hfr, hlo, hws, hcw⟩, hcode, hini, hy, hlen, hl, hstt⟩ := cw
  have hK : Back l R p e below s args y 3 8 (PreOf R mc ms Pc) (PostOf Qc mc ms free) := va_backW (hh := hh) (bytes := bytes) (maxL := maxL) (ret := ret) hM hp.1 hrc hrs hfr hlo hws hcw (fun a' U hW => word_at hW (Or.inl (by first | rfl | simp [Cond.onTables, Cond.keeps, Cond.steady])) hini)
  obtain ⟨hx, hb, hml, ho, -⟩ := S
  intro T hT X
  obtain ⟨v, vm₁, ⟨U', l2, c2, s2⟩, hW₁, X', ⟨g', mk, t, L, e1, e2, hq, h1, hL, h2, h3⟩, st⟩ := vx_callSW X hx (hh := hh) (bytes := bytes) (maxL := maxL) (ret := ret) ho hl hstt hini hcode hy hK hg (hsize.trans hml.symm) (argsL := As) (rest := rest) (fun sig h => hn.trans (hlen sig h)) hstack hW (by rw [hb]; exact hdg)
    (fun vm₁ hW₁ => ⟨hf.1, hf.2, hp.2 (T.setVm vm₁) hT hW₁⟩)
  dsimp only [Pt.U, Pt.locs, Pt.cells, Pt.slots] at X' e1 e2 h1 h2 h3 st
  subst h1; subst h2; subst h3
  exact ⟨v, (T.setVm vm₁).calling g' mk As.toArray, t, U', L, hT, X', hL, e1, e2, hq, st⟩
/-- not caught here, past rows that name other classes: it goes on to the caller -/
theorem vx_outP {p : Program} {l : Launch} {e : Env} {R : Room} {s : State} {m : MethodId} {args : Array Value} {below : List Frame} {meth : Method} {c : Code} {H : Heap} {locs : List Loc} {cells slots : Nat} {free : Addr → Prop} {ls : Array Slot} {rest : List Value} {Qc : Array Value → State → Outcome → State → Prop} {XC : String → State → State → Prop}
    {pc : Nat} {own E : String} {ce : Cell} {q : Addr} {mc ms : Nat} (hown : s.vm.findClass own = some m.cls) (hlocks : meth.locks = false)
    (hpass : ∀ z ∈ c.exceptionTable.toList, covers z pc = false ∨ (z.catchType ≠ 0 ∧ ∃ nm : String, (Cond.classLink own z.catchType nm).before args s = true ∧ va_Nc E nm s)) (hcell : H[q]? = some ce) (hv : ce.vm = .none) (hcl : s.vm.findClass E = some ce.cls)
    (hx : ∀ t : State, t.heap = H → s.vm.Alike t.vm → XC E s t) (hf : ∀ z ∈ locs, free z.base) (hc : cells ≤ mc) (hs : slots ≤ ms) :
    vx_W p l e R s m args below meth c H locs cells slots (vx_MQ below Qc XC args s mc ms free) (F0 m pc ls rest) q := by
  intro T hT X
  have hpl : e.platform.magicAccessors = ({} : Platform).magicAccessors := by rw [X.admits.platform]
  obtain ⟨vm', hW', X', st⟩ := X.outThrough hlocks q (g := F0 m pc ls rest) rfl rfl rfl (cell := ce) (by rw [hT]; exact hcell) (by rw [hv]; rfl)
    (by obtain ⟨k9, h9, -⟩ := Vm.findClass_spec hcl; exact ⟨k9, h9⟩) (fun z hz => by
      rcases hpass z hz with h | ⟨hz0, nm, hl1, hn1⟩
      · exact Or.inl h
      · obtain ⟨c6, hc6, hcl6⟩ := Cond.classLink_spec hown hl1 e.platform hpl
        obtain ⟨a8, b8, h1, h2, h3⟩ := hn1
        cases Option.some.inj (h1.symm.trans hcl)
        cases Option.some.inj (h2.symm.trans hc6)
        exact Or.inr ⟨hz0, _, hcl6, h3⟩)
  obtain ⟨g₀, hfr⟩ := X'.frames_eq
  have hcell9 : ((T.setVm vm').setFrames (.throwing q :: below)).heap[q]? = some ce := by
    show T.heap[q]? = some ce
    rw [hT]; exact hcell
  have hend : Ended ((T.setVm vm').setFrames (.throwing q :: below)) below (.threw q) := State.frames_setFrames _ (State.cur_lt_of_frames hfr)
  refine ⟨(T.setVm vm').setFrames (.throwing q :: below), ?_, .threw q, X'.here.running, hend, Or.inr ⟨q, rfl, E, ce, locs, hx _ hT (X'.ends _).1.alike, hcell9, hv, hcl, (X'.ends _).1, (X'.ends _).2.mono hc hs, hf⟩⟩
  rw [X.pushThrowing_eq]
  exact st
/-- a thing of a world lies in the heap -/
theorem vx_lt {D : va_G} {cl : List vw_C} {ws : va_W} {H1 : Heap} (h : va_P D cl ws H1) {k : Nat} {q : Nat × va_E} (hk : ws[k]? = some q) : q.1 < H1.size := (h k q hk).lt
end VXS
/-! ===== END ===== -/
/-! ===== BEGIN methods with a table of their own: called by a name, returning or throwing ===== -/
section VXH
/-! vx_backW, vx_callVX, vx_callSX, vx_callVW, vx_runVW, vx_runVX, vx_runSX, vx_ofWH follow the same proofs as their sisters above (Free/Laws.lean, Shelf42/LK1.lean); vx_outP calls Shelf42/NT130.lean (outThrough). -/
section
variable {l : Launch} {R : Room} {p : Program} {e : Env} {below : List Frame} {s : State} {sargs : Array Value} {y : MethodName} {len W9 : Nat}
theorem vx_backW {ws : List Cond} {rm : Room} {Pc : Array Value → State → Prop} {Qc : Array Value → State → Outcome → State → Prop} {XC : String → State → State → Prop} {mc ms : Nat} {free : Addr → Prop} {bytes : ByteArray} {maxL : Nat} {ret : Option FieldType} {hh : List (Nat × Nat × Nat × Nat)}
    (hM : vx_Met l y ws rm Pc Qc XC mc ms free) (hblind : FrameBlind Pc) (hrc : rm.cells = mc) (hrs : rm.slots = ms)
    (hframes : rm.frames + 1 ≤ R.frames) (hlocals : W9 + (maxL + 11) + rm.locals ≤ R.locals)
    (hws : ∀ w ∈ ws, ∀ a' U, s.WarmedH U.vm → w.before a' U = true) (hcode : Cond.codeWith y bytes maxL ret hh ∈ ws) (hinit : ∀ a' U, s.WarmedH U.vm → (Cond.initialized y.cls).before a' U = true) :
    vx_Back l R p e below s sargs y len W9 (PreOf R mc ms Pc) (PostOf Qc mc ms free) (vx_Post XC mc ms free) := by
  intro m meth c A g ig mk a X hg hsize hdg hW hn hp
  have h1 : (headSpec ws rm).pre.before a A.U = true := atoms_intro fun w hw => hws w hw _ _ X.warmed
  have h2 : (Cond.codeWith y bytes maxL ret hh).before a A.U = true := hws _ hcode _ _ X.warmed
  have h3 : (Cond.initialized y.cls).before a A.U = true := hinit _ _ X.warmed
  have h4 : A.cells + (headSpec ws rm).room.cells ≤ R.cells := by rw [show (headSpec ws rm).room.cells = mc from hrc]; exact hp.1
  have h5 : A.slots + (headSpec ws rm).room.slots ≤ R.slots := by rw [show (headSpec ws rm).room.slots = ms from hrs]; exact hp.2.1
  have hPc : Pc a (A.U.calling g mk a) := hblind _ _ _ _ hp.2.2
  obtain ⟨U, Ls, c0, s0⟩ := A
  dsimp only [Pt.U, Pt.locs, Pt.cells, Pt.slots] at h1 h2 h3 h4 h5 X hn hPc ⊢
  obtain ⟨m9, methY, cY, hn9, hmY, hcY, -, hlY, -⟩ := Cond.codeWith_spec h2
  cases Option.some.inj (hn9.symm.trans hn)
  obtain ⟨kY, hkY, -⟩ := className_of_methodNamed hn
  have hinitY : kY.init = .initialized := Cond.initialized_spec (findClass_of_methodNamed hn) hkY h3
  have h : At U g.method c below := by rw [hg]; exact X.here
  have hlocals9 : W9 + (maxL + 11) + (headSpec ws rm).room.locals ≤ R.locals := hlocals
  have happ : (headSpec ws rm).appliesLoose y e.platform (U.calling g mk a) = true :=
    Spec.appliesLoose_calling (g := g) h hdg hn hkY hinitY
      (X.room_calling (g := g) (R' := (headSpec ws rm).room) hsize hmY hcY hframes (by rw [hlY]; omega) h4 h5) h1
  obtain ⟨mid, hmid⟩ := h.above
  have hfr : (U.setTop g).frames = (.java g :: mid) ++ below := by rw [State.frames_setTop' g h.top, hmid]; rfl
  obtain ⟨o, s₂, hsteps, -, hend, hq⟩ := Steps.callFree hM p X.admits X.cas X.clock (acts := []) hfr happ hPc trivial
  have hq' : vx_Q Qc XC mc ms free a (U.calling g mk a) o s₂ := hq
  rw [State.frames_setTop' g h.top] at hend
  obtain ⟨g₀, hg0⟩ := Option.isSome_iff_exists.mp h.top
  obtain ⟨r, hr⟩ := State.topJava?_eq_some.mp hg0
  have hr' : (({ U with heap := s₂.heap, slotsUsed := s₂.slotsUsed } : State).setVm s₂.vm).frames = .java g₀ :: r := hr
  rcases hq' with ⟨hqc, L, hfe, hL⟩ | ⟨q, rfl, E, ce, L, hx, hce, hcv, hcl, hW₂, hsm, hL⟩
  · obtain ⟨⟨v, rfl⟩, hW₂, e2, q2, q3, q4, q5, q6⟩ := id hfe
    have e3 : s₂ = ({ (U.calling g mk a).setFrames s₂.frames with heap := s₂.heap, slotsUsed := s₂.slotsUsed } : State).setVm s₂.vm := by
      have : s₂ = ({ s₂ with vm := (U.calling g mk a).vm } : State).setVm s₂.vm := rfl
      rw [e2] at this
      exact this
    obtain ⟨c₂, i₂, len₂, hc₂, hd₂, hf₂⟩ := hend
    have hW' : U.WarmedH s₂.vm := hW₂
    have hcc : c₂ = c := by
      have h1 : s₂.code? g.method = U.code? g.method := by
        rw [State.code?_eq, State.code?_eq, hW'.alike.method?]
      exact Option.some.inj (hc₂.symm.trans (h1.trans h.code))
    subst hcc
    have hlen : len₂ = len := by rw [hdg] at hd₂; cases hd₂; rfl
    subst hlen
    have hs₂ : s₂ = (({ U with heap := s₂.heap, slotsUsed := s₂.slotsUsed } : State).setVm s₂.vm).setTop { g with pc := g.pc + len₂, stack := v.toList ++ g.stack } := by
      refine e3.trans ?_
      rw [hf₂, State.calling_eq h.top, State.setFrames_setFrames, State.setTop_of_frames _ hr', hr]
      rfl
    have hsame : U.sameButNew ({ U with heap := s₂.heap, slotsUsed := s₂.slotsUsed } : State) L mc ms := by
      refine ⟨?_, q2, q3, q4, q5, q6⟩
      obtain ⟨t, ht, -⟩ := State.frames_cons hr
      show ({ U with heap := s₂.heap, slotsUsed := s₂.slotsUsed } : State) = { U.setFrames U.frames with heap := s₂.heap, slotsUsed := s₂.slotsUsed }
      rw [State.setFrames_self ht]
    subst hg
    refine Or.inl ⟨v, ⟨(({ U with heap := s₂.heap, slotsUsed := s₂.slotsUsed } : State).setVm s₂.vm), Ls ++ L, c0 + mc, s0 + ms⟩,
      ⟨X.admits, X.cas, X.clock, X.frames, X.room, X.hears, X.method, X.code, (X.here.setHeapUsed s₂.heap s₂.slotsUsed).setVm hW'.alike, X.tail, State.WarmedH.trans X.warmed hW', X.limits, X.bytes, X.same.trans (hsame.setVm s.vm)⟩,
      ⟨g, mk, s₂, L, rfl, rfl, hqc, rfl, hL, rfl, rfl⟩, ?_⟩
    show Steps p.tables e below _ ((({ U with heap := s₂.heap, slotsUsed := s₂.slotsUsed } : State).setVm s₂.vm).setTop { g with pc := g.pc + len₂, stack := v.toList ++ g.stack })
    rw [← hs₂]
    exact hsteps
  · obtain ⟨e2, q2, q3, q4, q5, q6⟩ := id hsm
    have e3 : s₂ = ({ (U.calling g mk a).setFrames s₂.frames with heap := s₂.heap, slotsUsed := s₂.slotsUsed } : State).setVm s₂.vm := by
      have : s₂ = ({ s₂ with vm := (U.calling g mk a).vm } : State).setVm s₂.vm := rfl
      rw [e2] at this
      exact this
    have hf₂ : s₂.frames = .throwing q :: .java g :: U.frames.tail := hend
    have hW' : U.WarmedH s₂.vm := hW₂
    have hs₂ : s₂ = ((({ U with heap := s₂.heap, slotsUsed := s₂.slotsUsed } : State).setVm s₂.vm).setTop g).pushFrame (.throwing q) := by
      refine e3.trans ?_
      rw [hf₂, State.calling_eq h.top, State.setFrames_setFrames, State.pushFrame, State.frames_setTop _ hr', State.setTop_of_frames _ hr', State.setFrames_setFrames, hr]
      rfl
    have hsame : U.sameButNew ({ U with heap := s₂.heap, slotsUsed := s₂.slotsUsed } : State) L mc ms := by
      refine ⟨?_, q2, q3, q4, q5, q6⟩
      obtain ⟨t, ht, -⟩ := State.frames_cons hr
      show ({ U with heap := s₂.heap, slotsUsed := s₂.slotsUsed } : State) = { U.setFrames U.frames with heap := s₂.heap, slotsUsed := s₂.slotsUsed }
      rw [State.setFrames_self ht]
    subst hg
    refine Or.inr ⟨q, ⟨(({ U with heap := s₂.heap, slotsUsed := s₂.slotsUsed } : State).setVm s₂.vm), Ls ++ L, c0 + mc, s0 + ms⟩,
      ⟨X.admits, X.cas, X.clock, X.frames, X.room, X.hears, X.method, X.code, (X.here.setHeapUsed s₂.heap s₂.slotsUsed).setVm hW'.alike, X.tail, State.WarmedH.trans X.warmed hW', X.limits, X.bytes, X.same.trans (hsame.setVm s.vm)⟩,
      ⟨g, mk, s₂, L, E, ce, rfl, rfl, hx, hce, hcv, hcl, rfl, hL, rfl, rfl⟩, ?_⟩
    show Steps p.tables e below _ (((({ U with heap := s₂.heap, slotsUsed := s₂.slotsUsed } : State).setVm s₂.vm).setTop g).pushFrame (.throwing q))
    rw [← hs₂]
    exact hsteps
end
variable {p : Program} {l : Launch} {e : Env} {R : Room} {s : State} {m : MethodId} {args : Array Value} {below : List Frame} {meth : Method} {c : Code} {T : State} {H : Heap} {locs : List Loc} {cells slots : Nat}
theorem vx_callVX (X : Stand p l e R s m args below meth c T locs cells slots) (hexec : p.tables.exec = Jvm.exec) {own C : String} {index : Nat} {y : MethodName} {bytes : ByteArray} {maxL : Nat} {ret : Option FieldType} {hh : List (Nat × Nat × Nat × Nat)}
    (hown : s.vm.findClass own = some m.cls) (hlink : (Cond.methodLink own index y).before args s = true) (hinst : (Cond.instanceMethod y).before args s = true) (hsel : (Cond.selects C y y).before args s = true)
    (hcode : (Cond.codeWith y bytes maxL ret hh).before args s = true) (hy : y.cls ≠ "java/lang/invoke/MethodHandle" ∧ y.cls ≠ "java/lang/invoke/VarHandle")
    {W9 : Nat} {Pre : Pt → Array Value → Prop} {Post : Pt → Array Value → Option Value → Pt → Prop} {PostX : Pt → Array Value → Addr → Pt → Prop} (hK : vx_Back l R p e below s args y 3 W9 Pre Post PostX)
    {b : Addr} {cellB : Cell} (hcell : T.heap[b]? = some cellB) (hobj : cellB.vm.isStatics = false) (hcls : s.vm.findClass C = some cellB.cls)
    {g : JFrame} (hg : g.method = m) (hsize : g.locals.size = c.maxLocals) {argsL rest : List Value} (hlen : ∀ sig, parseMethodDescriptor y.desc = some sig → argsL.length = sig.parameters.length)
    (hstack : g.stack = argsL.reverse ++ .ref b :: rest) (hW : 2 * g.monitorRoom + (rest.map fun v => v.category).sum ≤ W9) (hdg : decode c.code g.pc = .ok (.invokevirtual index, 3))
    (hpre : ∀ vm₁, s.WarmedH vm₁ → Pre ⟨T.setVm vm₁, locs, cells, slots⟩ (Value.ref b :: argsL).toArray) :
    (∃ (v : Option Value) (vm₁ : Vm) (B : Pt), s.WarmedH vm₁ ∧ Stand p l e R s m args below meth c B.U B.locs B.cells B.slots ∧ Post ⟨T.setVm vm₁, locs, cells, slots⟩ (Value.ref b :: argsL).toArray v B ∧
      ∀ target, Steps p.tables e below (B.U.setTop { g with pc := g.pc + 3, stack := v.toList ++ rest }) target → Steps p.tables e below (T.setTop g) target) ∨
    (∃ (q : Addr) (vm₁ : Vm) (B : Pt), s.WarmedH vm₁ ∧ Stand p l e R s m args below meth c B.U B.locs B.cells B.slots ∧ PostX ⟨T.setVm vm₁, locs, cells, slots⟩ (Value.ref b :: argsL).toArray q B ∧
      Steps p.tables e below (T.setTop g) ((B.U.setTop { g with stack := rest }).pushFrame (.throwing q))) := by
  obtain ⟨mk, methM, hnamed, hmethM, hstM, habM⟩ := Cond.instanceMethod_spec hinst
  obtain ⟨m8, methM', cM, hn8, hmethM', -, -, -, -, -, -, hsigM⟩ := Cond.codeWith_spec hcode
  cases Option.some.inj (hn8.symm.trans hnamed)
  cases hmethM.symm.trans hmethM'
  obtain ⟨c2, r2, m2, q1, q2, q3, q4, kP, hkP, hkPi⟩ := Cond.selects_spec hsel
  cases hcls.symm.trans q1
  cases (State.methodFound?_of_named hnamed hy).symm.trans q2
  cases hnamed.symm.trans q3
  have hselP : selectMethod e.platform s.vm cellB.cls mk = .method mk := by rw [Launch.admits_selectMethod X.admits]; exact q4
  obtain ⟨vm₁, X₁, hstep₁⟩ := X.invokevirtual hexec hown hlink hnamed hmethM hstM hkP hkPi hy (a := b) (cell := cellB) hcell
    (fun z h => by rw [h] at hobj; cases hobj) hselP hmethM habM hkP hkPi (g := g) hg (argsL := argsL) (rest := rest) (hlen _ hsigM) hstack hdg
  rcases hK m meth c ⟨T.setVm vm₁, locs, cells, slots⟩ { g with stack := rest } (.invokevirtual index) mk (Value.ref b :: argsL).toArray X₁ hg hsize hdg hW (X₁.named hnamed) (hpre vm₁ X₁.warmed) with ⟨v, B, X', hpost, hsteps⟩ | ⟨q, B, X', hpost, hsteps⟩
  · exact Or.inl ⟨v, vm₁, B, X₁.warmed, X', hpost, fun target h => hstep₁ _ fun acts => by rw [doInvoke_state]; exact hsteps.trans h⟩
  · exact Or.inr ⟨q, vm₁, B, X₁.warmed, X', hpost, hstep₁ _ fun acts => by rw [doInvoke_state]; exact hsteps⟩
theorem vx_callSX (X : Stand p l e R s m args below meth c T locs cells slots) (hexec : p.tables.exec = Jvm.exec) {own : String} {index : Nat} {y : MethodName} {bytes : ByteArray} {maxL : Nat} {ret : Option FieldType} {hh : List (Nat × Nat × Nat × Nat)}
    (hown : s.vm.findClass own = some m.cls) (hlink : (Cond.methodLink own index y).before args s = true) (hstat : (Cond.static y).before args s = true) (hinit : (Cond.initialized y.cls).before args s = true)
    (hcode : (Cond.codeWith y bytes maxL ret hh).before args s = true) (hy : y.cls ≠ "java/lang/invoke/MethodHandle" ∧ y.cls ≠ "java/lang/invoke/VarHandle")
    {W9 : Nat} {Pre : Pt → Array Value → Prop} {Post : Pt → Array Value → Option Value → Pt → Prop} {PostX : Pt → Array Value → Addr → Pt → Prop} (hK : vx_Back l R p e below s args y 3 W9 Pre Post PostX)
    {g : JFrame} (hg : g.method = m) (hsize : g.locals.size = c.maxLocals) {argsL rest : List Value} (hlen : ∀ sig, parseMethodDescriptor y.desc = some sig → argsL.length = sig.parameters.length)
    (hstack : g.stack = argsL.reverse ++ rest) (hW : 2 * g.monitorRoom + (rest.map fun v => v.category).sum ≤ W9) (hdg : decode c.code g.pc = .ok (.invokestatic index, 3))
    (hpre : ∀ vm₁, s.WarmedH vm₁ → Pre ⟨T.setVm vm₁, locs, cells, slots⟩ argsL.toArray) :
    (∃ (v : Option Value) (vm₁ : Vm) (B : Pt), s.WarmedH vm₁ ∧ Stand p l e R s m args below meth c B.U B.locs B.cells B.slots ∧ Post ⟨T.setVm vm₁, locs, cells, slots⟩ argsL.toArray v B ∧
      ∀ target, Steps p.tables e below (B.U.setTop { g with pc := g.pc + 3, stack := v.toList ++ rest }) target → Steps p.tables e below (T.setTop g) target) ∨
    (∃ (q : Addr) (vm₁ : Vm) (B : Pt), s.WarmedH vm₁ ∧ Stand p l e R s m args below meth c B.U B.locs B.cells B.slots ∧ PostX ⟨T.setVm vm₁, locs, cells, slots⟩ argsL.toArray q B ∧
      Steps p.tables e below (T.setTop g) ((B.U.setTop { g with stack := rest }).pushFrame (.throwing q))) := by
  obtain ⟨mk, methM, cM, hnamed, hmethM, -, -, -, -, -, -, hsigM⟩ := Cond.codeWith_spec hcode
  have hstatic : methM.isStatic = true := Cond.static_spec hnamed hmethM hstat
  obtain ⟨kP, hkP, -⟩ := className_of_methodNamed hnamed
  have hinitP : kP.init = .initialized := Cond.initialized_spec (findClass_of_methodNamed hnamed) hkP hinit
  obtain ⟨vm₁, X₁, hstep₁⟩ := X.invokestatic hexec hown hlink hnamed hmethM hstatic hkP hinitP hy (g := g) hg (argsL := argsL) (rest := rest) (hlen _ hsigM) hstack hdg
  rcases hK m meth c ⟨T.setVm vm₁, locs, cells, slots⟩ { g with stack := rest } (.invokestatic index) mk argsL.toArray X₁ hg hsize hdg hW (X₁.named hnamed) (hpre vm₁ X₁.warmed) with ⟨v, B, X', hpost, hsteps⟩ | ⟨q, B, X', hpost, hsteps⟩
  · exact Or.inl ⟨v, vm₁, B, X₁.warmed, X', hpost, fun target h => hstep₁ _ fun acts => by rw [doInvoke_state]; exact hsteps.trans h⟩
  · exact Or.inr ⟨q, vm₁, B, X₁.warmed, X', hpost, hstep₁ _ fun acts => by rw [doInvoke_state]; exact hsteps⟩
theorem vx_callVW (X : Stand p l e R s m args below meth c T locs cells slots) (hexec : p.tables.exec = Jvm.exec) {own C : String} {index : Nat} {y : MethodName} {bytes : ByteArray} {maxL : Nat} {ret : Option FieldType} {hh : List (Nat × Nat × Nat × Nat)}
    (hown : s.vm.findClass own = some m.cls) (hlink : (Cond.methodLink own index y).before args s = true) (hinst : (Cond.instanceMethod y).before args s = true) (hsel : (Cond.selects C y y).before args s = true)
    (hcode : (Cond.codeWith y bytes maxL ret hh).before args s = true) (hy : y.cls ≠ "java/lang/invoke/MethodHandle" ∧ y.cls ≠ "java/lang/invoke/VarHandle")
    {W9 : Nat} {Pre : Pt → Array Value → Prop} {Post : Pt → Array Value → Option Value → Pt → Prop} (hK : Back l R p e below s args y 3 W9 Pre Post)
    {b : Addr} {cellB : Cell} (hcell : T.heap[b]? = some cellB) (hobj : cellB.vm.isStatics = false) (hcls : s.vm.findClass C = some cellB.cls)
    {g : JFrame} (hg : g.method = m) (hsize : g.locals.size = c.maxLocals) {argsL rest : List Value} (hlen : ∀ sig, parseMethodDescriptor y.desc = some sig → argsL.length = sig.parameters.length)
    (hstack : g.stack = argsL.reverse ++ .ref b :: rest) (hW : 2 * g.monitorRoom + (rest.map fun v => v.category).sum ≤ W9) (hdg : decode c.code g.pc = .ok (.invokevirtual index, 3))
    (hpre : ∀ vm₁, s.WarmedH vm₁ → Pre ⟨T.setVm vm₁, locs, cells, slots⟩ (Value.ref b :: argsL).toArray) :
    ∃ (v : Option Value) (vm₁ : Vm) (B : Pt), s.WarmedH vm₁ ∧ Stand p l e R s m args below meth c B.U B.locs B.cells B.slots ∧ Post ⟨T.setVm vm₁, locs, cells, slots⟩ (Value.ref b :: argsL).toArray v B ∧
      ∀ target, Steps p.tables e below (B.U.setTop { g with pc := g.pc + 3, stack := v.toList ++ rest }) target → Steps p.tables e below (T.setTop g) target := by
  obtain ⟨mk, methM, hnamed, hmethM, hstM, habM⟩ := Cond.instanceMethod_spec hinst
  obtain ⟨m8, methM', cM, hn8, hmethM', -, -, -, -, -, -, hsigM⟩ := Cond.codeWith_spec hcode
  cases Option.some.inj (hn8.symm.trans hnamed)
  cases hmethM.symm.trans hmethM'
  obtain ⟨c2, r2, m2, q1, q2, q3, q4, kP, hkP, hkPi⟩ := Cond.selects_spec hsel
  cases hcls.symm.trans q1
  cases (State.methodFound?_of_named hnamed hy).symm.trans q2
  cases hnamed.symm.trans q3
  have hselP : selectMethod e.platform s.vm cellB.cls mk = .method mk := by rw [Launch.admits_selectMethod X.admits]; exact q4
  obtain ⟨vm₁, X₁, hstep₁⟩ := X.invokevirtual hexec hown hlink hnamed hmethM hstM hkP hkPi hy (a := b) (cell := cellB) hcell
    (fun z h => by rw [h] at hobj; cases hobj) hselP hmethM habM hkP hkPi (g := g) hg (argsL := argsL) (rest := rest) (hlen _ hsigM) hstack hdg
  obtain ⟨v, B, X', hpost, hsteps⟩ := hK m meth c ⟨T.setVm vm₁, locs, cells, slots⟩ { g with stack := rest } (.invokevirtual index) mk (Value.ref b :: argsL).toArray X₁ hg hsize hdg hW (X₁.named hnamed) (hpre vm₁ X₁.warmed)
  exact ⟨v, vm₁, B, X₁.warmed, X', hpost, fun target h => hstep₁ _ fun acts => by rw [doInvoke_state]; exact hsteps.trans h⟩
abbrev vx_CVW (R : Room) (s : State) (args : Array Value) (own C : String) (index : Nat) (y : MethodName) (bytes : ByteArray) (maxL : Nat) (ret : Option FieldType) (hh : List (Nat × Nat × Nat × Nat)) (ws : List Cond) (rm : Room) (mc ms n : Nat) : Prop :=
  (rm.cells = mc ∧ rm.slots = ms ∧ rm.frames + 1 ≤ R.frames ∧ 8 + (maxL + 11) + rm.locals ≤ R.locals ∧ (∀ w ∈ ws, ∀ (a' : Array Value) (U : State), s.WarmedH U.vm → w.before a' U = true) ∧ Cond.codeWith y bytes maxL ret hh ∈ ws) ∧
  (Cond.codeWith y bytes maxL ret hh).before args s = true ∧ (Cond.initialized y.cls).before args s = true ∧ (y.cls ≠ "java/lang/invoke/MethodHandle" ∧ y.cls ≠ "java/lang/invoke/VarHandle") ∧
  (∀ sig, parseMethodDescriptor y.desc = some sig → n = sig.parameters.length) ∧ (Cond.methodLink own index y).before args s = true ∧ (Cond.instanceMethod y).before args s = true ∧ (Cond.selects C y y).before args s = true
theorem vx_cwVW {own C : String} {index maxL mc ms : Nat} {y : MethodName} {bytes : ByteArray} {ret : Option FieldType} {hh : List (Nat × Nat × Nat × Nat)} {Ts ws ws' : List Cond} {rm : Room} (n : Nat) (ht : ∀ w ∈ Ts, w.before args s = true) (hT : GoodIn Ts (wsV own index C y ws)) (hw : ws = Cond.codeWith y bytes maxL ret hh :: ws') (hrc : rm.cells = mc) (hrs : rm.slots = ms)
    (hd : y.cls = C ∧ y.cls ≠ "java/lang/invoke/MethodHandle" ∧ y.cls ≠ "java/lang/invoke/VarHandle" ∧ (parseMethodDescriptor y.desc).map (fun d => d.parameters.length) = some n) (hR : rm.frames + 1 ≤ R.frames ∧ 8 + (maxL + 11) + rm.locals ≤ R.locals) :
    vx_CVW R s args own C index y bytes maxL ret hh ws rm mc ms n := by
  obtain ⟨hC, hd⟩ := hd
  subst hC
  have ok : ∀ w ∈ wsV own index y.cls y ws, w.before args s = true := fun w h => ht w (hT w h).1
  have hG : GoodIn Ts ws := fun w h => hT w (by unfold wsV; exact List.mem_append_right _ h)
  have hc : Cond.codeWith y bytes maxL ret hh ∈ ws := by rw [hw]; exact List.mem_cons_self
  refine ⟨⟨hrc, hrs, hR.1, hR.2, pay_in ht hG, hc⟩, ht _ (hG _ hc).1, ok _ (by simp [wsV]), ⟨hd.1, hd.2.1⟩, fun sig h => ?_, ok _ (by simp [wsV]), ok _ (by simp [wsV]), ok _ (by simp [wsV])⟩
  have h2 := hd.2.2
  rw [h] at h2
  exact (Option.some.inj h2).symm
theorem vx_runVW {y : MethodName} {bytes cc : ByteArray} {maxL nL mc ms n index : Nat} {ret : Option FieldType} {hh : List (Nat × Nat × Nat × Nat)} {ws : List Cond} {rm : Room} {Pc : Array Value → State → Prop} {Qc : Array Value → State → Outcome → State → Prop} {free : Addr → Prop} {Ts : List Cond} {own C : String} {b : Addr} {As rest : List Value} {g : JFrame}
    (S : CallFix p m c cc nL s args Ts own) (hM : Met l y ws rm Pc Qc mc ms free) (cw : vx_CVW R s args own C index y bytes maxL ret hh ws rm mc ms n) (hp : PreV s H C b Pc As)
    (hg : g.method = m) (hn : As.length = n) (hsize : g.locals.size = nL) (hstack : g.stack = As.reverse ++ .ref b :: rest) (hW : 2 * g.monitorRoom + (rest.map fun v => v.category).sum ≤ 8) (hdg : decode cc g.pc = .ok (.invokevirtual index, 3)) (hf : cells + mc ≤ R.cells ∧ slots + ms ≤ R.slots) :
    va_Run p l e R s m args below meth c H locs cells slots mc ms g rest (Qc (Value.ref b :: As).toArray) free := by
  obtain ⟨⟨hrc, hrs, hfr, hlo, hws, hcw⟩, hcode, hini, hy, hlen, hl, hin, hse⟩ := cw
  have hK : Back l R p e below s args y 3 8 (PreOf R mc ms Pc) (PostOf Qc mc ms free) := va_backW (hh := hh) (bytes := bytes) (maxL := maxL) (ret := ret) hM hp.1 hrc hrs hfr hlo hws hcw (fun a' U hW => word_at hW (Or.inl (by first | rfl | simp [Cond.onTables, Cond.keeps, Cond.steady])) hini)
  obtain ⟨hx, hb, hml, ho, -⟩ := S
  obtain ⟨-, ⟨cellB, hcB, hoB, hclB⟩, hPc⟩ := hp
  intro T hT X
  obtain ⟨v, vm₁, ⟨U', l2, c2, s2⟩, hW₁, X', ⟨g', mk, t, L, e1, e2, hq, h1, hL, h2, h3⟩, st⟩ := vx_callVW X hx (C := C) (hh := hh) (bytes := bytes) (maxL := maxL) (ret := ret) ho hl hin hse hcode hy hK (by rw [hT]; exact hcB) hoB hclB hg (hsize.trans hml.symm) (argsL := As) (rest := rest) (fun sig h => hn.trans (hlen sig h)) hstack hW (by rw [hb]; exact hdg)
    (fun vm₁ hW₁ => ⟨hf.1, hf.2, hPc (T.setVm vm₁) hT hW₁⟩)
  dsimp only [Pt.U, Pt.locs, Pt.cells, Pt.slots] at X' e1 e2 h1 h2 h3 st
  subst h1; subst h2; subst h3
  exact ⟨v, (T.setVm vm₁).calling g' mk (Value.ref b :: As).toArray, t, U', L, hT, X', hL, e1, e2, hq, st⟩
section
variable {y : MethodName} {bytes cc : ByteArray} {maxL nL mc ms n index : Nat} {ret : Option FieldType} {ws : List Cond} {rm : Room} {Pc : Array Value → State → Prop} {Qc : Array Value → State → Outcome → State → Prop} {XC : String → State → State → Prop} {free : Addr → Prop} {Ts : List Cond} {own C : String} {b : Addr} {As rest : List Value} {g : JFrame}
theorem vx_runVX {hh : List (Nat × Nat × Nat × Nat)} (S : CallFix p m c cc nL s args Ts own) (hM : vx_Met l y ws rm Pc Qc XC mc ms free) (cw : vx_CVW R s args own C index y bytes maxL ret hh ws rm mc ms n) (hp : PreV s H C b Pc As)
    (hg : g.method = m) (hn : As.length = n) (hsize : g.locals.size = nL) (hstack : g.stack = As.reverse ++ .ref b :: rest) (hW : 2 * g.monitorRoom + (rest.map fun v => v.category).sum ≤ 8) (hdg : decode cc g.pc = .ok (.invokevirtual index, 3)) (hf : cells + mc ≤ R.cells ∧ slots + ms ≤ R.slots) :
    vx_Run p l e R s m args below meth c H locs cells slots mc ms g rest (Qc (Value.ref b :: As).toArray) XC free := by
  obtain ⟨⟨hrc, hrs, hfr, hlo, hws, hcw⟩, hcode, hini, hy, hlen, hl, hin, hse⟩ := cw
  have hK : vx_Back l R p e below s args y 3 8 (PreOf R mc ms Pc) (PostOf Qc mc ms free) (vx_Post XC mc ms free) := vx_backW (hh := hh) (bytes := bytes) (maxL := maxL) (ret := ret) hM hp.1 hrc hrs hfr hlo hws hcw (fun a' U hW => word_at hW (Or.inl (by first | rfl | simp [Cond.onTables, Cond.keeps, Cond.steady])) hini)
  obtain ⟨hx, hb, hml, ho, -⟩ := S
  obtain ⟨-, ⟨cellB, hcB, hoB, hclB⟩, hPc⟩ := hp
  intro T hT X
  rcases vx_callVX X hx (C := C) (hh := hh) (bytes := bytes) (maxL := maxL) (ret := ret) ho hl hin hse hcode hy hK (by rw [hT]; exact hcB) hoB hclB hg (hsize.trans hml.symm) (argsL := As) (rest := rest) (fun sig h => hn.trans (hlen sig h)) hstack hW (by rw [hb]; exact hdg)
    (fun vm₁ hW₁ => ⟨hf.1, hf.2, hPc (T.setVm vm₁) hT hW₁⟩) with ⟨v, vm₁, ⟨U', l2, c2, s2⟩, hW₁, X', ⟨g', mk, t, L, e1, e2, hq, h1, hL, h2, h3⟩, st⟩ | ⟨q, vm₁, ⟨U', l2, c2, s2⟩, hW₁, X', ⟨g', mk, t, L, E, ce, e1, e2, hq, hce, hcv, hcl, h1, hL, h2, h3⟩, st⟩
  · dsimp only [Pt.U, Pt.locs, Pt.cells, Pt.slots] at X' e1 e2 h1 h2 h3 st
    subst h1; subst h2; subst h3
    exact Or.inl ⟨v, (T.setVm vm₁).calling g' mk (Value.ref b :: As).toArray, t, U', L, hT, X', hL, e1, e2, hq, st⟩
  · dsimp only [Pt.U, Pt.locs, Pt.cells, Pt.slots] at X' e1 e2 h1 h2 h3 st hcl
    subst h1; subst h2; subst h3
    exact Or.inr ⟨q, (T.setVm vm₁).calling g' mk (Value.ref b :: As).toArray, t, U', L, E, ce, hT, X', hL, e1, e2, hq, hce, hcv, vx_cls hW₁ hcl, st⟩
theorem vx_runSX {hh : List (Nat × Nat × Nat × Nat)} (S : CallFix p m c cc nL s args Ts own) (hM : vx_Met l y ws rm Pc Qc XC mc ms free) (cw : vx_CSW R s args own index y bytes maxL ret hh ws rm mc ms n) (hp : PreS s H Pc As)
    (hg : g.method = m) (hn : As.length = n) (hsize : g.locals.size = nL) (hstack : g.stack = As.reverse ++ rest) (hW : 2 * g.monitorRoom + (rest.map fun v => v.category).sum ≤ 8) (hdg : decode cc g.pc = .ok (.invokestatic index, 3)) (hf : cells + mc ≤ R.cells ∧ slots + ms ≤ R.slots) :
    vx_Run p l e R s m args below meth c H locs cells slots mc ms g rest (Qc As.toArray) XC free := by
  obtain ⟨⟨hrc, hrs, hfr, hlo, hws, hcw⟩, hcode, hini, hy, hlen, hl, hstt⟩ := cw
  have hK : vx_Back l R p e below s args y 3 8 (PreOf R mc ms Pc) (PostOf Qc mc ms free) (vx_Post XC mc ms free) := vx_backW (hh := hh) (bytes := bytes) (maxL := maxL) (ret := ret) hM hp.1 hrc hrs hfr hlo hws hcw (fun a' U hW => word_at hW (Or.inl (by first | rfl | simp [Cond.onTables, Cond.keeps, Cond.steady])) hini)
  obtain ⟨hx, hb, hml, ho, -⟩ := S
  intro T hT X
  rcases vx_callSX X hx (hh := hh) (bytes := bytes) (maxL := maxL) (ret := ret) ho hl hstt hini hcode hy hK hg (hsize.trans hml.symm) (argsL := As) (rest := rest) (fun sig h => hn.trans (hlen sig h)) hstack hW (by rw [hb]; exact hdg)
    (fun vm₁ hW₁ => ⟨hf.1, hf.2, hp.2 (T.setVm vm₁) hT hW₁⟩) with ⟨v, vm₁, ⟨U', l2, c2, s2⟩, hW₁, X', ⟨g', mk, t, L, e1, e2, hq, h1, hL, h2, h3⟩, st⟩ | ⟨q, vm₁, ⟨U', l2, c2, s2⟩, hW₁, X', ⟨g', mk, t, L, E, ce, e1, e2, hq, hce, hcv, hcl, h1, hL, h2, h3⟩, st⟩
  · dsimp only [Pt.U, Pt.locs, Pt.cells, Pt.slots] at X' e1 e2 h1 h2 h3 st
    subst h1; subst h2; subst h3
    exact Or.inl ⟨v, (T.setVm vm₁).calling g' mk As.toArray, t, U', L, hT, X', hL, e1, e2, hq, st⟩
  · dsimp only [Pt.U, Pt.locs, Pt.cells, Pt.slots] at X' e1 e2 h1 h2 h3 st hcl
    subst h1; subst h2; subst h3
    exact Or.inr ⟨q, (T.setVm vm₁).calling g' mk As.toArray, t, U', L, E, ce, hT, X', hL, e1, e2, hq, hce, hcv, vx_cls hW₁ hcl, st⟩
end
end VXH
theorem vx_ofWH {l : Launch} {y : MethodName} {ws ws' : List Cond} {rm : Room} {Pc : Array Value → State → Prop} {Qc : Array Value → State → Outcome → State → Prop} {XC : String → State → State → Prop} {mc ms : Nat} {free : Addr → Prop} {cc : ByteArray} {maxL : Nat} {ret : Option FieldType} {hh : List (Nat × Nat × Nat × Nat)}
    (hy : plainName y.cls = true) (hw : ws = Cond.codeWith y cc maxL ret hh :: ws')
    (body : ∀ p e s m args below meth c s₁, BodyLoose p l y (headSpec ws rm) cc maxL ret e s m args below meth c s₁ → c.maxLocals = maxL → Pc args s →
      W p l e (headSpec ws rm).room s m args below meth c s.heap [] 0 0 (vx_MQ below Qc XC args s mc ms free) (entryFrame m args maxL)) : vx_Met l y ws rm Pc Qc XC mc ms free := by
  refine MetFree.of_bodyS (code := cc) (maxLocals := maxL) (ret := ret) hy ?_ ?_
  · intro args s m h hn
    obtain ⟨m9, meth, c, hn9, h1, h2, h3, h4, -, h5, h6, -⟩ := Cond.codeWith_spec (atoms_spec (ws := ws) h _ (by rw [hw]; exact List.mem_cons_self))
    cases hn.symm.trans hn9
    exact ⟨meth, c, h1, h2, h3, h4, h5, h6⟩
  · intro p e s m args below meth c s₁ B hml hP _
    have hh0 : s₁.heap = s.heap := by rw [B.state]; rfl
    obtain ⟨t, a1, o, b1, b2, b3⟩ := body p e s m args below meth c s₁ B hml hP s₁ hh0 (Stand.of_body B)
    exact ⟨t, o, a1, b1, b2, b3⟩
/-! ===== END ===== -/
end
section
-- ===== PART A: goes FIRST, ahead of the names: the tables' words, and 'selects' of the private methods out of them =====
/-- a private method of a class that the tables say can be made, by its rows of tables_1 -/
def lw_okq (q : MethodName × Nat) : Prop := (q.1.cls ≠ "java/lang/invoke/MethodHandle" ∧ q.1.cls ≠ "java/lang/invoke/VarHandle") ∧ Cond.instantiable q.1.cls q.2 ∈ tables_1 ∧ Cond.privateMethod q.1 ∈ tables_1 ∧ Cond.instanceMethod q.1 ∈ tables_1
theorem lw_p0 : lw_okq (⟨"java/lang/Throwable", "fillInStackTrace", "(I)Ljava/lang/Throwable;"⟩, 6) := ⟨⟨by decide +kernel, by decide +kernel⟩, List.mem_of_getElem? (i := 259) (by decide +kernel), List.mem_of_getElem? (i := 257) (by decide +kernel), List.mem_of_getElem? (i := 258) (by decide +kernel)⟩
theorem lw_p1 : lw_okq (⟨"java/util/ArrayList", "add", "(Ljava/lang/Object;[Ljava/lang/Object;I)V"⟩, 3) := ⟨⟨by decide +kernel, by decide +kernel⟩, List.mem_of_getElem? (i := 41) (by decide +kernel), List.mem_of_getElem? (i := 434) (by decide +kernel), List.mem_of_getElem? (i := 435) (by decide +kernel)⟩
theorem lw_p2 : lw_okq (⟨"java/util/ArrayList", "grow", "()[Ljava/lang/Object;"⟩, 3) := ⟨⟨by decide +kernel, by decide +kernel⟩, List.mem_of_getElem? (i := 41) (by decide +kernel), List.mem_of_getElem? (i := 438) (by decide +kernel), List.mem_of_getElem? (i := 439) (by decide +kernel)⟩
theorem lw_p3 : lw_okq (⟨"java/util/ArrayList", "grow", "(I)[Ljava/lang/Object;"⟩, 3) := ⟨⟨by decide +kernel, by decide +kernel⟩, List.mem_of_getElem? (i := 41) (by decide +kernel), List.mem_of_getElem? (i := 442) (by decide +kernel), List.mem_of_getElem? (i := 443) (by decide +kernel)⟩
theorem lw_p4 : lw_okq (⟨"BrambleMesh", "tryOnce", "(LBrambleMesh$Step;Z)V"⟩, 11) := ⟨⟨by decide +kernel, by decide +kernel⟩, List.mem_of_getElem? (i := 27) (by decide +kernel), List.mem_of_getElem? (i := 643) (by decide +kernel), List.mem_of_getElem? (i := 644) (by decide +kernel)⟩
theorem lw_p5 : lw_okq (⟨"BrambleMesh", "choose", "(LBrambleMesh$Step;)LBrambleMesh$Instance;"⟩, 11) := ⟨⟨by decide +kernel, by decide +kernel⟩, List.mem_of_getElem? (i := 27) (by decide +kernel), List.mem_of_getElem? (i := 652) (by decide +kernel), List.mem_of_getElem? (i := 653) (by decide +kernel)⟩
theorem lw_p6 : lw_okq (⟨"BrambleMesh", "canChoose", "(ILBrambleMesh$Instance;)Z"⟩, 11) := ⟨⟨by decide +kernel, by decide +kernel⟩, List.mem_of_getElem? (i := 27) (by decide +kernel), List.mem_of_getElem? (i := 660) (by decide +kernel), List.mem_of_getElem? (i := 661) (by decide +kernel)⟩
theorem lw_p7 : lw_okq (⟨"BrambleMesh", "hasTryOutAt", "(ILBrambleMesh$Instance;)Z"⟩, 11) := ⟨⟨by decide +kernel, by decide +kernel⟩, List.mem_of_getElem? (i := 27) (by decide +kernel), List.mem_of_getElem? (i := 668) (by decide +kernel), List.mem_of_getElem? (i := 669) (by decide +kernel)⟩
theorem lw_p8 : lw_okq (⟨"BrambleMesh", "policyOf", "(LBrambleMesh$Step;I)I"⟩, 11) := ⟨⟨by decide +kernel, by decide +kernel⟩, List.mem_of_getElem? (i := 27) (by decide +kernel), List.mem_of_getElem? (i := 686) (by decide +kernel), List.mem_of_getElem? (i := 687) (by decide +kernel)⟩
theorem lw_p9 : lw_okq (⟨"BrambleMesh", "place", "(LBrambleMesh$Call;)V"⟩, 11) := ⟨⟨by decide +kernel, by decide +kernel⟩, List.mem_of_getElem? (i := 27) (by decide +kernel), List.mem_of_getElem? (i := 743) (by decide +kernel), List.mem_of_getElem? (i := 744) (by decide +kernel)⟩
theorem lw_p10 : lw_okq (⟨"BrambleMesh", "run", "(LBrambleMesh$Call;)V"⟩, 11) := ⟨⟨by decide +kernel, by decide +kernel⟩, List.mem_of_getElem? (i := 27) (by decide +kernel), List.mem_of_getElem? (i := 747) (by decide +kernel), List.mem_of_getElem? (i := 748) (by decide +kernel)⟩
theorem lw_p11 : lw_okq (⟨"BrambleMesh", "goOn", "(LBrambleMesh$Step;)V"⟩, 11) := ⟨⟨by decide +kernel, by decide +kernel⟩, List.mem_of_getElem? (i := 27) (by decide +kernel), List.mem_of_getElem? (i := 756) (by decide +kernel), List.mem_of_getElem? (i := 757) (by decide +kernel)⟩
theorem lw_p12 : lw_okq (⟨"BrambleMesh", "lookAtEnds", "(LBrambleMesh$Step;)V"⟩, 11) := ⟨⟨by decide +kernel, by decide +kernel⟩, List.mem_of_getElem? (i := 27) (by decide +kernel), List.mem_of_getElem? (i := 760) (by decide +kernel), List.mem_of_getElem? (i := 761) (by decide +kernel)⟩
theorem lw_p13 : lw_okq (⟨"BrambleMesh", "close", "(LBrambleMesh$Step;I)V"⟩, 11) := ⟨⟨by decide +kernel, by decide +kernel⟩, List.mem_of_getElem? (i := 27) (by decide +kernel), List.mem_of_getElem? (i := 776) (by decide +kernel), List.mem_of_getElem? (i := 777) (by decide +kernel)⟩
theorem lw_p14 : lw_okq (⟨"BrambleMesh", "end", "(LBrambleMesh$Call;II)V"⟩, 11) := ⟨⟨by decide +kernel, by decide +kernel⟩, List.mem_of_getElem? (i := 27) (by decide +kernel), List.mem_of_getElem? (i := 784) (by decide +kernel), List.mem_of_getElem? (i := 785) (by decide +kernel)⟩
theorem lw_p15 : lw_okq (⟨"java/util/ArrayList", "fastRemove", "([Ljava/lang/Object;I)V"⟩, 3) := ⟨⟨by decide +kernel, by decide +kernel⟩, List.mem_of_getElem? (i := 41) (by decide +kernel), List.mem_of_getElem? (i := 798) (by decide +kernel), List.mem_of_getElem? (i := 799) (by decide +kernel)⟩
def lw_privs_1 : List (MethodName × Nat) := [(⟨"java/lang/Throwable", "fillInStackTrace", "(I)Ljava/lang/Throwable;"⟩, 6), (⟨"java/util/ArrayList", "add", "(Ljava/lang/Object;[Ljava/lang/Object;I)V"⟩, 3), (⟨"java/util/ArrayList", "grow", "()[Ljava/lang/Object;"⟩, 3), (⟨"java/util/ArrayList", "grow", "(I)[Ljava/lang/Object;"⟩, 3), (⟨"BrambleMesh", "tryOnce", "(LBrambleMesh$Step;Z)V"⟩, 11), (⟨"BrambleMesh", "choose", "(LBrambleMesh$Step;)LBrambleMesh$Instance;"⟩, 11), (⟨"BrambleMesh", "canChoose", "(ILBrambleMesh$Instance;)Z"⟩, 11), (⟨"BrambleMesh", "hasTryOutAt", "(ILBrambleMesh$Instance;)Z"⟩, 11), (⟨"BrambleMesh", "policyOf", "(LBrambleMesh$Step;I)I"⟩, 11), (⟨"BrambleMesh", "place", "(LBrambleMesh$Call;)V"⟩, 11), (⟨"BrambleMesh", "run", "(LBrambleMesh$Call;)V"⟩, 11), (⟨"BrambleMesh", "goOn", "(LBrambleMesh$Step;)V"⟩, 11), (⟨"BrambleMesh", "lookAtEnds", "(LBrambleMesh$Step;)V"⟩, 11), (⟨"BrambleMesh", "close", "(LBrambleMesh$Step;I)V"⟩, 11), (⟨"BrambleMesh", "end", "(LBrambleMesh$Call;II)V"⟩, 11), (⟨"java/util/ArrayList", "fastRemove", "([Ljava/lang/Object;I)V"⟩, 3)]
theorem lw_r1 : ∀ q ∈ lw_privs_1, lw_okq q := List.forall_mem_cons.mpr ⟨lw_p0, List.forall_mem_cons.mpr ⟨lw_p1, List.forall_mem_cons.mpr ⟨lw_p2, List.forall_mem_cons.mpr ⟨lw_p3, List.forall_mem_cons.mpr ⟨lw_p4, List.forall_mem_cons.mpr ⟨lw_p5, List.forall_mem_cons.mpr ⟨lw_p6, List.forall_mem_cons.mpr ⟨lw_p7, List.forall_mem_cons.mpr ⟨lw_p8, List.forall_mem_cons.mpr ⟨lw_p9, List.forall_mem_cons.mpr ⟨lw_p10, List.forall_mem_cons.mpr ⟨lw_p11, List.forall_mem_cons.mpr ⟨lw_p12, List.forall_mem_cons.mpr ⟨lw_p13, List.forall_mem_cons.mpr ⟨lw_p14, List.forall_mem_cons.mpr ⟨lw_p15, fun _ h => absurd h List.not_mem_nil⟩⟩⟩⟩⟩⟩⟩⟩⟩⟩⟩⟩⟩⟩⟩⟩
theorem lw_p16 : lw_okq (⟨"BrambleMesh", "beginRepairs", "(LBrambleMesh$Call;)V"⟩, 11) := ⟨⟨by decide +kernel, by decide +kernel⟩, List.mem_of_getElem? (i := 27) (by decide +kernel), List.mem_of_getElem? (i := 811) (by decide +kernel), List.mem_of_getElem? (i := 812) (by decide +kernel)⟩
theorem lw_p17 : lw_okq (⟨"BrambleMesh", "canPay", "(LBrambleMesh$Step;)Z"⟩, 11) := ⟨⟨by decide +kernel, by decide +kernel⟩, List.mem_of_getElem? (i := 27) (by decide +kernel), List.mem_of_getElem? (i := 820) (by decide +kernel), List.mem_of_getElem? (i := 821) (by decide +kernel)⟩
theorem lw_p18 : lw_okq (⟨"BrambleMesh", "isHedgeDue", "(LBrambleMesh$Step;)Z"⟩, 11) := ⟨⟨by decide +kernel, by decide +kernel⟩, List.mem_of_getElem? (i := 27) (by decide +kernel), List.mem_of_getElem? (i := 824) (by decide +kernel), List.mem_of_getElem? (i := 825) (by decide +kernel)⟩
theorem lw_p19 : lw_okq (⟨"BrambleMesh", "endIfOver", "(LBrambleMesh$Request;)V"⟩, 11) := ⟨⟨by decide +kernel, by decide +kernel⟩, List.mem_of_getElem? (i := 27) (by decide +kernel), List.mem_of_getElem? (i := 828) (by decide +kernel), List.mem_of_getElem? (i := 829) (by decide +kernel)⟩
theorem lw_p20 : lw_okq (⟨"BrambleMesh", "endRequest", "(LBrambleMesh$Request;I)V"⟩, 11) := ⟨⟨by decide +kernel, by decide +kernel⟩, List.mem_of_getElem? (i := 27) (by decide +kernel), List.mem_of_getElem? (i := 832) (by decide +kernel), List.mem_of_getElem? (i := 833) (by decide +kernel)⟩
theorem lw_p21 : lw_okq (⟨"BrambleMesh", "isKeptByHead", "(LBrambleMesh$Request;)Z"⟩, 11) := ⟨⟨by decide +kernel, by decide +kernel⟩, List.mem_of_getElem? (i := 27) (by decide +kernel), List.mem_of_getElem? (i := 836) (by decide +kernel), List.mem_of_getElem? (i := 837) (by decide +kernel)⟩
theorem lw_p22 : lw_okq (⟨"BrambleMesh", "halfOpenBreakers", "()V"⟩, 11) := ⟨⟨by decide +kernel, by decide +kernel⟩, List.mem_of_getElem? (i := 27) (by decide +kernel), List.mem_of_getElem? (i := 847) (by decide +kernel), List.mem_of_getElem? (i := 848) (by decide +kernel)⟩
theorem lw_p23 : lw_okq (⟨"BrambleMesh", "endLateCalls", "()V"⟩, 11) := ⟨⟨by decide +kernel, by decide +kernel⟩, List.mem_of_getElem? (i := 27) (by decide +kernel), List.mem_of_getElem? (i := 855) (by decide +kernel), List.mem_of_getElem? (i := 856) (by decide +kernel)⟩
theorem lw_p24 : lw_okq (⟨"BrambleMesh", "endWork", "()V"⟩, 11) := ⟨⟨by decide +kernel, by decide +kernel⟩, List.mem_of_getElem? (i := 27) (by decide +kernel), List.mem_of_getElem? (i := 859) (by decide +kernel), List.mem_of_getElem? (i := 860) (by decide +kernel)⟩
theorem lw_p25 : lw_okq (⟨"BrambleMesh", "goOnWithCalls", "()V"⟩, 11) := ⟨⟨by decide +kernel, by decide +kernel⟩, List.mem_of_getElem? (i := 27) (by decide +kernel), List.mem_of_getElem? (i := 863) (by decide +kernel), List.mem_of_getElem? (i := 864) (by decide +kernel)⟩
theorem lw_p26 : lw_okq (⟨"BrambleMesh", "beginStep", "(LBrambleMesh$Call;I)LBrambleMesh$Step;"⟩, 11) := ⟨⟨by decide +kernel, by decide +kernel⟩, List.mem_of_getElem? (i := 27) (by decide +kernel), List.mem_of_getElem? (i := 870) (by decide +kernel), List.mem_of_getElem? (i := 871) (by decide +kernel)⟩
theorem lw_p27 : lw_okq (⟨"BrambleMesh", "goOnWithRequests", "()V"⟩, 11) := ⟨⟨by decide +kernel, by decide +kernel⟩, List.mem_of_getElem? (i := 27) (by decide +kernel), List.mem_of_getElem? (i := 877) (by decide +kernel), List.mem_of_getElem? (i := 878) (by decide +kernel)⟩
theorem lw_p28 : lw_okq (⟨"BrambleMesh", "goOnWithRepairs", "()V"⟩, 11) := ⟨⟨by decide +kernel, by decide +kernel⟩, List.mem_of_getElem? (i := 27) (by decide +kernel), List.mem_of_getElem? (i := 881) (by decide +kernel), List.mem_of_getElem? (i := 882) (by decide +kernel)⟩
theorem lw_p29 : lw_okq (⟨"BrambleMesh", "runQueued", "()V"⟩, 11) := ⟨⟨by decide +kernel, by decide +kernel⟩, List.mem_of_getElem? (i := 27) (by decide +kernel), List.mem_of_getElem? (i := 885) (by decide +kernel), List.mem_of_getElem? (i := 886) (by decide +kernel)⟩
theorem lw_p30 : lw_okq (⟨"BrambleMesh", "tellLoads", "()V"⟩, 11) := ⟨⟨by decide +kernel, by decide +kernel⟩, List.mem_of_getElem? (i := 27) (by decide +kernel), List.mem_of_getElem? (i := 890) (by decide +kernel), List.mem_of_getElem? (i := 891) (by decide +kernel)⟩
theorem lw_p31 : lw_okq (⟨"BrambleMeshModel", "goes", "(ZZZ)Z"⟩, 65) := ⟨⟨by decide +kernel, by decide +kernel⟩, List.mem_of_getElem? (i := 987) (by decide +kernel), List.mem_of_getElem? (i := 1203) (by decide +kernel), List.mem_of_getElem? (i := 1204) (by decide +kernel)⟩
def lw_privs_2 : List (MethodName × Nat) := [(⟨"BrambleMesh", "beginRepairs", "(LBrambleMesh$Call;)V"⟩, 11), (⟨"BrambleMesh", "canPay", "(LBrambleMesh$Step;)Z"⟩, 11), (⟨"BrambleMesh", "isHedgeDue", "(LBrambleMesh$Step;)Z"⟩, 11), (⟨"BrambleMesh", "endIfOver", "(LBrambleMesh$Request;)V"⟩, 11), (⟨"BrambleMesh", "endRequest", "(LBrambleMesh$Request;I)V"⟩, 11), (⟨"BrambleMesh", "isKeptByHead", "(LBrambleMesh$Request;)Z"⟩, 11), (⟨"BrambleMesh", "halfOpenBreakers", "()V"⟩, 11), (⟨"BrambleMesh", "endLateCalls", "()V"⟩, 11), (⟨"BrambleMesh", "endWork", "()V"⟩, 11), (⟨"BrambleMesh", "goOnWithCalls", "()V"⟩, 11), (⟨"BrambleMesh", "beginStep", "(LBrambleMesh$Call;I)LBrambleMesh$Step;"⟩, 11), (⟨"BrambleMesh", "goOnWithRequests", "()V"⟩, 11), (⟨"BrambleMesh", "goOnWithRepairs", "()V"⟩, 11), (⟨"BrambleMesh", "runQueued", "()V"⟩, 11), (⟨"BrambleMesh", "tellLoads", "()V"⟩, 11), (⟨"BrambleMeshModel", "goes", "(ZZZ)Z"⟩, 65)]
theorem lw_r2 : ∀ q ∈ lw_privs_2, lw_okq q := List.forall_mem_cons.mpr ⟨lw_p16, List.forall_mem_cons.mpr ⟨lw_p17, List.forall_mem_cons.mpr ⟨lw_p18, List.forall_mem_cons.mpr ⟨lw_p19, List.forall_mem_cons.mpr ⟨lw_p20, List.forall_mem_cons.mpr ⟨lw_p21, List.forall_mem_cons.mpr ⟨lw_p22, List.forall_mem_cons.mpr ⟨lw_p23, List.forall_mem_cons.mpr ⟨lw_p24, List.forall_mem_cons.mpr ⟨lw_p25, List.forall_mem_cons.mpr ⟨lw_p26, List.forall_mem_cons.mpr ⟨lw_p27, List.forall_mem_cons.mpr ⟨lw_p28, List.forall_mem_cons.mpr ⟨lw_p29, List.forall_mem_cons.mpr ⟨lw_p30, List.forall_mem_cons.mpr ⟨lw_p31, fun _ h => absurd h List.not_mem_nil⟩⟩⟩⟩⟩⟩⟩⟩⟩⟩⟩⟩⟩⟩⟩⟩
theorem lw_p32 : lw_okq (⟨"BrambleMeshModel", "isInstance", "(I)Z"⟩, 65) := ⟨⟨by decide +kernel, by decide +kernel⟩, List.mem_of_getElem? (i := 987) (by decide +kernel), List.mem_of_getElem? (i := 1219) (by decide +kernel), List.mem_of_getElem? (i := 1220) (by decide +kernel)⟩
theorem lw_p33 : lw_okq (⟨"BrambleMeshModel", "begins", "(I)V"⟩, 65) := ⟨⟨by decide +kernel, by decide +kernel⟩, List.mem_of_getElem? (i := 987) (by decide +kernel), List.mem_of_getElem? (i := 1253) (by decide +kernel), List.mem_of_getElem? (i := 1254) (by decide +kernel)⟩
theorem lw_p34 : lw_okq (⟨"BrambleMeshModel", "tries", "(II)V"⟩, 65) := ⟨⟨by decide +kernel, by decide +kernel⟩, List.mem_of_getElem? (i := 987) (by decide +kernel), List.mem_of_getElem? (i := 1257) (by decide +kernel), List.mem_of_getElem? (i := 1258) (by decide +kernel)⟩
theorem lw_p35 : lw_okq (⟨"BrambleMeshModel", "callerOf", "(I)I"⟩, 65) := ⟨⟨by decide +kernel, by decide +kernel⟩, List.mem_of_getElem? (i := 987) (by decide +kernel), List.mem_of_getElem? (i := 1261) (by decide +kernel), List.mem_of_getElem? (i := 1262) (by decide +kernel)⟩
theorem lw_p36 : lw_okq (⟨"BrambleMeshModel", "calledBy", "(I)I"⟩, 65) := ⟨⟨by decide +kernel, by decide +kernel⟩, List.mem_of_getElem? (i := 987) (by decide +kernel), List.mem_of_getElem? (i := 1265) (by decide +kernel), List.mem_of_getElem? (i := 1266) (by decide +kernel)⟩
theorem lw_p37 : lw_okq (⟨"BrambleMeshModel", "wantedVersion", "(I)I"⟩, 65) := ⟨⟨by decide +kernel, by decide +kernel⟩, List.mem_of_getElem? (i := 987) (by decide +kernel), List.mem_of_getElem? (i := 1269) (by decide +kernel), List.mem_of_getElem? (i := 1270) (by decide +kernel)⟩
theorem lw_p38 : lw_okq (⟨"BrambleMeshModel", "chosen", "(IIII)I"⟩, 65) := ⟨⟨by decide +kernel, by decide +kernel⟩, List.mem_of_getElem? (i := 987) (by decide +kernel), List.mem_of_getElem? (i := 1273) (by decide +kernel), List.mem_of_getElem? (i := 1274) (by decide +kernel)⟩
theorem lw_p39 : lw_okq (⟨"BrambleMeshModel", "canChoose", "(III)Z"⟩, 65) := ⟨⟨by decide +kernel, by decide +kernel⟩, List.mem_of_getElem? (i := 987) (by decide +kernel), List.mem_of_getElem? (i := 1277) (by decide +kernel), List.mem_of_getElem? (i := 1278) (by decide +kernel)⟩
theorem lw_p40 : lw_okq (⟨"BrambleMeshModel", "isAvoided", "(I)Z"⟩, 65) := ⟨⟨by decide +kernel, by decide +kernel⟩, List.mem_of_getElem? (i := 987) (by decide +kernel), List.mem_of_getElem? (i := 1281) (by decide +kernel), List.mem_of_getElem? (i := 1282) (by decide +kernel)⟩
theorem lw_p41 : lw_okq (⟨"BrambleMeshModel", "hasOut", "(II)Z"⟩, 65) := ⟨⟨by decide +kernel, by decide +kernel⟩, List.mem_of_getElem? (i := 987) (by decide +kernel), List.mem_of_getElem? (i := 1285) (by decide +kernel), List.mem_of_getElem? (i := 1286) (by decide +kernel)⟩
theorem lw_p42 : lw_okq (⟨"BrambleMeshModel", "isOut", "(I)Z"⟩, 65) := ⟨⟨by decide +kernel, by decide +kernel⟩, List.mem_of_getElem? (i := 987) (by decide +kernel), List.mem_of_getElem? (i := 1289) (by decide +kernel), List.mem_of_getElem? (i := 1290) (by decide +kernel)⟩
theorem lw_p43 : lw_okq (⟨"BrambleMeshModel", "isKnown", "(I)Z"⟩, 65) := ⟨⟨by decide +kernel, by decide +kernel⟩, List.mem_of_getElem? (i := 987) (by decide +kernel), List.mem_of_getElem? (i := 1293) (by decide +kernel), List.mem_of_getElem? (i := 1294) (by decide +kernel)⟩
theorem lw_p44 : lw_okq (⟨"BrambleMeshModel", "hasEnded", "(I)Z"⟩, 65) := ⟨⟨by decide +kernel, by decide +kernel⟩, List.mem_of_getElem? (i := 987) (by decide +kernel), List.mem_of_getElem? (i := 1297) (by decide +kernel), List.mem_of_getElem? (i := 1298) (by decide +kernel)⟩
theorem lw_p45 : lw_okq (⟨"BrambleMeshModel", "goesOn", "(I)Z"⟩, 65) := ⟨⟨by decide +kernel, by decide +kernel⟩, List.mem_of_getElem? (i := 987) (by decide +kernel), List.mem_of_getElem? (i := 1301) (by decide +kernel), List.mem_of_getElem? (i := 1302) (by decide +kernel)⟩
theorem lw_p46 : lw_okq (⟨"BrambleMeshModel", "hasTried", "(II)Z"⟩, 65) := ⟨⟨by decide +kernel, by decide +kernel⟩, List.mem_of_getElem? (i := 987) (by decide +kernel), List.mem_of_getElem? (i := 1305) (by decide +kernel), List.mem_of_getElem? (i := 1306) (by decide +kernel)⟩
theorem lw_p47 : lw_okq (⟨"BrambleMeshModel", "burden", "(III)I"⟩, 65) := ⟨⟨by decide +kernel, by decide +kernel⟩, List.mem_of_getElem? (i := 987) (by decide +kernel), List.mem_of_getElem? (i := 1309) (by decide +kernel), List.mem_of_getElem? (i := 1310) (by decide +kernel)⟩
def lw_privs_3 : List (MethodName × Nat) := [(⟨"BrambleMeshModel", "isInstance", "(I)Z"⟩, 65), (⟨"BrambleMeshModel", "begins", "(I)V"⟩, 65), (⟨"BrambleMeshModel", "tries", "(II)V"⟩, 65), (⟨"BrambleMeshModel", "callerOf", "(I)I"⟩, 65), (⟨"BrambleMeshModel", "calledBy", "(I)I"⟩, 65), (⟨"BrambleMeshModel", "wantedVersion", "(I)I"⟩, 65), (⟨"BrambleMeshModel", "chosen", "(IIII)I"⟩, 65), (⟨"BrambleMeshModel", "canChoose", "(III)Z"⟩, 65), (⟨"BrambleMeshModel", "isAvoided", "(I)Z"⟩, 65), (⟨"BrambleMeshModel", "hasOut", "(II)Z"⟩, 65), (⟨"BrambleMeshModel", "isOut", "(I)Z"⟩, 65), (⟨"BrambleMeshModel", "isKnown", "(I)Z"⟩, 65), (⟨"BrambleMeshModel", "hasEnded", "(I)Z"⟩, 65), (⟨"BrambleMeshModel", "goesOn", "(I)Z"⟩, 65), (⟨"BrambleMeshModel", "hasTried", "(II)Z"⟩, 65), (⟨"BrambleMeshModel", "burden", "(III)I"⟩, 65)]
theorem lw_r3 : ∀ q ∈ lw_privs_3, lw_okq q := List.forall_mem_cons.mpr ⟨lw_p32, List.forall_mem_cons.mpr ⟨lw_p33, List.forall_mem_cons.mpr ⟨lw_p34, List.forall_mem_cons.mpr ⟨lw_p35, List.forall_mem_cons.mpr ⟨lw_p36, List.forall_mem_cons.mpr ⟨lw_p37, List.forall_mem_cons.mpr ⟨lw_p38, List.forall_mem_cons.mpr ⟨lw_p39, List.forall_mem_cons.mpr ⟨lw_p40, List.forall_mem_cons.mpr ⟨lw_p41, List.forall_mem_cons.mpr ⟨lw_p42, List.forall_mem_cons.mpr ⟨lw_p43, List.forall_mem_cons.mpr ⟨lw_p44, List.forall_mem_cons.mpr ⟨lw_p45, List.forall_mem_cons.mpr ⟨lw_p46, List.forall_mem_cons.mpr ⟨lw_p47, fun _ h => absurd h List.not_mem_nil⟩⟩⟩⟩⟩⟩⟩⟩⟩⟩⟩⟩⟩⟩⟩⟩
theorem lw_p48 : lw_okq (⟨"BrambleMeshModel", "policyOf", "(III)I"⟩, 65) := ⟨⟨by decide +kernel, by decide +kernel⟩, List.mem_of_getElem? (i := 987) (by decide +kernel), List.mem_of_getElem? (i := 1313) (by decide +kernel), List.mem_of_getElem? (i := 1314) (by decide +kernel)⟩
theorem lw_p49 : lw_okq (⟨"BrambleMeshModel", "countOf", "(III)I"⟩, 65) := ⟨⟨by decide +kernel, by decide +kernel⟩, List.mem_of_getElem? (i := 987) (by decide +kernel), List.mem_of_getElem? (i := 1317) (by decide +kernel), List.mem_of_getElem? (i := 1318) (by decide +kernel)⟩
theorem lw_p50 : lw_okq (⟨"BrambleMeshModel", "runs", "(I)V"⟩, 65) := ⟨⟨by decide +kernel, by decide +kernel⟩, List.mem_of_getElem? (i := 987) (by decide +kernel), List.mem_of_getElem? (i := 1321) (by decide +kernel), List.mem_of_getElem? (i := 1322) (by decide +kernel)⟩
theorem lw_p51 : lw_okq (⟨"BrambleMeshModel", "setsEnd", "(II)V"⟩, 65) := ⟨⟨by decide +kernel, by decide +kernel⟩, List.mem_of_getElem? (i := 987) (by decide +kernel), List.mem_of_getElem? (i := 1325) (by decide +kernel), List.mem_of_getElem? (i := 1326) (by decide +kernel)⟩
theorem lw_p52 : lw_okq (⟨"BrambleMeshModel", "looksAt", "(I)Z"⟩, 65) := ⟨⟨by decide +kernel, by decide +kernel⟩, List.mem_of_getElem? (i := 987) (by decide +kernel), List.mem_of_getElem? (i := 1329) (by decide +kernel), List.mem_of_getElem? (i := 1330) (by decide +kernel)⟩
theorem lw_p53 : lw_okq (⟨"BrambleMeshModel", "judges", "(III)V"⟩, 65) := ⟨⟨by decide +kernel, by decide +kernel⟩, List.mem_of_getElem? (i := 987) (by decide +kernel), List.mem_of_getElem? (i := 1333) (by decide +kernel), List.mem_of_getElem? (i := 1334) (by decide +kernel)⟩
theorem lw_p54 : lw_okq (⟨"BrambleMeshModel", "goesRequest", "(I)V"⟩, 65) := ⟨⟨by decide +kernel, by decide +kernel⟩, List.mem_of_getElem? (i := 987) (by decide +kernel), List.mem_of_getElem? (i := 1337) (by decide +kernel), List.mem_of_getElem? (i := 1338) (by decide +kernel)⟩
theorem lw_p55 : lw_okq (⟨"BrambleMeshModel", "goesStep", "(I)I"⟩, 65) := ⟨⟨by decide +kernel, by decide +kernel⟩, List.mem_of_getElem? (i := 987) (by decide +kernel), List.mem_of_getElem? (i := 1341) (by decide +kernel), List.mem_of_getElem? (i := 1342) (by decide +kernel)⟩
theorem lw_p56 : lw_okq (⟨"BrambleMeshModel", "looks", "(I)Z"⟩, 65) := ⟨⟨by decide +kernel, by decide +kernel⟩, List.mem_of_getElem? (i := 987) (by decide +kernel), List.mem_of_getElem? (i := 1345) (by decide +kernel), List.mem_of_getElem? (i := 1346) (by decide +kernel)⟩
theorem lw_p57 : lw_okq (⟨"BrambleMeshModel", "turnsOff", "(I)V"⟩, 65) := ⟨⟨by decide +kernel, by decide +kernel⟩, List.mem_of_getElem? (i := 987) (by decide +kernel), List.mem_of_getElem? (i := 1349) (by decide +kernel), List.mem_of_getElem? (i := 1350) (by decide +kernel)⟩
theorem lw_p58 : lw_okq (⟨"BrambleMeshModel", "liveOf", "(II)I"⟩, 65) := ⟨⟨by decide +kernel, by decide +kernel⟩, List.mem_of_getElem? (i := 987) (by decide +kernel), List.mem_of_getElem? (i := 1353) (by decide +kernel), List.mem_of_getElem? (i := 1354) (by decide +kernel)⟩
theorem lw_p59 : lw_okq (⟨"BrambleMeshModel", "endsCall", "(II)V"⟩, 65) := ⟨⟨by decide +kernel, by decide +kernel⟩, List.mem_of_getElem? (i := 987) (by decide +kernel), List.mem_of_getElem? (i := 1357) (by decide +kernel), List.mem_of_getElem? (i := 1358) (by decide +kernel)⟩
theorem lw_p60 : lw_okq (⟨"BrambleMeshModel", "repairsFor", "(I)V"⟩, 65) := ⟨⟨by decide +kernel, by decide +kernel⟩, List.mem_of_getElem? (i := 987) (by decide +kernel), List.mem_of_getElem? (i := 1361) (by decide +kernel), List.mem_of_getElem? (i := 1362) (by decide +kernel)⟩
theorem lw_p61 : lw_okq (⟨"BrambleMeshModel", "hasRunIn", "(II)Z"⟩, 65) := ⟨⟨by decide +kernel, by decide +kernel⟩, List.mem_of_getElem? (i := 987) (by decide +kernel), List.mem_of_getElem? (i := 1365) (by decide +kernel), List.mem_of_getElem? (i := 1366) (by decide +kernel)⟩
theorem lw_p62 : lw_okq (⟨"BrambleMeshModel", "hasOutOf", "(I)Z"⟩, 65) := ⟨⟨by decide +kernel, by decide +kernel⟩, List.mem_of_getElem? (i := 987) (by decide +kernel), List.mem_of_getElem? (i := 1369) (by decide +kernel), List.mem_of_getElem? (i := 1370) (by decide +kernel)⟩
theorem lw_p63 : lw_okq (⟨"BrambleMeshModel", "isSafeOf", "(I)Z"⟩, 65) := ⟨⟨by decide +kernel, by decide +kernel⟩, List.mem_of_getElem? (i := 987) (by decide +kernel), List.mem_of_getElem? (i := 1373) (by decide +kernel), List.mem_of_getElem? (i := 1374) (by decide +kernel)⟩
def lw_privs_4 : List (MethodName × Nat) := [(⟨"BrambleMeshModel", "policyOf", "(III)I"⟩, 65), (⟨"BrambleMeshModel", "countOf", "(III)I"⟩, 65), (⟨"BrambleMeshModel", "runs", "(I)V"⟩, 65), (⟨"BrambleMeshModel", "setsEnd", "(II)V"⟩, 65), (⟨"BrambleMeshModel", "looksAt", "(I)Z"⟩, 65), (⟨"BrambleMeshModel", "judges", "(III)V"⟩, 65), (⟨"BrambleMeshModel", "goesRequest", "(I)V"⟩, 65), (⟨"BrambleMeshModel", "goesStep", "(I)I"⟩, 65), (⟨"BrambleMeshModel", "looks", "(I)Z"⟩, 65), (⟨"BrambleMeshModel", "turnsOff", "(I)V"⟩, 65), (⟨"BrambleMeshModel", "liveOf", "(II)I"⟩, 65), (⟨"BrambleMeshModel", "endsCall", "(II)V"⟩, 65), (⟨"BrambleMeshModel", "repairsFor", "(I)V"⟩, 65), (⟨"BrambleMeshModel", "hasRunIn", "(II)Z"⟩, 65), (⟨"BrambleMeshModel", "hasOutOf", "(I)Z"⟩, 65), (⟨"BrambleMeshModel", "isSafeOf", "(I)Z"⟩, 65)]
theorem lw_r4 : ∀ q ∈ lw_privs_4, lw_okq q := List.forall_mem_cons.mpr ⟨lw_p48, List.forall_mem_cons.mpr ⟨lw_p49, List.forall_mem_cons.mpr ⟨lw_p50, List.forall_mem_cons.mpr ⟨lw_p51, List.forall_mem_cons.mpr ⟨lw_p52, List.forall_mem_cons.mpr ⟨lw_p53, List.forall_mem_cons.mpr ⟨lw_p54, List.forall_mem_cons.mpr ⟨lw_p55, List.forall_mem_cons.mpr ⟨lw_p56, List.forall_mem_cons.mpr ⟨lw_p57, List.forall_mem_cons.mpr ⟨lw_p58, List.forall_mem_cons.mpr ⟨lw_p59, List.forall_mem_cons.mpr ⟨lw_p60, List.forall_mem_cons.mpr ⟨lw_p61, List.forall_mem_cons.mpr ⟨lw_p62, List.forall_mem_cons.mpr ⟨lw_p63, fun _ h => absurd h List.not_mem_nil⟩⟩⟩⟩⟩⟩⟩⟩⟩⟩⟩⟩⟩⟩⟩⟩
theorem lw_p64 : lw_okq (⟨"BrambleMeshModel", "endsRequest", "(II)V"⟩, 65) := ⟨⟨by decide +kernel, by decide +kernel⟩, List.mem_of_getElem? (i := 987) (by decide +kernel), List.mem_of_getElem? (i := 1377) (by decide +kernel), List.mem_of_getElem? (i := 1378) (by decide +kernel)⟩
theorem lw_p65 : lw_okq (⟨"BrambleMeshModel", "passes", "()V"⟩, 65) := ⟨⟨by decide +kernel, by decide +kernel⟩, List.mem_of_getElem? (i := 987) (by decide +kernel), List.mem_of_getElem? (i := 1385) (by decide +kernel), List.mem_of_getElem? (i := 1386) (by decide +kernel)⟩
theorem lw_p66 : lw_okq (⟨"BrambleMeshModel", "finishesWork", "(I)V"⟩, 65) := ⟨⟨by decide +kernel, by decide +kernel⟩, List.mem_of_getElem? (i := 987) (by decide +kernel), List.mem_of_getElem? (i := 1389) (by decide +kernel), List.mem_of_getElem? (i := 1390) (by decide +kernel)⟩
theorem lw_p67 : lw_okq (⟨"BrambleMeshModel", "goesCall", "(I)V"⟩, 65) := ⟨⟨by decide +kernel, by decide +kernel⟩, List.mem_of_getElem? (i := 987) (by decide +kernel), List.mem_of_getElem? (i := 1393) (by decide +kernel), List.mem_of_getElem? (i := 1394) (by decide +kernel)⟩
theorem lw_p68 : lw_okq (⟨"BrambleMeshModel", "goesRepair", "(I)V"⟩, 65) := ⟨⟨by decide +kernel, by decide +kernel⟩, List.mem_of_getElem? (i := 987) (by decide +kernel), List.mem_of_getElem? (i := 1397) (by decide +kernel), List.mem_of_getElem? (i := 1398) (by decide +kernel)⟩
theorem lw_p69 : lw_okq (⟨"BrambleMeshModel", "dequeues", "(I)V"⟩, 65) := ⟨⟨by decide +kernel, by decide +kernel⟩, List.mem_of_getElem? (i := 987) (by decide +kernel), List.mem_of_getElem? (i := 1401) (by decide +kernel), List.mem_of_getElem? (i := 1402) (by decide +kernel)⟩
theorem lw_p70 : lw_okq (⟨"BrambleMeshModel", "isRequest", "(I)Z"⟩, 65) := ⟨⟨by decide +kernel, by decide +kernel⟩, List.mem_of_getElem? (i := 987) (by decide +kernel), List.mem_of_getElem? (i := 1413) (by decide +kernel), List.mem_of_getElem? (i := 1414) (by decide +kernel)⟩
theorem lw_p71 : lw_okq (⟨"BrambleMeshModel", "toldOf", "(II)I"⟩, 65) := ⟨⟨by decide +kernel, by decide +kernel⟩, List.mem_of_getElem? (i := 987) (by decide +kernel), List.mem_of_getElem? (i := 1437) (by decide +kernel), List.mem_of_getElem? (i := 1438) (by decide +kernel)⟩
def lw_privs_5 : List (MethodName × Nat) := [(⟨"BrambleMeshModel", "endsRequest", "(II)V"⟩, 65), (⟨"BrambleMeshModel", "passes", "()V"⟩, 65), (⟨"BrambleMeshModel", "finishesWork", "(I)V"⟩, 65), (⟨"BrambleMeshModel", "goesCall", "(I)V"⟩, 65), (⟨"BrambleMeshModel", "goesRepair", "(I)V"⟩, 65), (⟨"BrambleMeshModel", "dequeues", "(I)V"⟩, 65), (⟨"BrambleMeshModel", "isRequest", "(I)Z"⟩, 65), (⟨"BrambleMeshModel", "toldOf", "(II)I"⟩, 65)]
theorem lw_r5 : ∀ q ∈ lw_privs_5, lw_okq q := List.forall_mem_cons.mpr ⟨lw_p64, List.forall_mem_cons.mpr ⟨lw_p65, List.forall_mem_cons.mpr ⟨lw_p66, List.forall_mem_cons.mpr ⟨lw_p67, List.forall_mem_cons.mpr ⟨lw_p68, List.forall_mem_cons.mpr ⟨lw_p69, List.forall_mem_cons.mpr ⟨lw_p70, List.forall_mem_cons.mpr ⟨lw_p71, fun _ h => absurd h List.not_mem_nil⟩⟩⟩⟩⟩⟩⟩⟩
def lw_privs : List (MethodName × Nat) := lw_privs_1 ++ (lw_privs_2 ++ (lw_privs_3 ++ (lw_privs_4 ++ (lw_privs_5))))
def lw_tbl : List Cond := k2_sels lw_privs ++ tables_1
theorem lw_privs_ok : ∀ q ∈ lw_privs, lw_okq q := by
  show ∀ q ∈ lw_privs_1 ++ (lw_privs_2 ++ (lw_privs_3 ++ (lw_privs_4 ++ (lw_privs_5)))), lw_okq q
  exact List.forall_mem_append.mpr ⟨lw_r1, List.forall_mem_append.mpr ⟨lw_r2, List.forall_mem_append.mpr ⟨lw_r3, List.forall_mem_append.mpr ⟨lw_r4, lw_r5⟩⟩⟩⟩
/-! ===== BEGIN printed: names, fields, word lists, decode rows ===== -/
def RX0 : String := "BrambleMesh$Breaker"
def TX0 : u_T := fun k => match k with
  | 0 => ("BrambleMesh$Breaker", "state", "I", false)
  | 1 => ("BrambleMesh$Breaker", "inRow", "I", false)
  | _ => ("BrambleMesh$Breaker", "openedAt", "I", false)
def tyX0 : Nat → FieldType := fun k => match k with
  | 0 => .int
  | 1 => .int
  | _ => .int
abbrev wsX00 : List Cond := u_ws RX0 TX0 3
theorem nmX0 : ∀ a, a < 3 → ∀ b, b < 3 → a ≠ b → (TX0 a).2.1 ≠ (TX0 b).2.1 := by decide +kernel
theorem tyX0_ok : ∀ k, k < 3 → parseFieldDescriptor (TX0 k).2.2.1 = some (tyX0 k) := by decide +kernel
abbrev cX0_init : ByteArray := prog_2_method_1_code
def yX0_init : MethodName := ⟨RX0, "<init>", "()V"⟩
abbrev cX0_count : ByteArray := prog_2_method_2_code
def yX0_count : MethodName := ⟨RX0, "count", "(ZI)V"⟩
abbrev cX0_rest : ByteArray := prog_2_method_3_code
def yX0_rest : MethodName := ⟨RX0, "rest", "(I)V"⟩
def RX1 : String := "BrambleMesh$Call"
def TX1 : u_T := fun k => match k with
  | 0 => ("BrambleMesh$Call", "number", "I", true)
  | 1 => ("BrambleMesh$Call", "of", "LBrambleMesh$Step;", true)
  | 2 => ("BrambleMesh$Call", "at", "LBrambleMesh$Instance;", true)
  | 3 => ("BrambleMesh$Call", "deadline", "I", true)
  | 4 => ("BrambleMesh$Call", "steps", "Ljava/util/ArrayList;", true)
  | 5 => ("BrambleMesh$Call", "state", "I", false)
  | 6 => ("BrambleMesh$Call", "doneAt", "I", false)
  | 7 => ("BrambleMesh$Call", "knownAs", "I", false)
  | 8 => ("BrambleMesh$Call", "knownAt", "I", false)
  | _ => ("BrambleMesh$Call", "isLookedAt", "Z", false)
def tyX1 : Nat → FieldType := fun k => match k with
  | 0 => .int
  | 1 => .object "BrambleMesh$Step"
  | 2 => .object "BrambleMesh$Instance"
  | 3 => .int
  | 4 => .object "java/util/ArrayList"
  | 5 => .int
  | 6 => .int
  | 7 => .int
  | 8 => .int
  | _ => .boolean
abbrev wsX10 : List Cond := u_ws RX1 TX1 10
theorem nmX1 : ∀ a, a < 10 → ∀ b, b < 10 → a ≠ b → (TX1 a).2.1 ≠ (TX1 b).2.1 := by decide +kernel
theorem tyX1_ok : ∀ k, k < 10 → parseFieldDescriptor (TX1 k).2.2.1 = some (tyX1 k) := by decide +kernel
abbrev cX1_init : ByteArray := prog_3_method_1_code
def yX1_init : MethodName := ⟨RX1, "<init>", "(ILBrambleMesh$Step;LBrambleMesh$Instance;I)V"⟩
abbrev cX1_hasEnded : ByteArray := prog_3_method_2_code
def yX1_hasEnded : MethodName := ⟨RX1, "hasEnded", "()Z"⟩
abbrev cX1_isKnown : ByteArray := prog_3_method_3_code
def yX1_isKnown : MethodName := ⟨RX1, "isKnown", "(I)Z"⟩
abbrev cX1_lastStep : ByteArray := prog_3_method_4_code
def yX1_lastStep : MethodName := ⟨RX1, "lastStep", "()LBrambleMesh$Step;"⟩
abbrev cX1_learnEnd : ByteArray := prog_3_method_5_code
def yX1_learnEnd : MethodName := ⟨RX1, "learnEnd", "(I)V"⟩
def RX2 : String := "BrambleMesh$Caller"
def TX2 : u_T := fun k => match k with
  | 0 => ("BrambleMesh$Caller", "money", "I", false)
  | 1 => ("BrambleMesh$Caller", "shareOfFirst", "I", false)
  | 2 => ("BrambleMesh$Caller", "firstTries", "I", false)
  | _ => ("BrambleMesh$Caller", "extraTries", "I", false)
def tyX2 : Nat → FieldType := fun k => match k with
  | 0 => .int
  | 1 => .int
  | 2 => .int
  | _ => .int
abbrev wsX20 : List Cond := u_ws RX2 TX2 4
theorem nmX2 : ∀ a, a < 4 → ∀ b, b < 4 → a ≠ b → (TX2 a).2.1 ≠ (TX2 b).2.1 := by decide +kernel
theorem tyX2_ok : ∀ k, k < 4 → parseFieldDescriptor (TX2 k).2.2.1 = some (tyX2 k) := by decide +kernel
abbrev cX2_init : ByteArray := prog_4_method_1_code
def yX2_init : MethodName := ⟨RX2, "<init>", "()V"⟩
abbrev cX2_account : ByteArray := prog_4_method_2_code
def yX2_account : MethodName := ⟨RX2, "account", "(Z)V"⟩
def RX3 : String := "BrambleMesh$Canary"
def TX3 : u_T := fun k => match k with
  | 0 => ("BrambleMesh$Canary", "percent", "I", false)
  | 1 => ("BrambleMesh$Canary", "tries", "I", false)
  | 2 => ("BrambleMesh$Canary", "ends", "[I", true)
  | _ => ("BrambleMesh$Canary", "badEnds", "[I", true)
def tyX3 : Nat → FieldType := fun k => match k with
  | 0 => .int
  | 1 => .int
  | 2 => .array .int
  | _ => .array .int
abbrev wsX30 : List Cond := u_ws RX3 TX3 4
theorem nmX3 : ∀ a, a < 4 → ∀ b, b < 4 → a ≠ b → (TX3 a).2.1 ≠ (TX3 b).2.1 := by decide +kernel
theorem tyX3_ok : ∀ k, k < 4 → parseFieldDescriptor (TX3 k).2.2.1 = some (tyX3 k) := by decide +kernel
abbrev cX3_init : ByteArray := prog_5_method_1_code
def yX3_init : MethodName := ⟨RX3, "<init>", "()V"⟩
abbrev cX3_restart : ByteArray := prog_5_method_2_code
def yX3_restart : MethodName := ⟨RX3, "restart", "(I)V"⟩
abbrev cX3_nextVersion : ByteArray := prog_5_method_3_code
def yX3_nextVersion : MethodName := ⟨RX3, "nextVersion", "()I"⟩
abbrev cX3_judge : ByteArray := prog_5_method_4_code
def yX3_judge : MethodName := ⟨RX3, "judge", "(IZ)V"⟩
def RX4 : String := "BrambleMesh$Instance"
def TX4 : u_T := fun k => match k with
  | 0 => ("BrambleMesh$Instance", "number", "I", true)
  | 1 => ("BrambleMesh$Instance", "service", "I", true)
  | 2 => ("BrambleMesh$Instance", "zone", "I", true)
  | 3 => ("BrambleMesh$Instance", "weight", "I", true)
  | 4 => ("BrambleMesh$Instance", "slots", "I", true)
  | 5 => ("BrambleMesh$Instance", "room", "I", true)
  | 6 => ("BrambleMesh$Instance", "version", "I", true)
  | 7 => ("BrambleMesh$Instance", "faults", "[I", true)
  | 8 => ("BrambleMesh$Instance", "breakers", "[LBrambleMesh$Breaker;", true)
  | 9 => ("BrambleMesh$Instance", "newTries", "[I", true)
  | 10 => ("BrambleMesh$Instance", "queue", "Ljava/util/ArrayList;", true)
  | 11 => ("BrambleMesh$Instance", "busy", "I", false)
  | _ => ("BrambleMesh$Instance", "toldLoad", "I", false)
def tyX4 : Nat → FieldType := fun k => match k with
  | 0 => .int
  | 1 => .int
  | 2 => .int
  | 3 => .int
  | 4 => .int
  | 5 => .int
  | 6 => .int
  | 7 => .array .int
  | 8 => .array (.object "BrambleMesh$Breaker")
  | 9 => .array .int
  | 10 => .object "java/util/ArrayList"
  | 11 => .int
  | _ => .int
abbrev wsX40 : List Cond := u_ws RX4 TX4 13
theorem nmX4 : ∀ a, a < 13 → ∀ b, b < 13 → a ≠ b → (TX4 a).2.1 ≠ (TX4 b).2.1 := by decide +kernel
theorem tyX4_ok : ∀ k, k < 13 → parseFieldDescriptor (TX4 k).2.2.1 = some (tyX4 k) := by decide +kernel
abbrev cX4_init : ByteArray := prog_6_method_1_code
def yX4_init : MethodName := ⟨RX4, "<init>", "(IIIIIII)V"⟩
abbrev cX4_openBreakers : ByteArray := prog_6_method_2_code
def yX4_openBreakers : MethodName := ⟨RX4, "openBreakers", "()I"⟩
abbrev cX4_loadNow : ByteArray := prog_6_method_3_code
def yX4_loadNow : MethodName := ⟨RX4, "loadNow", "()I"⟩
abbrev cX4_tellLoad : ByteArray := prog_6_method_4_code
def yX4_tellLoad : MethodName := ⟨RX4, "tellLoad", "()V"⟩
abbrev cX4_burdenFor : ByteArray := prog_6_method_5_code
def yX4_burdenFor : MethodName := ⟨RX4, "burdenFor", "(II)I"⟩
abbrev cX4_release : ByteArray := prog_6_method_6_code
def yX4_release : MethodName := ⟨RX4, "release", "(LBrambleMesh$Call;)V"⟩
def RX5 : String := "BrambleMesh$Request"
def TX5 : u_T := fun k => match k with
  | 0 => ("BrambleMesh$Request", "step", "LBrambleMesh$Step;", true)
  | 1 => ("BrambleMesh$Request", "madeAt", "I", true)
  | 2 => ("BrambleMesh$Request", "state", "I", false)
  | 3 => ("BrambleMesh$Request", "endedAt", "I", false)
  | _ => ("BrambleMesh$Request", "isKeptAtEnd", "Z", false)
def tyX5 : Nat → FieldType := fun k => match k with
  | 0 => .object "BrambleMesh$Step"
  | 1 => .int
  | 2 => .int
  | 3 => .int
  | _ => .boolean
abbrev wsX50 : List Cond := u_ws RX5 TX5 5
theorem nmX5 : ∀ a, a < 5 → ∀ b, b < 5 → a ≠ b → (TX5 a).2.1 ≠ (TX5 b).2.1 := by decide +kernel
theorem tyX5_ok : ∀ k, k < 5 → parseFieldDescriptor (TX5 k).2.2.1 = some (tyX5 k) := by decide +kernel
abbrev cX5_init : ByteArray := prog_7_method_1_code
def yX5_init : MethodName := ⟨RX5, "<init>", "(LBrambleMesh$Step;I)V"⟩
def RX6 : String := "BrambleMesh$Service"
def TX6 : u_T := fun k => match k with
  | 0 => ("BrambleMesh$Service", "workTicks", "I", false)
  | 1 => ("BrambleMesh$Service", "planned", "I", false)
  | 2 => ("BrambleMesh$Service", "called", "[I", true)
  | 3 => ("BrambleMesh$Service", "undo", "[I", true)
  | 4 => ("BrambleMesh$Service", "isSafe", "[Z", true)
  | _ => ("BrambleMesh$Service", "canaries", "LBrambleMesh$Canary;", true)
def tyX6 : Nat → FieldType := fun k => match k with
  | 0 => .int
  | 1 => .int
  | 2 => .array .int
  | 3 => .array .int
  | 4 => .array .boolean
  | _ => .object "BrambleMesh$Canary"
abbrev wsX60 : List Cond := u_ws RX6 TX6 6
theorem nmX6 : ∀ a, a < 6 → ∀ b, b < 6 → a ≠ b → (TX6 a).2.1 ≠ (TX6 b).2.1 := by decide +kernel
theorem tyX6_ok : ∀ k, k < 6 → parseFieldDescriptor (TX6 k).2.2.1 = some (tyX6 k) := by decide +kernel
abbrev cX6_init : ByteArray := prog_8_method_1_code
def yX6_init : MethodName := ⟨RX6, "<init>", "()V"⟩
abbrev cX6_plan : ByteArray := prog_8_method_2_code
def yX6_plan : MethodName := ⟨RX6, "plan", "(IZI)V"⟩
def RX7 : String := "BrambleMesh$Step"
def TX7 : u_T := fun k => match k with
  | 0 => ("BrambleMesh$Step", "caller", "I", true)
  | 1 => ("BrambleMesh$Step", "called", "I", true)
  | 2 => ("BrambleMesh$Step", "isSafe", "Z", true)
  | 3 => ("BrambleMesh$Step", "undo", "I", false)
  | 4 => ("BrambleMesh$Step", "zone", "I", false)
  | 5 => ("BrambleMesh$Step", "deadline", "I", false)
  | 6 => ("BrambleMesh$Step", "request", "I", false)
  | 7 => ("BrambleMesh$Step", "repair", "I", false)
  | 8 => ("BrambleMesh$Step", "call", "LBrambleMesh$Call;", false)
  | 9 => ("BrambleMesh$Step", "tries", "Ljava/util/ArrayList;", true)
  | 10 => ("BrambleMesh$Step", "tryCount", "I", false)
  | 11 => ("BrambleMesh$Step", "retries", "I", false)
  | 12 => ("BrambleMesh$Step", "firstTick", "I", false)
  | 13 => ("BrambleMesh$Step", "lastEnd", "I", false)
  | 14 => ("BrambleMesh$Step", "hasRun", "Z", false)
  | _ => ("BrambleMesh$Step", "state", "I", false)
def tyX7 : Nat → FieldType := fun k => match k with
  | 0 => .int
  | 1 => .int
  | 2 => .boolean
  | 3 => .int
  | 4 => .int
  | 5 => .int
  | 6 => .int
  | 7 => .int
  | 8 => .object "BrambleMesh$Call"
  | 9 => .object "java/util/ArrayList"
  | 10 => .int
  | 11 => .int
  | 12 => .int
  | 13 => .int
  | 14 => .boolean
  | _ => .int
abbrev wsX70 : List Cond := u_ws RX7 TX7 16
theorem nmX7 : ∀ a, a < 16 → ∀ b, b < 16 → a ≠ b → (TX7 a).2.1 ≠ (TX7 b).2.1 := by decide +kernel
theorem tyX7_ok : ∀ k, k < 16 → parseFieldDescriptor (TX7 k).2.2.1 = some (tyX7 k) := by decide +kernel
abbrev cX7_init : ByteArray := prog_9_method_1_code
def yX7_init : MethodName := ⟨RX7, "<init>", "(IIZ)V"⟩
abbrev cX7_hasTryOut : ByteArray := prog_9_method_2_code
def yX7_hasTryOut : MethodName := ⟨RX7, "hasTryOut", "(I)Z"⟩
abbrev cX7_hasTried : ByteArray := prog_9_method_3_code
def yX7_hasTried : MethodName := ⟨RX7, "hasTried", "(LBrambleMesh$Instance;)Z"⟩
def RX8 : String := "BrambleMesh"
def TX8 : u_T := fun k => match k with
  | 0 => ("BrambleMesh", "now", "I", false)
  | 1 => ("BrambleMesh", "eyesThatShun", "I", false)
  | 2 => ("BrambleMesh", "traceRate", "I", false)
  | 3 => ("BrambleMesh", "traceLimit", "I", false)
  | 4 => ("BrambleMesh", "policies", "[[I", true)
  | 5 => ("BrambleMesh", "allServices", "[LBrambleMesh$Service;", true)
  | 6 => ("BrambleMesh", "allCallers", "[LBrambleMesh$Caller;", true)
  | 7 => ("BrambleMesh", "allInstances", "Ljava/util/ArrayList;", true)
  | 8 => ("BrambleMesh", "allRequests", "Ljava/util/ArrayList;", true)
  | 9 => ("BrambleMesh", "allCalls", "Ljava/util/ArrayList;", true)
  | _ => ("BrambleMesh", "allRepairs", "Ljava/util/ArrayList;", true)
def tyX8 : Nat → FieldType := fun k => match k with
  | 0 => .int
  | 1 => .int
  | 2 => .int
  | 3 => .int
  | 4 => .array (.array .int)
  | 5 => .array (.object "BrambleMesh$Service")
  | 6 => .array (.object "BrambleMesh$Caller")
  | 7 => .object "java/util/ArrayList"
  | 8 => .object "java/util/ArrayList"
  | 9 => .object "java/util/ArrayList"
  | _ => .object "java/util/ArrayList"
abbrev wsX80 : List Cond := u_ws RX8 TX8 11
theorem nmX8 : ∀ a, a < 11 → ∀ b, b < 11 → a ≠ b → (TX8 a).2.1 ≠ (TX8 b).2.1 := by decide +kernel
theorem tyX8_ok : ∀ k, k < 11 → parseFieldDescriptor (TX8 k).2.2.1 = some (tyX8 k) := by decide +kernel
abbrev cX8_init : ByteArray := prog_1_method_1_code
def yX8_init : MethodName := ⟨RX8, "<init>", "()V"⟩
abbrev cX8_work : ByteArray := prog_1_method_2_code
def yX8_work : MethodName := ⟨RX8, "work", "(II)I"⟩
abbrev cX8_step : ByteArray := prog_1_method_3_code
def yX8_step : MethodName := ⟨RX8, "step", "(IIZI)I"⟩
abbrev cX8_instance : ByteArray := prog_1_method_4_code
def yX8_instance : MethodName := ⟨RX8, "instance", "(IIIIII)I"⟩
abbrev cX8_fault : ByteArray := prog_1_method_5_code
def yX8_fault : MethodName := ⟨RX8, "fault", "(III)I"⟩
abbrev cX8_policy : ByteArray := prog_1_method_6_code
def yX8_policy : MethodName := ⟨RX8, "policy", "(IIII)I"⟩
abbrev cX8_share : ByteArray := prog_1_method_7_code
def yX8_share : MethodName := ⟨RX8, "share", "(II)I"⟩
abbrev cX8_eyes : ByteArray := prog_1_method_8_code
def yX8_eyes : MethodName := ⟨RX8, "eyes", "(I)I"⟩
abbrev cX8_canary : ByteArray := prog_1_method_9_code
def yX8_canary : MethodName := ⟨RX8, "canary", "(II)I"⟩
abbrev cX8_traces : ByteArray := prog_1_method_10_code
def yX8_traces : MethodName := ⟨RX8, "traces", "(II)V"⟩
abbrev cX8_request : ByteArray := prog_1_method_11_code
def yX8_request : MethodName := ⟨RX8, "request", "(IZI)I"⟩
abbrev cX8_pass : ByteArray := prog_1_method_12_code
def yX8_pass : MethodName := ⟨RX8, "pass", "(I)I"⟩
abbrev cX8_tick : ByteArray := prog_1_method_13_code
def yX8_tick : MethodName := ⟨RX8, "tick", "()I"⟩
abbrev cX8_requestState : ByteArray := prog_1_method_14_code
def yX8_requestState : MethodName := ⟨RX8, "requestState", "(I)I"⟩
abbrev cX8_requestTicks : ByteArray := prog_1_method_15_code
def yX8_requestTicks : MethodName := ⟨RX8, "requestTicks", "(I)I"⟩
abbrev cX8_isKept : ByteArray := prog_1_method_16_code
def yX8_isKept : MethodName := ⟨RX8, "isKept", "(I)Z"⟩
abbrev cX8_callsOf : ByteArray := prog_1_method_17_code
def yX8_callsOf : MethodName := ⟨RX8, "callsOf", "(I)I"⟩
abbrev cX8_calls : ByteArray := prog_1_method_18_code
def yX8_calls : MethodName := ⟨RX8, "calls", "()I"⟩
abbrev cX8_call : ByteArray := prog_1_method_19_code
def yX8_call : MethodName := ⟨RX8, "call", "(II)I"⟩
abbrev cX8_budget : ByteArray := prog_1_method_20_code
def yX8_budget : MethodName := ⟨RX8, "budget", "(I)I"⟩
abbrev cX8_breaker : ByteArray := prog_1_method_21_code
def yX8_breaker : MethodName := ⟨RX8, "breaker", "(II)I"⟩
abbrev cX8_isShunned : ByteArray := prog_1_method_22_code
def yX8_isShunned : MethodName := ⟨RX8, "isShunned", "(I)Z"⟩
abbrev cX8_load : ByteArray := prog_1_method_23_code
def yX8_load : MethodName := ⟨RX8, "load", "(IZ)I"⟩
abbrev cX8_canaryShare : ByteArray := prog_1_method_24_code
def yX8_canaryShare : MethodName := ⟨RX8, "canaryShare", "(I)I"⟩
abbrev cX8_repairs : ByteArray := prog_1_method_25_code
def yX8_repairs : MethodName := ⟨RX8, "repairs", "(Z)I"⟩
abbrev cX8_extra : ByteArray := prog_1_method_26_code
def yX8_extra : MethodName := ⟨RX8, "extra", "(I)I"⟩
abbrev cX8_first : ByteArray := prog_1_method_27_code
def yX8_first : MethodName := ⟨RX8, "first", "(I)I"⟩
abbrev cX8_isWithin : ByteArray := prog_1_method_28_code
def yX8_isWithin : MethodName := ⟨RX8, "isWithin", "(III)Z"⟩
abbrev cX8_mustExist : ByteArray := prog_1_method_29_code
def yX8_mustExist : MethodName := ⟨RX8, "mustExist", "(Z)V"⟩
abbrev cX8_mustFit : ByteArray := prog_1_method_30_code
def yX8_mustFit : MethodName := ⟨RX8, "mustFit", "(Z)V"⟩
abbrev cX8_mustBeAllowed : ByteArray := prog_1_method_31_code
def yX8_mustBeAllowed : MethodName := ⟨RX8, "mustBeAllowed", "(Z)V"⟩
abbrev cX8_policyPlace : ByteArray := prog_1_method_32_code
def yX8_policyPlace : MethodName := ⟨RX8, "policyPlace", "(II)I"⟩
abbrev cX8_policyOf : ByteArray := prog_1_method_33_code
def yX8_policyOf : MethodName := ⟨RX8, "policyOf", "(LBrambleMesh$Step;I)I"⟩
abbrev cX8_halfOpenBreakers : ByteArray := prog_1_method_34_code
def yX8_halfOpenBreakers : MethodName := ⟨RX8, "halfOpenBreakers", "()V"⟩
abbrev cX8_endLateCalls : ByteArray := prog_1_method_35_code
def yX8_endLateCalls : MethodName := ⟨RX8, "endLateCalls", "()V"⟩
abbrev cX8_endWork : ByteArray := prog_1_method_36_code
def yX8_endWork : MethodName := ⟨RX8, "endWork", "()V"⟩
abbrev cX8_goOnWithCalls : ByteArray := prog_1_method_37_code
def yX8_goOnWithCalls : MethodName := ⟨RX8, "goOnWithCalls", "()V"⟩
abbrev cX8_isDone : ByteArray := prog_1_method_38_code
def yX8_isDone : MethodName := ⟨RX8, "isDone", "(LBrambleMesh$Step;)Z"⟩
abbrev cX8_beginStep : ByteArray := prog_1_method_39_code
def yX8_beginStep : MethodName := ⟨RX8, "beginStep", "(LBrambleMesh$Call;I)LBrambleMesh$Step;"⟩
abbrev cX8_stepOf : ByteArray := prog_1_method_40_code
def yX8_stepOf : MethodName := ⟨RX8, "stepOf", "(LBrambleMesh$Call;LBrambleMesh$Service;I)LBrambleMesh$Step;"⟩
abbrev cX8_goOnWithRequests : ByteArray := prog_1_method_41_code
def yX8_goOnWithRequests : MethodName := ⟨RX8, "goOnWithRequests", "()V"⟩
abbrev cX8_goOnWithRepairs : ByteArray := prog_1_method_42_code
def yX8_goOnWithRepairs : MethodName := ⟨RX8, "goOnWithRepairs", "()V"⟩
abbrev cX8_runQueued : ByteArray := prog_1_method_43_code
def yX8_runQueued : MethodName := ⟨RX8, "runQueued", "()V"⟩
abbrev cX8_tellLoads : ByteArray := prog_1_method_44_code
def yX8_tellLoads : MethodName := ⟨RX8, "tellLoads", "()V"⟩
abbrev cX8_endIfOver : ByteArray := prog_1_method_45_code
def yX8_endIfOver : MethodName := ⟨RX8, "endIfOver", "(LBrambleMesh$Request;)V"⟩
abbrev cX8_endRequest : ByteArray := prog_1_method_46_code
def yX8_endRequest : MethodName := ⟨RX8, "endRequest", "(LBrambleMesh$Request;I)V"⟩
abbrev cX8_isKeptByHead : ByteArray := prog_1_method_47_code
def yX8_isKeptByHead : MethodName := ⟨RX8, "isKeptByHead", "(LBrambleMesh$Request;)Z"⟩
abbrev cX8_goOn : ByteArray := prog_1_method_48_code
def yX8_goOn : MethodName := ⟨RX8, "goOn", "(LBrambleMesh$Step;)V"⟩
abbrev cX8_lookAtEnds : ByteArray := prog_1_method_49_code
def yX8_lookAtEnds : MethodName := ⟨RX8, "lookAtEnds", "(LBrambleMesh$Step;)V"⟩
abbrev cX8_canPay : ByteArray := prog_1_method_50_code
def yX8_canPay : MethodName := ⟨RX8, "canPay", "(LBrambleMesh$Step;)Z"⟩
abbrev cX8_isHedgeDue : ByteArray := prog_1_method_51_code
def yX8_isHedgeDue : MethodName := ⟨RX8, "isHedgeDue", "(LBrambleMesh$Step;)Z"⟩
abbrev cX8_tryOnce : ByteArray := prog_1_method_52_code
def yX8_tryOnce : MethodName := ⟨RX8, "tryOnce", "(LBrambleMesh$Step;Z)V"⟩
abbrev cX8_choose : ByteArray := prog_1_method_53_code
def yX8_choose : MethodName := ⟨RX8, "choose", "(LBrambleMesh$Step;)LBrambleMesh$Instance;"⟩
abbrev cX8_canChoose : ByteArray := prog_1_method_54_code
def yX8_canChoose : MethodName := ⟨RX8, "canChoose", "(ILBrambleMesh$Instance;)Z"⟩
abbrev cX8_hasTryOutAt : ByteArray := prog_1_method_55_code
def yX8_hasTryOutAt : MethodName := ⟨RX8, "hasTryOutAt", "(ILBrambleMesh$Instance;)Z"⟩
abbrev cX8_place : ByteArray := prog_1_method_56_code
def yX8_place : MethodName := ⟨RX8, "place", "(LBrambleMesh$Call;)V"⟩
abbrev cX8_run : ByteArray := prog_1_method_57_code
def yX8_run : MethodName := ⟨RX8, "run", "(LBrambleMesh$Call;)V"⟩
abbrev cX8_end : ByteArray := prog_1_method_58_code
def yX8_end : MethodName := ⟨RX8, "end", "(LBrambleMesh$Call;II)V"⟩
abbrev cX8_close : ByteArray := prog_1_method_59_code
def yX8_close : MethodName := ⟨RX8, "close", "(LBrambleMesh$Step;I)V"⟩
abbrev cX8_beginRepairs : ByteArray := prog_1_method_60_code
def yX8_beginRepairs : MethodName := ⟨RX8, "beginRepairs", "(LBrambleMesh$Call;)V"⟩
def RX9 : String := "BrambleMeshModel"
def TX9 : u_T := fun k => match k with
  | 0 => ("BrambleMeshModel", "tick", "I", false)
  | 1 => ("BrambleMeshModel", "work", "[I", true)
  | 2 => ("BrambleMeshModel", "plan", "[I", true)
  | 3 => ("BrambleMeshModel", "called", "[I", true)
  | 4 => ("BrambleMeshModel", "isSafe", "[Z", true)
  | 5 => ("BrambleMeshModel", "undo", "[I", true)
  | 6 => ("BrambleMeshModel", "instances", "I", false)
  | 7 => ("BrambleMeshModel", "of", "[I", true)
  | 8 => ("BrambleMeshModel", "zone", "[I", true)
  | 9 => ("BrambleMeshModel", "weight", "[I", true)
  | 10 => ("BrambleMeshModel", "slots", "[I", true)
  | 11 => ("BrambleMeshModel", "queue", "[I", true)
  | 12 => ("BrambleMeshModel", "version", "[I", true)
  | 13 => ("BrambleMeshModel", "fault", "[I", true)
  | 14 => ("BrambleMeshModel", "told", "[I", true)
  | 15 => ("BrambleMeshModel", "policy", "[I", true)
  | 16 => ("BrambleMeshModel", "share", "[I", true)
  | 17 => ("BrambleMeshModel", "budget", "[I", true)
  | 18 => ("BrambleMeshModel", "first", "[I", true)
  | 19 => ("BrambleMeshModel", "extra", "[I", true)
  | 20 => ("BrambleMeshModel", "eyes", "I", false)
  | 21 => ("BrambleMeshModel", "breaker", "[I", true)
  | 22 => ("BrambleMeshModel", "row", "[I", true)
  | 23 => ("BrambleMeshModel", "opened", "[I", true)
  | 24 => ("BrambleMeshModel", "tries", "[I", true)
  | 25 => ("BrambleMeshModel", "canary", "[I", true)
  | 26 => ("BrambleMeshModel", "counted", "[I", true)
  | 27 => ("BrambleMeshModel", "ends", "[I", true)
  | 28 => ("BrambleMeshModel", "bad", "[I", true)
  | 29 => ("BrambleMeshModel", "rate", "I", false)
  | 30 => ("BrambleMeshModel", "limit", "I", false)
  | 31 => ("BrambleMeshModel", "calls", "I", false)
  | 32 => ("BrambleMeshModel", "owner", "[I", true)
  | 33 => ("BrambleMeshModel", "ownStep", "[I", true)
  | 34 => ("BrambleMeshModel", "service", "[I", true)
  | 35 => ("BrambleMeshModel", "caller", "[I", true)
  | 36 => ("BrambleMeshModel", "instance", "[I", true)
  | 37 => ("BrambleMeshModel", "state", "[I", true)
  | 38 => ("BrambleMeshModel", "deadline", "[I", true)
  | 39 => ("BrambleMeshModel", "doneAt", "[I", true)
  | 40 => ("BrambleMeshModel", "root", "[I", true)
  | 41 => ("BrambleMeshModel", "hasRun", "[Z", true)
  | 42 => ("BrambleMeshModel", "isLost", "[Z", true)
  | 43 => ("BrambleMeshModel", "isLooked", "[Z", true)
  | 44 => ("BrambleMeshModel", "wasCalling", "[Z", true)
  | 45 => ("BrambleMeshModel", "ending", "[I", true)
  | 46 => ("BrambleMeshModel", "step", "[I", true)
  | 47 => ("BrambleMeshModel", "began", "[I", true)
  | 48 => ("BrambleMeshModel", "tried", "[I", true)
  | 49 => ("BrambleMeshModel", "retried", "[I", true)
  | 50 => ("BrambleMeshModel", "lastEnd", "[I", true)
  | 51 => ("BrambleMeshModel", "requests", "I", false)
  | 52 => ("BrambleMeshModel", "wanted", "[I", true)
  | 53 => ("BrambleMeshModel", "isSafeRequest", "[Z", true)
  | 54 => ("BrambleMeshModel", "until", "[I", true)
  | 55 => ("BrambleMeshModel", "madeAt", "[I", true)
  | 56 => ("BrambleMeshModel", "requestState", "[I", true)
  | 57 => ("BrambleMeshModel", "endedAt", "[I", true)
  | 58 => ("BrambleMeshModel", "isKept", "[Z", true)
  | 59 => ("BrambleMeshModel", "repairs", "I", false)
  | 60 => ("BrambleMeshModel", "made", "I", false)
  | 61 => ("BrambleMeshModel", "mender", "[I", true)
  | 62 => ("BrambleMeshModel", "mends", "[I", true)
  | 63 => ("BrambleMeshModel", "isMade", "[Z", true)
  | _ => ("BrambleMeshModel", "thrown", "I", false)
def tyX9 : Nat → FieldType := fun k => match k with
  | 0 => .int
  | 1 => .array .int
  | 2 => .array .int
  | 3 => .array .int
  | 4 => .array .boolean
  | 5 => .array .int
  | 6 => .int
  | 7 => .array .int
  | 8 => .array .int
  | 9 => .array .int
  | 10 => .array .int
  | 11 => .array .int
  | 12 => .array .int
  | 13 => .array .int
  | 14 => .array .int
  | 15 => .array .int
  | 16 => .array .int
  | 17 => .array .int
  | 18 => .array .int
  | 19 => .array .int
  | 20 => .int
  | 21 => .array .int
  | 22 => .array .int
  | 23 => .array .int
  | 24 => .array .int
  | 25 => .array .int
  | 26 => .array .int
  | 27 => .array .int
  | 28 => .array .int
  | 29 => .int
  | 30 => .int
  | 31 => .int
  | 32 => .array .int
  | 33 => .array .int
  | 34 => .array .int
  | 35 => .array .int
  | 36 => .array .int
  | 37 => .array .int
  | 38 => .array .int
  | 39 => .array .int
  | 40 => .array .int
  | 41 => .array .boolean
  | 42 => .array .boolean
  | 43 => .array .boolean
  | 44 => .array .boolean
  | 45 => .array .int
  | 46 => .array .int
  | 47 => .array .int
  | 48 => .array .int
  | 49 => .array .int
  | 50 => .array .int
  | 51 => .int
  | 52 => .array .int
  | 53 => .array .boolean
  | 54 => .array .int
  | 55 => .array .int
  | 56 => .array .int
  | 57 => .array .int
  | 58 => .array .boolean
  | 59 => .int
  | 60 => .int
  | 61 => .array .int
  | 62 => .array .int
  | 63 => .array .boolean
  | _ => .int
abbrev wsX90 : List Cond := u_ws RX9 TX9 65
theorem nmX9 : ∀ a, a < 65 → ∀ b, b < 65 → a ≠ b → (TX9 a).2.1 ≠ (TX9 b).2.1 := by decide +kernel
theorem tyX9_ok : ∀ k, k < 65 → parseFieldDescriptor (TX9 k).2.2.1 = some (tyX9 k) := by decide +kernel
abbrev cX9_init : ByteArray := prog_11_method_1_code
def yX9_init : MethodName := ⟨RX9, "<init>", "()V"⟩
abbrev cX9_thrown : ByteArray := prog_11_method_2_code
def yX9_thrown : MethodName := ⟨RX9, "thrown", "()I"⟩
abbrev cX9_in : ByteArray := prog_11_method_3_code
def yX9_in : MethodName := ⟨RX9, "in", "(III)Z"⟩
abbrev cX9_goes : ByteArray := prog_11_method_4_code
def yX9_goes : MethodName := ⟨RX9, "goes", "(ZZZ)Z"⟩
abbrev cX9_isService : ByteArray := prog_11_method_5_code
def yX9_isService : MethodName := ⟨RX9, "isService", "(I)Z"⟩
abbrev cX9_isCaller : ByteArray := prog_11_method_6_code
def yX9_isCaller : MethodName := ⟨RX9, "isCaller", "(I)Z"⟩
abbrev cX9_isInstance : ByteArray := prog_11_method_7_code
def yX9_isInstance : MethodName := ⟨RX9, "isInstance", "(I)Z"⟩
abbrev cX9_isRequest : ByteArray := prog_11_method_8_code
def yX9_isRequest : MethodName := ⟨RX9, "isRequest", "(I)Z"⟩
abbrev cX9_work : ByteArray := prog_11_method_9_code
def yX9_work : MethodName := ⟨RX9, "work", "(II)I"⟩
abbrev cX9_step : ByteArray := prog_11_method_10_code
def yX9_step : MethodName := ⟨RX9, "step", "(IIZI)I"⟩
abbrev cX9_instance : ByteArray := prog_11_method_11_code
def yX9_instance : MethodName := ⟨RX9, "instance", "(IIIIII)I"⟩
abbrev cX9_fault : ByteArray := prog_11_method_12_code
def yX9_fault : MethodName := ⟨RX9, "fault", "(III)I"⟩
abbrev cX9_policyPlace : ByteArray := prog_11_method_13_code
def yX9_policyPlace : MethodName := ⟨RX9, "policyPlace", "(II)I"⟩
abbrev cX9_policy : ByteArray := prog_11_method_14_code
def yX9_policy : MethodName := ⟨RX9, "policy", "(IIII)I"⟩
abbrev cX9_policyOf : ByteArray := prog_11_method_15_code
def yX9_policyOf : MethodName := ⟨RX9, "policyOf", "(III)I"⟩
abbrev cX9_share : ByteArray := prog_11_method_16_code
def yX9_share : MethodName := ⟨RX9, "share", "(II)I"⟩
abbrev cX9_eyes : ByteArray := prog_11_method_17_code
def yX9_eyes : MethodName := ⟨RX9, "eyes", "(I)I"⟩
abbrev cX9_canary : ByteArray := prog_11_method_18_code
def yX9_canary : MethodName := ⟨RX9, "canary", "(II)I"⟩
abbrev cX9_traces : ByteArray := prog_11_method_19_code
def yX9_traces : MethodName := ⟨RX9, "traces", "(II)V"⟩
abbrev cX9_countOf : ByteArray := prog_11_method_20_code
def yX9_countOf : MethodName := ⟨RX9, "countOf", "(III)I"⟩
abbrev cX9_hasEnded : ByteArray := prog_11_method_21_code
def yX9_hasEnded : MethodName := ⟨RX9, "hasEnded", "(I)Z"⟩
abbrev cX9_runs : ByteArray := prog_11_method_22_code
def yX9_runs : MethodName := ⟨RX9, "runs", "(I)V"⟩
abbrev cX9_setsEnd : ByteArray := prog_11_method_23_code
def yX9_setsEnd : MethodName := ⟨RX9, "setsEnd", "(II)V"⟩
abbrev cX9_liveOf : ByteArray := prog_11_method_24_code
def yX9_liveOf : MethodName := ⟨RX9, "liveOf", "(II)I"⟩
abbrev cX9_hasRunIn : ByteArray := prog_11_method_25_code
def yX9_hasRunIn : MethodName := ⟨RX9, "hasRunIn", "(II)Z"⟩
abbrev cX9_repairsFor : ByteArray := prog_11_method_26_code
def yX9_repairsFor : MethodName := ⟨RX9, "repairsFor", "(I)V"⟩
abbrev cX9_endsCall : ByteArray := prog_11_method_27_code
def yX9_endsCall : MethodName := ⟨RX9, "endsCall", "(II)V"⟩
abbrev cX9_turnsOff : ByteArray := prog_11_method_28_code
def yX9_turnsOff : MethodName := ⟨RX9, "turnsOff", "(I)V"⟩
abbrev cX9_isKnown : ByteArray := prog_11_method_29_code
def yX9_isKnown : MethodName := ⟨RX9, "isKnown", "(I)Z"⟩
abbrev cX9_goesOn : ByteArray := prog_11_method_30_code
def yX9_goesOn : MethodName := ⟨RX9, "goesOn", "(I)Z"⟩
abbrev cX9_isOut : ByteArray := prog_11_method_31_code
def yX9_isOut : MethodName := ⟨RX9, "isOut", "(I)Z"⟩
abbrev cX9_looksAt : ByteArray := prog_11_method_32_code
def yX9_looksAt : MethodName := ⟨RX9, "looksAt", "(I)Z"⟩
abbrev cX9_judges : ByteArray := prog_11_method_33_code
def yX9_judges : MethodName := ⟨RX9, "judges", "(III)V"⟩
abbrev cX9_isAvoided : ByteArray := prog_11_method_34_code
def yX9_isAvoided : MethodName := ⟨RX9, "isAvoided", "(I)Z"⟩
abbrev cX9_hasOut : ByteArray := prog_11_method_35_code
def yX9_hasOut : MethodName := ⟨RX9, "hasOut", "(II)Z"⟩
abbrev cX9_hasTried : ByteArray := prog_11_method_36_code
def yX9_hasTried : MethodName := ⟨RX9, "hasTried", "(II)Z"⟩
abbrev cX9_canChoose : ByteArray := prog_11_method_37_code
def yX9_canChoose : MethodName := ⟨RX9, "canChoose", "(III)Z"⟩
abbrev cX9_burden : ByteArray := prog_11_method_38_code
def yX9_burden : MethodName := ⟨RX9, "burden", "(III)I"⟩
abbrev cX9_chosen : ByteArray := prog_11_method_39_code
def yX9_chosen : MethodName := ⟨RX9, "chosen", "(IIII)I"⟩
abbrev cX9_callerOf : ByteArray := prog_11_method_40_code
def yX9_callerOf : MethodName := ⟨RX9, "callerOf", "(I)I"⟩
abbrev cX9_calledBy : ByteArray := prog_11_method_41_code
def yX9_calledBy : MethodName := ⟨RX9, "calledBy", "(I)I"⟩
abbrev cX9_isSafeOf : ByteArray := prog_11_method_42_code
def yX9_isSafeOf : MethodName := ⟨RX9, "isSafeOf", "(I)Z"⟩
abbrev cX9_wantedVersion : ByteArray := prog_11_method_43_code
def yX9_wantedVersion : MethodName := ⟨RX9, "wantedVersion", "(I)I"⟩
abbrev cX9_tries : ByteArray := prog_11_method_44_code
def yX9_tries : MethodName := ⟨RX9, "tries", "(II)V"⟩
abbrev cX9_begins : ByteArray := prog_11_method_45_code
def yX9_begins : MethodName := ⟨RX9, "begins", "(I)V"⟩
abbrev cX9_looks : ByteArray := prog_11_method_46_code
def yX9_looks : MethodName := ⟨RX9, "looks", "(I)Z"⟩
abbrev cX9_hasOutOf : ByteArray := prog_11_method_47_code
def yX9_hasOutOf : MethodName := ⟨RX9, "hasOutOf", "(I)Z"⟩
abbrev cX9_goesStep : ByteArray := prog_11_method_48_code
def yX9_goesStep : MethodName := ⟨RX9, "goesStep", "(I)I"⟩
abbrev cX9_goesCall : ByteArray := prog_11_method_49_code
def yX9_goesCall : MethodName := ⟨RX9, "goesCall", "(I)V"⟩
abbrev cX9_endsRequest : ByteArray := prog_11_method_50_code
def yX9_endsRequest : MethodName := ⟨RX9, "endsRequest", "(II)V"⟩
abbrev cX9_goesRequest : ByteArray := prog_11_method_51_code
def yX9_goesRequest : MethodName := ⟨RX9, "goesRequest", "(I)V"⟩
abbrev cX9_request : ByteArray := prog_11_method_52_code
def yX9_request : MethodName := ⟨RX9, "request", "(IZI)I"⟩
abbrev cX9_goesRepair : ByteArray := prog_11_method_53_code
def yX9_goesRepair : MethodName := ⟨RX9, "goesRepair", "(I)V"⟩
abbrev cX9_finishesWork : ByteArray := prog_11_method_54_code
def yX9_finishesWork : MethodName := ⟨RX9, "finishesWork", "(I)V"⟩
abbrev cX9_dequeues : ByteArray := prog_11_method_55_code
def yX9_dequeues : MethodName := ⟨RX9, "dequeues", "(I)V"⟩
abbrev cX9_passes : ByteArray := prog_11_method_56_code
def yX9_passes : MethodName := ⟨RX9, "passes", "()V"⟩
abbrev cX9_pass : ByteArray := prog_11_method_57_code
def yX9_pass : MethodName := ⟨RX9, "pass", "(I)I"⟩
abbrev cX9_tick : ByteArray := prog_11_method_58_code
def yX9_tick : MethodName := ⟨RX9, "tick", "()I"⟩
abbrev cX9_requestState : ByteArray := prog_11_method_59_code
def yX9_requestState : MethodName := ⟨RX9, "requestState", "(I)I"⟩
abbrev cX9_requestTicks : ByteArray := prog_11_method_60_code
def yX9_requestTicks : MethodName := ⟨RX9, "requestTicks", "(I)I"⟩
abbrev cX9_isKept : ByteArray := prog_11_method_61_code
def yX9_isKept : MethodName := ⟨RX9, "isKept", "(I)Z"⟩
abbrev cX9_callsOf : ByteArray := prog_11_method_62_code
def yX9_callsOf : MethodName := ⟨RX9, "callsOf", "(I)I"⟩
abbrev cX9_calls : ByteArray := prog_11_method_63_code
def yX9_calls : MethodName := ⟨RX9, "calls", "()I"⟩
abbrev cX9_toldOf : ByteArray := prog_11_method_64_code
def yX9_toldOf : MethodName := ⟨RX9, "toldOf", "(II)I"⟩
abbrev cX9_call : ByteArray := prog_11_method_65_code
def yX9_call : MethodName := ⟨RX9, "call", "(II)I"⟩
abbrev cX9_budget : ByteArray := prog_11_method_66_code
def yX9_budget : MethodName := ⟨RX9, "budget", "(I)I"⟩
abbrev cX9_breaker : ByteArray := prog_11_method_67_code
def yX9_breaker : MethodName := ⟨RX9, "breaker", "(II)I"⟩
abbrev cX9_isShunned : ByteArray := prog_11_method_68_code
def yX9_isShunned : MethodName := ⟨RX9, "isShunned", "(I)Z"⟩
abbrev cX9_load : ByteArray := prog_11_method_69_code
def yX9_load : MethodName := ⟨RX9, "load", "(IZ)I"⟩
abbrev cX9_canaryShare : ByteArray := prog_11_method_70_code
def yX9_canaryShare : MethodName := ⟨RX9, "canaryShare", "(I)I"⟩
abbrev cX9_repairs : ByteArray := prog_11_method_71_code
def yX9_repairs : MethodName := ⟨RX9, "repairs", "(Z)I"⟩
abbrev cX9_extra : ByteArray := prog_11_method_72_code
def yX9_extra : MethodName := ⟨RX9, "extra", "(I)I"⟩
abbrev cX9_first : ByteArray := prog_11_method_73_code
def yX9_first : MethodName := ⟨RX9, "first", "(I)I"⟩
def RJx145de : String := "java/io/Serializable"
def TJx145de : u_T := fun k => match k with
  | _ => ("", "", "", false)
def tyJx145de : Nat → FieldType := fun k => match k with
  | _ => .int
abbrev wsJx145de0 : List Cond := u_ws RJx145de TJx145de 0
theorem nmJx145de : ∀ a, a < 0 → ∀ b, b < 0 → a ≠ b → (TJx145de a).2.1 ≠ (TJx145de b).2.1 := by decide +kernel
theorem tyJx145de_ok : ∀ k, k < 0 → parseFieldDescriptor (TJx145de k).2.2.1 = some (tyJx145de k) := by decide +kernel
def RJx8e188 : String := "java/lang/Cloneable"
def TJx8e188 : u_T := fun k => match k with
  | _ => ("", "", "", false)
def tyJx8e188 : Nat → FieldType := fun k => match k with
  | _ => .int
abbrev wsJx8e1880 : List Cond := u_ws RJx8e188 TJx8e188 0
theorem nmJx8e188 : ∀ a, a < 0 → ∀ b, b < 0 → a ≠ b → (TJx8e188 a).2.1 ≠ (TJx8e188 b).2.1 := by decide +kernel
theorem tyJx8e188_ok : ∀ k, k < 0 → parseFieldDescriptor (TJx8e188 k).2.2.1 = some (tyJx8e188 k) := by decide +kernel
def RJxab1ab : String := "java/lang/Iterable"
def TJxab1ab : u_T := fun k => match k with
  | _ => ("", "", "", false)
def tyJxab1ab : Nat → FieldType := fun k => match k with
  | _ => .int
abbrev wsJxab1ab0 : List Cond := u_ws RJxab1ab TJxab1ab 0
theorem nmJxab1ab : ∀ a, a < 0 → ∀ b, b < 0 → a ≠ b → (TJxab1ab a).2.1 ≠ (TJxab1ab b).2.1 := by decide +kernel
theorem tyJxab1ab_ok : ∀ k, k < 0 → parseFieldDescriptor (TJxab1ab k).2.2.1 = some (tyJxab1ab k) := by decide +kernel
def RJ9 : String := "java/lang/Math"
def TJ9 : u_T := fun k => match k with
  | _ => ("", "", "", false)
def tyJ9 : Nat → FieldType := fun k => match k with
  | _ => .int
abbrev wsJ90 : List Cond := u_ws RJ9 TJ9 0
theorem nmJ9 : ∀ a, a < 0 → ∀ b, b < 0 → a ≠ b → (TJ9 a).2.1 ≠ (TJ9 b).2.1 := by decide +kernel
theorem tyJ9_ok : ∀ k, k < 0 → parseFieldDescriptor (TJ9 k).2.2.1 = some (tyJ9 k) := by decide +kernel
abbrev cJ9_max_7cf53 : ByteArray := prog_19_method_65_code
def yJ9_max_7cf53 : MethodName := ⟨RJ9, "max", "(II)I"⟩
abbrev cJ9_min_7cf53 : ByteArray := prog_19_method_69_code
def yJ9_min_7cf53 : MethodName := ⟨RJ9, "min", "(II)I"⟩
def RJ0 : String := "java/lang/String"
def TJ0 : u_T := fun k => match k with
  | _ => ("", "", "", false)
def tyJ0 : Nat → FieldType := fun k => match k with
  | _ => .int
abbrev wsJ00 : List Cond := u_ws RJ0 TJ0 0
theorem nmJ0 : ∀ a, a < 0 → ∀ b, b < 0 → a ≠ b → (TJ0 a).2.1 ≠ (TJ0 b).2.1 := by decide +kernel
theorem tyJ0_ok : ∀ k, k < 0 → parseFieldDescriptor (TJ0 k).2.2.1 = some (tyJ0 k) := by decide +kernel
def RJ10 : String := "java/lang/System"
def TJ10 : u_T := fun k => match k with
  | _ => ("", "", "", false)
def tyJ10 : Nat → FieldType := fun k => match k with
  | _ => .int
abbrev wsJ100 : List Cond := u_ws RJ10 TJ10 0
theorem nmJ10 : ∀ a, a < 0 → ∀ b, b < 0 → a ≠ b → (TJ10 a).2.1 ≠ (TJ10 b).2.1 := by decide +kernel
theorem tyJ10_ok : ∀ k, k < 0 → parseFieldDescriptor (TJ10 k).2.2.1 = some (tyJ10 k) := by decide +kernel
def RJxa1e45 : String := "java/util/AbstractCollection"
def TJxa1e45 : u_T := fun k => match k with
  | _ => ("", "", "", false)
def tyJxa1e45 : Nat → FieldType := fun k => match k with
  | _ => .int
abbrev wsJxa1e450 : List Cond := u_ws RJxa1e45 TJxa1e45 0
theorem nmJxa1e45 : ∀ a, a < 0 → ∀ b, b < 0 → a ≠ b → (TJxa1e45 a).2.1 ≠ (TJxa1e45 b).2.1 := by decide +kernel
theorem tyJxa1e45_ok : ∀ k, k < 0 → parseFieldDescriptor (TJxa1e45 k).2.2.1 = some (tyJxa1e45 k) := by decide +kernel
abbrev cJxa1e45_init_da8c8 : ByteArray := prog_24_method_1_code
def yJxa1e45_init_da8c8 : MethodName := ⟨RJxa1e45, "<init>", "()V"⟩
def RJxc12de : String := "java/util/AbstractList"
def TJxc12de : u_T := fun k => match k with
  | _ => ("", "", "", false)
def tyJxc12de : Nat → FieldType := fun k => match k with
  | _ => .int
abbrev wsJxc12de0 : List Cond := u_ws RJxc12de TJxc12de 0
theorem nmJxc12de : ∀ a, a < 0 → ∀ b, b < 0 → a ≠ b → (TJxc12de a).2.1 ≠ (TJxc12de b).2.1 := by decide +kernel
theorem tyJxc12de_ok : ∀ k, k < 0 → parseFieldDescriptor (TJxc12de k).2.2.1 = some (tyJxc12de k) := by decide +kernel
abbrev cJxc12de_init_da8c8 : ByteArray := prog_25_method_1_code
def yJxc12de_init_da8c8 : MethodName := ⟨RJxc12de, "<init>", "()V"⟩
def RJx4a65c : String := "java/util/ArrayList"
def TJx4a65c : u_T := fun k => match k with
  | 0 => ("java/util/AbstractList", "modCount", "I", false)
  | 1 => ("java/util/ArrayList", "elementData", "[Ljava/lang/Object;", false)
  | _ => ("java/util/ArrayList", "size", "I", false)
def tyJx4a65c : Nat → FieldType := fun k => match k with
  | 0 => .int
  | 1 => .array (.object "java/lang/Object")
  | _ => .int
abbrev wsJx4a65c0 : List Cond := u_ws RJx4a65c TJx4a65c 3
theorem nmJx4a65c : ∀ a, a < 3 → ∀ b, b < 3 → a ≠ b → (TJx4a65c a).2.1 ≠ (TJx4a65c b).2.1 := by decide +kernel
theorem tyJx4a65c_ok : ∀ k, k < 3 → parseFieldDescriptor (TJx4a65c k).2.2.1 = some (tyJx4a65c k) := by decide +kernel
abbrev cJx4a65c_init_da8c8 : ByteArray := prog_26_method_2_code
def yJx4a65c_init_da8c8 : MethodName := ⟨RJx4a65c, "<init>", "()V"⟩
abbrev cJx4a65c_grow_92f84 : ByteArray := prog_26_method_6_code
def yJx4a65c_grow_92f84 : MethodName := ⟨RJx4a65c, "grow", "(I)[Ljava/lang/Object;"⟩
abbrev cJx4a65c_grow_d5877 : ByteArray := prog_26_method_7_code
def yJx4a65c_grow_d5877 : MethodName := ⟨RJx4a65c, "grow", "()[Ljava/lang/Object;"⟩
abbrev cJx4a65c_size_8abf5 : ByteArray := prog_26_method_8_code
def yJx4a65c_size_8abf5 : MethodName := ⟨RJx4a65c, "size", "()I"⟩
abbrev cJx4a65c_isEmpty_aae02 : ByteArray := prog_26_method_9_code
def yJx4a65c_isEmpty_aae02 : MethodName := ⟨RJx4a65c, "isEmpty", "()Z"⟩
abbrev cJx4a65c_elementData_915e3 : ByteArray := prog_26_method_18_code
def yJx4a65c_elementData_915e3 : MethodName := ⟨RJx4a65c, "elementData", "(I)Ljava/lang/Object;"⟩
abbrev cJx4a65c_get_915e3 : ByteArray := prog_26_method_20_code
def yJx4a65c_get_915e3 : MethodName := ⟨RJx4a65c, "get", "(I)Ljava/lang/Object;"⟩
abbrev cJx4a65c_add_72be8 : ByteArray := prog_26_method_24_code
def yJx4a65c_add_72be8 : MethodName := ⟨RJx4a65c, "add", "(Ljava/lang/Object;[Ljava/lang/Object;I)V"⟩
abbrev cJx4a65c_add_9ea2d : ByteArray := prog_26_method_25_code
def yJx4a65c_add_9ea2d : MethodName := ⟨RJx4a65c, "add", "(Ljava/lang/Object;)Z"⟩
abbrev cJx4a65c_remove_915e3 : ByteArray := prog_26_method_29_code
def yJx4a65c_remove_915e3 : MethodName := ⟨RJx4a65c, "remove", "(I)Ljava/lang/Object;"⟩
abbrev cJx4a65c_fastRemove_b59b0 : ByteArray := prog_26_method_39_code
def yJx4a65c_fastRemove_b59b0 : MethodName := ⟨RJx4a65c, "fastRemove", "([Ljava/lang/Object;I)V"⟩
def RJ7 : String := "java/util/Arrays"
def TJ7 : u_T := fun k => match k with
  | _ => ("", "", "", false)
def tyJ7 : Nat → FieldType := fun k => match k with
  | _ => .int
abbrev wsJ70 : List Cond := u_ws RJ7 TJ7 0
theorem nmJ7 : ∀ a, a < 0 → ∀ b, b < 0 → a ≠ b → (TJ7 a).2.1 ≠ (TJ7 b).2.1 := by decide +kernel
theorem tyJ7_ok : ∀ k, k < 0 → parseFieldDescriptor (TJ7 k).2.2.1 = some (tyJ7 k) := by decide +kernel
abbrev cJ7_copyOf_1904c : ByteArray := prog_27_method_119_code
def yJ7_copyOf_1904c : MethodName := ⟨RJ7, "copyOf", "([Ljava/lang/Object;I)[Ljava/lang/Object;"⟩
abbrev cJ7_copyOf_6403c : ByteArray := prog_27_method_120_code
def yJ7_copyOf_6403c : MethodName := ⟨RJ7, "copyOf", "([Ljava/lang/Object;ILjava/lang/Class;)[Ljava/lang/Object;"⟩
def RJx5ef63 : String := "java/util/Collection"
def TJx5ef63 : u_T := fun k => match k with
  | _ => ("", "", "", false)
def tyJx5ef63 : Nat → FieldType := fun k => match k with
  | _ => .int
abbrev wsJx5ef630 : List Cond := u_ws RJx5ef63 TJx5ef63 0
theorem nmJx5ef63 : ∀ a, a < 0 → ∀ b, b < 0 → a ≠ b → (TJx5ef63 a).2.1 ≠ (TJx5ef63 b).2.1 := by decide +kernel
theorem tyJx5ef63_ok : ∀ k, k < 0 → parseFieldDescriptor (TJx5ef63 k).2.2.1 = some (tyJx5ef63 k) := by decide +kernel
def RJxbd725 : String := "java/util/List"
def TJxbd725 : u_T := fun k => match k with
  | _ => ("", "", "", false)
def tyJxbd725 : Nat → FieldType := fun k => match k with
  | _ => .int
abbrev wsJxbd7250 : List Cond := u_ws RJxbd725 TJxbd725 0
theorem nmJxbd725 : ∀ a, a < 0 → ∀ b, b < 0 → a ≠ b → (TJxbd725 a).2.1 ≠ (TJxbd725 b).2.1 := by decide +kernel
theorem tyJxbd725_ok : ∀ k, k < 0 → parseFieldDescriptor (TJxbd725 k).2.2.1 = some (tyJxbd725 k) := by decide +kernel
def RJ15 : String := "java/util/Objects"
def TJ15 : u_T := fun k => match k with
  | _ => ("", "", "", false)
def tyJ15 : Nat → FieldType := fun k => match k with
  | _ => .int
abbrev wsJ150 : List Cond := u_ws RJ15 TJ15 0
theorem nmJ15 : ∀ a, a < 0 → ∀ b, b < 0 → a ≠ b → (TJ15 a).2.1 ≠ (TJ15 b).2.1 := by decide +kernel
theorem tyJ15_ok : ∀ k, k < 0 → parseFieldDescriptor (TJ15 k).2.2.1 = some (tyJ15 k) := by decide +kernel
abbrev cJ15_checkIndex_7cf53 : ByteArray := prog_30_method_17_code
def yJ15_checkIndex_7cf53 : MethodName := ⟨RJ15, "checkIndex", "(II)I"⟩
def RJxf0a74 : String := "java/util/RandomAccess"
def TJxf0a74 : u_T := fun k => match k with
  | _ => ("", "", "", false)
def tyJxf0a74 : Nat → FieldType := fun k => match k with
  | _ => .int
abbrev wsJxf0a740 : List Cond := u_ws RJxf0a74 TJxf0a74 0
theorem nmJxf0a74 : ∀ a, a < 0 → ∀ b, b < 0 → a ≠ b → (TJxf0a74 a).2.1 ≠ (TJxf0a74 b).2.1 := by decide +kernel
theorem tyJxf0a74_ok : ∀ k, k < 0 → parseFieldDescriptor (TJxf0a74 k).2.2.1 = some (tyJxf0a74 k) := by decide +kernel
def RJxa66e6 : String := "java/util/SequencedCollection"
def TJxa66e6 : u_T := fun k => match k with
  | _ => ("", "", "", false)
def tyJxa66e6 : Nat → FieldType := fun k => match k with
  | _ => .int
abbrev wsJxa66e60 : List Cond := u_ws RJxa66e6 TJxa66e6 0
theorem nmJxa66e6 : ∀ a, a < 0 → ∀ b, b < 0 → a ≠ b → (TJxa66e6 a).2.1 ≠ (TJxa66e6 b).2.1 := by decide +kernel
theorem tyJxa66e6_ok : ∀ k, k < 0 → parseFieldDescriptor (TJxa66e6 k).2.2.1 = some (tyJxa66e6 k) := by decide +kernel
def RJ8 : String := "jdk/internal/util/ArraysSupport"
def TJ8 : u_T := fun k => match k with
  | _ => ("", "", "", false)
def tyJ8 : Nat → FieldType := fun k => match k with
  | _ => .int
abbrev wsJ80 : List Cond := u_ws RJ8 TJ8 0
theorem nmJ8 : ∀ a, a < 0 → ∀ b, b < 0 → a ≠ b → (TJ8 a).2.1 ≠ (TJ8 b).2.1 := by decide +kernel
theorem tyJ8_ok : ∀ k, k < 0 → parseFieldDescriptor (TJ8 k).2.2.1 = some (tyJ8 k) := by decide +kernel
abbrev cJ8_newLength_cabcc : ByteArray := prog_33_method_27_code
def yJ8_newLength_cabcc : MethodName := ⟨RJ8, "newLength", "(III)I"⟩
abbrev cJ8_hugeLength_7cf53 : ByteArray := prog_33_method_28_code
def yJ8_hugeLength_7cf53 : MethodName := ⟨RJ8, "hugeLength", "(II)I"⟩
def RJ3 : String := "jdk/internal/util/Preconditions"
def TJ3 : u_T := fun k => match k with
  | _ => ("", "", "", false)
def tyJ3 : Nat → FieldType := fun k => match k with
  | _ => .int
abbrev wsJ30 : List Cond := u_ws RJ3 TJ3 0
theorem nmJ3 : ∀ a, a < 0 → ∀ b, b < 0 → a ≠ b → (TJ3 a).2.1 ≠ (TJ3 b).2.1 := by decide +kernel
theorem tyJ3_ok : ∀ k, k < 0 → parseFieldDescriptor (TJ3 k).2.2.1 = some (tyJ3 k) := by decide +kernel
abbrev cJ3_checkIndex_8e157 : ByteArray := prog_34_method_11_code
def yJ3_checkIndex_8e157 : MethodName := ⟨RJ3, "checkIndex", "(IILjava/util/function/BiFunction;)I"⟩
def RL : String := "BrambleMeshLaw"
abbrev cL_work : ByteArray := method_3_code
def yL_work : MethodName := ⟨RL, "work", "(LBrambleMesh;II[J)I"⟩
abbrev cL_step : ByteArray := method_4_code
def yL_step : MethodName := ⟨RL, "step", "(LBrambleMesh;IIZI[J)I"⟩
abbrev cL_instance : ByteArray := method_5_code
def yL_instance : MethodName := ⟨RL, "instance", "(LBrambleMesh;IIIIII[J)I"⟩
abbrev cL_fault : ByteArray := method_6_code
def yL_fault : MethodName := ⟨RL, "fault", "(LBrambleMesh;III[J)I"⟩
abbrev cL_policy : ByteArray := method_7_code
def yL_policy : MethodName := ⟨RL, "policy", "(LBrambleMesh;IIII[J)I"⟩
abbrev cL_share : ByteArray := method_8_code
def yL_share : MethodName := ⟨RL, "share", "(LBrambleMesh;II[J)I"⟩
abbrev cL_eyes : ByteArray := method_9_code
def yL_eyes : MethodName := ⟨RL, "eyes", "(LBrambleMesh;I[J)I"⟩
abbrev cL_canary : ByteArray := method_10_code
def yL_canary : MethodName := ⟨RL, "canary", "(LBrambleMesh;II[J)I"⟩
abbrev cL_traces : ByteArray := method_11_code
def yL_traces : MethodName := ⟨RL, "traces", "(LBrambleMesh;II)I"⟩
abbrev cL_request : ByteArray := method_12_code
def yL_request : MethodName := ⟨RL, "request", "(LBrambleMesh;IZI[J)I"⟩
abbrev cL_pass : ByteArray := method_13_code
def yL_pass : MethodName := ⟨RL, "pass", "(LBrambleMesh;I[J)I"⟩
abbrev cL_requestState : ByteArray := method_14_code
def yL_requestState : MethodName := ⟨RL, "requestState", "(LBrambleMesh;I[J)I"⟩
abbrev cL_requestTicks : ByteArray := method_15_code
def yL_requestTicks : MethodName := ⟨RL, "requestTicks", "(LBrambleMesh;I[J)I"⟩
abbrev cL_isKept : ByteArray := method_16_code
def yL_isKept : MethodName := ⟨RL, "isKept", "(LBrambleMesh;I[J)I"⟩
abbrev cL_callsOf : ByteArray := method_17_code
def yL_callsOf : MethodName := ⟨RL, "callsOf", "(LBrambleMesh;I[J)I"⟩
abbrev cL_call : ByteArray := method_18_code
def yL_call : MethodName := ⟨RL, "call", "(LBrambleMesh;II[J)I"⟩
abbrev cL_budget : ByteArray := method_19_code
def yL_budget : MethodName := ⟨RL, "budget", "(LBrambleMesh;I[J)I"⟩
abbrev cL_breaker : ByteArray := method_20_code
def yL_breaker : MethodName := ⟨RL, "breaker", "(LBrambleMesh;II[J)I"⟩
abbrev cL_isShunned : ByteArray := method_21_code
def yL_isShunned : MethodName := ⟨RL, "isShunned", "(LBrambleMesh;I[J)I"⟩
abbrev cL_load : ByteArray := method_22_code
def yL_load : MethodName := ⟨RL, "load", "(LBrambleMesh;IZ[J)I"⟩
abbrev cL_canaryShare : ByteArray := method_23_code
def yL_canaryShare : MethodName := ⟨RL, "canaryShare", "(LBrambleMesh;I[J)I"⟩
abbrev cL_extra : ByteArray := method_24_code
def yL_extra : MethodName := ⟨RL, "extra", "(LBrambleMesh;I[J)I"⟩
abbrev cL_first : ByteArray := method_25_code
def yL_first : MethodName := ⟨RL, "first", "(LBrambleMesh;I[J)I"⟩
abbrev cL_law : ByteArray := code
def yL_law : MethodName := ⟨RL, "law", "([I)Z"⟩
end
section
/-! THE MACHINE OF IDS: every cell of the class and of the reference has a code (its class, or the role of the array or list that it is) and an id; values name cells by code and id; a method's frame, memory and budget are one judgement, WP, which the rows below turn, an instruction a row. -/
abbrev sV : Type := Int32 ⊕ (Option (Nat × Nat)) ⊕ Int64
abbrev vI (x : Int32) : sV := Sum.inl x
abbrev vR (c i : Nat) : sV := Sum.inr (Sum.inl (some (c, i)))
abbrev vN : sV := Sum.inr (Sum.inl none)
abbrev vO (c : Nat) (o : Option Nat) : sV := Sum.inr (Sum.inl (o.map (fun i => (c, i))))
abbrev vL (x : Int64) : sV := Sum.inr (Sum.inr x)
abbrev Ad : Type := Nat → Nat → Nat
def tV (ad : Ad) (v : sV) : Value := match v with
  | .inl x => .int x
  | .inr (.inl (some q)) => .ref (ad q.1 q.2)
  | .inr (.inl none) => .null
  | .inr (.inr x) => .long x
theorem tV_O (ad : Ad) (c : Nat) (o : Option Nat) : tV ad (vO c o) = va_rf (o.map (ad c)) := by cases o <;> rfl
/-- the memory: live cells; reference fields, int fields (by 128*class+field and id); int arrays, reference arrays, lists (by role and id); the law's long; the reference's own ints (by field) -/
abbrev OM : Type := (Nat → Nat → Bool) × (Nat → Nat → Option Nat) × (Nat → Nat → Int32) × (Nat → Nat → Nat → Int32) × (Nat → Nat → Nat → Option Nat) × (Nat → Nat → List Nat) × Int64 × (Nat → Nat → Int32)
def up2 {α : Type} (m : Nat → Nat → α) (f i : Nat) (v : α) : Nat → Nat → α := fun g j => if g = f then (if j = i then v else m g j) else m g j
def up3 {α : Type} (m : Nat → Nat → Nat → α) (f i j : Nat) (v : α) : Nat → Nat → Nat → α := fun g a b => if g = f then (if a = i then (if b = j then v else m g a b) else m g a b) else m g a b
theorem up2_s {α : Type} (m : Nat → Nat → α) (f i : Nat) (v : α) : up2 m f i v f i = v := by simp [up2]
theorem up2_f {α : Type} (m : Nat → Nat → α) {f g : Nat} (i j : Nat) (v : α) (h : g ≠ f) : up2 m f i v g j = m g j := by simp [up2, h]
theorem up2_i {α : Type} (m : Nat → Nat → α) (f g : Nat) {i j : Nat} (v : α) (h : j ≠ i) : up2 m f i v g j = m g j := by
  unfold up2
  by_cases hg : g = f
  · rw [if_pos hg, if_neg h]
  · rw [if_neg hg]
theorem up2_n {α : Type} (m : Nat → Nat → α) {f g i j : Nat} (v : α) (h : ¬ (g = f ∧ j = i)) : up2 m f i v g j = m g j := by
  by_cases hg : g = f
  · exact up2_i m f g v (fun q => h ⟨hg, q⟩)
  · exact up2_f m i j v hg
theorem up3_s {α : Type} (m : Nat → Nat → Nat → α) (f i j : Nat) (v : α) : up3 m f i j v f i j = v := by simp [up3]
theorem up3_n {α : Type} (m : Nat → Nat → Nat → α) {f i j g a b : Nat} (v : α) (h : ¬ (g = f ∧ a = i ∧ b = j)) : up3 m f i j v g a b = m g a b := by
  unfold up3
  by_cases hg : g = f
  · rw [if_pos hg]
    by_cases ha : a = i
    · rw [if_pos ha, if_neg (fun q => h ⟨hg, ha, q⟩)]
    · rw [if_neg ha]
  · rw [if_neg hg]
theorem up3_r {α : Type} (m : Nat → Nat → Nat → α) (f i j : Nat) (v : α) : up3 m f i j v f i = va_up (m f i) j v := by
  funext b
  simp [up3, va_up]
theorem up3_o {α : Type} (m : Nat → Nat → Nat → α) {f i g a : Nat} (j : Nat) (v : α) (h : ¬ (g = f ∧ a = i)) : up3 m f i j v g a = m g a := by
  funext b
  exact up3_n m v (fun q => h ⟨q.1, q.2.1⟩)
/-- the kind of a code: 0 object, 1 ints, 2 booleans, 3 references, 4 list, 5 the long row -/
def kd (c : Nat) : Nat := if c < 10 then 0 else if c < 30 then 9 else if c < 40 then (if c = 34 then 2 else 1) else if c < 50 then 3 else if c < 57 then 4 else if c = 70 then 5 else if c < 200 then 9 else if c = 200 ∨ c = 206 ∨ c = 220 ∨ c = 229 ∨ c = 230 ∨ c = 231 ∨ c = 251 ∨ c = 259 ∨ c = 260 ∨ c = 264 then 9 else if c < 265 then (if c = 204 ∨ c = 241 ∨ c = 242 ∨ c = 243 ∨ c = 244 ∨ c = 253 ∨ c = 258 ∨ c = 263 then 2 else 1) else 9
/-- how many fields an object has -/
def nF (c : Nat) : Nat := match c with
  | 0 => 3 | 1 => 10 | 2 => 4 | 3 => 4 | 4 => 13 | 5 => 5 | 6 => 6 | 7 => 16 | 8 => 11 | 9 => 65 | _ => 0
/-- what a field refers to: 0 for an int, else the code and one -/
def tg (c k : Nat) : Nat := match c with
  | 1 => match k with | 1 => 8 | 2 => 5 | 4 => 57 | _ => 0
  | 3 => match k with | 2 => 36 | 3 => 37 | _ => 0
  | 4 => match k with | 7 => 31 | 8 => 44 | 9 => 32 | 10 => 55 | _ => 0
  | 5 => match k with | 0 => 8 | _ => 0
  | 6 => match k with | 2 => 33 | 3 => 34 | 4 => 35 | 5 => 4 | _ => 0
  | 7 => match k with | 8 => 2 | 9 => 56 | _ => 0
  | 8 => match k with | 4 => 41 | 5 => 42 | 6 => 43 | 7 => 51 | 8 => 52 | 9 => 53 | 10 => 54 | _ => 0
  | 9 => if k = 0 ∨ k = 6 ∨ k = 20 ∨ k = 29 ∨ k = 30 ∨ k = 31 ∨ k = 51 ∨ k = 59 ∨ k = 60 ∨ k = 64 then 0 else 201 + k
  | _ => 0
/-- what a row of references, or a list, holds -/
def tA (c : Nat) : Nat := match c with
  | 40 => 37 | 41 => 6 | 42 => 2 | 43 => 0 | 50 => 4 | 51 => 5 | 52 => 1 | 53 => 7 | 54 => 1 | 55 => 1 | 56 => 7 | _ => 0
/-- how many places a row has -/
def len (c : Nat) : Nat := if c < 30 then 0 else if c < 200 then (match c with
  | 30 => 4 | 31 => 7 | 32 => 4 | 33 => 4 | 34 => 4 | 35 => 2 | 36 => 2 | 37 => 49 | 40 => 3 | 41 => 6 | 42 => 7 | 43 => 7 | 70 => 1 | _ => 0)
  else if c ≤ 202 then 6 else if c ≤ 205 then 24 else if c ≤ 212 then 12 else if c = 213 then 48 else if c = 214 then 12 else if c = 215 then 147 else if c ≤ 219 then 7 else if c ≤ 224 then 84 else if c ≤ 226 then 6 else if c ≤ 228 then 12 else if c ≤ 245 then 400 else if c ≤ 250 then 540 else if c ≤ 258 then 40 else 100
/-- which class of rows -/
def kA (c : Nat) : Nat := if kd c = 2 then 1 else match c with
  | 40 => 3 | 41 => 4 | 42 => 5 | 43 => 6 | 70 => 2 | _ => 0
/-- the world's constants: class ids and slots; classes of rows; ArrayList's shared empty row; the class's static rows -/
abbrev DD : Type := va_G × (Nat → ClassId) × Nat × (Nat → Nat)
def cls : List vw_C := [(RX0, TX0, 3), (RX1, TX1, 10), (RX2, TX2, 4), (RX3, TX3, 4), (RX4, TX4, 13), (RX5, TX5, 5), (RX6, TX6, 6), (RX7, TX7, 16), (RX8, TX8, 11), (RX9, TX9, 65), (RJx4a65c, TJx4a65c, 3)]
def tyr (t : Nat) : FieldType := match t with
  | 0 => .int | 1 => .boolean | 2 => .long | 3 => .array .int | 4 => .object RX6 | 5 => .object RX2 | 6 => .object RX0 | _ => .object "java/lang/Object"
def tysD (D : DD) : List (ClassId × FieldType) := (List.range 8).map (fun t => (D.2.1 t, tyr t))
/-- the exceptions that the class throws -/
def eCl (j : Nat) : String := match j with | 0 => "java/lang/IndexOutOfBoundsException" | 1 => "java/lang/IllegalArgumentException" | _ => "java/lang/IllegalStateException"
theorem va_AOA.moved {t : FieldType} {u U : State} (hvm : u.vm.Alike U.vm) (h : va_AOA t u) : va_AOA t U := by
  obtain ⟨comp, c, k, h1, h2, h3, h4, h5⟩ := arrayOverA_spec h
  obtain ⟨k', hk', he⟩ := hvm.2.2 _ _ h3
  have e1 := va_idx_bare U.vm comp
  rw [hvm.bare_eq] at e1
  have hi := e1.symm.trans ((va_idx_bare u.vm comp).trans h2)
  have hkind : k'.kind = .array comp (.array t) := by rw [he]; exact h4
  have f1 : U.vm.findClass (FieldType.array t).toString = some comp := by rw [hvm.findClass]; exact h1
  have f2 : U.vm.findClass ("[" ++ (FieldType.array t).toString) = some c := by rw [hvm.findClass]; exact h5
  unfold va_AOA Cond.before Cond.holds
  simp only [Cond.value]
  rw [f1, Option.bind_some]
  refine (congrArg (fun o : Option Nat => (o.bind (fun c => (U.vm.classes[c]?).map fun (k : Class) => match k.kind with | .array _ ty => decide (ty = FieldType.array t) && decide (U.vm.findClass ("[" ++ (FieldType.array t).toString) = some c) | _ => false) == some true)) hi).trans ?_
  simp [hk', hkind, f2]
/-- words that the tables alone decide -/
def KN (s : State) : Prop := va_AO RX6 s ∧ va_AO RX2 s ∧ va_AO RX0 s ∧ va_AO "java/lang/Object" s ∧ va_AOA .int s ∧ va_Nw (.methodLinkNest RX8 52 yX6_init RX8) s ∧ va_Nw (.methodLinkNest RX6 28 yX3_init RX8) s ∧ va_Nw (.methodLinkNest RX8 53 yX2_init RX8) s ∧ va_Nw (.methodLinkNest RX4 53 yX0_init RX8) s ∧
  (∀ j, j < 3 → va_Nw (.castable (eCl j) (eCl j)) s) ∧ (∀ j j', j < 3 → j' < 3 → j ≠ j' → va_Nc (eCl j) (eCl j') s) ∧ va_Dc s ∧ ∃ mi, va_Mi "[Ljava/lang/Object;" mi s
theorem KN.warm {s U : State} (hW : s.WarmedH U.vm) (h : KN s) : KN U := by
  obtain ⟨h1, h2, h3, h4, h5, h6, h7, h8, h9, h10, h11, h12, mi, h13⟩ := h
  exact ⟨h1.moved hW.alike, h2.moved hW.alike, h3.moved hW.alike, h4.moved hW.alike, h5.moved hW.alike, h6.warmM hW, h7.warmM hW, h8.warmM hW, h9.warmM hW, fun j hj => (h10 j hj).warmC hW, fun j j' a b c => (h11 j j' a b c).moved hW.alike, h12.moved hW.alike, mi, h13.moved hW.alike⟩
theorem KN.same {s U : State} (hv : s.vm = U.vm) (h : KN s) : KN U := by
  have ha : s.vm.Alike U.vm := by rw [hv]; exact Vm.Alike.refl _
  obtain ⟨h1, h2, h3, h4, h5, h6, h7, h8, h9, h10, h11, h12, mi, h13⟩ := h
  exact ⟨h1.moved ha, h2.moved ha, h3.moved ha, h4.moved ha, h5.moved ha, va_Nw.same rfl hv h6, va_Nw.same rfl hv h7, va_Nw.same rfl hv h8, va_Nw.same rfl hv h9, fun j hj => va_Nw.same rfl hv (h10 j hj), fun j j' a b c => (h11 j j' a b c).moved ha, h12.moved ha, mi, h13.moved ha⟩
def Kst (D : DD) (s : State) : Prop := va_K D.1 cls (tysD D) s ∧ KN s
theorem Kst.warm {D : DD} {s U : State} (hW : s.WarmedH U.vm) (h : Kst D s) : Kst D U := ⟨va_K.moved hW.alike h.1, h.2.warm hW⟩
theorem Kst.same {D : DD} {s U : State} (hv : s.vm = U.vm) (h : Kst D s) : Kst D U := ⟨va_K.moved (by rw [hv]; exact Vm.Alike.refl _) h.1, h.2.same hv⟩
/-- the value of a field -/
def fV (ad : Ad) (rho : Nat → Nat → Int32) (fr : Nat → Nat → Option Nat) (fi : Nat → Nat → Int32) (c i k : Nat) : Value := match tg c k with
  | 0 => .int (if c = 9 then rho k 0 else fi (128 * c + k) i)
  | t + 1 => va_rf ((fr (128 * c + k) i).map (ad t))
def aI (rho : Nat → Nat → Int32) (ai : Nat → Nat → Nat → Int32) (c i : Nat) : Nat → Int32 := if 200 ≤ c then rho (c - 200) else ai c i
/-- a live cell, as the heap has it -/
def cOK (D : DD) (S : OM) (ad : Ad) (H : Heap) (c i : Nat) : Prop := match kd c with
  | 0 => t_OB (ad c i) (D.1.1 c) (nF c) (D.1.2 c) H (fV ad S.2.2.2.2.2.2.2 S.2.1 S.2.2.1 c i)
  | 1 => H[ad c i]? = some (vp_cell (D.2.1 (kA c)) (len c, .inl (aI S.2.2.2.2.2.2.2 S.2.2.2.1 c i)))
  | 2 => H[ad c i]? = some (vp_cell (D.2.1 (kA c)) (len c, .inl (aI S.2.2.2.2.2.2.2 S.2.2.2.1 c i)))
  | 3 => H[ad c i]? = some (vp_cell (D.2.1 (kA c)) (len c, .inr (.inr (.inr (.inr (fun j => (S.2.2.2.2.1 c i j).map (ad (tA c))))))))
  | 4 => (∃ m : Int32, t_OB (ad c i) (D.1.1 10) 3 (D.1.2 10) H (vp_V [.int m, .ref (ad (c + 10) i), .int (nI (S.2.2.2.2.2.1 c i).length)])) ∧
      ((ad (c + 10) i = D.2.2.1 ∧ S.2.2.2.2.2.1 c i = []) ∨ (ad (c + 10) i ≠ D.2.2.1 ∧ ∃ n : Nat, (S.2.2.2.2.2.1 c i).length ≤ n ∧ 10 ≤ n ∧ n ≤ 700 ∧ H[ad (c + 10) i]? = some (vp_cell (D.2.1 7) (n, .inr (.inr (.inr (.inr (fun j => ((S.2.2.2.2.2.1 c i)[j]?).map (ad (tA c))))))))))
  | 5 => H[ad c i]? = some (vp_cell (D.2.1 2) (1, .inr (.inl (fun _ => S.2.2.2.2.2.2.1))))
  | _ => False
/-- the cells that the machine has: the live ones, and the rows behind lists -/
def lvx (D : DD) (lv : Nat → Nat → Bool) (ad : Ad) (c i : Nat) : Prop := lv c i = true ∨ (60 ≤ c ∧ c < 67 ∧ lv (c - 10) i = true ∧ ad c i ≠ D.2.2.1)
def own (D : DD) (lv : Nat → Nat → Bool) (ad : Ad) (q : Nat) : Prop := ∃ c i, lvx D lv ad c i ∧ q = ad c i
def MM (D : DD) (S : OM) (ad : Ad) (H : Heap) : Prop :=
  (∀ c i, S.1 c i = true → cOK D S ad H c i) ∧
  (∀ c i c' i', lvx D S.1 ad c i → lvx D S.1 ad c' i' → ad c i = ad c' i' → c = c' ∧ i = i') ∧
  (∀ c i k t j, S.1 c i = true → kd c = 0 → k < nF c → tg c k = t + 1 → S.2.1 (128 * c + k) i = some j → S.1 t j = true) ∧
  (∀ c i k j, S.1 c i = true → kd c = 3 → k < len c → S.2.2.2.2.1 c i k = some j → S.1 (tA c) j = true) ∧
  (∀ c i j, S.1 c i = true → kd c = 4 → j ∈ S.2.2.2.2.2.1 c i → S.1 (tA c) j = true) ∧
  (∀ j, j < 4 → ad (71 + j) 0 = D.2.2.2 j) ∧ (∀ c i, S.1 c i = true → (200 ≤ c ∨ c = 9) → i = 0)
def LvV (lv : Nat → Nat → Bool) (v : sV) : Prop := match v with
  | .inr (.inl (some q)) => lv q.1 q.2 = true ∨ (71 ≤ q.1 ∧ q.1 < 75 ∧ q.2 = 0)
  | _ => True
def Ext (D : DD) (lv0 : Nat → Nat → Bool) (ad0 : Ad) (lv : Nat → Nat → Bool) (ad : Ad) : Prop := ∀ c i, lv0 c i = true → lv c i = true ∧ ad c i = ad0 c i
theorem Ext.rf {D : DD} {lv : Nat → Nat → Bool} {ad : Ad} : Ext D lv ad lv ad := fun _ _ h => ⟨h, rfl⟩
theorem Ext.tr {D : DD} {lv0 lv1 lv2 : Nat → Nat → Bool} {a0 a1 a2 : Ad} (h : Ext D lv0 a0 lv1 a1) (h2 : Ext D lv1 a1 lv2 a2) : Ext D lv0 a0 lv2 a2 :=
  fun c i q => ⟨(h2 c i (h c i q).1).1, (h2 c i (h c i q).1).2.trans (h c i q).2⟩
/-- the same values, named behind a step -/
theorem tV_ext {D : DD} {lv lv' : Nat → Nat → Bool} {ad ad' : Ad} {S S' : OM} {H H' : Heap} (hE : Ext D lv ad lv' ad') (hm : MM D S ad H) (hm' : MM D S' ad' H') {v : sV} (h : LvV lv v) : tV ad' v = tV ad v := by
  rcases v with x | o | x
  · rfl
  · cases o with
    | none => rfl
    | some q =>
      obtain ⟨c, i⟩ := q
      show Value.ref (ad' c i) = Value.ref (ad c i)
      rcases h with h | ⟨h1, h2, h3⟩
      · rw [(hE c i h).2]
      · have e3 : i = 0 := h3
        have h1' : 71 ≤ c := h1
        have h2' : c < 75 := h2
        have ec : c = 71 + (c - 71) := by omega
        rw [e3, ec, hm'.2.2.2.2.2.1 (c - 71) (by omega), hm.2.2.2.2.2.1 (c - 71) (by omega)]
  · rfl
theorem LvV_ext {D : DD} {lv lv' : Nat → Nat → Bool} {ad ad' : Ad} (hE : Ext D lv ad lv' ad') {v : sV} (h : LvV lv v) : LvV lv' v := by
  rcases v with x | o | x
  · trivial
  · cases o with
    | none => trivial
    | some q =>
      rcases h with h | h
      · exact Or.inl (hE _ _ h).1
      · exact Or.inr h
  · trivial
/-- the static rows' contents -/
def polV (j : Nat) (i : Nat) : Int32 := match j with
  | 0 => (match i with | 0 => 20 | 1 => 1 | _ => 0)
  | 1 => (match i with | 0 => 1 | _ => 0)
  | _ => (match i with | 0 => 100 | 1 => 3 | _ => 50)
def polN (j : Nat) : String := match j with | 0 => "POLICY_AT_FIRST" | 1 => "POLICY_LEAST" | _ => "POLICY_MOST"
def eTx (j : Nat) : String := match j with | 0 => "there is no such number" | 1 => "an argument is out of range" | _ => "this is not possible any more"
def eIx (j : Nat) : Nat := match j with | 0 => 258 | 1 => 265 | _ => 270
/-- what the statics hold, which nobody writes -/
def Sta (D : DD) (A : Nat → Prop) (U : State) (H : Heap) : Prop :=
  vx_Zq Bundle.tN "UNASSIGNED_STACK" Bundle.steD A U H ∧ vx_Zq Bundle.tN "SUPPRESSED_SENTINEL" Bundle.listD A U H ∧
  (∀ j, j < 3 → va_Z "BrambleMesh" (polN j) "[I" (.ref (D.2.2.2 j)) A U H ∧ va_T .int (D.2.2.2 j) 3 (fun i => .int (polV j i)) A U H) ∧
  (va_Z "java/util/ArrayList" "DEFAULTCAPACITY_EMPTY_ELEMENTDATA" "[Ljava/lang/Object;" (.ref D.2.2.1) A U H ∧ va_T (.object "java/lang/Object") D.2.2.1 0 (fun _ => .null) A U H) ∧
  (∀ j, j < 3 → ∃ a, vk_R "BrambleMesh" (eIx j) (eTx j) a U)
theorem vk_R.alike {own tx : String} {k a : Nat} {s U : State} (hW : s.WarmedH U.vm) (h : vk_R own k tx a s) : vk_R own k tx a U := vk_R.warm hW h
end
section
theorem Sta.kept {D : DD} {A : Nat → Prop} {U : State} {H H1 : Heap} (h : Sta D A U H) (hq : ∀ a : Nat, a < H.size → ¬ A a → H1[a]? = H[a]?) : Sta D A U H1 :=
  ⟨h.1.kept hq, h.2.1.kept hq, fun j hj => ⟨(h.2.2.1 j hj).1.kept hq, (h.2.2.1 j hj).2.kept hq⟩, ⟨h.2.2.2.1.1.kept hq, h.2.2.2.1.2.kept hq⟩, h.2.2.2.2⟩
theorem Sta.narrow {D : DD} {A B : Nat → Prop} {U : State} {H : Heap} (h : Sta D A U H) (hAB : ∀ q, B q → A q) : Sta D B U H :=
  ⟨h.1.narrow hAB, h.2.1.narrow hAB, fun j hj => ⟨(h.2.2.1 j hj).1.narrow hAB, (h.2.2.1 j hj).2.narrow hAB⟩, ⟨h.2.2.2.1.1.narrow hAB, h.2.2.2.1.2.narrow hAB⟩, h.2.2.2.2⟩
theorem Sta.warm {D : DD} {A : Nat → Prop} {s U : State} {H : Heap} (hW : s.WarmedH U.vm) (h : Sta D A s H) : Sta D A U H :=
  ⟨h.1.moved hW.alike, h.2.1.moved hW.alike, fun j hj => ⟨(h.2.2.1 j hj).1.moved hW.alike, (h.2.2.1 j hj).2.moved hW.alike⟩, ⟨h.2.2.2.1.1.moved hW.alike, h.2.2.2.1.2.moved hW.alike⟩, fun j hj => (h.2.2.2.2 j hj).elim fun a q => ⟨a, vk_R.warm hW q⟩⟩
theorem Sta.same {D : DD} {A : Nat → Prop} {s U : State} {H : Heap} (hv : U.vm = s.vm) (h : Sta D A s H) : Sta D A U H :=
  ⟨h.1.moved (by rw [hv]; exact Vm.Alike.refl _), h.2.1.moved (by rw [hv]; exact Vm.Alike.refl _), fun j hj => ⟨(h.2.2.1 j hj).1.moved (by rw [hv]; exact Vm.Alike.refl _), (h.2.2.1 j hj).2.moved (by rw [hv]; exact Vm.Alike.refl _)⟩, ⟨h.2.2.2.1.1.moved (by rw [hv]; exact Vm.Alike.refl _), h.2.2.2.1.2.moved (by rw [hv]; exact Vm.Alike.refl _)⟩, fun j hj => (h.2.2.2.2 j hj).elim fun a q => ⟨a, vk_R.same hv q⟩⟩
/-- the words that any method may use -/
def TW : List Cond := lw_tbl.filter goodWord
theorem TW_of {w : Cond} (h : w ∈ lw_tbl) (g : goodWord w = true) : w ∈ TW := List.mem_filter.mpr ⟨h, g⟩
theorem tw1 {w : Cond} (i : Nat) (h : tables_1[i]? = some w) (g : goodWord w = true) : w ∈ TW := TW_of (List.mem_append_right _ (List.mem_of_getElem? h)) g
theorem twS {q : MethodName × Nat} (i : Nat) (h : lw_privs[i]? = some q) (g : goodWord (Cond.selects q.1.cls q.1 q.1) = true) : Cond.selects q.1.cls q.1 q.1 ∈ TW :=
  TW_of (List.mem_append_left _ (List.mem_map.mpr ⟨q, List.mem_of_getElem? h, rfl⟩)) g
theorem TW_good : GoodIn TW TW := fun w h => ⟨h, good_of_word (List.mem_filter.mp h).2⟩
/-- the values that name cells name live ones -/
def LvS (lv : Nat → Nat → Bool) : List sV → Prop
  | [] => True
  | v :: r => LvV lv v ∧ LvS lv r
/-- the locals -/
def LH (ad : Ad) (lv : Nat → Nat → Bool) (n : Nat) (L : List (Option sV)) (ls : Array Slot) : Prop :=
  ls.size = n ∧ lv_wf ls ∧ L.length = n ∧ ∀ (i : Nat) (v : sV), L[i]? = some (some v) → ls[i]? = some (.val (tV ad v)) ∧ (tV ad v).category = 1 ∧ LvV lv v
def lhl (ad : Ad) (L : List (Option sV)) : List (Nat × Value) := (List.range L.length).filterMap (fun i => (L[i]?.join).map (fun v => (i, tV ad v)))
theorem lhl_mem {ad : Ad} {L : List (Option sV)} {i : Nat} {v : sV} (h : L[i]? = some (some v)) : (i, tV ad v) ∈ lhl ad L := by
  refine List.mem_filterMap.mpr ⟨i, List.mem_range.mpr (List.getElem?_eq_some_iff.mp h).1, ?_⟩
  rw [h]
  rfl
theorem lhl_of {ad : Ad} {L : List (Option sV)} {q : Nat × Value} (h : q ∈ lhl ad L) : ∃ v, L[q.1]? = some (some v) ∧ q.2 = tV ad v := by
  obtain ⟨i, -, hi⟩ := List.mem_filterMap.mp h
  cases hL : L[i]? with
  | none => rw [hL] at hi; simp at hi
  | some o =>
    cases o with
    | none => rw [hL] at hi; simp at hi
    | some v =>
      rw [hL] at hi
      simp at hi
      subst hi
      exact ⟨v, hL, rfl⟩
theorem LH.has {ad : Ad} {lv : Nat → Nat → Bool} {n : Nat} {L : List (Option sV)} {ls : Array Slot} (h : LH ad lv n L ls) : lv_has ls n (lhl ad L) := by
  refine ⟨h.1, h.2.1, fun q hq => ?_⟩
  obtain ⟨v, h1, h2⟩ := lhl_of hq
  rw [(h.2.2.2 _ v h1).1, h2]
theorem LH.put {ad : Ad} {lv : Nat → Nat → Bool} {n i : Nat} {L : List (Option sV)} {ls ls' : Array Slot} {v : sV} (h : LH ad lv n L ls) (hc : (tV ad v).category = 1) (hv : LvV lv v) (hl : lv_has ls' n ((i, tV ad v) :: (lhl ad L).filter (fun q => !(q.1 == i) && !(q.1 + 1 == i && q.2.category == 2)))) : LH ad lv n (L.set i (some v)) ls' := by
  refine ⟨hl.1, hl.2.1, by rw [List.length_set]; exact h.2.2.1, fun j w hj => ?_⟩
  by_cases hji : j = i
  · subst hji
    rw [List.getElem?_set] at hj
    simp at hj
    obtain ⟨-, rfl⟩ := hj
    exact ⟨hl.2.2 _ List.mem_cons_self, hc, hv⟩
  · rw [List.getElem?_set_ne (Ne.symm hji)] at hj
    obtain ⟨h1, h2, h3⟩ := h.2.2.2 j w hj
    refine ⟨hl.2.2 (j, tV ad w) (List.mem_cons_of_mem _ (List.mem_filter.mpr ⟨lhl_mem hj, ?_⟩)), h2, h3⟩
    simp [hji, h2]
theorem LH.ext {D : DD} {lv lv' : Nat → Nat → Bool} {ad ad' : Ad} {S S' : OM} {H H' : Heap} (hE : Ext D lv ad lv' ad') (hm : MM D S ad H) (hm' : MM D S' ad' H') {n : Nat} {L : List (Option sV)} {ls : Array Slot} (h : LH ad lv n L ls) : LH ad' lv' n L ls :=
  ⟨h.1, h.2.1, h.2.2.1, fun i v hi => by
    obtain ⟨h1, h2, h3⟩ := h.2.2.2 i v hi
    rw [tV_ext hE hm hm' h3]
    exact ⟨h1, h2, LvV_ext hE h3⟩⟩
theorem LvS_ext {D : DD} {lv lv' : Nat → Nat → Bool} {ad ad' : Ad} (hE : Ext D lv ad lv' ad') : ∀ {st : List sV}, LvS lv st → LvS lv' st
  | [], _ => trivial
  | _ :: _, h => ⟨LvV_ext hE h.1, LvS_ext hE h.2⟩
theorem map_ext {D : DD} {lv lv' : Nat → Nat → Bool} {ad ad' : Ad} {S S' : OM} {H H' : Heap} (hE : Ext D lv ad lv' ad') (hm : MM D S ad H) (hm' : MM D S' ad' H') : ∀ {st : List sV}, LvS lv st → st.map (tV ad') = st.map (tV ad)
  | [], _ => rfl
  | v :: r, h => by rw [List.map_cons, List.map_cons, tV_ext hE hm hm' h.1, map_ext hE hm hm' h.2]
/-- a method: name, bytes, locals, what it returns, handlers; for the law, its script -/
abbrev MI : Type := MethodName × ByteArray × Nat × Option FieldType × List (Nat × Nat × Nat × Nat) × Option (Nat × (Nat → Int32))
def Ctx (mi : MI) (d : Nat) (p : Program) (l : Launch) (R : Room) (s : State) (m : MethodId) (args : Array Value) (meth : Method) (c : Code) (D : DD) (A : Nat → Prop) : Prop :=
  p.tables.exec = Jvm.exec ∧ c.code = mi.2.1 ∧ meth.sig.returnType = mi.2.2.2.1 ∧ meth.locks = false ∧ c.maxLocals = mi.2.2.1 ∧ s.vm.findClass mi.1.cls = some m.cls ∧ (∀ w ∈ TW, w.before args s = true) ∧ Kst D s ∧ l.stackTraces = false ∧ c.exceptionTable.toList = tableOf mi.2.2.2.2.1 ∧ meth.name = mi.1.name ∧ d ≤ R.frames ∧ 64 * d ≤ R.locals ∧ (∀ q, s.heap.size ≤ q → A q) ∧ Sta D A s s.heap ∧ (∀ N xs, mi.2.2.2.2.2 = some (N, xs) → va_X (D.2.2.2 3) N xs s s.heap ∧ D.2.2.2 3 < s.heap.size ∧ ¬ A (D.2.2.2 3))
def Dyn (D : DD) (A : Nat → Prop) (lv0 : Nat → Nat → Bool) (ad0 : Ad) (s : State) (R : Room) (n k : Nat) (L : List (Option sV)) (st : List sV) (S : OM) (H : Heap) (locs : List Loc) (cells slots : Nat) (ls : Array Slot) (ad : Ad) : Prop :=
  MM D S ad H ∧ (∀ q, own D S.1 ad q → A q) ∧ va_S A s.heap H locs ∧ Ext D lv0 ad0 S.1 ad ∧ LvS S.1 st ∧ LH ad S.1 n L ls ∧ cells + k ≤ R.cells ∧ slots + 700 * k ≤ R.slots
def Qn (Q : Option sV → OM → Prop) (D : DD) (A : Nat → Prop) (lv0 : Nat → Nat → Bool) (ad0 : Ad) : Array Value → State → Outcome → State → Prop := fun _ st oc t =>
  (∃ (r : Option sV) (S' : OM) (ad' : Ad), oc = .returned (r.map (tV ad')) ∧ Q r S' ∧ MM D S' ad' t.heap ∧ Ext D lv0 ad0 S'.1 ad' ∧ (∀ v, r = some v → LvV S'.1 v) ∧ (∀ q, own D S'.1 ad' q → A q)) ∧ va_F A st t
def Xn (QX : String → OM → Prop) (D : DD) (A : Nat → Prop) (lv0 : Nat → Nat → Bool) (ad0 : Ad) : String → State → State → Prop := fun E st t =>
  (∃ (S' : OM) (ad' : Ad), QX E S' ∧ MM D S' ad' t.heap ∧ Ext D lv0 ad0 S'.1 ad' ∧ (∀ q, own D S'.1 ad' q → A q)) ∧ va_F A st t
def WP (mi : MI) (d k pc : Nat) (L : List (Option sV)) (st : List sV) (S : OM) (Q : Option sV → OM → Prop) (QX : String → OM → Prop) : Prop :=
  ∀ (p : Program) (l : Launch) (e : Env) (R : Room) (s : State) (m : MethodId) (args : Array Value) (below : List Frame) (meth : Method) (c : Code) (D : DD) (A : Nat → Prop) (lv0 : Nat → Nat → Bool) (ad0 : Ad),
    Ctx mi d p l R s m args meth c D A → ∀ (H : Heap) (locs : List Loc) (cells slots : Nat) (ls : Array Slot) (ad : Ad), Dyn D A lv0 ad0 s R mi.2.2.1 k L st S H locs cells slots ls ad →
      W p l e R s m args below meth c H locs cells slots (vx_MQ below (Qn Q D A lv0 ad0) (Xn QX D A lv0 ad0) args s R.cells R.slots A) (F0 m pc ls (st.map (tV ad)))
theorem Dyn.stk {D : DD} {A : Nat → Prop} {lv0 : Nat → Nat → Bool} {ad0 : Ad} {s : State} {R : Room} {n k : Nat} {L : List (Option sV)} {st st' : List sV} {S : OM} {H : Heap} {locs : List Loc} {cells slots : Nat} {ls : Array Slot} {ad : Ad}
    (h : Dyn D A lv0 ad0 s R n k L st S H locs cells slots ls ad) (h' : LvS S.1 st') : Dyn D A lv0 ad0 s R n k L st' S H locs cells slots ls ad := ⟨h.1, h.2.1, h.2.2.1, h.2.2.2.1, h', h.2.2.2.2.2⟩
theorem Dyn.lvs {D : DD} {A : Nat → Prop} {lv0 : Nat → Nat → Bool} {ad0 : Ad} {s : State} {R : Room} {n k : Nat} {L : List (Option sV)} {st : List sV} {S : OM} {H : Heap} {locs : List Loc} {cells slots : Nat} {ls : Array Slot} {ad : Ad}
    (h : Dyn D A lv0 ad0 s R n k L st S H locs cells slots ls ad) : LvS S.1 st := h.2.2.2.2.1
theorem Dyn.lh {D : DD} {A : Nat → Prop} {lv0 : Nat → Nat → Bool} {ad0 : Ad} {s : State} {R : Room} {n k : Nat} {L : List (Option sV)} {st : List sV} {S : OM} {H : Heap} {locs : List Loc} {cells slots : Nat} {ls : Array Slot} {ad : Ad}
    (h : Dyn D A lv0 ad0 s R n k L st S H locs cells slots ls ad) : LH ad S.1 n L ls := h.2.2.2.2.2.1
theorem Dyn.loc {D : DD} {A : Nat → Prop} {lv0 : Nat → Nat → Bool} {ad0 : Ad} {s : State} {R : Room} {n k : Nat} {L L' : List (Option sV)} {st st' : List sV} {S : OM} {H : Heap} {locs : List Loc} {cells slots : Nat} {ls ls' : Array Slot} {ad : Ad}
    (h : Dyn D A lv0 ad0 s R n k L st S H locs cells slots ls ad) (h1 : LH ad S.1 n L' ls') (h' : LvS S.1 st') : Dyn D A lv0 ad0 s R n k L' st' S H locs cells slots ls' ad := ⟨h.1, h.2.1, h.2.2.1, h.2.2.2.1, h', h1, h.2.2.2.2.2.2⟩
end
section
section WPR
variable {mi : MI} {d k pc : Nat} {L L' : List (Option sV)} {st : List sV} {S : OM} {Q : Option sV → OM → Prop} {QX : String → OM → Prop}
/-- a value of one word -/
def cat1 (v : sV) : Prop := match v with | .inr (.inr _) => False | _ => True
theorem cat1_1 {v : sV} (ad : Ad) (h : cat1 v) : (tV ad v).category = 1 := by
  rcases v with x | o | x
  · rfl
  · cases o <;> rfl
  · exact h.elim
theorem wp_iconst {n : Int} {v : Int32} (hd : decode mi.2.1 pc = .ok (.iconst n, 1)) (hv : Int32.ofInt n = v) (h : WP mi d k (pc + 1) L (vI v :: st) S Q QX) : WP mi d k pc L (st) S Q QX := by
  intro p l e R s m args below meth c D A lv0 ad0 hC H locs cells slots ls ad hD
  exact lv_iconst hC.1 hC.2.1 hd hv (h p l e R s m args below meth c D A lv0 ad0 hC H locs cells slots ls ad (hD.stk ⟨trivial, hD.lvs⟩))
theorem wp_bipush {n : Int} {v : Int32} (hd : decode mi.2.1 pc = .ok (.bipush n, 2)) (hv : (Int8.ofInt n).toInt32 = v) (h : WP mi d k (pc + 2) L (vI v :: st) S Q QX) : WP mi d k pc L (st) S Q QX := by
  intro p l e R s m args below meth c D A lv0 ad0 hC H locs cells slots ls ad hD
  exact lv_bipush hC.1 hC.2.1 hd hv (h p l e R s m args below meth c D A lv0 ad0 hC H locs cells slots ls ad (hD.stk ⟨trivial, hD.lvs⟩))
theorem wp_sipush {n : Int} {v : Int32} (hd : decode mi.2.1 pc = .ok (.sipush n, 3)) (hv : (Int16.ofInt n).toInt32 = v) (h : WP mi d k (pc + 3) L (vI v :: st) S Q QX) : WP mi d k pc L (st) S Q QX := by
  intro p l e R s m args below meth c D A lv0 ad0 hC H locs cells slots ls ad hD
  exact lv_sipush hC.1 hC.2.1 hd hv (h p l e R s m args below meth c D A lv0 ad0 hC H locs cells slots ls ad (hD.stk ⟨trivial, hD.lvs⟩))
theorem wp_lconst {n : Fin 2} {v : Int64} (hd : decode mi.2.1 pc = .ok (.lconst n, 1)) (hv : Int64.ofNat (n : Nat) = v) (h : WP mi d k (pc + 1) L (vL v :: st) S Q QX) : WP mi d k pc L (st) S Q QX := by
  intro p l e R s m args below meth c D A lv0 ad0 hC H locs cells slots ls ad hD
  exact lv_lconst hC.1 hC.2.1 hd hv (h p l e R s m args below meth c D A lv0 ad0 hC H locs cells slots ls ad (hD.stk ⟨trivial, hD.lvs⟩))
theorem wp_ldc {x : Nat} {v : Int32} (hw : Cond.constant mi.1.cls x v ∈ TW) (hd : decode mi.2.1 pc = .ok (.ldc x, 2)) (h : WP mi d k (pc + 2) L (vI v :: st) S Q QX) : WP mi d k pc L (st) S Q QX := by
  intro p l e R s m args below meth c D A lv0 ad0 hC H locs cells slots ls ad hD
  exact lv_ldc hC.1 hC.2.1 hC.2.2.2.2.2.1 (hC.2.2.2.2.2.2.1 _ hw) hd (h p l e R s m args below meth c D A lv0 ad0 hC H locs cells slots ls ad (hD.stk ⟨trivial, hD.lvs⟩))
theorem wp_ldcw {x : Nat} {v : Int32} (hw : Cond.constant mi.1.cls x v ∈ TW) (hd : decode mi.2.1 pc = .ok (.ldc_w x, 3)) (h : WP mi d k (pc + 3) L (vI v :: st) S Q QX) : WP mi d k pc L (st) S Q QX := by
  intro p l e R s m args below meth c D A lv0 ad0 hC H locs cells slots ls ad hD
  exact lv_ldcw hC.1 hC.2.1 hC.2.2.2.2.2.1 (hC.2.2.2.2.2.2.1 _ hw) hd (h p l e R s m args below meth c D A lv0 ad0 hC H locs cells slots ls ad (hD.stk ⟨trivial, hD.lvs⟩))
theorem wp_null (hd : decode mi.2.1 pc = .ok (.aconst_null, 1)) (h : WP mi d k (pc + 1) L (vN :: st) S Q QX) : WP mi d k pc L (st) S Q QX := by
  intro p l e R s m args below meth c D A lv0 ad0 hC H locs cells slots ls ad hD
  exact lv_null hC.1 hC.2.1 hd (h p l e R s m args below meth c D A lv0 ad0 hC H locs cells slots ls ad (hD.stk ⟨trivial, hD.lvs⟩))
theorem wp_iload_n {n : Fin 4} {x : Int32} (hd : decode mi.2.1 pc = .ok (.iload_n n, 1)) (hL : L[(n : Nat)]? = some (some (vI x))) (h : WP mi d k (pc + 1) L (vI x :: st) S Q QX) : WP mi d k pc L (st) S Q QX := by
  intro p l e R s m args below meth c D A lv0 ad0 hC H locs cells slots ls ad hD
  exact lv_iload_n hC.1 hC.2.1 hd rfl (hD.lh.2.2.2 _ _ hL).1 (h p l e R s m args below meth c D A lv0 ad0 hC H locs cells slots ls ad (hD.stk ⟨trivial, hD.lvs⟩))
theorem wp_iload {i : Nat} {x : Int32} (hd : decode mi.2.1 pc = .ok (.iload i, 2)) (hL : L[i]? = some (some (vI x))) (h : WP mi d k (pc + 2) L (vI x :: st) S Q QX) : WP mi d k pc L (st) S Q QX := by
  intro p l e R s m args below meth c D A lv0 ad0 hC H locs cells slots ls ad hD
  exact lv_iload hC.1 hC.2.1 hd (hD.lh.2.2.2 _ _ hL).1 (h p l e R s m args below meth c D A lv0 ad0 hC H locs cells slots ls ad (hD.stk ⟨trivial, hD.lvs⟩))
theorem wp_aload_n {n : Fin 4} {o : Option (Nat × Nat)} (hd : decode mi.2.1 pc = .ok (.aload_n n, 1)) (hL : L[(n : Nat)]? = some (some (.inr (.inl o)))) (h : WP mi d k (pc + 1) L (.inr (.inl o) :: st) S Q QX) : WP mi d k pc L st S Q QX := by
  intro p l e R s m args below meth c D A lv0 ad0 hC H locs cells slots ls ad hD
  obtain ⟨h1, h2, h3⟩ := hD.lh.2.2.2 _ _ hL
  cases o with
  | none => exact lv_aload_nN hC.1 hC.2.1 hd rfl h1 (h p l e R s m args below meth c D A lv0 ad0 hC H locs cells slots ls ad (hD.stk ⟨h3, hD.lvs⟩))
  | some q => exact lv_aload_n hC.1 hC.2.1 hd rfl h1 (h p l e R s m args below meth c D A lv0 ad0 hC H locs cells slots ls ad (hD.stk ⟨h3, hD.lvs⟩))
theorem wp_aload {i : Nat} {o : Option (Nat × Nat)} (hd : decode mi.2.1 pc = .ok (.aload i, 2)) (hL : L[i]? = some (some (.inr (.inl o)))) (h : WP mi d k (pc + 2) L (.inr (.inl o) :: st) S Q QX) : WP mi d k pc L st S Q QX := by
  intro p l e R s m args below meth c D A lv0 ad0 hC H locs cells slots ls ad hD
  obtain ⟨h1, h2, h3⟩ := hD.lh.2.2.2 _ _ hL
  cases o with
  | none => exact lv_aloadN hC.1 hC.2.1 hd h1 (h p l e R s m args below meth c D A lv0 ad0 hC H locs cells slots ls ad (hD.stk ⟨h3, hD.lvs⟩))
  | some q => exact lv_aload hC.1 hC.2.1 hd h1 (h p l e R s m args below meth c D A lv0 ad0 hC H locs cells slots ls ad (hD.stk ⟨h3, hD.lvs⟩))
theorem wp_istore_n {n : Fin 4} {x : Int32} (hd : decode mi.2.1 pc = .ok (.istore_n n, 1)) (hn : Nat.ble ((n : Nat) + 1) L.length = true) (hL : L.set (n : Nat) (some (vI x)) = L') (h : WP mi d k (pc + 1) L' st S Q QX) : WP mi d k pc L (vI x :: st) S Q QX := by
  intro p l e R s m args below meth c D A lv0 ad0 hC H locs cells slots ls ad hD
  subst hL
  exact lv_istore_n hC.1 hC.2.1 hd rfl hD.lh.has (by have := Nat.le_of_ble_eq_true hn; rw [hD.lh.2.2.1] at this; omega) rfl (fun ls' hl => h p l e R s m args below meth c D A lv0 ad0 hC H locs cells slots ls' ad (hD.loc (hD.lh.put (v := vI x) rfl trivial hl) hD.lvs.2))
theorem wp_astore_n {n : Fin 4} {o : Option (Nat × Nat)} (hd : decode mi.2.1 pc = .ok (.astore_n n, 1)) (hn : Nat.ble ((n : Nat) + 1) L.length = true) (hL : L.set (n : Nat) (some (.inr (.inl o))) = L') (h : WP mi d k (pc + 1) L' st S Q QX) : WP mi d k pc L (.inr (.inl o) :: st) S Q QX := by
  intro p l e R s m args below meth c D A lv0 ad0 hC H locs cells slots ls ad hD
  subst hL
  have hn' : (n : Nat) < mi.2.2.1 := by have := Nat.le_of_ble_eq_true hn; rw [hD.lh.2.2.1] at this; omega
  cases o with
  | none => exact lv_astore_nN hC.1 hC.2.1 hd rfl hD.lh.has hn' rfl (fun ls' hl => h p l e R s m args below meth c D A lv0 ad0 hC H locs cells slots ls' ad (hD.loc (hD.lh.put (v := vN) rfl hD.lvs.1 hl) hD.lvs.2))
  | some q => exact lv_astore_n hC.1 hC.2.1 hd rfl hD.lh.has hn' rfl (fun ls' hl => h p l e R s m args below meth c D A lv0 ad0 hC H locs cells slots ls' ad (hD.loc (hD.lh.put (v := .inr (.inl (some q))) rfl hD.lvs.1 hl) hD.lvs.2))
theorem wp_istore {i : Nat} {x : Int32} (hd : decode mi.2.1 pc = .ok (.istore i, 2)) (hn : Nat.ble (i + 1) L.length = true) (hL : L.set i (some (vI x)) = L') (h : WP mi d k (pc + 2) L' st S Q QX) : WP mi d k pc L (vI x :: st) S Q QX := by
  intro p l e R s m args below meth c D A lv0 ad0 hC H locs cells slots ls ad hD
  subst hL
  exact lv_istore hC.1 hC.2.1 hd hD.lh.has (by have := Nat.le_of_ble_eq_true hn; rw [hD.lh.2.2.1] at this; omega) rfl (fun ls' hl => h p l e R s m args below meth c D A lv0 ad0 hC H locs cells slots ls' ad (hD.loc (hD.lh.put (v := vI x) rfl trivial hl) hD.lvs.2))
theorem wp_astore {i : Nat} {o : Option (Nat × Nat)} (hd : decode mi.2.1 pc = .ok (.astore i, 2)) (hn : Nat.ble (i + 1) L.length = true) (hL : L.set i (some (.inr (.inl o))) = L') (h : WP mi d k (pc + 2) L' st S Q QX) : WP mi d k pc L (.inr (.inl o) :: st) S Q QX := by
  intro p l e R s m args below meth c D A lv0 ad0 hC H locs cells slots ls ad hD
  subst hL
  have hn' : i < mi.2.2.1 := by have := Nat.le_of_ble_eq_true hn; rw [hD.lh.2.2.1] at this; omega
  cases o with
  | none => exact lv_astoreN hC.1 hC.2.1 hd hD.lh.has hn' rfl (fun ls' hl => h p l e R s m args below meth c D A lv0 ad0 hC H locs cells slots ls' ad (hD.loc (hD.lh.put (v := vN) rfl hD.lvs.1 hl) hD.lvs.2))
  | some q => exact lv_astore hC.1 hC.2.1 hd hD.lh.has hn' rfl (fun ls' hl => h p l e R s m args below meth c D A lv0 ad0 hC H locs cells slots ls' ad (hD.loc (hD.lh.put (v := .inr (.inl (some q))) rfl hD.lvs.1 hl) hD.lvs.2))
theorem wp_iinc {i : Nat} {n : Int} {x v : Int32} (hd : decode mi.2.1 pc = .ok (.iinc i n, 3)) (hx : L[i]? = some (some (vI x))) (hv : x + Int32.ofInt n = v) (hL : L.set i (some (vI v)) = L') (h : WP mi d k (pc + 3) L' st S Q QX) : WP mi d k pc L st S Q QX := by
  intro p l e R s m args below meth c D A lv0 ad0 hC H locs cells slots ls ad hD
  subst hL
  obtain ⟨j, hj⟩ := List.getElem?_of_mem (lhl_mem (ad := ad) hx)
  exact lv_iinc hC.1 hC.2.1 hd hD.lh.has hj hv (by have := (List.getElem?_eq_some_iff.mp hx).1; rw [hD.lh.2.2.1] at this; exact this) rfl (fun ls' hl => h p l e R s m args below meth c D A lv0 ad0 hC H locs cells slots ls' ad (hD.loc (hD.lh.put (v := vI v) rfl trivial hl) hD.lvs))
theorem wp_dup {v : sV} (hd : decode mi.2.1 pc = .ok (.dup, 1)) (hv : cat1 v) (h : WP mi d k (pc + 1) L (v :: v :: st) S Q QX) : WP mi d k pc L (v :: st) S Q QX := by
  intro p l e R s m args below meth c D A lv0 ad0 hC H locs cells slots ls ad hD
  exact lv_dup hC.1 hC.2.1 hd (cat1_1 ad hv) (h p l e R s m args below meth c D A lv0 ad0 hC H locs cells slots ls ad (hD.stk ⟨hD.lvs.1, hD.lvs⟩))
theorem wp_dup2 {v u : sV} (hd : decode mi.2.1 pc = .ok (.dup2, 1)) (hv : cat1 v) (hu : cat1 u) (h : WP mi d k (pc + 1) L (v :: u :: v :: u :: st) S Q QX) : WP mi d k pc L (v :: u :: st) S Q QX := by
  intro p l e R s m args below meth c D A lv0 ad0 hC H locs cells slots ls ad hD
  exact lv_dup2_11 hC.1 hC.2.1 hd (cat1_1 ad hv) (cat1_1 ad hu) (h p l e R s m args below meth c D A lv0 ad0 hC H locs cells slots ls ad (hD.stk ⟨hD.lvs.1, hD.lvs.2.1, hD.lvs⟩))
theorem wp_pop {v : sV} (hd : decode mi.2.1 pc = .ok (.pop, 1)) (hv : cat1 v) (h : WP mi d k (pc + 1) L (st) S Q QX) : WP mi d k pc L (v :: st) S Q QX := by
  intro p l e R s m args below meth c D A lv0 ad0 hC H locs cells slots ls ad hD
  exact lv_pop hC.1 hC.2.1 hd (cat1_1 ad hv) (h p l e R s m args below meth c D A lv0 ad0 hC H locs cells slots ls ad (hD.stk hD.lvs.2))
theorem wp_iadd {x y : Int32} (hd : decode mi.2.1 pc = .ok (.iadd, 1)) (h : WP mi d k (pc + 1) L (vI (x + y) :: st) S Q QX) : WP mi d k pc L (vI y :: vI x :: st) S Q QX := by
  intro p l e R s m args below meth c D A lv0 ad0 hC H locs cells slots ls ad hD
  exact lv_iadd hC.1 hC.2.1 hd (h p l e R s m args below meth c D A lv0 ad0 hC H locs cells slots ls ad (hD.stk ⟨trivial, hD.lvs.2.2⟩))
theorem wp_isub {x y : Int32} (hd : decode mi.2.1 pc = .ok (.isub, 1)) (h : WP mi d k (pc + 1) L (vI (x - y) :: st) S Q QX) : WP mi d k pc L (vI y :: vI x :: st) S Q QX := by
  intro p l e R s m args below meth c D A lv0 ad0 hC H locs cells slots ls ad hD
  exact lv_isub hC.1 hC.2.1 hd (h p l e R s m args below meth c D A lv0 ad0 hC H locs cells slots ls ad (hD.stk ⟨trivial, hD.lvs.2.2⟩))
theorem wp_imul {x y : Int32} (hd : decode mi.2.1 pc = .ok (.imul, 1)) (h : WP mi d k (pc + 1) L (vI (x * y) :: st) S Q QX) : WP mi d k pc L (vI y :: vI x :: st) S Q QX := by
  intro p l e R s m args below meth c D A lv0 ad0 hC H locs cells slots ls ad hD
  exact lv_imul hC.1 hC.2.1 hd (h p l e R s m args below meth c D A lv0 ad0 hC H locs cells slots ls ad (hD.stk ⟨trivial, hD.lvs.2.2⟩))
theorem wp_iand {x y : Int32} (hd : decode mi.2.1 pc = .ok (.iand, 1)) (h : WP mi d k (pc + 1) L (vI (x &&& y) :: st) S Q QX) : WP mi d k pc L (vI y :: vI x :: st) S Q QX := by
  intro p l e R s m args below meth c D A lv0 ad0 hC H locs cells slots ls ad hD
  exact lv_iand hC.1 hC.2.1 hd (h p l e R s m args below meth c D A lv0 ad0 hC H locs cells slots ls ad (hD.stk ⟨trivial, hD.lvs.2.2⟩))
theorem wp_idiv {x y : Int32} (hd : decode mi.2.1 pc = .ok (.idiv, 1)) (hne : ¬ y = 0) (h : WP mi d k (pc + 1) L (vI (x / y) :: st) S Q QX) : WP mi d k pc L (vI y :: vI x :: st) S Q QX := by
  intro p l e R s m args below meth c D A lv0 ad0 hC H locs cells slots ls ad hD
  exact lv_idiv hC.1 hC.2.1 hd hne (h p l e R s m args below meth c D A lv0 ad0 hC H locs cells slots ls ad (hD.stk ⟨trivial, hD.lvs.2.2⟩))
theorem wp_irem {x y : Int32} (hd : decode mi.2.1 pc = .ok (.irem, 1)) (hne : ¬ y = 0) (h : WP mi d k (pc + 1) L (vI (x - x / y * y) :: st) S Q QX) : WP mi d k pc L (vI y :: vI x :: st) S Q QX := by
  intro p l e R s m args below meth c D A lv0 ad0 hC H locs cells slots ls ad hD
  exact lv_irem hC.1 hC.2.1 hd hne (h p l e R s m args below meth c D A lv0 ad0 hC H locs cells slots ls ad (hD.stk ⟨trivial, hD.lvs.2.2⟩))
theorem wp_i2l {x : Int32} (hd : decode mi.2.1 pc = .ok (.i2l, 1)) (h : WP mi d k (pc + 1) L (vL x.toInt64 :: st) S Q QX) : WP mi d k pc L (vI x :: st) S Q QX := by
  intro p l e R s m args below meth c D A lv0 ad0 hC H locs cells slots ls ad hD
  exact lv_i2l hC.1 hC.2.1 hd rfl (h p l e R s m args below meth c D A lv0 ad0 hC H locs cells slots ls ad (hD.stk ⟨trivial, hD.lvs.2⟩))
theorem wp_lcmp {x y : Int64} (hd : decode mi.2.1 pc = .ok (.lcmp, 1)) (h : WP mi d k (pc + 1) L (vI (lg_cmp x y) :: st) S Q QX) : WP mi d k pc L (vL y :: vL x :: st) S Q QX := by
  intro p l e R s m args below meth c D A lv0 ad0 hC H locs cells slots ls ad hD
  exact W.lcmp hC.1 hC.2.1 hd (h p l e R s m args below meth c D A lv0 ad0 hC H locs cells slots ls ad (hD.stk ⟨trivial, hD.lvs.2.2⟩))
theorem wp_if_eq {x : Int32} {off : Int} {tgt : Nat} (hd : decode mi.2.1 pc = .ok (.ifCond .eq off, 3)) (ht : (pc : Int) + off = (tgt : Int)) (kt : x = 0 → WP mi d k tgt L st S Q QX) (kf : ¬ x = 0 → WP mi d k (pc + 3) L st S Q QX) : WP mi d k pc L (vI x :: st) S Q QX := by
  intro p l e R s m args below meth c D A lv0 ad0 hC H locs cells slots ls ad hD
  exact lv_if_eq hC.1 hC.2.1 hd ht (fun q => kt q p l e R s m args below meth c D A lv0 ad0 hC H locs cells slots ls ad (hD.stk hD.lvs.2)) (fun q => kf q p l e R s m args below meth c D A lv0 ad0 hC H locs cells slots ls ad (hD.stk hD.lvs.2))
theorem wp_icmp_eq {x y : Int32} {off : Int} {tgt : Nat} (hd : decode mi.2.1 pc = .ok (.if_icmp .eq off, 3)) (ht : (pc : Int) + off = (tgt : Int)) (kt : x = y → WP mi d k tgt L st S Q QX) (kf : ¬ x = y → WP mi d k (pc + 3) L st S Q QX) : WP mi d k pc L (vI y :: vI x :: st) S Q QX := by
  intro p l e R s m args below meth c D A lv0 ad0 hC H locs cells slots ls ad hD
  exact lv_icmp_eq hC.1 hC.2.1 hd ht (fun q => kt q p l e R s m args below meth c D A lv0 ad0 hC H locs cells slots ls ad (hD.stk hD.lvs.2.2)) (fun q => kf q p l e R s m args below meth c D A lv0 ad0 hC H locs cells slots ls ad (hD.stk hD.lvs.2.2))
theorem wp_if_ne {x : Int32} {off : Int} {tgt : Nat} (hd : decode mi.2.1 pc = .ok (.ifCond .ne off, 3)) (ht : (pc : Int) + off = (tgt : Int)) (kt : ¬ x = 0 → WP mi d k tgt L st S Q QX) (kf : x = 0 → WP mi d k (pc + 3) L st S Q QX) : WP mi d k pc L (vI x :: st) S Q QX := by
  intro p l e R s m args below meth c D A lv0 ad0 hC H locs cells slots ls ad hD
  exact lv_if_ne hC.1 hC.2.1 hd ht (fun q => kt q p l e R s m args below meth c D A lv0 ad0 hC H locs cells slots ls ad (hD.stk hD.lvs.2)) (fun q => kf q p l e R s m args below meth c D A lv0 ad0 hC H locs cells slots ls ad (hD.stk hD.lvs.2))
theorem wp_icmp_ne {x y : Int32} {off : Int} {tgt : Nat} (hd : decode mi.2.1 pc = .ok (.if_icmp .ne off, 3)) (ht : (pc : Int) + off = (tgt : Int)) (kt : ¬ x = y → WP mi d k tgt L st S Q QX) (kf : x = y → WP mi d k (pc + 3) L st S Q QX) : WP mi d k pc L (vI y :: vI x :: st) S Q QX := by
  intro p l e R s m args below meth c D A lv0 ad0 hC H locs cells slots ls ad hD
  exact lv_icmp_ne hC.1 hC.2.1 hd ht (fun q => kt q p l e R s m args below meth c D A lv0 ad0 hC H locs cells slots ls ad (hD.stk hD.lvs.2.2)) (fun q => kf q p l e R s m args below meth c D A lv0 ad0 hC H locs cells slots ls ad (hD.stk hD.lvs.2.2))
theorem wp_if_lt {x : Int32} {off : Int} {tgt : Nat} (hd : decode mi.2.1 pc = .ok (.ifCond .lt off, 3)) (ht : (pc : Int) + off = (tgt : Int)) (kt : x < 0 → WP mi d k tgt L st S Q QX) (kf : ¬ x < 0 → WP mi d k (pc + 3) L st S Q QX) : WP mi d k pc L (vI x :: st) S Q QX := by
  intro p l e R s m args below meth c D A lv0 ad0 hC H locs cells slots ls ad hD
  exact lv_if_lt hC.1 hC.2.1 hd ht (fun q => kt q p l e R s m args below meth c D A lv0 ad0 hC H locs cells slots ls ad (hD.stk hD.lvs.2)) (fun q => kf q p l e R s m args below meth c D A lv0 ad0 hC H locs cells slots ls ad (hD.stk hD.lvs.2))
theorem wp_icmp_lt {x y : Int32} {off : Int} {tgt : Nat} (hd : decode mi.2.1 pc = .ok (.if_icmp .lt off, 3)) (ht : (pc : Int) + off = (tgt : Int)) (kt : x < y → WP mi d k tgt L st S Q QX) (kf : ¬ x < y → WP mi d k (pc + 3) L st S Q QX) : WP mi d k pc L (vI y :: vI x :: st) S Q QX := by
  intro p l e R s m args below meth c D A lv0 ad0 hC H locs cells slots ls ad hD
  exact lv_icmp_lt hC.1 hC.2.1 hd ht (fun q => kt q p l e R s m args below meth c D A lv0 ad0 hC H locs cells slots ls ad (hD.stk hD.lvs.2.2)) (fun q => kf q p l e R s m args below meth c D A lv0 ad0 hC H locs cells slots ls ad (hD.stk hD.lvs.2.2))
theorem wp_if_ge {x : Int32} {off : Int} {tgt : Nat} (hd : decode mi.2.1 pc = .ok (.ifCond .ge off, 3)) (ht : (pc : Int) + off = (tgt : Int)) (kt : 0 ≤ x → WP mi d k tgt L st S Q QX) (kf : ¬ 0 ≤ x → WP mi d k (pc + 3) L st S Q QX) : WP mi d k pc L (vI x :: st) S Q QX := by
  intro p l e R s m args below meth c D A lv0 ad0 hC H locs cells slots ls ad hD
  exact lv_if_ge hC.1 hC.2.1 hd ht (fun q => kt q p l e R s m args below meth c D A lv0 ad0 hC H locs cells slots ls ad (hD.stk hD.lvs.2)) (fun q => kf q p l e R s m args below meth c D A lv0 ad0 hC H locs cells slots ls ad (hD.stk hD.lvs.2))
theorem wp_icmp_ge {x y : Int32} {off : Int} {tgt : Nat} (hd : decode mi.2.1 pc = .ok (.if_icmp .ge off, 3)) (ht : (pc : Int) + off = (tgt : Int)) (kt : y ≤ x → WP mi d k tgt L st S Q QX) (kf : ¬ y ≤ x → WP mi d k (pc + 3) L st S Q QX) : WP mi d k pc L (vI y :: vI x :: st) S Q QX := by
  intro p l e R s m args below meth c D A lv0 ad0 hC H locs cells slots ls ad hD
  exact lv_icmp_ge hC.1 hC.2.1 hd ht (fun q => kt q p l e R s m args below meth c D A lv0 ad0 hC H locs cells slots ls ad (hD.stk hD.lvs.2.2)) (fun q => kf q p l e R s m args below meth c D A lv0 ad0 hC H locs cells slots ls ad (hD.stk hD.lvs.2.2))
theorem wp_if_gt {x : Int32} {off : Int} {tgt : Nat} (hd : decode mi.2.1 pc = .ok (.ifCond .gt off, 3)) (ht : (pc : Int) + off = (tgt : Int)) (kt : 0 < x → WP mi d k tgt L st S Q QX) (kf : ¬ 0 < x → WP mi d k (pc + 3) L st S Q QX) : WP mi d k pc L (vI x :: st) S Q QX := by
  intro p l e R s m args below meth c D A lv0 ad0 hC H locs cells slots ls ad hD
  exact lv_if_gt hC.1 hC.2.1 hd ht (fun q => kt q p l e R s m args below meth c D A lv0 ad0 hC H locs cells slots ls ad (hD.stk hD.lvs.2)) (fun q => kf q p l e R s m args below meth c D A lv0 ad0 hC H locs cells slots ls ad (hD.stk hD.lvs.2))
theorem wp_icmp_gt {x y : Int32} {off : Int} {tgt : Nat} (hd : decode mi.2.1 pc = .ok (.if_icmp .gt off, 3)) (ht : (pc : Int) + off = (tgt : Int)) (kt : y < x → WP mi d k tgt L st S Q QX) (kf : ¬ y < x → WP mi d k (pc + 3) L st S Q QX) : WP mi d k pc L (vI y :: vI x :: st) S Q QX := by
  intro p l e R s m args below meth c D A lv0 ad0 hC H locs cells slots ls ad hD
  exact lv_icmp_gt hC.1 hC.2.1 hd ht (fun q => kt q p l e R s m args below meth c D A lv0 ad0 hC H locs cells slots ls ad (hD.stk hD.lvs.2.2)) (fun q => kf q p l e R s m args below meth c D A lv0 ad0 hC H locs cells slots ls ad (hD.stk hD.lvs.2.2))
theorem wp_if_le {x : Int32} {off : Int} {tgt : Nat} (hd : decode mi.2.1 pc = .ok (.ifCond .le off, 3)) (ht : (pc : Int) + off = (tgt : Int)) (kt : x ≤ 0 → WP mi d k tgt L st S Q QX) (kf : ¬ x ≤ 0 → WP mi d k (pc + 3) L st S Q QX) : WP mi d k pc L (vI x :: st) S Q QX := by
  intro p l e R s m args below meth c D A lv0 ad0 hC H locs cells slots ls ad hD
  exact lv_if_le hC.1 hC.2.1 hd ht (fun q => kt q p l e R s m args below meth c D A lv0 ad0 hC H locs cells slots ls ad (hD.stk hD.lvs.2)) (fun q => kf q p l e R s m args below meth c D A lv0 ad0 hC H locs cells slots ls ad (hD.stk hD.lvs.2))
theorem wp_icmp_le {x y : Int32} {off : Int} {tgt : Nat} (hd : decode mi.2.1 pc = .ok (.if_icmp .le off, 3)) (ht : (pc : Int) + off = (tgt : Int)) (kt : x ≤ y → WP mi d k tgt L st S Q QX) (kf : ¬ x ≤ y → WP mi d k (pc + 3) L st S Q QX) : WP mi d k pc L (vI y :: vI x :: st) S Q QX := by
  intro p l e R s m args below meth c D A lv0 ad0 hC H locs cells slots ls ad hD
  exact lv_icmp_le hC.1 hC.2.1 hd ht (fun q => kt q p l e R s m args below meth c D A lv0 ad0 hC H locs cells slots ls ad (hD.stk hD.lvs.2.2)) (fun q => kf q p l e R s m args below meth c D A lv0 ad0 hC H locs cells slots ls ad (hD.stk hD.lvs.2.2))
theorem wp_goto {off : Int} {tgt : Nat} (hd : decode mi.2.1 pc = .ok (.goto off, 3)) (ht : (pc : Int) + off = (tgt : Int)) (h : WP mi d k tgt L st S Q QX) : WP mi d k pc L st S Q QX := by
  intro p l e R s m args below meth c D A lv0 ad0 hC H locs cells slots ls ad hD
  exact lv_goto hC.1 hC.2.1 hd ht (h p l e R s m args below meth c D A lv0 ad0 hC H locs cells slots ls ad hD)
theorem wp_ifnull {o : Option (Nat × Nat)} {off : Int} {tgt : Nat} (hd : decode mi.2.1 pc = .ok (.ifnull off, 3)) (ht : (pc : Int) + off = (tgt : Int)) (kt : o = none → WP mi d k tgt L st S Q QX) (kf : ¬ o = none → WP mi d k (pc + 3) L st S Q QX) : WP mi d k pc L (.inr (.inl o) :: st) S Q QX := by
  intro p l e R s m args below meth c D A lv0 ad0 hC H locs cells slots ls ad hD
  cases o with
  | none => exact lv_ifnullN hC.1 hC.2.1 hd ht (kt rfl p l e R s m args below meth c D A lv0 ad0 hC H locs cells slots ls ad (hD.stk hD.lvs.2))
  | some q => exact lv_ifnull hC.1 hC.2.1 hd (kf (fun q => nomatch q) p l e R s m args below meth c D A lv0 ad0 hC H locs cells slots ls ad (hD.stk hD.lvs.2))
theorem wp_ifnonnull {o : Option (Nat × Nat)} {off : Int} {tgt : Nat} (hd : decode mi.2.1 pc = .ok (.ifnonnull off, 3)) (ht : (pc : Int) + off = (tgt : Int)) (kt : ¬ o = none → WP mi d k tgt L st S Q QX) (kf : o = none → WP mi d k (pc + 3) L st S Q QX) : WP mi d k pc L (.inr (.inl o) :: st) S Q QX := by
  intro p l e R s m args below meth c D A lv0 ad0 hC H locs cells slots ls ad hD
  cases o with
  | none => exact lv_ifnonnullN hC.1 hC.2.1 hd (kf rfl p l e R s m args below meth c D A lv0 ad0 hC H locs cells slots ls ad (hD.stk hD.lvs.2))
  | some q => exact lv_ifnonnull hC.1 hC.2.1 hd ht (kt (fun q => nomatch q) p l e R s m args below meth c D A lv0 ad0 hC H locs cells slots ls ad (hD.stk hD.lvs.2))
theorem wp_acmp_ne {c1 i1 c2 i2 : Nat} {off : Int} {tgt : Nat} (hd : decode mi.2.1 pc = .ok (.if_acmp .ne off, 3)) (ht : (pc : Int) + off = (tgt : Int)) (hc : ¬ (71 ≤ c1 ∧ c1 < 75)) (hc2 : ¬ (71 ≤ c2 ∧ c2 < 75)) (kt : ¬ (c1 = c2 ∧ i1 = i2) → WP mi d k tgt L st S Q QX) (kf : c1 = c2 ∧ i1 = i2 → WP mi d k (pc + 3) L st S Q QX) : WP mi d k pc L (vR c2 i2 :: vR c1 i1 :: st) S Q QX := by
  intro p l e R s m args below meth c D A lv0 ad0 hC H locs cells slots ls ad hD
  have h2 : S.1 c2 i2 = true := hD.lvs.1.elim id (fun q => absurd ⟨q.1, q.2.1⟩ hc2)
  have h1 : S.1 c1 i1 = true := hD.lvs.2.1.elim id (fun q => absurd ⟨q.1, q.2.1⟩ hc)
  refine lv_acmp_ne (rx := some (ad c1 i1)) (ry := some (ad c2 i2)) hC.1 hC.2.1 hd ht (fun q => kt (fun z => q (by rw [z.1, z.2])) p l e R s m args below meth c D A lv0 ad0 hC H locs cells slots ls ad (hD.stk hD.lvs.2.2)) (fun q => kf ?_ p l e R s m args below meth c D A lv0 ad0 hC H locs cells slots ls ad (hD.stk hD.lvs.2.2))
  exact hD.1.2.1 c1 i1 c2 i2 (Or.inl h1) (Or.inl h2) (Option.some.inj q)
theorem wp_tableIn {dflt lo hi : Int} {offs : Array Int} {n : Nat} {x : Int32} {off : Int} {tgt : Nat} (hd : decode mi.2.1 pc = .ok (.tableswitch dflt lo hi offs, n)) (h1 : ¬ x.toInt < lo) (h2 : ¬ hi < x.toInt) (ho : offs[(x.toInt - lo).toNat]? = some off) (ht : (pc : Int) + off = (tgt : Int)) (h : WP mi d k tgt L st S Q QX) : WP mi d k pc L (vI x :: st) S Q QX := by
  intro p l e R s m args below meth c D A lv0 ad0 hC H locs cells slots ls ad hD
  exact lv_tableIn hC.1 hC.2.1 hd h1 h2 ho ht (h p l e R s m args below meth c D A lv0 ad0 hC H locs cells slots ls ad (hD.stk hD.lvs.2))
theorem wp_tableOut {dflt lo hi : Int} {offs : Array Int} {n : Nat} {x : Int32} {tgt : Nat} (hd : decode mi.2.1 pc = .ok (.tableswitch dflt lo hi offs, n)) (h1 : x.toInt < lo ∨ hi < x.toInt) (ht : (pc : Int) + dflt = (tgt : Int)) (h : WP mi d k tgt L st S Q QX) : WP mi d k pc L (vI x :: st) S Q QX := by
  intro p l e R s m args below meth c D A lv0 ad0 hC H locs cells slots ls ad hD
  exact lv_tableOut hC.1 hC.2.1 hd h1 ht (h p l e R s m args below meth c D A lv0 ad0 hC H locs cells slots ls ad (hD.stk hD.lvs.2))
theorem wp_ireturn {x : Int32} (hr : mi.2.2.2.1 = some .int) (hd : decode mi.2.1 pc = .ok (.ireturn, 1)) (hq : Q (some (vI x)) S) : WP mi d k pc L [vI x] S Q QX := by
  intro p l e R s m args below meth c D A lv0 ad0 hC H locs cells slots ls ad hD
  refine W.widen (k := R.cells) (n := R.slots) (by have := hD.2.2.2.2.2.2.1; omega) (by have := hD.2.2.2.2.2.2.2; omega) (vx_ret ?_)
  exact W.iret hC.1 hC.2.1 (hC.2.2.1.trans hr) (fun t ht hW => ⟨⟨(some (vI x)), S, ad, rfl, hq, by rw [ht]; exact hD.1, hD.2.2.2.1, fun v hv => by cases hv; trivial, hD.2.1⟩, hD.2.2.1.F ht⟩) hD.2.2.1.2.2 hd hC.2.2.2.1
theorem wp_zreturn {x : Int32} (hr : mi.2.2.2.1 = some .boolean) (hx : x = 0 ∨ x = 1) (hd : decode mi.2.1 pc = .ok (.ireturn, 1)) (hq : Q (some (vI x)) S) : WP mi d k pc L [vI x] S Q QX := by
  intro p l e R s m args below meth c D A lv0 ad0 hC H locs cells slots ls ad hD
  refine W.widen (k := R.cells) (n := R.slots) (by have := hD.2.2.2.2.2.2.1; omega) (by have := hD.2.2.2.2.2.2.2; omega) (vx_ret ?_)
  exact W.zret hC.1 hC.2.1 (hC.2.2.1.trans hr) (by rcases hx with rfl | rfl <;> rfl) (fun t ht hW => ⟨⟨(some (vI x)), S, ad, rfl, hq, by rw [ht]; exact hD.1, hD.2.2.2.1, fun v hv => by cases hv; trivial, hD.2.1⟩, hD.2.2.1.F ht⟩) hD.2.2.1.2.2 hd hC.2.2.2.1
theorem wp_return (hr : mi.2.2.2.1 = none) (hd : decode mi.2.1 pc = .ok (.return_, 1)) (hq : Q none S) : WP mi d k pc L [] S Q QX := by
  intro p l e R s m args below meth c D A lv0 ad0 hC H locs cells slots ls ad hD
  refine W.widen (k := R.cells) (n := R.slots) (by have := hD.2.2.2.2.2.2.1; omega) (by have := hD.2.2.2.2.2.2.2; omega) (vx_ret ?_)
  exact W.vret hC.1 hC.2.1 (hC.2.2.1.trans hr) (fun t ht hW => ⟨⟨none, S, ad, rfl, hq, by rw [ht]; exact hD.1, hD.2.2.2.1, fun v hv => (by cases hv), hD.2.1⟩, hD.2.2.1.F ht⟩) hD.2.2.1.2.2 hd hC.2.2.2.1
theorem wp_areturn {o : Option (Nat × Nat)} {C : String} (hr : mi.2.2.2.1 = some (.object C)) (hd : decode mi.2.1 pc = .ok (.areturn, 1)) (hq : Q (some (.inr (.inl o))) S) : WP mi d k pc L [.inr (.inl o)] S Q QX := by
  intro p l e R s m args below meth c D A lv0 ad0 hC H locs cells slots ls ad hD
  refine W.widen (k := R.cells) (n := R.slots) (by have := hD.2.2.2.2.2.2.1; omega) (by have := hD.2.2.2.2.2.2.2; omega) (vx_ret ?_)
  exact W.aret hC.1 hC.2.1 (hC.2.2.1.trans hr) (Or.inl ⟨_, rfl⟩) (by cases o with | none => exact Or.inl rfl | some q => exact Or.inr ⟨_, rfl⟩) (fun t ht hW => ⟨⟨some (.inr (.inl o)), S, ad, rfl, hq, by rw [ht]; exact hD.1, hD.2.2.2.1, fun v hv => by cases hv; exact hD.lvs.1, hD.2.1⟩, hD.2.2.1.F ht⟩) hD.2.2.1.2.2 hd hC.2.2.2.1
end WPR
end
section
/-! what the tables say of the classes -/
def cn (c : Nat) : String := match c with | 0 => RX0 | 1 => RX1 | 2 => RX2 | 3 => RX3 | 4 => RX4 | 5 => RX5 | 6 => RX6 | 7 => RX7 | 8 => RX8 | _ => RX9
def cT (c : Nat) : u_T := match c with | 0 => TX0 | 1 => TX1 | 2 => TX2 | 3 => TX3 | 4 => TX4 | 5 => TX5 | 6 => TX6 | 7 => TX7 | 8 => TX8 | _ => TX9
def cY (c : Nat) : Nat → FieldType := match c with | 0 => tyX0 | 1 => tyX1 | 2 => tyX2 | 3 => tyX3 | 4 => tyX4 | 5 => tyX5 | 6 => tyX6 | 7 => tyX7 | 8 => tyX8 | _ => tyX9
theorem c10 {P : Nat → Prop} (h0 : P 0) (h1 : P 1) (h2 : P 2) (h3 : P 3) (h4 : P 4) (h5 : P 5) (h6 : P 6) (h7 : P 7) (h8 : P 8) (h9 : P 9) {c : Nat} (h : c < 10) : P c := by
  match c, h with
  | 0, _ => exact h0 | 1, _ => exact h1 | 2, _ => exact h2 | 3, _ => exact h3 | 4, _ => exact h4 | 5, _ => exact h5 | 6, _ => exact h6 | 7, _ => exact h7 | 8, _ => exact h8 | 9, _ => exact h9
theorem kd0 {c : Nat} (h : kd c = 0) : c < 10 := by
  unfold kd at h
  split at h
  · assumption
  all_goals (repeat' split at h) <;> simp at h
theorem cls_at {c : Nat} (h : c < 10) : cls[c]? = some (cn c, cT c, nF c) := c10 (P := fun c => cls[c]? = some (cn c, cT c, nF c)) rfl rfl rfl rfl rfl rfl rfl rfl rfl rfl h
theorem nF_lt {c : Nat} (h : c < 10) : nF c < 128 := c10 (P := fun c => nF c < 128) (by decide) (by decide) (by decide) (by decide) (by decide) (by decide) (by decide) (by decide) (by decide) (by decide) h
theorem cY_ok {c : Nat} (h : c < 10) : ∀ k, k < nF c → parseFieldDescriptor (cT c k).2.2.1 = some (cY c k) := c10 (P := fun c => ∀ k, k < nF c → parseFieldDescriptor (cT c k).2.2.1 = some (cY c k)) tyX0_ok tyX1_ok tyX2_ok tyX3_ok tyX4_ok tyX5_ok tyX6_ok tyX7_ok tyX8_ok tyX9_ok h
theorem cN_ok {c : Nat} (h : c < 10) : ∀ a, a < nF c → ∀ b, b < nF c → a ≠ b → (cT c a).2.1 ≠ (cT c b).2.1 := c10 (P := fun c => ∀ a, a < nF c → ∀ b, b < nF c → a ≠ b → (cT c a).2.1 ≠ (cT c b).2.1) nmX0 nmX1 nmX2 nmX3 nmX4 nmX5 nmX6 nmX7 nmX8 nmX9 h
theorem TW_all {ws : List Cond} (h : ws.all (fun w => decide (w ∈ lw_tbl) && goodWord w) = true) : ∀ w ∈ ws, w ∈ TW := fun w hw => by
  have h1 := List.all_eq_true.mp h w hw
  rw [Bool.and_eq_true, decide_eq_true_eq] at h1
  exact TW_of h1.1 h1.2
theorem cW_ok {c : Nat} (h : c < 10) : ∀ w ∈ u_ws (cn c) (cT c) (nF c), w ∈ TW := c10 (P := fun c => ∀ w ∈ u_ws (cn c) (cT c) (nF c), w ∈ TW) (TW_all (by decide +kernel)) (TW_all (by decide +kernel)) (TW_all (by decide +kernel)) (TW_all (by decide +kernel)) (TW_all (by decide +kernel)) (TW_all (by decide +kernel)) (TW_all (by decide +kernel)) (TW_all (by decide +kernel)) (TW_all (by decide +kernel)) (TW_all (by decide +kernel)) h
/-! the memory, a write at a time -/
theorem cOK_congr {D : DD} {S S' : OM} {ad : Ad} {H : Heap} {c i : Nat} (h : cOK D S ad H c i) (hf : kd c = 0 → ∀ k, k < nF c → fV ad S'.2.2.2.2.2.2.2 S'.2.1 S'.2.2.1 c i k = fV ad S.2.2.2.2.2.2.2 S.2.1 S.2.2.1 c i k)
    (hi : kd c = 1 ∨ kd c = 2 → aI S'.2.2.2.2.2.2.2 S'.2.2.2.1 c i = aI S.2.2.2.2.2.2.2 S.2.2.2.1 c i) (hr : kd c = 3 → S'.2.2.2.2.1 c i = S.2.2.2.2.1 c i) (hl : kd c = 4 → S'.2.2.2.2.2.1 c i = S.2.2.2.2.2.1 c i) (ho : kd c = 5 → S'.2.2.2.2.2.2.1 = S.2.2.2.2.2.2.1) : cOK D S' ad H c i := by
  unfold cOK at h ⊢
  match hk : kd c, h with
  | 0, h => exact t_OB.to h (fun k hk2 => (hf hk k hk2).symm)
  | 1, h => show H[ad c i]? = _; rw [hi (Or.inl hk)]; exact h
  | 2, h => show H[ad c i]? = _; rw [hi (Or.inr hk)]; exact h
  | 3, h => show H[ad c i]? = _; rw [hr hk]; exact h
  | 4, h => show (∃ m : Int32, _) ∧ _; rw [hl hk]; exact h
  | 5, h => show H[ad c i]? = _; rw [ho hk]; exact h
  | _ + 6, h => exact h.elim
theorem cOK_kept {D : DD} {S : OM} {ad : Ad} {H H1 : Heap} {c i : Nat} (h : cOK D S ad H c i) (h1 : H1[ad c i]? = H[ad c i]?) (h2 : kd c = 4 → ad (c + 10) i ≠ D.2.2.1 → H1[ad (c + 10) i]? = H[ad (c + 10) i]?) : cOK D S ad H1 c i := by
  unfold cOK at h ⊢
  match hk : kd c, h with
  | 0, h => exact h.kept h1
  | 1, h => exact h1.trans h
  | 2, h => exact h1.trans h
  | 3, h => exact h1.trans h
  | 4, h =>
    obtain ⟨⟨m, hm⟩, hd⟩ := h
    refine ⟨⟨m, hm.kept h1⟩, ?_⟩
    rcases hd with hd | ⟨hne, n, a, b, c', e⟩
    · exact Or.inl hd
    · exact Or.inr ⟨hne, n, a, b, c', (h2 hk hne).trans e⟩
  | 5, h => exact h1.trans h
  | _ + 6, h => exact h.elim
theorem cOK_lt {D : DD} {S : OM} {ad : Ad} {H : Heap} {c i : Nat} (h : cOK D S ad H c i) : ad c i < H.size ∧ (kd c = 4 → ad (c + 10) i ≠ D.2.2.1 → ad (c + 10) i < H.size) := by
  unfold cOK at h
  match hk : kd c, h with
  | 0, h => obtain ⟨cell, h1, -⟩ := h; exact ⟨(Array.getElem?_eq_some_iff.mp h1).1, fun z => by cases z⟩
  | 1, h => exact ⟨(Array.getElem?_eq_some_iff.mp h).1, fun z => by cases z⟩
  | 2, h => exact ⟨(Array.getElem?_eq_some_iff.mp h).1, fun z => by cases z⟩
  | 3, h => exact ⟨(Array.getElem?_eq_some_iff.mp h).1, fun z => by cases z⟩
  | 4, h =>
    obtain ⟨⟨m, cell, h1, -⟩, hd⟩ := h
    refine ⟨(Array.getElem?_eq_some_iff.mp h1).1, fun _ hne => ?_⟩
    rcases hd with hd | ⟨-, n, a, b, c', e⟩
    · exact absurd hd.1 hne
    · exact (Array.getElem?_eq_some_iff.mp e).1
  | 5, h => exact ⟨(Array.getElem?_eq_some_iff.mp h).1, fun z => by cases z⟩
  | _ + 6, h => exact h.elim
theorem kd_list {c : Nat} (h : 60 ≤ c) (h2 : c < 67) : kd (c - 10) = 4 := by
  unfold kd
  have h3 : ¬ c - 10 < 10 := by omega
  have h4 : ¬ c - 10 < 30 := by omega
  have h5 : ¬ c - 10 < 40 := by omega
  have h6 : ¬ c - 10 < 50 := by omega
  have h7 : c - 10 < 57 := by omega
  rw [if_neg h3, if_neg h4, if_neg h5, if_neg h6, if_pos h7]
theorem kd4 {c : Nat} (h : kd c = 4) : 50 ≤ c ∧ c < 57 := by
  unfold kd at h
  repeat' split at h
  all_goals (first | (simp at h; done) | omega)
theorem lvx_lt {D : DD} {S : OM} {ad : Ad} {H : Heap} {c i : Nat} (hm : MM D S ad H) (h : lvx D S.1 ad c i) : ad c i < H.size := by
  rcases h with h | ⟨h1, h2, h3, h4⟩
  · exact (cOK_lt (hm.1 c i h)).1
  · have e : c - 10 + 10 = c := by omega
    have h5 := (cOK_lt (hm.1 (c - 10) i h3)).2 (kd_list h1 h2)
    rw [e] at h5
    exact h5 h4
/-- one cell is written: the live cell (c, i), or the row behind the list (c, i) -/
theorem MM.write {D : DD} {S S' : OM} {ad : Ad} {H H1 : Heap} {c i c0 : Nat} (hm : MM D S ad H) (hl : S.1 c i = true) (h0 : c0 = c ∨ (c0 = c + 10 ∧ kd c = 4 ∧ ad (c + 10) i ≠ D.2.2.1)) (hlv : S'.1 = S.1) (oq : ∀ q : Nat, q ≠ ad c0 i → H1[q]? = H[q]?)
    (hself : cOK D S' ad H1 c i) (hoth : ∀ c' i', S.1 c' i' = true → ¬ (c' = c ∧ i' = i) → cOK D S ad H c' i' → cOK D S' ad H c' i')
    (hfr : ∀ c i k t j, S.1 c i = true → kd c = 0 → k < nF c → tg c k = t + 1 → S'.2.1 (128 * c + k) i = some j → S.1 t j = true)
    (har : ∀ c i k j, S.1 c i = true → kd c = 3 → k < len c → S'.2.2.2.2.1 c i k = some j → S.1 (tA c) j = true)
    (hli : ∀ c i j, S.1 c i = true → kd c = 4 → j ∈ S'.2.2.2.2.2.1 c i → S.1 (tA c) j = true) : MM D S' ad H1 := by
  have hw : lvx D S.1 ad c0 i := by
    rcases h0 with rfl | ⟨rfl, hk, hne⟩
    · exact Or.inl hl
    · have := kd4 hk
      exact Or.inr ⟨by omega, by omega, by rw [Nat.add_sub_cancel]; exact hl, hne⟩
  have key : ∀ c' i', lvx D S.1 ad c' i' → ¬ (c' = c0 ∧ i' = i) → H1[ad c' i']? = H[ad c' i']? := fun c' i' h hne => oq _ (fun z => hne (hm.2.1 c' i' c0 i h hw z))
  refine ⟨fun c' i' h => ?_, by rw [hlv]; exact hm.2.1, by rw [hlv]; exact hfr, by rw [hlv]; exact har, by rw [hlv]; exact hli, hm.2.2.2.2.2.1, by rw [hlv]; exact hm.2.2.2.2.2.2⟩
  rw [hlv] at h
  by_cases hs : c' = c ∧ i' = i
  · obtain ⟨rfl, rfl⟩ := hs
    exact hself
  · refine cOK_kept (hoth c' i' h hs (hm.1 c' i' h)) (key c' i' (Or.inl h) ?_) (fun hk hne => key (c' + 10) i' ?_ ?_)
    · rintro ⟨e1, e2⟩
      rcases h0 with e | ⟨e, hk, -⟩
      · exact hs ⟨e1.trans e, e2⟩
      · have := kd4 hk
        have hz := hm.1 c' i' h
        unfold cOK at hz
        have hk9 : kd c' = 9 ∨ kd c' = 5 ∨ True := Or.inr (Or.inr trivial)
        have e9 : kd c' = 9 := by
          unfold kd
          rw [if_neg (by omega), if_neg (by omega), if_neg (by omega), if_neg (by omega), if_neg (by omega), if_neg (by omega), if_pos (by omega)]
        rw [e9] at hz
        exact hz
    · have := kd4 hk
      exact Or.inr ⟨by omega, by omega, by rw [Nat.add_sub_cancel]; exact h, hne⟩
    · rintro ⟨e1, e2⟩
      rcases h0 with e | ⟨e, -, -⟩
      · have := kd4 hk
        have hz := hm.1 c i hl
        unfold cOK at hz
        have e9 : kd c = 9 := by
          unfold kd
          rw [if_neg (by omega), if_neg (by omega), if_neg (by omega), if_neg (by omega), if_neg (by omega), if_neg (by omega), if_pos (by omega)]
        rw [e9] at hz
        exact hz
      · exact hs ⟨by omega, e2⟩
theorem fc_inj {c c' k k' : Nat} (hk : k < 128) (hk' : k' < 128) (h : 128 * c' + k' = 128 * c + k) : c' = c ∧ k' = k := by omega
end
section
theorem kd_of {c : Nat} (h : c < 10) : kd c = 0 := by unfold kd; rw [if_pos h]
theorem lv_of {lv : Nat → Nat → Bool} {c i : Nat} (h : LvV lv (vR c i)) (hc : ¬ (71 ≤ c ∧ c < 75)) : lv c i = true := h.elim id (fun q => absurd ⟨q.1, q.2.1⟩ hc)
theorem ob_of {D : DD} {S : OM} {ad : Ad} {H : Heap} {c i : Nat} (hm : MM D S ad H) (hl : S.1 c i = true) (hc : c < 10) : t_OB (ad c i) (D.1.1 c) (nF c) (D.1.2 c) H (fV ad S.2.2.2.2.2.2.2 S.2.1 S.2.2.1 c i) := by
  have h := hm.1 c i hl
  unfold cOK at h
  rw [kd_of hc] at h
  exact h
theorem Dyn.own1 {D : DD} {A : Nat → Prop} {lv0 : Nat → Nat → Bool} {ad0 : Ad} {s : State} {R : Room} {n k : Nat} {L : List (Option sV)} {st : List sV} {S : OM} {H : Heap} {locs : List Loc} {cells slots : Nat} {ls : Array Slot} {ad : Ad}
    (h : Dyn D A lv0 ad0 s R n k L st S H locs cells slots ls ad) {c i : Nat} (hl : S.1 c i = true) : A (ad c i) := h.2.1 _ ⟨c, i, Or.inl hl, rfl⟩
/-- behind a write that leaves the live cells -/
theorem Dyn.wr {D : DD} {A : Nat → Prop} {lv0 : Nat → Nat → Bool} {ad0 : Ad} {s : State} {R : Room} {n k : Nat} {L : List (Option sV)} {st st' : List sV} {S S' : OM} {H H1 : Heap} {locs : List Loc} {cells slots : Nat} {ls : Array Slot} {ad : Ad} {a j : Nat}
    (h : Dyn D A lv0 ad0 s R n k L st S H locs cells slots ls ad) (hm : MM D S' ad H1) (hlv : S'.1 = S.1) (hA : A a) (z : H1.size = H.size) (oq : ∀ q : Nat, q ≠ a → H1[q]? = H[q]?) (hs : LvS S.1 st') : Dyn D A lv0 ad0 s R n k L st' S' H1 (locs ++ [⟨a, j⟩]) cells slots ls ad :=
  ⟨hm, by rw [hlv]; exact h.2.1, h.2.2.1.put z oq hA, by rw [hlv]; exact h.2.2.2.1, by rw [hlv]; exact hs, by rw [hlv]; exact h.2.2.2.2.2.1, h.2.2.2.2.2.2⟩
section WPM
variable {mi : MI} {d k pc : Nat} {L L' : List (Option sV)} {st : List sV} {Q : Option sV → OM → Prop} {QX : String → OM → Prop} {lv : Nat → Nat → Bool} {fr : Nat → Nat → Option Nat} {fi : Nat → Nat → Int32} {ai : Nat → Nat → Nat → Int32} {ar : Nat → Nat → Nat → Option Nat} {li : Nat → Nat → List Nat} {out : Int64} {rho : Nat → Nat → Int32}
theorem wp_getf {S : OM} {c i y x : Nat} {v : sV} (hc : c < 10) (hy : y < nF c) (hw : Cond.fieldLink mi.1.cls x (cT c y).1 (cT c y).2.1 (cT c y).2.2.1 ∈ TW) (hd : decode mi.2.1 pc = .ok (.getfield x, 3)) (hv : ∀ ad : Ad, fV ad S.2.2.2.2.2.2.2 S.2.1 S.2.2.1 c i y = tV ad v) (hlv : S.1 c i = true → LvV S.1 v ∨ ∃ t : Nat, tg c y = t + 1 ∧ v = vO t (S.2.1 (128 * c + y) i))
    (h : WP mi d k (pc + 3) L (v :: st) S Q QX) : WP mi d k pc L (vR c i :: st) S Q QX := by
  intro p l e R s m args below meth cc D A lv0 ad0 hC H locs cells slots ls ad hD
  have hl := lv_of hD.lvs.1 (by omega)
  obtain ⟨cell, q1, q2, q3, q4⟩ := ob_of hD.1 hl hc
  obtain ⟨hS, hfc, kC, hkC, hkind⟩ := hC.2.2.2.2.2.2.2.1.1.1 c _ (cls_at hc)
  obtain ⟨cf, kf, fi', f, hi, hsl⟩ := hS y hy
  have hvl : LvV S.1 v := by
    rcases hlv hl with z | ⟨t, z1, z2⟩
    · exact z
    · subst z2
      cases ho : S.2.1 (128 * c + y) i with
      | none => trivial
      | some o => exact Or.inl (hD.1.2.2.1 c i y t o hl (kd_of hc) hy z1 ho)
  refine W.getf hC.1 hC.2.1 hC.2.2.2.2.2.1 (hC.2.2.2.2.2.2.1 _ hw) hi (u_facts hfc hkC (u_lays hC.2.2.2.2.2.2.1 (cW_ok hc) hy) hi).1 q1 (by rw [q3]; exact fun h => by cases h) (v := tV ad v) ?_ rfl rfl hd (h p l e R s m args below meth cc D A lv0 ad0 hC H locs cells slots ls ad (hD.stk ⟨hvl, hD.lvs.2⟩))
  rw [hsl, q4 y hy, hv ad]
theorem wp_getI {c i y x f : Nat} (hc : c < 9) (hy : y < nF c) (ht : tg c y = 0) (hf : 128 * c + y = f) (hw : Cond.fieldLink mi.1.cls x (cT c y).1 (cT c y).2.1 (cT c y).2.2.1 ∈ TW) (hd : decode mi.2.1 pc = .ok (.getfield x, 3))
    (h : WP mi d k (pc + 3) L (vI (fi f i) :: st) (lv, fr, fi, ai, ar, li, out, rho) Q QX) : WP mi d k pc L (vR c i :: st) (lv, fr, fi, ai, ar, li, out, rho) Q QX := by
  subst hf
  refine wp_getf (v := vI (fi (128 * c + y) i)) (by omega) hy hw hd (fun ad => ?_) (fun _ => Or.inl trivial) h
  unfold fV
  rw [ht]
  show Value.int (if c = 9 then _ else _) = _
  rw [if_neg (by omega)]
  rfl
theorem wp_getRI {i y x : Nat} (hy : y < 65) (ht : tg 9 y = 0) (hw : Cond.fieldLink mi.1.cls x (cT 9 y).1 (cT 9 y).2.1 (cT 9 y).2.2.1 ∈ TW) (hd : decode mi.2.1 pc = .ok (.getfield x, 3))
    (h : WP mi d k (pc + 3) L (vI (rho y 0) :: st) (lv, fr, fi, ai, ar, li, out, rho) Q QX) : WP mi d k pc L (vR 9 i :: st) (lv, fr, fi, ai, ar, li, out, rho) Q QX := by
  refine wp_getf (v := vI (rho y 0)) (by omega) hy hw hd (fun ad => ?_) (fun _ => Or.inl trivial) h
  unfold fV
  rw [ht]
  rfl
theorem wp_getR {c i y x f t : Nat} {o : Option Nat} (hc : c < 10) (hy : y < nF c) (ht : tg c y = t + 1) (hf : 128 * c + y = f) (hw : Cond.fieldLink mi.1.cls x (cT c y).1 (cT c y).2.1 (cT c y).2.2.1 ∈ TW) (hd : decode mi.2.1 pc = .ok (.getfield x, 3)) (ho : fr f i = o)
    (h : WP mi d k (pc + 3) L (vO t o :: st) (lv, fr, fi, ai, ar, li, out, rho) Q QX) : WP mi d k pc L (vR c i :: st) (lv, fr, fi, ai, ar, li, out, rho) Q QX := by
  subst hf
  subst ho
  refine wp_getf hc hy hw hd (fun ad => ?_) (fun _ => Or.inr ⟨t, ht, rfl⟩) h
  unfold fV
  rw [ht, tV_O]
/-- a field is written -/
theorem wp_put9 {S S' : OM} {c i y x : Nat} {v : sV} (hc : c < 10) (hy : y < nF c) (hfin : (cT c y).2.2.2 = false ∨ (mi.1.name = "<init>" ∧ (cT c y).1 = mi.1.cls)) (hw : Cond.fieldLink mi.1.cls x (cT c y).1 (cT c y).2.1 (cT c y).2.2.1 ∈ TW) (hd : decode mi.2.1 pc = .ok (.putfield x, 3))
    (hn : ∀ ad : Ad, narrow (cY c y) (tV ad v) = tV ad v) (hft : ∀ ad : Ad, fits (cY c y) (tV ad v) = true) (hlv : S'.1 = S.1)
    (hm : ∀ (D : DD) (ad : Ad) (H H1 : Heap), MM D S ad H → S.1 c i = true → LvV S.1 v → t_OB (ad c i) (D.1.1 c) (nF c) (D.1.2 c) H1 (updV (fV ad S.2.2.2.2.2.2.2 S.2.1 S.2.2.1 c i) y (tV ad v)) → (∀ q : Nat, q ≠ ad c i → H1[q]? = H[q]?) → MM D S' ad H1)
    (h : WP mi d k (pc + 3) L st S' Q QX) : WP mi d k pc L (v :: vR c i :: st) S Q QX := by
  intro p l e R s m args below meth cc D A lv0 ad0 hC H locs cells slots ls ad hD
  have hl := lv_of hD.lvs.2.1 (by omega)
  have hts := hC.2.2.2.2.2.2.1
  have hap := va_apart (own := mi.1.cls) hts (cW_ok hc) (cY c) (cY_ok hc) (cN_ok hc) hC.2.2.2.2.2.2.2.1.1 (cls_at hc)
  obtain ⟨cell, q1, q2, q3, q4⟩ := ob_of hD.1 hl hc
  obtain ⟨hS, hfc, kC, hkC, hkind⟩ := hC.2.2.2.2.2.2.2.1.1.1 c _ (cls_at hc)
  obtain ⟨cf, kf, fi', f, hi, hsl⟩ := hS y hy
  have hlay := hts _ (cW_ok hc _ (u_in_lay hy))
  have hst := (u_facts hfc hkC (u_lays hts (cW_ok hc) hy) hi).1
  have fin : ∀ H' : Heap, H'[ad c i]? = some (cell.setSlot f.slot (tV ad v)) → H'.size = H.size → (∀ q : Nat, q ≠ ad c i → H'[q]? = H[q]?) → W p l e R s m args below meth cc H' (locs ++ [⟨ad c i, f.slot⟩]) cells slots (vx_MQ below (Qn Q D A lv0 ad0) (Xn QX D A lv0 ad0) args s R.cells R.slots A) (F0 m (pc + 3) ls (st.map (tV ad))) := by
    intro H' e1 e2 e3
    rw [hsl] at e1
    have hob : t_OB (ad c i) (D.1.1 c) (nF c) (D.1.2 c) H' (updV (fV ad S.2.2.2.2.2.2.2 S.2.1 S.2.2.1 c i) y (tV ad v)) := ⟨_, e1, q2, q3, t_set q4 hap hy (tV ad v)⟩
    exact h p l e R s m args below meth cc D A lv0 ad0 hC H' _ cells slots ls ad (hD.wr (hm D ad H H' hD.1 hl hD.lvs.1 hob e3) hlv (hD.own1 hl) e2 e3 hD.lvs.2.2)
  cases hb : (cT c y).2.2.2 with
  | false =>
    unfold u_lay at hlay
    rw [if_neg (by rw [hb]; decide)] at hlay
    have h6 := u_store hfc hkC hkind hlay hi (cY_ok hc y hy) (hn ad) (hft ad)
    exact W.putK hC.1 hC.2.1 (f := f) ⟨hC.2.2.2.2.2.1, hts _ hw, ⟨_, _, _, hi⟩, hst⟩ (by rw [q2]; exact h6) q1 q3 (by rw [hsl]; exact k2_hasslot (q4 y hy)) rfl rfl hd fin
  | true =>
    rcases hfin with z | ⟨z1, z2⟩
    · rw [hb] at z; cases z
    · unfold u_lay at hlay
      rw [if_pos hb] at hlay
      have hcf : m.cls = cf := by
        obtain ⟨_, _, c', _, _, _, -, -, hf', -, -, -, hown2, -⟩ := Cond.laysFinal_spec hlay
        have e1 : c' = cf := by have := hi.symm.trans hf'; simp at this; exact this.1.symm
        rw [z2] at hown2
        rw [← e1]; exact Option.some.inj (hC.2.2.2.2.2.1.symm.trans hown2)
      have h6 := u_fits hfc hkC hkind (Or.inr hlay) hi (cY_ok hc y hy) (hn ad) (hft ad)
      exact W.putFinK hC.1 hC.2.1 hC.2.2.2.2.2.1 (hts _ hw) hi hst hcf (hC.2.2.2.2.2.2.2.2.2.2.1.trans z1) (by rw [q2]; exact h6) q1 q3 (by rw [hsl]; exact k2_hasslot (q4 y hy)) rfl rfl hd fin
theorem fV_fi {ad : Ad} {rho : Nat → Nat → Int32} {fr : Nat → Nat → Option Nat} {fi : Nat → Nat → Int32} {c i y c' i' y' : Nat} {v : Int32} (h : ¬ (128 * c' + y' = 128 * c + y ∧ i' = i)) : fV ad rho fr (up2 fi (128 * c + y) i v) c' i' y' = fV ad rho fr fi c' i' y' := by
  unfold fV
  split
  · rw [up2_n _ _ h]
  · rfl
theorem fV_fr {ad : Ad} {rho : Nat → Nat → Int32} {fr : Nat → Nat → Option Nat} {fi : Nat → Nat → Int32} {c i y c' i' y' : Nat} {v : Option Nat} (h : ¬ (128 * c' + y' = 128 * c + y ∧ i' = i)) : fV ad rho (up2 fr (128 * c + y) i v) fi c' i' y' = fV ad rho fr fi c' i' y' := by
  unfold fV
  split
  · rfl
  · rw [up2_n _ _ h]
theorem fV_rho {ad : Ad} {rho : Nat → Nat → Int32} {fr : Nat → Nat → Option Nat} {fi : Nat → Nat → Int32} {y c' i' y' j : Nat} {v : Int32} (h : ¬ (c' = 9 ∧ y' = y ∧ tg c' y' = 0)) : fV ad (up2 rho y j v) fr fi c' i' y' = fV ad rho fr fi c' i' y' := by
  unfold fV
  split
  next ht =>
    by_cases hc : c' = 9
    · rw [if_pos hc, if_pos hc]
      by_cases hy : y' = y
      · exact absurd ⟨hc, hy, ht⟩ h
      · rw [up2_f _ _ _ _ hy]
    · rw [if_neg hc, if_neg hc]
  · rfl
theorem wp_putI9 {c i y x f : Nat} {v : Int32} (hc : c < 9) (hy : y < nF c) (ht : tg c y = 0) (hf : 128 * c + y = f) (hfin : (cT c y).2.2.2 = false ∨ (mi.1.name = "<init>" ∧ (cT c y).1 = mi.1.cls)) (hw : Cond.fieldLink mi.1.cls x (cT c y).1 (cT c y).2.1 (cT c y).2.2.1 ∈ TW) (hd : decode mi.2.1 pc = .ok (.putfield x, 3)) (hn : narrow (cY c y) (.int v) = .int v) (hft : fits (cY c y) (.int v) = true)
    (h : WP mi d k (pc + 3) L st (lv, fr, up2 fi f i v, ai, ar, li, out, rho) Q QX) : WP mi d k pc L (vI v :: vR c i :: st) (lv, fr, fi, ai, ar, li, out, rho) Q QX := by
  subst hf
  refine wp_put9 (S' := (lv, fr, up2 fi (128 * c + y) i v, ai, ar, li, out, rho)) (by omega) hy hfin hw hd (fun _ => hn) (fun _ => hft) rfl (fun D ad H H1 hm hl _ hob oq => ?_) h
  have hnl := nF_lt (c := c) (by omega)
  refine hm.write hl (Or.inl rfl) rfl oq ?_ (fun c' i' hl' hne h' => cOK_congr h' (fun hk y' hy' => fV_fi (fun z => hne ⟨by have := nF_lt (kd0 hk); omega, z.2⟩)) (fun _ => rfl) (fun _ => rfl) (fun _ => rfl) (fun _ => rfl)) hm.2.2.1 hm.2.2.2.1 hm.2.2.2.2.1
  unfold cOK
  rw [kd_of (show c < 10 by omega)]
  refine t_OB.to hob (fun y' hy' => ?_)
  by_cases hyy : y' = y
  · subst hyy
    have e : fV ad rho fr (up2 fi (128 * c + y') i v) c i y' = .int v := by
      unfold fV
      rw [ht]
      show Value.int (if c = 9 then _ else up2 fi (128 * c + y') i v (128 * c + y') i) = _
      rw [if_neg (by omega), up2_s]
    show updV _ y' _ y' = fV ad rho fr (up2 fi (128 * c + y') i v) c i y'
    rw [e]
    simp [updV, tV]
  · rw [fV_fi (fun z => hyy (by omega))]
    simp [updV, hyy]
theorem wp_putI {c i y x f : Nat} {v : Int32} (hc : c < 9) (hy : y < nF c) (ht : tg c y = 0) (hf : 128 * c + y = f) (hfin : (cT c y).2.2.2 = false ∨ (mi.1.name = "<init>" ∧ (cT c y).1 = mi.1.cls)) (hw : Cond.fieldLink mi.1.cls x (cT c y).1 (cT c y).2.1 (cT c y).2.2.1 ∈ TW) (hd : decode mi.2.1 pc = .ok (.putfield x, 3)) (hY : cY c y = .int)
    (h : WP mi d k (pc + 3) L st (lv, fr, up2 fi f i v, ai, ar, li, out, rho) Q QX) : WP mi d k pc L (vI v :: vR c i :: st) (lv, fr, fi, ai, ar, li, out, rho) Q QX := wp_putI9 hc hy ht hf hfin hw hd (by rw [hY]; rfl) (by rw [hY]; rfl) h
theorem wp_putB {c i y x f : Nat} {v : Int32} (hc : c < 9) (hy : y < nF c) (ht : tg c y = 0) (hf : 128 * c + y = f) (hfin : (cT c y).2.2.2 = false ∨ (mi.1.name = "<init>" ∧ (cT c y).1 = mi.1.cls)) (hw : Cond.fieldLink mi.1.cls x (cT c y).1 (cT c y).2.1 (cT c y).2.2.1 ∈ TW) (hd : decode mi.2.1 pc = .ok (.putfield x, 3)) (hY : cY c y = .boolean) (hv : v = 0 ∨ v = 1)
    (h : WP mi d k (pc + 3) L st (lv, fr, up2 fi f i v, ai, ar, li, out, rho) Q QX) : WP mi d k pc L (vI v :: vR c i :: st) (lv, fr, fi, ai, ar, li, out, rho) Q QX := wp_putI9 hc hy ht hf hfin hw hd (by rw [hY]; rcases hv with rfl | rfl <;> rfl) (by rw [hY]; rcases hv with rfl | rfl <;> rfl) h
theorem wp_putRI {i y x : Nat} {v : Int32} (hy : y < 65) (ht : tg 9 y = 0) (hfin : (cT 9 y).2.2.2 = false) (hw : Cond.fieldLink mi.1.cls x (cT 9 y).1 (cT 9 y).2.1 (cT 9 y).2.2.1 ∈ TW) (hd : decode mi.2.1 pc = .ok (.putfield x, 3)) (hY : cY 9 y = .int)
    (h : WP mi d k (pc + 3) L st (lv, fr, fi, ai, ar, li, out, up2 rho y 0 v) Q QX) : WP mi d k pc L (vI v :: vR 9 i :: st) (lv, fr, fi, ai, ar, li, out, rho) Q QX := by
  refine wp_put9 (S' := (lv, fr, fi, ai, ar, li, out, up2 rho y 0 v)) (by omega) hy (Or.inl hfin) hw hd (fun _ => by rw [hY]; rfl) (fun _ => by rw [hY]; rfl) rfl (fun D ad H H1 hm hl _ hob oq => ?_) h
  refine hm.write hl (Or.inl rfl) rfl oq ?_ (fun c' i' hl' hne h' => cOK_congr h' (fun hk y' hy' => fV_rho (fun z => hne ⟨z.1, ?_⟩)) (fun hk => ?_) (fun _ => rfl) (fun _ => rfl) (fun _ => rfl)) hm.2.2.1 hm.2.2.2.1 hm.2.2.2.2.1
  · unfold cOK
    refine t_OB.to hob (fun y' hy' => ?_)
    by_cases hyy : y' = y
    · subst hyy
      unfold fV
      rw [ht]
      show updV _ y' _ y' = Value.int (if 9 = 9 then up2 rho y' 0 v y' 0 else _)
      rw [if_pos rfl, up2_s]
      simp [updV, tV]
    · rw [fV_rho (fun z => hyy z.2.1)]
      simp [updV, hyy]
  · have e := z.1
    subst e
    rw [hm.2.2.2.2.2.2 9 i hl (Or.inr rfl), hm.2.2.2.2.2.2 9 i' hl' (Or.inr rfl)]
  · show aI (up2 rho y 0 v) ai c' i' = aI rho ai c' i'
    unfold aI
    split
    · funext j
      refine up2_f _ _ _ _ (fun z => ?_)
      have hc' : c' = 200 + y := by omega
      rw [hc'] at hk
      have hy2 : y < 65 := hy
      have : y = 0 ∨ y = 6 ∨ y = 20 ∨ y = 29 ∨ y = 30 ∨ y = 31 ∨ y = 51 ∨ y = 59 ∨ y = 60 ∨ y = 64 := by
        simp only [tg] at ht
        split at ht
        · assumption
        · omega
      rcases this with rfl | rfl | rfl | rfl | rfl | rfl | rfl | rfl | rfl | rfl <;> revert hk <;> decide
    · rfl
theorem wp_putR {c i y x f t : Nat} {o : Option Nat} (hc : c < 10) (hy : y < nF c) (ht : tg c y = t + 1) (hf : 128 * c + y = f) (hfin : (cT c y).2.2.2 = false ∨ (mi.1.name = "<init>" ∧ (cT c y).1 = mi.1.cls)) (hw : Cond.fieldLink mi.1.cls x (cT c y).1 (cT c y).2.1 (cT c y).2.2.1 ∈ TW) (hd : decode mi.2.1 pc = .ok (.putfield x, 3)) (hn : ∀ v : Value, narrow (cY c y) v = v) (hft : fits (cY c y) .null = true) (hft2 : ∀ a : Nat, fits (cY c y) (.ref a) = true)
    (h : WP mi d k (pc + 3) L st (lv, up2 fr f i o, fi, ai, ar, li, out, rho) Q QX) (h71 : ¬ (71 ≤ t ∧ t < 75)) : WP mi d k pc L (vO t o :: vR c i :: st) (lv, fr, fi, ai, ar, li, out, rho) Q QX := by
  subst hf
  refine wp_put9 (S' := (lv, up2 fr (128 * c + y) i o, fi, ai, ar, li, out, rho)) hc hy hfin hw hd (fun _ => hn _) (fun ad => by cases o with | none => exact hft | some q => exact hft2 _) rfl (fun D ad H H1 hm hl hlo hob oq => ?_) h
  have hnl := nF_lt hc
  refine hm.write hl (Or.inl rfl) rfl oq ?_ (fun c' i' hl' hne h' => cOK_congr h' (fun hk y' hy' => fV_fr (fun z => hne ⟨by have := nF_lt (kd0 hk); omega, z.2⟩)) (fun _ => rfl) (fun _ => rfl) (fun _ => rfl) (fun _ => rfl)) (fun c' i' y' t' j' h1 h2 h3 h4 h5 => ?_) hm.2.2.2.1 hm.2.2.2.2.1
  · unfold cOK
    rw [kd_of hc]
    refine t_OB.to hob (fun y' hy' => ?_)
    by_cases hyy : y' = y
    · subst hyy
      unfold fV
      rw [ht]
      show updV _ y' _ y' = va_rf ((up2 fr (128 * c + y') i o (128 * c + y') i).map (ad t))
      rw [up2_s, ← tV_O]
      simp [updV]
    · rw [fV_fr (fun z => hyy (by omega))]
      simp [updV, hyy]
  · by_cases hs : 128 * c' + y' = 128 * c + y ∧ i' = i
    · have hcc := nF_lt (kd0 h2)
      obtain ⟨e1, e2⟩ := fc_inj (by omega) (by omega) hs.1
      obtain ⟨-, e3⟩ := hs
      subst e1; subst e2; subst e3
      have h5' : up2 fr (128 * c' + y') i' o (128 * c' + y') i' = some j' := h5
      rw [up2_s] at h5'
      subst h5'
      have e4 : t = t' := by have := ht.symm.trans h4; omega
      subst e4
      exact lv_of hlo h71
    · have h5' : up2 fr (128 * c + y) i o (128 * c' + y') i' = some j' := h5
      rw [up2_n _ _ hs] at h5'
      exact hm.2.2.1 c' i' y' t' j' h1 h2 h3 h4 h5'
theorem tys_at (D : DD) {t : Nat} (h : t < 8) : (tysD D)[t]? = some (D.2.1 t, tyr t) := by
  unfold tysD
  rw [List.getElem?_map, List.getElem?_range h]
  rfl
theorem row_of {D : DD} {S : OM} {ad : Ad} {H : Heap} {c i : Nat} (hm : MM D S ad H) (hl : S.1 c i = true) (hk : kd c = 1 ∨ kd c = 2) : H[ad c i]? = some (vp_cell (D.2.1 (kA c)) (len c, .inl (aI S.2.2.2.2.2.2.2 S.2.2.2.1 c i))) := by
  have h := hm.1 c i hl
  unfold cOK at h
  rcases hk with hk | hk <;> (rw [hk] at h; exact h)
theorem kA_1 {c : Nat} (hk : kd c = 1) : kA c = 0 := by
  have hc : c ≠ 40 ∧ c ≠ 41 ∧ c ≠ 42 ∧ c ≠ 43 ∧ c ≠ 70 := by
    refine ⟨?_, ?_, ?_, ?_, ?_⟩ <;> (rintro rfl; revert hk; decide)
  unfold kA
  rw [hk]
  simp
  split <;> simp_all
theorem kA_2 {c : Nat} (hk : kd c = 2) : kA c = 1 := by
  unfold kA
  rw [hk]
  rfl
theorem not71 {c : Nat} (hk : kd c = 1 ∨ kd c = 2 ∨ kd c = 3) : ¬ (71 ≤ c ∧ c < 75) := by
  rintro ⟨h1, h2⟩
  have : c = 71 ∨ c = 72 ∨ c = 73 ∨ c = 74 := by omega
  rcases this with rfl | rfl | rfl | rfl <;> (revert hk; decide)
theorem upd_va (f : Nat → Int32) (k : Nat) (x : Int32) : upd f k x = va_up f k x := by
  funext j
  simp [upd, va_up]
/-- an int of a row -/
theorem wp_ald9 {S : OM} {c i : Nat} {j : Int32} (hk : kd c = 1 ∨ kd c = 2) (hj : vp_in j (len c)) (hd : (kd c = 1 ∧ decode mi.2.1 pc = .ok (.iaload, 1)) ∨ (kd c = 2 ∧ decode mi.2.1 pc = .ok (.baload, 1)))
    (h : WP mi d k (pc + 1) L (vI (aI S.2.2.2.2.2.2.2 S.2.2.2.1 c i j.toNatClampNeg) :: st) S Q QX) : WP mi d k pc L (vI j :: vR c i :: st) S Q QX := by
  intro p l e R s m args below meth cc D A lv0 ad0 hC H locs cells slots ls ad hD
  have hl := lv_of hD.lvs.2.1 (not71 (by omega))
  have hr := row_of hD.1 hl hk
  have hlt : j.toNatClampNeg < len c := Nat.not_le.mp fun q => hj (Or.inr q)
  have hin : ¬ (j < 0 ∨ (vp_cell (D.2.1 (kA c)) (len c, .inl (aI S.2.2.2.2.2.2.2 S.2.2.2.1 c i))).slots.size ≤ j.toNatClampNeg) := by rw [vp_cell_i, arrV_size]; exact hj
  have hrd : (vp_cell (D.2.1 (kA c)) (len c, .inl (aI S.2.2.2.2.2.2.2 S.2.2.2.1 c i))).slots[j.toNatClampNeg]? = some (.int (aI S.2.2.2.2.2.2.2 S.2.2.2.1 c i j.toNatClampNeg)) := by rw [vp_cell_i, arrV_read _ _ hlt]
  have hgo := h p l e R s m args below meth cc D A lv0 ad0 hC H locs cells slots ls ad (hD.stk ⟨trivial, hD.lvs.2.2⟩)
  rcases hd with ⟨h1, hd⟩ | ⟨h1, hd⟩
  · have hA := (hC.2.2.2.2.2.2.2.1.1.2 0 _ (tys_at D (by decide))).1 (len c) (fun q => .int (aI S.2.2.2.2.2.2.2 S.2.2.2.1 c i q))
    exact W.iald hC.1 hC.2.1 hr (by rw [kA_1 h1, vp_cell_i]; exact hA) (fun q => by cases q) hin hrd rfl rfl hd hgo
  · have hA := (hC.2.2.2.2.2.2.2.1.1.2 1 _ (tys_at D (by decide))).1 (len c) (fun q => .int (aI S.2.2.2.2.2.2.2 S.2.2.2.1 c i q))
    exact W.zald hC.1 hC.2.1 hr (by rw [kA_2 h1, vp_cell_i]; exact hA) (fun q => by cases q) hin hrd rfl rfl hd hgo
theorem wp_iald {c i : Nat} {j : Int32} (hk : kd c = 1) (hc : c < 200) (hj : vp_in j (len c)) (hd : decode mi.2.1 pc = .ok (.iaload, 1))
    (h : WP mi d k (pc + 1) L (vI (ai c i j.toNatClampNeg) :: st) (lv, fr, fi, ai, ar, li, out, rho) Q QX) : WP mi d k pc L (vI j :: vR c i :: st) (lv, fr, fi, ai, ar, li, out, rho) Q QX := by
  refine wp_ald9 (Or.inl hk) hj (Or.inl ⟨hk, hd⟩) ?_
  show WP mi d k (pc + 1) L (vI (aI rho ai c i j.toNatClampNeg) :: st) _ Q QX
  unfold aI
  rw [if_neg (by omega)]
  exact h
theorem wp_bald {c i : Nat} {j : Int32} (hk : kd c = 2) (hc : c < 200) (hj : vp_in j (len c)) (hd : decode mi.2.1 pc = .ok (.baload, 1))
    (h : WP mi d k (pc + 1) L (vI (ai c i j.toNatClampNeg) :: st) (lv, fr, fi, ai, ar, li, out, rho) Q QX) : WP mi d k pc L (vI j :: vR c i :: st) (lv, fr, fi, ai, ar, li, out, rho) Q QX := by
  refine wp_ald9 (Or.inr hk) hj (Or.inr ⟨hk, hd⟩) ?_
  show WP mi d k (pc + 1) L (vI (aI rho ai c i j.toNatClampNeg) :: st) _ Q QX
  unfold aI
  rw [if_neg (by omega)]
  exact h
theorem wp_ialdR {c y i : Nat} {j : Int32} (hk : kd c = 1) (hc : c = 200 + y) (hj : vp_in j (len c)) (hd : decode mi.2.1 pc = .ok (.iaload, 1))
    (h : WP mi d k (pc + 1) L (vI (rho y j.toNatClampNeg) :: st) (lv, fr, fi, ai, ar, li, out, rho) Q QX) : WP mi d k pc L (vI j :: vR c i :: st) (lv, fr, fi, ai, ar, li, out, rho) Q QX := by
  refine wp_ald9 (Or.inl hk) hj (Or.inl ⟨hk, hd⟩) ?_
  show WP mi d k (pc + 1) L (vI (aI rho ai c i j.toNatClampNeg) :: st) _ Q QX
  unfold aI
  rw [if_pos (by omega), show c - 200 = y by omega]
  exact h
theorem wp_baldR {c y i : Nat} {j : Int32} (hk : kd c = 2) (hc : c = 200 + y) (hj : vp_in j (len c)) (hd : decode mi.2.1 pc = .ok (.baload, 1))
    (h : WP mi d k (pc + 1) L (vI (rho y j.toNatClampNeg) :: st) (lv, fr, fi, ai, ar, li, out, rho) Q QX) : WP mi d k pc L (vI j :: vR c i :: st) (lv, fr, fi, ai, ar, li, out, rho) Q QX := by
  refine wp_ald9 (Or.inr hk) hj (Or.inr ⟨hk, hd⟩) ?_
  show WP mi d k (pc + 1) L (vI (aI rho ai c i j.toNatClampNeg) :: st) _ Q QX
  unfold aI
  rw [if_pos (by omega), show c - 200 = y by omega]
  exact h
/-- an int is put into a row -/
theorem wp_ast9 {S S' : OM} {c i : Nat} {j x : Int32} (hk : kd c = 1 ∨ kd c = 2) (hj : vp_in j (len c)) (hd : (kd c = 1 ∧ decode mi.2.1 pc = .ok (.iastore, 1)) ∨ (kd c = 2 ∧ (x = 0 ∨ x = 1) ∧ decode mi.2.1 pc = .ok (.bastore, 1))) (hlv : S'.1 = S.1)
    (hm : ∀ (D : DD) (ad : Ad) (H H1 : Heap), MM D S ad H → S.1 c i = true → H1[ad c i]? = some (vp_cell (D.2.1 (kA c)) (len c, .inl (va_up (aI S.2.2.2.2.2.2.2 S.2.2.2.1 c i) j.toNatClampNeg x))) → (∀ q : Nat, q ≠ ad c i → H1[q]? = H[q]?) → MM D S' ad H1)
    (h : WP mi d k (pc + 1) L st S' Q QX) : WP mi d k pc L (vI x :: vI j :: vR c i :: st) S Q QX := by
  intro p l e R s m args below meth cc D A lv0 ad0 hC H locs cells slots ls ad hD
  have hl := lv_of hD.lvs.2.2.1 (not71 (by omega))
  have hr := row_of hD.1 hl hk
  have hin : ¬ (j < 0 ∨ (vp_cell (D.2.1 (kA c)) (len c, .inl (aI S.2.2.2.2.2.2.2 S.2.2.2.1 c i))).slots.size ≤ j.toNatClampNeg) := by rw [vp_cell_i, arrV_size]; exact hj
  have fin : ∀ H1 : Heap, H1[ad c i]? = some ((vp_cell (D.2.1 (kA c)) (len c, .inl (aI S.2.2.2.2.2.2.2 S.2.2.2.1 c i))).setSlot j.toNatClampNeg (.int x)) → H1.size = H.size → (∀ q : Nat, q ≠ ad c i → H1[q]? = H[q]?) → W p l e R s m args below meth cc H1 (locs ++ [⟨ad c i, j.toNatClampNeg⟩]) cells slots (vx_MQ below (Qn Q D A lv0 ad0) (Xn QX D A lv0 ad0) args s R.cells R.slots A) (F0 m (pc + 1) ls (st.map (tV ad))) := by
    intro H1 eH z oq
    refine h p l e R s m args below meth cc D A lv0 ad0 hC H1 _ cells slots ls ad (hD.wr (hm D ad H H1 hD.1 hl ?_ oq) hlv (hD.own1 hl) z oq hD.lvs.2.2.2)
    rw [eH, vp_cell_i, vp_cell_i, arrV_store]
    congr 2
    funext q
    by_cases hq : q = j.toNatClampNeg
    · subst hq
      simp [updV, va_up]
    · simp [updV, va_up, hq]
  rcases hd with ⟨h1, hd⟩ | ⟨h1, hx, hd⟩
  · have hA := (hC.2.2.2.2.2.2.2.1.1.2 0 _ (tys_at D (by decide))).1 (len c) (fun q => .int (aI S.2.2.2.2.2.2.2 S.2.2.2.1 c i q))
    exact W.iast hC.1 hC.2.1 hr (by rw [kA_1 h1, vp_cell_i]; exact hA) (fun q => by cases q) hin rfl rfl hd fin
  · have hA := (hC.2.2.2.2.2.2.2.1.1.2 1 _ (tys_at D (by decide))).1 (len c) (fun q => .int (aI S.2.2.2.2.2.2.2 S.2.2.2.1 c i q))
    refine W.zast hC.1 hC.2.1 hr (by rw [kA_2 h1, vp_cell_i]; exact hA) (fun q => by cases q) hin rfl rfl hd (fun H1 e z oq => fin H1 ?_ z oq)
    rw [e]
    rcases hx with rfl | rfl <;> rfl
theorem aI_ai {rho : Nat → Nat → Int32} {ai : Nat → Nat → Nat → Int32} {c i j c' i' : Nat} {x : Int32} (h : ¬ (c' = c ∧ i' = i)) : aI rho (up3 ai c i j x) c' i' = aI rho ai c' i' := by
  unfold aI
  split
  · rfl
  · exact up3_o _ _ _ h
theorem MM.aiw {D : DD} {ad : Ad} {H H1 : Heap} {c i j : Nat} {x : Int32} (hk : kd c = 1 ∨ kd c = 2) (hc : c < 200) (hm : MM D (lv, fr, fi, ai, ar, li, out, rho) ad H) (hl : lv c i = true) (e : H1[ad c i]? = some (vp_cell (D.2.1 (kA c)) (len c, .inl (va_up (aI rho ai c i) j x)))) (oq : ∀ q : Nat, q ≠ ad c i → H1[q]? = H[q]?) : MM D (lv, fr, fi, up3 ai c i j x, ar, li, out, rho) ad H1 := by
  refine hm.write hl (Or.inl rfl) rfl oq ?_ (fun c' i' hl' hne h' => cOK_congr h' (fun _ _ _ => rfl) (fun _ => aI_ai hne) (fun _ => rfl) (fun _ => rfl) (fun _ => rfl)) hm.2.2.1 hm.2.2.2.1 hm.2.2.2.2.1
  unfold cOK
  have e2 : aI rho (up3 ai c i j x) c i = va_up (aI rho ai c i) j x := by
    unfold aI
    rw [if_neg (by omega), if_neg (by omega), up3_r]
  rcases hk with hk | hk <;> (rw [hk]; show H1[ad c i]? = some (vp_cell _ (len c, .inl (aI rho (up3 ai c i j x) c i))); rw [e2]; exact e)
theorem MM.rhow {D : DD} {ad : Ad} {H H1 : Heap} {c y i j : Nat} {x : Int32} (hk : kd c = 1 ∨ kd c = 2) (hc : c = 200 + y) (hm : MM D (lv, fr, fi, ai, ar, li, out, rho) ad H) (hl : lv c i = true) (e : H1[ad c i]? = some (vp_cell (D.2.1 (kA c)) (len c, .inl (va_up (aI rho ai c i) j x)))) (oq : ∀ q : Nat, q ≠ ad c i → H1[q]? = H[q]?) : MM D (lv, fr, fi, ai, ar, li, out, up2 rho y j x) ad H1 := by
  have h0 := hm.2.2.2.2.2.2 c i hl (Or.inl (by omega))
  refine hm.write hl (Or.inl rfl) rfl oq ?_ (fun c' i' hl' hne h' => cOK_congr h' (fun hk' y' hy' => fV_rho (fun z => ?_)) (fun hk' => ?_) (fun _ => rfl) (fun _ => rfl) (fun _ => rfl)) hm.2.2.1 hm.2.2.2.1 hm.2.2.2.2.1
  · unfold cOK
    have e2 : aI (up2 rho y j x) ai c i = va_up (aI rho ai c i) j x := by
      unfold aI
      rw [if_pos (by omega), if_pos (by omega), show c - 200 = y by omega]
      funext b
      simp [up2, va_up]
    rcases hk with hk | hk <;> (rw [hk]; show H1[ad c i]? = some (vp_cell _ (len c, .inl (aI (up2 rho y j x) ai c i))); rw [e2]; exact e)
  · obtain ⟨e9, z2, z3⟩ := z
    subst e9
    subst z2
    simp only [tg] at z3
    split at z3
    next hh => rcases hh with rfl | rfl | rfl | rfl | rfl | rfl | rfl | rfl | rfl | rfl <;> (subst hc; revert hk; decide)
    next => omega
  · show aI (up2 rho y j x) ai c' i' = aI rho ai c' i'
    unfold aI
    split
    next hge =>
      funext b
      refine up2_f _ _ _ _ (fun z => hne ⟨by omega, ?_⟩)
      rw [h0, hm.2.2.2.2.2.2 c' i' hl' (Or.inl hge)]
    · rfl
theorem wp_iast {c i : Nat} {j x : Int32} (hk : kd c = 1) (hc : c < 200) (hj : vp_in j (len c)) (hd : decode mi.2.1 pc = .ok (.iastore, 1))
    (h : WP mi d k (pc + 1) L st (lv, fr, fi, up3 ai c i j.toNatClampNeg x, ar, li, out, rho) Q QX) : WP mi d k pc L (vI x :: vI j :: vR c i :: st) (lv, fr, fi, ai, ar, li, out, rho) Q QX :=
  wp_ast9 (S' := (lv, fr, fi, up3 ai c i j.toNatClampNeg x, ar, li, out, rho)) (Or.inl hk) hj (Or.inl ⟨hk, hd⟩) rfl (fun D ad H H1 hm hl e oq => hm.aiw (Or.inl hk) hc hl e oq) h
theorem wp_bast {c i : Nat} {j x : Int32} (hk : kd c = 2) (hc : c < 200) (hj : vp_in j (len c)) (hx : x = 0 ∨ x = 1) (hd : decode mi.2.1 pc = .ok (.bastore, 1))
    (h : WP mi d k (pc + 1) L st (lv, fr, fi, up3 ai c i j.toNatClampNeg x, ar, li, out, rho) Q QX) : WP mi d k pc L (vI x :: vI j :: vR c i :: st) (lv, fr, fi, ai, ar, li, out, rho) Q QX :=
  wp_ast9 (S' := (lv, fr, fi, up3 ai c i j.toNatClampNeg x, ar, li, out, rho)) (Or.inr hk) hj (Or.inr ⟨hk, hx, hd⟩) rfl (fun D ad H H1 hm hl e oq => hm.aiw (Or.inr hk) hc hl e oq) h
theorem wp_iastR {c y i : Nat} {j x : Int32} (hk : kd c = 1) (hc : c = 200 + y) (hj : vp_in j (len c)) (hd : decode mi.2.1 pc = .ok (.iastore, 1))
    (h : WP mi d k (pc + 1) L st (lv, fr, fi, ai, ar, li, out, up2 rho y j.toNatClampNeg x) Q QX) : WP mi d k pc L (vI x :: vI j :: vR c i :: st) (lv, fr, fi, ai, ar, li, out, rho) Q QX :=
  wp_ast9 (S' := (lv, fr, fi, ai, ar, li, out, up2 rho y j.toNatClampNeg x)) (Or.inl hk) hj (Or.inl ⟨hk, hd⟩) rfl (fun D ad H H1 hm hl e oq => hm.rhow (Or.inl hk) hc hl e oq) h
theorem wp_bastR {c y i : Nat} {j x : Int32} (hk : kd c = 2) (hc : c = 200 + y) (hj : vp_in j (len c)) (hx : x = 0 ∨ x = 1) (hd : decode mi.2.1 pc = .ok (.bastore, 1))
    (h : WP mi d k (pc + 1) L st (lv, fr, fi, ai, ar, li, out, up2 rho y j.toNatClampNeg x) Q QX) : WP mi d k pc L (vI x :: vI j :: vR c i :: st) (lv, fr, fi, ai, ar, li, out, rho) Q QX :=
  wp_ast9 (S' := (lv, fr, fi, ai, ar, li, out, up2 rho y j.toNatClampNeg x)) (Or.inr hk) hj (Or.inr ⟨hk, hx, hd⟩) rfl (fun D ad H H1 hm hl e oq => hm.rhow (Or.inr hk) hc hl e oq) h
end WPM
end
section
/-! A METHOD'S CONTRACT in the machine of ids, and its use at a call -/
def rmm (d k : Nat) : Room := { frames := d, cells := k, slots := 700 * k, locals := 64 * d }
abbrev ownA (D : DD) (S : OM) (ad : Ad) (sz : Nat) : Nat → Prop := fun q => own D S.1 ad q ∨ sz ≤ q
def PcS (D : DD) (ad : Ad) (S : OM) (As : List sV) (sz : Nat) : Array Value → State → Prop := va_Pc (As.map (tV ad)) (fun U => U.heap.size = sz ∧ MM D S ad U.heap ∧ Kst D U ∧ LvS S.1 As ∧ Sta D (ownA D S ad sz) U U.heap)
def Spec (mi : MI) (d k : Nat) (As : List sV) (S : OM) (Q : Option sV → OM → Prop) (QX : String → OM → Prop) : Prop :=
  ∀ (l : Launch), l.stackTraces = false → ∀ (D : DD) (ad : Ad) (sz : Nat), vx_Met l mi.1 (Cond.code mi.1 mi.2.1 mi.2.2.1 mi.2.2.2.1 :: TW) (rmm d k) (PcS D ad S As sz) (Qn Q D (ownA D S ad sz) S.1 ad) (Xn QX D (ownA D S ad sz) S.1 ad) k (700 * k) (ownA D S ad sz)
/-- the same for a method with handlers -/
def SpecW (mi : MI) (d k : Nat) (As : List sV) (S : OM) (Q : Option sV → OM → Prop) (QX : String → OM → Prop) : Prop :=
  ∀ (l : Launch), l.stackTraces = false → ∀ (D : DD) (ad : Ad) (sz : Nat), vx_Met l mi.1 (Cond.codeWith mi.1 mi.2.1 mi.2.2.1 mi.2.2.2.1 mi.2.2.2.2.1 :: TW) (rmm d k) (PcS D ad S As sz) (Qn Q D (ownA D S ad sz) S.1 ad) (Xn QX D (ownA D S ad sz) S.1 ad) k (700 * k) (ownA D S ad sz)
theorem lv_args_mem {v : Value} : ∀ {vs : List Value} {i : Nat} (j : Nat), (∀ w ∈ vs, w.category = 1) → vs[i]? = some v → (j + i, v) ∈ lv_args j vs
  | [], i, j, _, h => by simp at h
  | w :: vs, 0, j, hc, h => by
    simp at h
    subst h
    exact List.mem_cons_self
  | w :: vs, i + 1, j, hc, h => by
    rw [List.getElem?_cons_succ] at h
    have h1 : w.category = 1 := hc w List.mem_cons_self
    show _ ∈ (j, w) :: lv_args (if w.category = 2 then j + 2 else j + 1) vs
    rw [if_neg (by omega)]
    have := lv_args_mem (j + 1) (fun z hz => hc z (List.mem_cons_of_mem _ hz)) h
    rw [show j + 1 + i = j + (i + 1) by omega] at this
    exact List.mem_cons_of_mem _ this
theorem lg_sl_len : ∀ {vs : List Value}, (∀ w ∈ vs, w.category = 1) → (lg_sl vs).length = vs.length
  | [], _ => rfl
  | w :: vs, hc => by
    have h1 : w.category = 1 := hc w List.mem_cons_self
    unfold lg_sl
    rw [List.flatMap_cons, if_neg (by omega)]
    have := lg_sl_len (vs := vs) (fun z hz => hc z (List.mem_cons_of_mem _ hz))
    unfold lg_sl at this
    rw [List.length_append, this]
    simp
    omega
def catS : List sV → Prop
  | [] => True
  | v :: r => cat1 v ∧ catS r
theorem catS_mem (ad : Ad) : ∀ {As : List sV}, catS As → ∀ w ∈ As.map (tV ad), w.category = 1
  | [], _, w, h => by simp at h
  | v :: r, hc, w, h => by
    rw [List.map_cons] at h
    rcases List.mem_cons.mp h with e | h
    · rw [e]; exact cat1_1 ad hc.1
    · exact catS_mem ad hc.2 w h
theorem LvS_get {lv : Nat → Nat → Bool} : ∀ {As : List sV} {i : Nat} {v : sV}, LvS lv As → As[i]? = some v → LvV lv v
  | [], i, v, _, h => by simp at h
  | w :: r, 0, v, hl, h => by simp at h; subst h; exact hl.1
  | w :: r, i + 1, v, hl, h => by rw [List.getElem?_cons_succ] at h; exact LvS_get hl.2 h
def entL (As : List sV) (n : Nat) : List (Option sV) := As.map some ++ List.replicate (n - As.length) none
theorem LH_entry {ad : Ad} {lv : Nat → Nat → Bool} {As : List sV} {n : Nat} (hc : catS As) (hv : LvS lv As) (hn : As.length ≤ n) : LH ad lv n (entL As n) ((lg_sl (As.map (tV ad)) ++ List.replicate (n - (lg_sl (As.map (tV ad))).length) Slot.unset).toArray) := by
  have hcm := catS_mem ad hc
  have hlen := lg_sl_len hcm
  have hl := lv_entry (As.map (tV ad)) (n := n) (by rw [hlen, List.length_map]; exact hn)
  refine ⟨hl.1, hl.2.1, by unfold entL; simp; omega, fun i v hi => ?_⟩
  unfold entL at hi
  have hi2 : As[i]? = some v := by
    by_cases h : i < As.length
    · rw [List.getElem?_append_left (by simpa using h), List.getElem?_map] at hi
      cases hA : As[i]? with
      | none => rw [hA] at hi; simp at hi
      | some w => rw [hA] at hi; simp at hi; rw [hi]
    · rw [List.getElem?_append_right (by simp; omega), List.getElem?_replicate] at hi
      split at hi <;> simp at hi
  have h3 : (As.map (tV ad))[i]? = some (tV ad v) := by rw [List.getElem?_map, hi2]; rfl
  have h4 := lv_args_mem 0 hcm h3
  rw [Nat.zero_add] at h4
  exact ⟨hl.2.2 _ h4, hcm _ (List.mem_of_getElem? h3), LvS_get hv hi2⟩
theorem va_S_own {D : DD} {S : OM} {ad : Ad} {sz : Nat} : ∀ q, own D S.1 ad q → ownA D S ad sz q := fun _ h => Or.inl h
theorem spec_of {mi : MI} {d k : Nat} {As : List sV} {S : OM} {Q : Option sV → OM → Prop} {QX : String → OM → Prop} (hy : plainName mi.1.cls = true) (hh : mi.2.2.2.2 = ([], none)) (hc : catS As) (hn : As.length ≤ mi.2.2.1) (h : WP mi d k 0 (entL As mi.2.2.1) [] S Q QX) : Spec mi d k As S Q QX := by
  intro l hl D ad sz
  refine vx_ofW (cc := mi.2.1) (maxL := mi.2.2.1) (ret := mi.2.2.2.1) hy rfl ?_
  intro p e s m args below meth c s₁ B hml ht hv
  obtain ⟨rfl, hsz, hM, hK, hV, hSt⟩ := hv
  have hts := atoms_spec (ws := Cond.code mi.1 mi.2.1 mi.2.2.1 mi.2.2.2.1 :: TW) B.pre
  have hT : c.exceptionTable.toList = tableOf mi.2.2.2.2.1 := by
    rw [hh]
    exact List.eq_nil_iff_forall_not_mem.mpr (fun x hx => ht x hx)
  rw [lg_entry_eq]
  exact h p l e (rmm d k) s m _ below meth c D (ownA D S ad sz) S.1 ad ⟨B.exec, B.bytes, B.returns, B.notSynchronized, hml, findClass_of_methodNamed B.named, fun w hw => hts w (List.mem_cons_of_mem _ hw), hK, hl, hT, (name_of_methodNamed B.named B.method).1, Nat.le_refl _, Nat.le_refl _, fun q hq => Or.inr (by rw [← hsz]; exact hq), hSt, fun N xs z => by rw [hh] at z; cases z⟩ s.heap [] 0 0 _ ad
    ⟨hM, va_S_own, va_S.rf, Ext.rf (D := D), trivial, LH_entry hc hV hn, by show 0 + k ≤ k; omega, by show 0 + 700 * k ≤ 700 * k; omega⟩
theorem specW_of {mi : MI} {d k : Nat} {As : List sV} {S : OM} {Q : Option sV → OM → Prop} {QX : String → OM → Prop} (hy : plainName mi.1.cls = true) (hh : mi.2.2.2.2.2 = none) (hc : catS As) (hn : As.length ≤ mi.2.2.1) (h : WP mi d k 0 (entL As mi.2.2.1) [] S Q QX) : SpecW mi d k As S Q QX := by
  intro l hl D ad sz
  refine vx_ofWH (cc := mi.2.1) (maxL := mi.2.2.1) (ret := mi.2.2.2.1) (hh := mi.2.2.2.2.1) hy rfl ?_
  intro p e s m args below meth c s₁ B hml hv
  obtain ⟨rfl, hsz, hM, hK, hV, hSt⟩ := hv
  have hts := atoms_spec (ws := Cond.codeWith mi.1 mi.2.1 mi.2.2.1 mi.2.2.2.1 mi.2.2.2.2.1 :: TW) B.pre
  have hT : c.exceptionTable.toList = tableOf mi.2.2.2.2.1 := vx_table (x := mi.1) (y := mi.1) B (hts _ List.mem_cons_self)
  rw [lg_entry_eq]
  exact h p l e (rmm d k) s m _ below meth c D (ownA D S ad sz) S.1 ad ⟨B.exec, B.bytes, B.returns, B.notSynchronized, hml, findClass_of_methodNamed B.named, fun w hw => hts w (List.mem_cons_of_mem _ hw), hK, hl, hT, (name_of_methodNamed B.named B.method).1, Nat.le_refl _, Nat.le_refl _, fun q hq => Or.inr (by rw [← hsz]; exact hq), hSt, fun N xs z => by rw [hh] at z; cases z⟩ s.heap [] 0 0 _ ad
    ⟨hM, va_S_own, va_S.rf, Ext.rf (D := D), trivial, LH_entry hc hV hn, by show 0 + k ≤ k; omega, by show 0 + 700 * k ≤ 700 * k; omega⟩
/-! calls -/
def conc (r : Option sV) (rest : List sV) : List sV := match r with | none => rest | some v => v :: rest
theorem conc_map (ad : Ad) (r : Option sV) (rest : List sV) : (conc r rest).map (tV ad) = (r.map (tV ad)).toList ++ rest.map (tV ad) := by cases r <;> rfl
theorem cat_le (v : Value) : v.category ≤ 2 := by cases v <;> simp [Value.category]
theorem rest_cat (ad : Ad) : ∀ {rest : List sV}, ((rest.map (tV ad)).map fun v => v.category).sum ≤ 2 * rest.length
  | [] => by simp
  | v :: r => by
    have h1 := rest_cat ad (rest := r)
    have h2 := cat_le (tV ad v)
    simp only [List.map_cons, List.sum_cons, List.length_cons]
    omega
theorem PcS_blind {D : DD} {ad : Ad} {S : OM} {As : List sV} {sz : Nat} : FrameBlind (PcS D ad S As sz) := fun a U g mk q => by
  obtain ⟨q0, q1, q2, q3, q4, q5⟩ := q
  exact ⟨q0, q1, q2, Kst.same (s := U) (U := U.calling g mk a) rfl q3, q4, Sta.same (s := U) (U := U.calling g mk a) rfl q5⟩
section WPC
variable {mi mj : MI} {d d' k k1 k2 pc x n : Nat} {L : List (Option sV)} {st rest : List sV} {S : OM} {As : List sV} {Q Q1 : Option sV → OM → Prop} {QX QX1 : String → OM → Prop}
variable {p : Program} {l : Launch} {e : Env} {R : Room} {s : State} {m : MethodId} {args : Array Value} {below : List Frame} {meth : Method} {c : Code} {D : DD} {A : Nat → Prop} {lv0 : Nat → Nat → Bool} {ad0 : Ad} {H : Heap} {locs : List Loc} {cells slots : Nat} {ls : Array Slot} {ad : Ad}
theorem own_A (hC : Ctx mi d p l R s m args meth c D A) (hD : Dyn D A lv0 ad0 s R mi.2.2.1 k L st S H locs cells slots ls ad) : ∀ q, ownA D S ad H.size q → A q := fun q h => h.elim (hD.2.1 q) (fun z => hC.2.2.2.2.2.2.2.2.2.2.2.2.2.1 q (Nat.le_trans hD.2.2.1.1 z))
theorem Sta_now (hC : Ctx mi d p l R s m args meth c D A) (hD : Dyn D A lv0 ad0 s R mi.2.2.1 k L st S H locs cells slots ls ad) : Sta D (ownA D S ad H.size) s H := (hC.2.2.2.2.2.2.2.2.2.2.2.2.2.2.1.kept hD.2.2.1.2.1).narrow (own_A hC hD)
theorem PcS_now (hC : Ctx mi d p l R s m args meth c D A) (hD : Dyn D A lv0 ad0 s R mi.2.2.1 k L st S H locs cells slots ls ad) (hA : LvS S.1 As) : ∀ U : State, U.heap = H → s.WarmedH U.vm → PcS D ad S As H.size (As.map (tV ad)).toArray U := fun U hU hW =>
  ⟨rfl, by rw [hU], by rw [hU]; exact hD.1, Kst.warm hW hC.2.2.2.2.2.2.2.1, hA, by rw [hU]; exact (Sta_now hC hD).warm hW⟩
/-- behind a call -/
theorem run_go (hC : Ctx mi d p l R s m args meth c D A) (hD : Dyn D A lv0 ad0 s R mi.2.2.1 k L st S H locs cells slots ls ad) {a : Array Value} (hk : k1 + k2 ≤ k) (hrest : LvS S.1 rest)
    (hr : vx_Run p l e R s m args below meth c H locs cells slots k1 (700 * k1) (F0 m pc ls (st.map (tV ad))) (rest.map (tV ad)) (Qn Q1 D (ownA D S ad H.size) S.1 ad a) (Xn QX1 D (ownA D S ad H.size) S.1 ad) (ownA D S ad H.size))
    (kx : ∀ (E : String) (ce : Cell) (q9 : Addr) (S' : OM) (ad' : Ad) (H1 : Heap) (locs1 : List Loc), QX1 E S' → Dyn D A lv0 ad0 s R mi.2.2.1 k2 L rest S' H1 locs1 (cells + k1) (slots + 700 * k1) ls ad' → rest.map (tV ad') = rest.map (tV ad) → H1[q9]? = some ce → ce.vm = .none → s.vm.findClass E = some ce.cls → vx_W p l e R s m args below meth c H1 locs1 (cells + k1) (slots + 700 * k1) (vx_MQ below (Qn Q D A lv0 ad0) (Xn QX D A lv0 ad0) args s R.cells R.slots A) (F0 m pc ls (rest.map (tV ad'))) q9)
    (kk : ∀ (r : Option sV) (S' : OM), Q1 r S' → WP mi d k2 (pc + 3) L (conc r rest) S' Q QX) :
    W p l e R s m args below meth c H locs cells slots (vx_MQ below (Qn Q D A lv0 ad0) (Xn QX D A lv0 ad0) args s R.cells R.slots A) (F0 m pc ls (st.map (tV ad))) := by
  have hAA := own_A hC hD
  have hb1 := hD.2.2.2.2.2.2.1
  have hb2 := hD.2.2.2.2.2.2.2
  intro T hT X
  rcases hr T hT X with ⟨v, st₀, t, T', L9, h0, X', hL, e1, e2, ⟨⟨r, S', ad', hv, hq, hM, hE, hlr, hown⟩, hF⟩, stp⟩ | ⟨q9, st₀, t, T', L9, E, ce, h0, X', hL, e1, e2, ⟨⟨S', ad', hq, hM, hE, hown⟩, hF⟩, hce, hcv, hcl, stp⟩
  · obtain ⟨k5, k6, k7⟩ := vx_keep h0 e1 hD.2.2.1 (fun q _ => hAA q) hAA hL hF
    cases hv
    rw [← e1] at hM
    have hm' := map_ext hE hD.1 hM hrest
    have hD' : Dyn D A lv0 ad0 s R mi.2.2.1 k2 L (conc r rest) S' T'.heap (locs ++ L9) (cells + k1) (slots + 700 * k1) ls ad' := ⟨hM, fun q z => hAA q (hown q z), k7, hD.2.2.2.1.tr hE, by cases r with | none => exact LvS_ext hE hrest | some v => exact ⟨hlr v rfl, LvS_ext hE hrest⟩, hD.lh.ext hE hD.1 hM, by omega, by omega⟩
    obtain ⟨t2, a1, b1⟩ := kk r S' hq p l e R s m args below meth c D A lv0 ad0 hC _ _ _ _ ls ad' hD' T' rfl X'
    refine ⟨t2, stp t2 ?_, b1⟩
    rw [conc_map, hm'] at a1
    exact a1
  · obtain ⟨k5, k6, k7⟩ := vx_keep h0 e1 hD.2.2.1 (fun q _ => hAA q) hAA hL hF
    rw [← e1] at hM hce
    have hm' := map_ext hE hD.1 hM hrest
    have hD' : Dyn D A lv0 ad0 s R mi.2.2.1 k2 L rest S' T'.heap (locs ++ L9) (cells + k1) (slots + 700 * k1) ls ad' := ⟨hM, fun q z => hAA q (hown q z), k7, hD.2.2.2.1.tr hE, LvS_ext hE hrest, hD.lh.ext hE hD.1 hM, by omega, by omega⟩
    obtain ⟨t2, a1, b1⟩ := kx E ce q9 S' ad' _ _ hq hD' hm' hce hcv hcl T' rfl X'
    refine ⟨t2, stp.trans ?_, b1⟩
    rw [hm'] at a1
    exact a1
/-- thrown on to the caller: no handlers here -/
theorem throw_on (hC : Ctx mi d p l R s m args meth c D A) (hh : mi.2.2.2.2.1 = []) (hQX : ∀ E S', QX1 E S' → QX E S') (E : String) (ce : Cell) (q9 : Addr) (S' : OM) (ad' : Ad) (H1 : Heap) (locs1 : List Loc) {cells' slots' : Nat} (hq : QX1 E S') (hD : Dyn D A lv0 ad0 s R mi.2.2.1 k2 L rest S' H1 locs1 cells' slots' ls ad') (hce : H1[q9]? = some ce) (hcv : ce.vm = .none) (hcl : s.vm.findClass E = some ce.cls) {st9 : List Value} :
    vx_W p l e R s m args below meth c H1 locs1 cells' slots' (vx_MQ below (Qn Q D A lv0 ad0) (Xn QX D A lv0 ad0) args s R.cells R.slots A) (F0 m pc ls st9) q9 := by
  have hb1 := hD.2.2.2.2.2.2.1
  have hb2 := hD.2.2.2.2.2.2.2
  refine vx_out (fun z hz => ?_) hC.2.2.2.1 hce hcv hcl (fun t ht hW => ⟨⟨S', ad', hQX E S' hq, by rw [ht]; exact hD.1, hD.2.2.2.1, hD.2.1⟩, hD.2.2.1.F ht⟩) hD.2.2.1.2.2 (by omega) (by omega)
  rw [hC.2.2.2.2.2.2.2.2.2.1, hh] at hz
  cases hz
/-- a callee's own words -/
def MIok (mj : MI) (n : Nat) : Prop := Cond.code mj.1 mj.2.1 mj.2.2.1 mj.2.2.2.1 ∈ TW ∧ Cond.initialized mj.1.cls ∈ TW ∧ (mj.1.cls ≠ "java/lang/invoke/MethodHandle" ∧ mj.1.cls ≠ "java/lang/invoke/VarHandle" ∧ (parseMethodDescriptor mj.1.desc).map (fun q => q.parameters.length) = some n) ∧ mj.2.2.1 ≤ 40
def MIv (mj : MI) : Prop := Cond.instanceMethod mj.1 ∈ TW ∧ Cond.selects mj.1.cls mj.1 mj.1 ∈ TW
theorem good_TW {w : Cond} (h : w ∈ TW) : w ∈ TW ∧ ((w.onTables && w.keeps) = true ∨ ∃ ty, w = .arrayClass ty) := ⟨h, good_of_word (List.mem_filter.mp h).2⟩
theorem goodV {own9 C : String} {y : MethodName} {bytes : ByteArray} {maxL : Nat} {ret : Option FieldType} (h1 : Cond.methodLink own9 x y ∈ TW) (h2 : Cond.instanceMethod y ∈ TW) (h3 : Cond.selects C y y ∈ TW) (h4 : Cond.initialized C ∈ TW) (h5 : Cond.code y bytes maxL ret ∈ TW) : GoodIn TW (wsV own9 x C y (Cond.code y bytes maxL ret :: TW)) := by
  intro w hw
  unfold wsV at hw
  simp only [List.cons_append, List.nil_append, List.mem_cons] at hw
  rcases hw with rfl | rfl | rfl | rfl | rfl | hw
  · exact good_TW h1
  · exact good_TW h2
  · exact good_TW h3
  · exact good_TW h4
  · exact good_TW h5
  · exact good_TW hw
theorem goodS {own9 : String} {y : MethodName} {bytes : ByteArray} {maxL : Nat} {ret : Option FieldType} (h1 : Cond.methodLink own9 x y ∈ TW) (h2 : Cond.static y ∈ TW) (h4 : Cond.initialized own9 ∈ TW) (h5 : Cond.code y bytes maxL ret ∈ TW) : GoodIn TW (wsS own9 x y (Cond.code y bytes maxL ret :: TW)) := by
  intro w hw
  unfold wsS at hw
  simp only [List.cons_append, List.nil_append, List.mem_cons] at hw
  rcases hw with rfl | rfl | rfl | rfl | hw
  · exact good_TW h1
  · exact good_TW h2
  · exact good_TW h4
  · exact good_TW h5
  · exact good_TW hw
theorem code_good {y : MethodName} {bytes : ByteArray} {maxL : Nat} {ret : Option FieldType} (h5 : Cond.code y bytes maxL ret ∈ TW) : GoodIn TW (Cond.code y bytes maxL ret :: TW) := fun w hw => by
  rcases List.mem_cons.mp hw with rfl | hw
  · exact good_TW h5
  · exact good_TW hw
theorem recv9 {D : DD} {S : OM} {ad : Ad} {H : Heap} {s : State} {c i : Nat} (hK : Kst D s) (hm : MM D S ad H) (hl : S.1 c i = true) (hc : c < 10) : ∃ cell : Cell, H[ad c i]? = some cell ∧ cell.vm.isStatics = false ∧ s.vm.findClass (cn c) = some cell.cls := by
  obtain ⟨cell, q1, q2, q3, -⟩ := ob_of hm hl hc
  exact ⟨cell, q1, by rw [q3]; rfl, by rw [q2]; exact (hK.1.1 c _ (cls_at hc)).2.1⟩
theorem LvS_app {lv : Nat → Nat → Bool} : ∀ {a b : List sV}, LvS lv (a ++ b) → LvS lv a ∧ LvS lv b
  | [], _, h => ⟨trivial, h⟩
  | _ :: r, _, h => ⟨⟨h.1, (LvS_app (a := r) h.2).1⟩, (LvS_app (a := r) h.2).2⟩
theorem LvS_cat {lv : Nat → Nat → Bool} : ∀ {a b : List sV}, LvS lv a → LvS lv b → LvS lv (a ++ b)
  | [], _, _, h => h
  | _ :: r, _, h1, h => ⟨h1.1, LvS_cat (a := r) h1.2 h⟩
theorem LvS_rev {lv : Nat → Nat → Bool} : ∀ {a : List sV}, LvS lv a.reverse → LvS lv a
  | [], _ => trivial
  | v :: r, h => by
    rw [List.reverse_cons] at h
    exact ⟨(LvS_app h).2.1, LvS_rev (LvS_app h).1⟩
theorem Met_of {y : MethodName} {ws : List Cond} {rm : Room} {Pc : Array Value → State → Prop} {Qc : Array Value → State → Outcome → State → Prop} {XC : String → State → State → Prop} {mc ms : Nat} {free : Addr → Prop} (h : vx_Met l y ws rm Pc Qc XC mc ms free) (hX : ∀ E s t, ¬ XC E s t) : Met l y ws rm Pc Qc mc ms free := by
  refine MetFree.mono h (fun _ _ q => q) (fun _ _ _ _ _ q => q) (fun a s o t _ q => ?_)
  rcases q with q | ⟨q9, -, E, ce, L9, hx, -⟩
  · exact q
  · exact absurd hx (hX _ _ _)
theorem wp_callV {c i : Nat} (hsp : Spec mj d' k1 (vR c i :: As) S Q1 QX1) (hok : MIok mj As.length) (hv : MIv mj) (hcn : mj.1.cls = cn c) (hc : c < 10) (hl : Cond.methodLink mi.1.cls x mj.1 ∈ TW) (hd : decode mi.2.1 pc = .ok (.invokevirtual x, 3)) (hh : mi.2.2.2.2.1 = []) (hdd : d' + 1 ≤ d) (hk : k1 + k2 ≤ k) (hst : st = As.reverse ++ vR c i :: rest) (hr : rest.length ≤ 4) (hQX : ∀ E S', QX1 E S' → QX E S')
    (kk : ∀ (r : Option sV) (S' : OM), Q1 r S' → WP mi d k2 (pc + 3) L (conc r rest) S' Q QX) : WP mi d k pc L st S Q QX := by
  intro p l e R s m args below meth cc D A lv0 ad0 hC H locs cells slots ls ad hD
  subst hst
  have hV := LvS_app hD.lvs
  have hl1 := lv_of hV.2.1 (by omega)
  have hAs : LvS S.1 (vR c i :: As) := ⟨hV.2.1, LvS_rev hV.1⟩
  have hb1 := hD.2.2.2.2.2.2.1
  have hb2 := hD.2.2.2.2.2.2.2
  have hf1 := hC.2.2.2.2.2.2.2.2.2.2.2.1
  have hf2 := hC.2.2.2.2.2.2.2.2.2.2.2.2.1
  refine run_go hC hD hk hV.2.2 (vx_runV (As := As.map (tV ad)) (own := mi.1.cls) (C := mj.1.cls) (b := ad c i) ⟨hC.1, hC.2.1, hC.2.2.2.2.1, hC.2.2.2.2.2.1, hC.2.2.2.2.2.2.1⟩ (hsp l hC.2.2.2.2.2.2.2.2.1 D ad H.size)
    (cwV As.length hC.2.2.2.2.2.2.1 (goodV hl hv.1 hv.2 hok.2.1 hok.1) rfl rfl rfl ⟨rfl, hok.2.2.1⟩ ⟨by show d' + 1 ≤ R.frames; omega, by show 8 + (mj.2.2.1 + 11) + 64 * d' ≤ R.locals; have := hok.2.2.2; omega⟩)
    ⟨PcS_blind, by rw [hcn]; exact recv9 hC.2.2.2.2.2.2.2.1 hD.1 hl1 hc, PcS_now hC hD hAs⟩ rfl (by rw [List.length_map]) hD.lh.1 (by rw [List.map_append, List.map_reverse]; rfl) (lv_room (Nat.le_trans (rest_cat ad) (by omega))) hd ⟨by omega, by omega⟩)
    (fun E ce q9 S' ad' H1 locs1 hq hD' _ hce hcv hcl => throw_on hC hh hQX E ce q9 S' ad' H1 locs1 hq hD' hce hcv hcl) kk
theorem wp_callS (hsp : Spec mj d' k1 As S Q1 QX1) (hok : MIok mj As.length) (hv : Cond.static mj.1 ∈ TW) (hcn : mj.1.cls = mi.1.cls) (hl : Cond.methodLink mi.1.cls x mj.1 ∈ TW) (hd : decode mi.2.1 pc = .ok (.invokestatic x, 3)) (hh : mi.2.2.2.2.1 = []) (hdd : d' + 1 ≤ d) (hk : k1 + k2 ≤ k) (hst : st = As.reverse ++ rest) (hr : rest.length ≤ 4) (hQX : ∀ E S', QX1 E S' → QX E S')
    (kk : ∀ (r : Option sV) (S' : OM), Q1 r S' → WP mi d k2 (pc + 3) L (conc r rest) S' Q QX) : WP mi d k pc L st S Q QX := by
  intro p l e R s m args below meth cc D A lv0 ad0 hC H locs cells slots ls ad hD
  subst hst
  have hV := LvS_app hD.lvs
  have hAs : LvS S.1 As := LvS_rev hV.1
  have hb1 := hD.2.2.2.2.2.2.1
  have hb2 := hD.2.2.2.2.2.2.2
  have hf1 := hC.2.2.2.2.2.2.2.2.2.2.2.1
  have hf2 := hC.2.2.2.2.2.2.2.2.2.2.2.2.1
  refine run_go hC hD hk hV.2 (vx_runS (As := As.map (tV ad)) (own := mi.1.cls) ⟨hC.1, hC.2.1, hC.2.2.2.2.1, hC.2.2.2.2.2.1, hC.2.2.2.2.2.2.1⟩ (hsp l hC.2.2.2.2.2.2.2.2.1 D ad H.size)
    (cwS As.length hC.2.2.2.2.2.2.1 (goodS hl hv (by rw [← hcn]; exact hok.2.1) hok.1) rfl rfl rfl ⟨hcn, hok.2.2.1⟩ ⟨by show d' + 1 ≤ R.frames; omega, by show 8 + (mj.2.2.1 + 11) + 64 * d' ≤ R.locals; have := hok.2.2.2; omega⟩)
    ⟨PcS_blind, PcS_now hC hD hAs⟩ rfl (by rw [List.length_map]) hD.lh.1 (by rw [List.map_append, List.map_reverse]) (lv_room (Nat.le_trans (rest_cat ad) (by omega))) hd ⟨by omega, by omega⟩)
    (fun E ce q9 S' ad' H1 locs1 hq hD' _ hce hcv hcl => throw_on hC hh hQX E ce q9 S' ad' H1 locs1 hq hD' hce hcv hcl) kk
/-- a constructor's call (it throws nothing) -/
theorem vx_of_va {mc ms : Nat} {g : JFrame} {rest : List Value} {Qa : State → Outcome → State → Prop} {XC : String → State → State → Prop} {free : Addr → Prop} (h : va_Run p l e R s m args below meth c H locs cells slots mc ms g rest Qa free) : vx_Run p l e R s m args below meth c H locs cells slots mc ms g rest Qa XC free := fun T hT X => Or.inl (h T hT X)
theorem wp_callI {c i : Nat} (hsp : Spec mj d' k1 (vR c i :: As) S Q1 (fun _ _ => False)) (hok : MIok mj As.length) (hret : mj.2.2.2.1 = none) (hnm : mj.1.name = "<init>") (him : Cond.instanceMethod mj.1 ∈ TW) (hl : Cond.methodLink mi.1.cls x mj.1 ∈ TW) (hd : decode mi.2.1 pc = .ok (.invokespecial x, 3)) (hdd : d' + 1 ≤ d) (hk : k1 + k2 ≤ k) (hst : st = As.reverse ++ vR c i :: rest) (hr : rest.length ≤ 4)
    (kk : ∀ (r : Option sV) (S' : OM), Q1 r S' → WP mi d k2 (pc + 3) L (conc r rest) S' Q QX) : WP mi d k pc L st S Q QX := by
  intro p l e R s m args below meth cc D A lv0 ad0 hC H locs cells slots ls ad hD
  subst hst
  have hV := LvS_app hD.lvs
  have hAs : LvS S.1 (vR c i :: As) := ⟨hV.2.1, LvS_rev hV.1⟩
  have hb1 := hD.2.2.2.2.2.2.1
  have hb2 := hD.2.2.2.2.2.2.2
  have hf1 := hC.2.2.2.2.2.2.2.2.2.2.2.1
  have hf2 := hC.2.2.2.2.2.2.2.2.2.2.2.2.1
  have hM := Met_of (hsp l hC.2.2.2.2.2.2.2.2.1 D ad H.size) (fun E s t z => z.1.elim fun S' z => z.elim fun ad' z => z.1)
  obtain ⟨hw1, hw2, hw3, hw4⟩ := hok
  rw [hret] at hM hw1
  have hts := hC.2.2.2.2.2.2.1
  refine run_go (QX1 := fun _ _ => False) hC hD hk hV.2.2 (vx_of_va (va_runI (As := As.map (tV ad)) (own := mi.1.cls) (b := ad c i) (maxL := mj.2.2.1) (bytes := mj.2.1) ⟨hC.1, hC.2.1, hC.2.2.2.2.1, hC.2.2.2.2.2.1, hts⟩ hM
    (cwI As.length hts (code_good hw1) rfl rfl rfl (hts _ hw2) (hts _ hl) (hts _ him) hnm hw3 ⟨by show d' + 1 ≤ R.frames; omega, by show 8 + (mj.2.2.1 + 11) + 64 * d' ≤ R.locals; omega⟩)
    ⟨PcS_blind, PcS_now hC hD hAs⟩ rfl (by rw [List.length_map]) hD.lh.1 (by rw [List.map_append, List.map_reverse]; rfl) (lv_room (Nat.le_trans (rest_cat ad) (by omega))) hd ⟨by omega, by omega⟩))
    (fun E ce q9 S' ad' H1 locs1 hq hD' _ hce hcv hcl => hq.elim) kk
theorem wp_callIN {c i : Nat} {host : String} (hsp : Spec mj d' k1 (vR c i :: As) S Q1 (fun _ _ => False)) (hok : MIok mj As.length) (hret : mj.2.2.2.1 = none) (hnm : mj.1.name = "<init>") (him : Cond.instanceMethod mj.1 ∈ TW) (hl : ∀ s, KN s → va_Nw (.methodLinkNest mi.1.cls x mj.1 host) s) (hd : decode mi.2.1 pc = .ok (.invokespecial x, 3)) (hdd : d' + 1 ≤ d) (hk : k1 + k2 ≤ k) (hst : st = As.reverse ++ vR c i :: rest) (hr : rest.length ≤ 4)
    (kk : ∀ (r : Option sV) (S' : OM), Q1 r S' → WP mi d k2 (pc + 3) L (conc r rest) S' Q QX) : WP mi d k pc L st S Q QX := by
  intro p l e R s m args below meth cc D A lv0 ad0 hC H locs cells slots ls ad hD
  subst hst
  have hV := LvS_app hD.lvs
  have hAs : LvS S.1 (vR c i :: As) := ⟨hV.2.1, LvS_rev hV.1⟩
  have hb1 := hD.2.2.2.2.2.2.1
  have hb2 := hD.2.2.2.2.2.2.2
  have hf1 := hC.2.2.2.2.2.2.2.2.2.2.2.1
  have hf2 := hC.2.2.2.2.2.2.2.2.2.2.2.2.1
  have hM := Met_of (hsp l hC.2.2.2.2.2.2.2.2.1 D ad H.size) (fun E s t z => z.1.elim fun S' z => z.elim fun ad' z => z.1)
  obtain ⟨hw1, hw2, hw3, hw4⟩ := hok
  rw [hret] at hM hw1
  have hts := hC.2.2.2.2.2.2.1
  refine run_go (QX1 := fun _ _ => False) hC hD hk hV.2.2 (vx_of_va (va_runIN (As := As.map (tV ad)) (own := mi.1.cls) (host := host) (b := ad c i) (maxL := mj.2.2.1) (bytes := mj.2.1) ⟨hC.1, hC.2.1, hC.2.2.2.2.1, hC.2.2.2.2.2.1, hts⟩ hM
    ⟨va_cnB As.length hts (code_good hw1) rfl rfl rfl (hl s hC.2.2.2.2.2.2.2.1.2) (hts _ hw2) hw3 ⟨by show d' + 1 ≤ R.frames; omega, by show 8 + (mj.2.2.1 + 11) + 64 * d' ≤ R.locals; omega⟩, hnm, hts _ him⟩
    ⟨PcS_blind, PcS_now hC hD hAs⟩ rfl (by rw [List.length_map]) hD.lh.1 (by rw [List.map_append, List.map_reverse]; rfl) (lv_room (Nat.le_trans (rest_cat ad) (by omega))) hd ⟨by omega, by omega⟩))
    (fun E ce q9 S' ad' H1 locs1 hq hD' _ hce hcv hcl => hq.elim) kk
end WPC
end
section
/-! a new cell -/
theorem kd9 {c : Nat} (h : kd c ≠ 9) : ¬ (60 ≤ c ∧ c < 67) ∧ ¬ (71 ≤ c ∧ c < 75) := by
  refine ⟨fun z => h ?_, fun z => h ?_⟩ <;>
  · unfold kd
    rw [if_neg (by omega), if_neg (by omega), if_neg (by omega), if_neg (by omega), if_neg (by omega), if_neg (by omega), if_pos (by omega)]
theorem live_kd {D : DD} {S : OM} {ad : Ad} {H : Heap} {c i : Nat} (hm : MM D S ad H) (h : S.1 c i = true) : kd c ≠ 9 := by
  intro e
  have := hm.1 c i h
  unfold cOK at this
  rw [e] at this
  exact this
theorem opt_map_eq {f g : Nat → Nat} : ∀ {o : Option Nat}, (∀ j, o = some j → f j = g j) → o.map f = o.map g
  | none, _ => rfl
  | some j, h => by show some (f j) = some (g j); rw [h j rfl]
/-- the same live cell, named behind a growth -/
theorem cOK_move {D : DD} {S S' : OM} {ad ad' : Ad} {H H1 : Heap} {c i : Nat} (hm : MM D S ad H) (hl : S.1 c i = true) (hH : ∀ q : Nat, q < H.size → H1[q]? = H[q]?)
    (hA : ∀ c i, S.1 c i = true → ad' c i = ad c i) (hA2 : kd c = 4 → ad' (c + 10) i = ad (c + 10) i)
    (hf : kd c = 0 → ∀ k, k < nF c → S'.2.1 (128 * c + k) i = S.2.1 (128 * c + k) i ∧ (c ≠ 9 → S'.2.2.1 (128 * c + k) i = S.2.2.1 (128 * c + k) i) ∧ (c = 9 → tg 9 k = 0 → S'.2.2.2.2.2.2.2 k 0 = S.2.2.2.2.2.2.2 k 0))
    (hi : kd c = 1 ∨ kd c = 2 → aI S'.2.2.2.2.2.2.2 S'.2.2.2.1 c i = aI S.2.2.2.2.2.2.2 S.2.2.2.1 c i) (hr : kd c = 3 → S'.2.2.2.2.1 c i = S.2.2.2.2.1 c i) (hls : kd c = 4 → S'.2.2.2.2.2.1 c i = S.2.2.2.2.2.1 c i) (ho : kd c = 5 → S'.2.2.2.2.2.2.1 = S.2.2.2.2.2.2.1) : cOK D S' ad' H1 c i := by
  have hq := cOK_lt (hm.1 c i hl)
  have hk1 := cOK_kept (H1 := H1) (hm.1 c i hl) (hH _ hq.1) (fun hk hne => hH _ (hq.2 hk hne))
  unfold cOK at hk1 ⊢
  have e1 := hA c i hl
  match hk : kd c, hk1 with
  | 0, h =>
    show t_OB (ad' c i) _ _ _ _ _
    rw [e1]
    refine t_OB.to h (fun y hy => ?_)
    obtain ⟨z1, z2, z3⟩ := hf hk y hy
    unfold fV
    split
    next ht =>
      by_cases h9 : c = 9
      · rw [if_pos h9, if_pos h9, z3 h9 (by rw [← h9]; exact ht)]
      · rw [if_neg h9, if_neg h9, z2 h9]
    next t ht =>
      rw [z1]
      exact congrArg va_rf (opt_map_eq (fun j hj => (hA t j (hm.2.2.1 c i y t j hl hk hy ht hj)).symm))
  | 1, h => show H1[ad' c i]? = _; rw [e1, hi (Or.inl hk)]; exact h
  | 2, h => show H1[ad' c i]? = _; rw [e1, hi (Or.inr hk)]; exact h
  | 3, h =>
    show H1[ad' c i]? = _
    rw [e1, hr hk]
    refine h.trans ?_
    congr 1
    rw [vp_cell_q, vp_cell_q]
    unfold arrV
    congr 1
    refine congrArg _ (funext fun j => ?_)
    exact congrArg va_rf (opt_map_eq (fun x hx => (hA (tA c) x (hm.2.2.2.1 c i j x hl hk j.2 hx)).symm))
  | 4, h =>
    show (∃ m : Int32, _) ∧ _
    rw [e1, hA2 hk, hls hk]
    refine ⟨h.1, ?_⟩
    rcases h.2 with z | ⟨z1, n, z2, z3, z4, z5⟩
    · exact Or.inl z
    · refine Or.inr ⟨z1, n, z2, z3, z4, z5.trans ?_⟩
      refine congrArg (fun f => some (vp_cell (D.2.1 7) (n, .inr (.inr (.inr (.inr f)))))) (funext fun j => ?_)
      exact opt_map_eq (fun x hx => (hA (tA c) x (hm.2.2.2.2.1 c i x hl hk (List.mem_of_getElem? hx))).symm)
  | 5, h => show H1[ad' c i]? = _; rw [e1, ho hk]; exact h
  | _ + 6, h => exact h.elim
theorem MM.grow {D : DD} {S S' : OM} {ad ad' : Ad} {H H1 : Heap} {c i : Nat} (hm : MM D S ad H) (hn : ¬ S.1 c i = true) (hk9 : kd c ≠ 9) (hH : ∀ q : Nat, q < H.size → H1[q]? = H[q]?) (hlv : S'.1 = up2 S.1 c i true)
    (hA : ∀ c i, S.1 c i = true → ad' c i = ad c i) (hA2 : ∀ c i, S.1 c i = true → kd c = 4 → ad' (c + 10) i = ad (c + 10) i) (hA3 : ∀ j, j < 4 → ad' (71 + j) 0 = ad (71 + j) 0) (hA4 : ad' c i = H.size) (hA5 : kd c = 4 → ad' (c + 10) i = D.2.2.1)
    (hself : cOK D S' ad' H1 c i) (hoth : ∀ c' i', S.1 c' i' = true → cOK D S' ad' H1 c' i') (h0 : (200 ≤ c ∨ c = 9) → i = 0)
    (hfr : ∀ c' i' k t j, S'.1 c' i' = true → kd c' = 0 → k < nF c' → tg c' k = t + 1 → S'.2.1 (128 * c' + k) i' = some j → S.1 t j = true)
    (har : ∀ c' i' k j, S'.1 c' i' = true → kd c' = 3 → k < len c' → S'.2.2.2.2.1 c' i' k = some j → S.1 (tA c') j = true)
    (hli : ∀ c' i' j, S'.1 c' i' = true → kd c' = 4 → j ∈ S'.2.2.2.2.2.1 c' i' → S.1 (tA c') j = true) : MM D S' ad' H1 := by
  have old : ∀ c' i', S'.1 c' i' = true → ¬ (c' = c ∧ i' = i) → S.1 c' i' = true := fun c' i' h hne => by
    rw [hlv, up2_n _ _ hne] at h
    exact h
  have up : ∀ c' i', S.1 c' i' = true → S'.1 c' i' = true := fun c' i' h => by
    rw [hlv]
    by_cases z : c' = c ∧ i' = i
    · rw [z.1, z.2, up2_s]
    · rw [up2_n _ _ z]; exact h
  have key : ∀ c' i', lvx D S'.1 ad' c' i' → (c' = c ∧ i' = i) ∨ (lvx D S.1 ad c' i' ∧ ad' c' i' = ad c' i') := by
    intro c' i' h
    rcases h with h | ⟨h1, h2, h3, h4⟩
    · by_cases z : c' = c ∧ i' = i
      · exact Or.inl z
      · exact Or.inr ⟨Or.inl (old _ _ h z), hA _ _ (old _ _ h z)⟩
    · have e : c' - 10 + 10 = c' := by omega
      by_cases z : c' - 10 = c ∧ i' = i
      · exfalso
        have hk4 := kd_list h1 h2
        rw [z.1] at hk4
        have := hA5 hk4
        rw [← z.1, e, ← z.2] at this
        exact h4 this
      · have o := old _ _ h3 z
        have ha := hA2 (c' - 10) i' o (kd_list h1 h2)
        rw [e] at ha
        exact Or.inr ⟨Or.inr ⟨h1, h2, o, by rw [← ha]; exact h4⟩, ha⟩
  refine ⟨fun c' i' h => ?_, fun c1 i1 c2 i2 h1 h2 he => ?_, fun c' i' k t j h1 h2 h3 h4 h5 => up _ _ (hfr c' i' k t j h1 h2 h3 h4 h5), fun c' i' k j h1 h2 h3 h4 => up _ _ (har c' i' k j h1 h2 h3 h4), fun c' i' j h1 h2 h3 => up _ _ (hli c' i' j h1 h2 h3), fun j hj => (hA3 j hj).trans (hm.2.2.2.2.2.1 j hj), fun c' i' h hz => ?_⟩
  · by_cases z : c' = c ∧ i' = i
    · rw [z.1, z.2]; exact hself
    · exact hoth c' i' (old c' i' h z)
  · rcases key c1 i1 h1 with z1 | ⟨z1, e1⟩ <;> rcases key c2 i2 h2 with z2 | ⟨z2, e2⟩
    · exact ⟨z1.1.trans z2.1.symm, z1.2.trans z2.2.symm⟩
    · rw [z1.1, z1.2, hA4, e2] at he
      have := lvx_lt hm z2
      omega
    · rw [z2.1, z2.2, hA4, e1] at he
      have := lvx_lt hm z1
      omega
    · exact hm.2.1 c1 i1 c2 i2 z1 z2 (by rw [← e1, ← e2]; exact he)
  · by_cases z : c' = c ∧ i' = i
    · rw [z.2]; exact h0 (by rw [← z.1]; exact hz)
    · exact hm.2.2.2.2.2.2 c' i' (old c' i' h z) hz
/-- the frame's facts, behind a growth -/
theorem Dyn.gr {D : DD} {A : Nat → Prop} {lv0 : Nat → Nat → Bool} {ad0 : Ad} {s : State} {R : Room} {n k k' cells' slots' : Nat} {L : List (Option sV)} {st st' : List sV} {S S' : OM} {H H1 : Heap} {locs : List Loc} {cells slots : Nat} {ls : Array Slot} {ad ad' : Ad}
    (h : Dyn D A lv0 ad0 s R n k L st S H locs cells slots ls ad) (hA9 : ∀ q, s.heap.size ≤ q → A q) (hm : MM D S' ad' H1) (hE : Ext D S.1 ad S'.1 ad') (hown : ∀ q, own D S'.1 ad' q → own D S.1 ad q ∨ H.size ≤ q) (z : H.size ≤ H1.size) (oq : ∀ q : Nat, q < H.size → H1[q]? = H[q]?) (hs : LvS S'.1 st') (hc : cells' + k' ≤ R.cells) (hsl : slots' + 700 * k' ≤ R.slots) : Dyn D A lv0 ad0 s R n k' L st' S' H1 locs cells' slots' ls ad' :=
  ⟨hm, fun q hq => (hown q hq).elim (h.2.1 q) (fun z => hA9 q (Nat.le_trans h.2.2.1.1 z)), ⟨Nat.le_trans h.2.2.1.1 z, fun q h1 h2 => (oq q (Nat.lt_of_lt_of_le h1 h.2.2.1.1)).trans (h.2.2.1.2.1 q h1 h2), h.2.2.1.2.2⟩, h.2.2.2.1.tr hE, hs, h.lh.ext hE h.1 hm, hc, hsl⟩
end
section
def clr {α : Type} (m : Nat → Nat → α) (c i : Nat) (v : α) : Nat → Nat → α := fun f j => if f / 128 = c ∧ j = i then v else m f j
theorem clr_s {α : Type} (m : Nat → Nat → α) {c f : Nat} (i : Nat) (v : α) (h : f / 128 = c) : clr m c i v f i = v := by unfold clr; rw [if_pos ⟨h, rfl⟩]
theorem clr_n {α : Type} (m : Nat → Nat → α) {c i f j : Nat} (v : α) (h : ¬ (f / 128 = c ∧ j = i)) : clr m c i v f j = m f j := by unfold clr; rw [if_neg h]
theorem dflt {c : Nat} (h : c < 10) : ∀ k, k < nF c → (tg c k = 0 → defaultValue (cY c k) = .int 0) ∧ (tg c k ≠ 0 → defaultValue (cY c k) = .null) :=
  c10 (P := fun c => ∀ k, k < nF c → (tg c k = 0 → defaultValue (cY c k) = .int 0) ∧ (tg c k ≠ 0 → defaultValue (cY c k) = .null)) (by decide +kernel) (by decide +kernel) (by decide +kernel) (by decide +kernel) (by decide +kernel) (by decide +kernel) (by decide +kernel) (by decide +kernel) (by decide +kernel) (by decide +kernel) h
theorem lvx_grow {D : DD} {lv : Nat → Nat → Bool} {ad ad' : Ad} {c i sz : Nat} (hA : ∀ c i, lv c i = true → ad' c i = ad c i) (hA2 : ∀ c i, lv c i = true → kd c = 4 → ad' (c + 10) i = ad (c + 10) i) (hA4 : ad' c i = sz) (hA5 : kd c = 4 → ad' (c + 10) i = D.2.2.1) : ∀ q, own D (up2 lv c i true) ad' q → own D lv ad q ∨ sz ≤ q := by
  rintro q ⟨c', i', h, rfl⟩
  have old : ∀ c' i', up2 lv c i true c' i' = true → ¬ (c' = c ∧ i' = i) → lv c' i' = true := fun c' i' h hne => by
    rw [up2_n _ _ hne] at h
    exact h
  rcases h with h | ⟨h1, h2, h3, h4⟩
  · by_cases z : c' = c ∧ i' = i
    · rw [z.1, z.2, hA4]
      exact Or.inr (Nat.le_refl _)
    · exact Or.inl ⟨c', i', Or.inl (old _ _ h z), hA _ _ (old _ _ h z)⟩
  · have e : c' - 10 + 10 = c' := by omega
    by_cases z : c' - 10 = c ∧ i' = i
    · exfalso
      have hk4 := kd_list h1 h2
      rw [z.1] at hk4
      have := hA5 hk4
      rw [← z.1, e, ← z.2] at this
      exact h4 this
    · have o := old _ _ h3 z
      have ha := hA2 (c' - 10) i' o (kd_list h1 h2)
      rw [e] at ha
      exact Or.inl ⟨c', i', Or.inr ⟨h1, h2, o, by rw [← ha]; exact h4⟩, ha⟩
theorem Ext_grow {D : DD} {lv : Nat → Nat → Bool} {ad ad' : Ad} {c i : Nat} (hA : ∀ c i, lv c i = true → ad' c i = ad c i) : Ext D lv ad (up2 lv c i true) ad' := fun c' i' h => ⟨by
  by_cases z : c' = c ∧ i' = i
  · rw [z.1, z.2, up2_s]
  · rw [up2_n _ _ z]; exact h, hA c' i' h⟩
section WPN
variable {mi : MI} {d k pc : Nat} {L L' : List (Option sV)} {st : List sV} {Q : Option sV → OM → Prop} {QX : String → OM → Prop} {lv : Nat → Nat → Bool} {fr : Nat → Nat → Option Nat} {fi : Nat → Nat → Int32} {ai : Nat → Nat → Nat → Int32} {ar : Nat → Nat → Nat → Option Nat} {li : Nat → Nat → List Nat} {out : Int64} {rho : Nat → Nat → Int32}
/-- the new cell's address; the rest as it was -/
def adN (ad : Ad) (c i a : Nat) : Ad := up2 ad c i a
theorem adN_old {ad : Ad} {lv : Nat → Nat → Bool} {c i a : Nat} (hn : ¬ lv c i = true) : ∀ c' i', lv c' i' = true → adN ad c i a c' i' = ad c' i' := fun c' i' h => up2_n _ _ (fun z => hn (by rw [← z.1, ← z.2]; exact h))
theorem wp_new {c i x : Nat} (hc : c < 9) (hn : ¬ lv c i = true) (hw1 : Cond.classLink mi.1.cls x (cn c) ∈ TW) (hw2 : Cond.instantiable (cn c) (nF c) ∈ TW) (hw3 : Cond.initialized (cn c) ∈ TW) (hd : decode mi.2.1 pc = .ok (.new x, 3))
    (h : WP mi d k (pc + 3) L (vR c i :: st) (up2 lv c i true, clr fr c i none, clr fi c i 0, ai, ar, li, out, rho) Q QX) : WP mi d (k + 1) pc L st (lv, fr, fi, ai, ar, li, out, rho) Q QX := by
  intro p l e R s m args below meth cc D A lv0 ad0 hC H locs cells slots ls ad hD
  have hts := hC.2.2.2.2.2.2.1
  have hKn := hC.2.2.2.2.2.2.2.1.1.1 c _ (cls_at (show c < 10 by omega))
  have hb1 := hD.2.2.2.2.2.2.1
  have hb2 := hD.2.2.2.2.2.2.2
  have hnF := nF_lt (c := c) (by omega)
  have hk0 := kd_of (show c < 10 by omega)
  refine W.newcK hC.1 hC.2.1 hC.2.2.2.2.2.1 (hts _ hw1) (hts _ hw2) (hts _ hw3) rfl hd (by omega) (by omega) hKn.2.1 rfl fun H1 kC hkC e1 z1 o1 => ?_
  have hob := u_born (cY c) hts (cW_ok (show c < 10 by omega)) hKn hkC e1 (cY_ok (by omega))
  have hm := hD.1
  have hoA := adN_old (ad := ad) (a := H.size) hn
  have hoA2 : ∀ c' i', lv c' i' = true → kd c' = 4 → adN ad c i H.size (c' + 10) i' = ad (c' + 10) i' := fun c' i' h1 h2 => up2_n _ _ (fun z => by have := kd4 h2; omega)
  have hold : ∀ c' i', lv c' i' = true → cOK D (up2 lv c i true, clr fr c i none, clr fi c i 0, ai, ar, li, out, rho) (adN ad c i H.size) H1 c' i' := fun c' i' hl' => by
    have hne : ¬ (c' = c ∧ i' = i) := fun z => hn (by rw [← z.1, ← z.2]; exact hl')
    refine cOK_move hm hl' o1 hoA (hoA2 c' i' hl') (fun hk' y hy => ?_) (fun _ => rfl) (fun _ => rfl) (fun _ => rfl) (fun _ => rfl)
    have := nF_lt (kd0 hk')
    have e : (128 * c' + y) / 128 = c' := by omega
    exact ⟨clr_n _ _ (by rw [e]; exact hne), fun _ => clr_n _ _ (by rw [e]; exact hne), fun _ _ => rfl⟩
  have hm' : MM D (up2 lv c i true, clr fr c i none, clr fi c i 0, ai, ar, li, out, rho) (adN ad c i H.size) H1 := by
    refine hm.grow hn (by rw [hk0]; decide) o1 rfl hoA hoA2 (fun j hj => up2_n _ _ (fun z => by omega)) (up2_s _ _ _ _) (fun z => by rw [hk0] at z; cases z) ?_ hold (fun z => by omega) (fun c' i' y t j h1 h2 h3 h4 h5 => ?_) (fun c' i' y j h1 h2 h3 h4 => ?_) (fun c' i' j h1 h2 h3 => ?_)
    · unfold cOK
      rw [hk0]
      show t_OB (adN ad c i H.size c i) _ _ _ _ _
      have e2 : adN ad c i H.size c i = H.size := up2_s _ _ _ _
      rw [e2]
      refine t_OB.to hob (fun y hy => ?_)
      have e : (128 * c + y) / 128 = c := by omega
      obtain ⟨d1, d2⟩ := dflt (show c < 10 by omega) y hy
      unfold fV
      split
      next ht =>
        rw [d1 ht, if_neg (by omega)]
        show _ = Value.int (clr fi c i 0 (128 * c + y) i)
        rw [clr_s _ _ _ e]
      next t ht =>
        rw [d2 (by rw [ht]; omega)]
        show _ = va_rf (Option.map _ (clr fr c i none (128 * c + y) i))
        rw [clr_s _ _ _ e]
        rfl
    · have := nF_lt (kd0 h2)
      have e : (128 * c' + y) / 128 = c' := by omega
      have h5' : clr fr c i none (128 * c' + y) i' = some j := h5
      by_cases z : c' = c ∧ i' = i
      · rw [z.2, clr_s _ _ _ (by rw [e]; exact z.1)] at h5'
        cases h5'
      · rw [clr_n _ _ (by rw [e]; exact z)] at h5'
        have h1' : up2 lv c i true c' i' = true := h1
        rw [up2_n _ _ z] at h1'
        exact hm.2.2.1 c' i' y t j h1' h2 h3 h4 h5'
    · have z : ¬ (c' = c ∧ i' = i) := fun z => by rw [z.1, hk0] at h2; cases h2
      have h1' : up2 lv c i true c' i' = true := h1
      rw [up2_n _ _ z] at h1'
      exact hm.2.2.2.1 c' i' y j h1' h2 h3 h4
    · have z : ¬ (c' = c ∧ i' = i) := fun z => by rw [z.1, hk0] at h2; cases h2
      have h1' : up2 lv c i true c' i' = true := h1
      rw [up2_n _ _ z] at h1'
      exact hm.2.2.2.2.1 c' i' j h1' h2 h3
  have hE : Ext D lv ad (up2 lv c i true) (adN ad c i H.size) := Ext_grow hoA
  have hst := map_ext hE hm hm' hD.lvs
  have hgo := h p l e R s m args below meth cc D A lv0 ad0 hC H1 locs (cells + 1) (slots + nF c) ls (adN ad c i H.size) (hD.gr hC.2.2.2.2.2.2.2.2.2.2.2.2.2.1 hm' hE (lvx_grow hoA hoA2 (up2_s _ _ _ _) (fun z => by rw [hk0] at z; cases z)) (by omega) o1 ⟨Or.inl (up2_s _ _ _ _), LvS_ext hE hD.lvs⟩ (by omega) (by omega))
  rw [List.map_cons, hst] at hgo
  have e2 : tV (adN ad c i H.size) (vR c i) = .ref H.size := congrArg Value.ref (up2_s ad c i H.size)
  rw [e2] at hgo
  exact hgo
/-- a new row of ints or booleans -/
theorem wp_newa9 {S S' : OM} {c i : Nat} {N : Int32} {t : ArrayType} (hc : kd c = 1 ∨ kd c = 2) (hn : ¬ S.1 c i = true) (hN : ¬ N < 0) (hN2 : N.toNatClampNeg = len c) (hlen : len c ≤ 700) (hw : Cond.arrayClass (newarray.typeOf t) ∈ TW) (ht : newarray.typeOf t = tyr (kA c)) (hd : decode mi.2.1 pc = .ok (.newarray t, 2)) (h0 : (200 ≤ c ∨ c = 9) → i = 0)
    (hlv : S'.1 = up2 S.1 c i true) (hfr : S'.2.1 = S.2.1) (hfi : S'.2.2.1 = S.2.2.1) (har : S'.2.2.2.2.1 = S.2.2.2.2.1) (hli : S'.2.2.2.2.2.1 = S.2.2.2.2.2.1) (hout : S'.2.2.2.2.2.2.1 = S.2.2.2.2.2.2.1) (hrho : ∀ y, tg 9 y = 0 → y < 65 → S'.2.2.2.2.2.2.2 y 0 = S.2.2.2.2.2.2.2 y 0)
    (haI : ∀ c' i', S.1 c' i' = true → aI S'.2.2.2.2.2.2.2 S'.2.2.2.1 c' i' = aI S.2.2.2.2.2.2.2 S.2.2.2.1 c' i') (haI2 : aI S'.2.2.2.2.2.2.2 S'.2.2.2.1 c i = fun _ => 0)
    (h : WP mi d k (pc + 2) L (vR c i :: st) S' Q QX) : WP mi d (k + 1) pc L (vI N :: st) S Q QX := by
  intro p l e R s m args below meth cc D A lv0 ad0 hC H locs cells slots ls ad hD
  have hts := hC.2.2.2.2.2.2.1
  have hb1 := hD.2.2.2.2.2.2.1
  have hb2 := hD.2.2.2.2.2.2.2
  have hkA : kA c = 0 ∨ kA c = 1 := hc.elim (fun z => Or.inl (kA_1 z)) (fun z => Or.inr (kA_2 z))
  have hc4 : ¬ kd c = 4 := fun z => by rcases hc with q | q <;> (rw [q] at z; cases z)
  have hc9 : kd c ≠ 9 := fun z => by rcases hc with q | q <;> (rw [q] at z; cases z)
  have hc0 : ¬ kd c = 0 := fun z => by rcases hc with q | q <;> (rw [q] at z; cases z)
  have hc3 : ¬ kd c = 3 := fun z => by rcases hc with q | q <;> (rw [q] at z; cases z)
  have hk9 := kd9 hc9
  refine va_newaK hC.1 hC.2.1 (hts _ hw) rfl hd rfl hN hN2 (by rcases hkA with q | q <;> (rw [ht, q]; show len c * componentBytes _ ≤ _; unfold tyr componentBytes; simp; omega)) (by omega) (by omega) rfl fun H1 cA e1 z1 o1 hAr hfc => ?_
  have hcA : cA = D.2.1 (kA c) := by
    have h9 := (hC.2.2.2.2.2.2.2.1.1.2 (kA c) _ (tys_at D (by omega))).2
    rw [ht] at hfc
    rcases hkA with q | q <;> (rw [q] at h9 hfc ⊢; exact Option.some.inj (hfc.symm.trans h9))
  subst hcA
  have hm := hD.1
  have hoA := adN_old (ad := ad) (a := H.size) hn
  have hoA2 : ∀ c' i', S.1 c' i' = true → kd c' = 4 → adN ad c i H.size (c' + 10) i' = ad (c' + 10) i' := fun c' i' h1 h2 => up2_n _ _ (fun z => by have := kd4 h2; omega)
  have hold : ∀ c' i', S.1 c' i' = true → cOK D S' (adN ad c i H.size) H1 c' i' := fun c' i' hl' =>
    cOK_move hm hl' o1 hoA (hoA2 c' i' hl') (fun hk' y hy => ⟨by rw [hfr], fun _ => by rw [hfi], fun z9 z0 => hrho y z0 (by rw [z9] at hy; exact hy)⟩) (fun _ => haI c' i' hl') (fun _ => by rw [har]) (fun _ => by rw [hli]) (fun _ => hout)
  have hm' : MM D S' (adN ad c i H.size) H1 := by
    have old : ∀ c' i', S'.1 c' i' = true → ¬ (c' = c ∧ i' = i) → S.1 c' i' = true := fun c' i' h1 z => by rw [hlv, up2_n _ _ z] at h1; exact h1
    refine hm.grow hn hc9 o1 hlv hoA hoA2 (fun j hj => up2_n _ _ (fun z => by omega)) (up2_s _ _ _ _) (fun z => absurd z hc4) ?_ hold h0 (fun c' i' y t j h1 h2 h3 h4 h5 => ?_) (fun c' i' y j h1 h2 h3 h4 => ?_) (fun c' i' j h1 h2 h3 => ?_)
    · have e2 : adN ad c i H.size c i = H.size := up2_s _ _ _ _
      have e9 : H1[adN ad c i H.size c i]? = some (vp_cell (D.2.1 (kA c)) (len c, .inl (aI S'.2.2.2.2.2.2.2 S'.2.2.2.1 c i))) := by
        rw [e2, e1, haI2, vp_cell_i]
        have : defaultValue (newarray.typeOf t) = .int 0 := by rw [ht]; rcases hkA with q | q <;> (rw [q]; rfl)
        rw [this]
      unfold cOK
      rcases hc with q | q <;> (rw [q]; exact e9)
    · rw [hfr] at h5
      exact hm.2.2.1 c' i' y t j (old c' i' h1 (fun z => hc0 (by rw [← z.1]; exact h2))) h2 h3 h4 h5
    · rw [har] at h4
      exact hm.2.2.2.1 c' i' y j (old c' i' h1 (fun z => hc3 (by rw [← z.1]; exact h2))) h2 h3 h4
    · rw [hli] at h3
      exact hm.2.2.2.2.1 c' i' j (old c' i' h1 (fun z => hc4 (by rw [← z.1]; exact h2))) h2 h3
  have hE : Ext D S.1 ad S'.1 (adN ad c i H.size) := by rw [hlv]; exact Ext_grow hoA
  have hst := map_ext hE hm hm' hD.lvs.2
  have hgo := h p l e R s m args below meth cc D A lv0 ad0 hC H1 locs (cells + 1) (slots + len c) ls (adN ad c i H.size) (hD.gr hC.2.2.2.2.2.2.2.2.2.2.2.2.2.1 hm' hE (by rw [hlv]; exact lvx_grow hoA hoA2 (up2_s _ _ _ _) (fun z => absurd z hc4)) (by omega) o1 ⟨Or.inl (by rw [hlv]; exact up2_s _ _ _ _), LvS_ext hE hD.lvs.2⟩ (by omega) (by omega))
  rw [List.map_cons, hst] at hgo
  have e2 : tV (adN ad c i H.size) (vR c i) = .ref H.size := congrArg Value.ref (up2_s ad c i H.size)
  rw [e2] at hgo
  exact hgo
theorem wp_newa {c i : Nat} {N : Int32} {t : ArrayType} (hc : kd c = 1 ∨ kd c = 2) (hc2 : c < 200) (hn : ¬ lv c i = true) (hN : ¬ N < 0) (hN2 : N.toNatClampNeg = len c) (hlen : len c ≤ 700) (hw : Cond.arrayClass (newarray.typeOf t) ∈ TW) (ht : newarray.typeOf t = tyr (kA c)) (hd : decode mi.2.1 pc = .ok (.newarray t, 2)) (h9 : c ≠ 9)
    (h : WP mi d k (pc + 2) L (vR c i :: st) (up2 lv c i true, fr, fi, up2 ai c i (fun _ => 0), ar, li, out, rho) Q QX) : WP mi d (k + 1) pc L (vI N :: st) (lv, fr, fi, ai, ar, li, out, rho) Q QX := by
  refine wp_newa9 (S' := (up2 lv c i true, fr, fi, up2 ai c i (fun _ => 0), ar, li, out, rho)) hc hn hN hN2 hlen hw ht hd (fun z => by omega) rfl rfl rfl rfl rfl rfl (fun _ _ _ => rfl) (fun c' i' hl' => ?_) ?_ h
  · unfold aI
    split
    · rfl
    · exact up2_n ai (fun _ => 0) (fun z => hn (by rw [← z.1, ← z.2]; exact hl'))
  · unfold aI
    rw [if_neg (by omega)]
    exact up2_s ai c i _
theorem wp_newaR {c y : Nat} {N : Int32} {t : ArrayType} (hc : kd c = 1 ∨ kd c = 2) (hc2 : c = 200 + y) (hn : ¬ lv c 0 = true) (hN : ¬ N < 0) (hN2 : N.toNatClampNeg = len c) (hlen : len c ≤ 700) (hw : Cond.arrayClass (newarray.typeOf t) ∈ TW) (ht : newarray.typeOf t = tyr (kA c)) (hd : decode mi.2.1 pc = .ok (.newarray t, 2)) (hy : tg 9 y ≠ 0)
    (h : WP mi d k (pc + 2) L (vR c 0 :: st) (up2 lv c 0 true, fr, fi, ai, ar, li, out, va_up rho y (fun _ => 0)) Q QX) : WP mi d (k + 1) pc L (vI N :: st) (lv, fr, fi, ai, ar, li, out, rho) Q QX := by
  intro p l e R s m args below meth cc D A lv0 ad0 hC H locs cells slots ls ad hD
  refine wp_newa9 (S := (lv, fr, fi, ai, ar, li, out, rho)) (S' := (up2 lv c 0 true, fr, fi, ai, ar, li, out, va_up rho y (fun _ => 0))) hc hn hN hN2 hlen hw ht hd (fun z => rfl) rfl rfl rfl rfl rfl rfl (fun y' hy' _ => ?_) (fun c' i' hl' => ?_) ?_ h p l e R s m args below meth cc D A lv0 ad0 hC H locs cells slots ls ad hD
  · have : y' ≠ y := fun z => hy (by rw [← z]; exact hy')
    show va_up rho y (fun _ => 0) y' 0 = rho y' 0
    simp [va_up, this]
  · unfold aI
    split
    next hge =>
      have h0 := hD.1.2.2.2.2.2.2 c' i' hl' (Or.inl hge)
      have : c' - 200 ≠ y := fun z => hn (by rw [show c = c' by omega, ← h0]; exact hl')
      generalize c' - 200 = z at this ⊢
      show va_up rho y (fun _ => 0) z = rho z
      simp [va_up, this]
    · rfl
  · unfold aI
    rw [if_pos (by omega), show c - 200 = y by omega]
    show va_up rho y (fun _ => 0) y = _
    simp [va_up]
end WPN
end
section
section WPQ
variable {mi : MI} {d k pc : Nat} {L L' : List (Option sV)} {st : List sV} {Q : Option sV → OM → Prop} {QX : String → OM → Prop} {lv : Nat → Nat → Bool} {fr : Nat → Nat → Option Nat} {fi : Nat → Nat → Int32} {ai : Nat → Nat → Nat → Int32} {ar : Nat → Nat → Nat → Option Nat} {li : Nat → Nat → List Nat} {out : Int64} {rho : Nat → Nat → Int32}
theorem refs_of {D : DD} {S : OM} {ad : Ad} {H : Heap} {c i : Nat} (hm : MM D S ad H) (hl : S.1 c i = true) (hk : kd c = 3) : H[ad c i]? = some (vp_cell (D.2.1 (kA c)) (len c, .inr (.inr (.inr (.inr (fun j => (S.2.2.2.2.1 c i j).map (ad (tA c)))))))) := by
  have h := hm.1 c i hl
  unfold cOK at h
  rw [hk] at h
  exact h
theorem kA_lt (c : Nat) : kA c < 8 := by
  unfold kA
  split
  · omega
  · split <;> omega
theorem kA_3 {c : Nat} (hk : kd c = 3) (hc : c < 44) : c = 40 ∨ c = 41 ∨ c = 42 ∨ c = 43 := by
  have : 40 ≤ c := by
    unfold kd at hk
    repeat' split at hk
    all_goals (first | (simp at hk; done) | omega)
  omega
/-- a reference of a row -/
theorem wp_aald {c i : Nat} {j : Int32} {o : Option Nat} (hk : kd c = 3) (hc : c < 44) (hj : vp_in j (len c)) (hd : decode mi.2.1 pc = .ok (.aaload, 1)) (ho : ar c i j.toNatClampNeg = o)
    (h : WP mi d k (pc + 1) L (vO (tA c) o :: st) (lv, fr, fi, ai, ar, li, out, rho) Q QX) : WP mi d k pc L (vI j :: vR c i :: st) (lv, fr, fi, ai, ar, li, out, rho) Q QX := by
  subst ho
  intro p l e R s m args below meth cc D A lv0 ad0 hC H locs cells slots ls ad hD
  have hl := lv_of hD.lvs.2.1 (not71 (by omega))
  have hr := refs_of hD.1 hl hk
  have hlt : j.toNatClampNeg < len c := Nat.not_le.mp fun q => hj (Or.inr q)
  have hA := (hC.2.2.2.2.2.2.2.1.1.2 (kA c) _ (tys_at D (kA_lt c))).1 (len c) (fun q => va_rf ((ar c i q).map (ad (tA c))))
  have hty : (tyr (kA c)).isReference = true := by rcases kA_3 hk hc with rfl | rfl | rfl | rfl <;> rfl
  have hgo := h p l e R s m args below meth cc D A lv0 ad0 hC H locs cells slots ls ad (hD.stk ⟨?_, hD.lvs.2.2⟩)
  · rw [List.map_cons, tV_O] at hgo
    exact W.aald (v := va_rf ((ar c i j.toNatClampNeg).map (ad (tA c)))) (ty := tyr (kA c)) hC.1 hC.2.1 hr (by rw [vp_cell_q]; exact hA) hty (fun q => by cases q) (by rw [vp_cell_q, arrV_size]; exact hj) (by rw [vp_cell_q, arrV_read _ _ hlt]) rfl rfl hd hgo
  · cases ho : ar c i j.toNatClampNeg with
    | none => trivial
    | some x => exact Or.inl (hD.1.2.2.2.1 c i _ x hl hk hlt ho)
/-- an object is put into a row -/
theorem wp_aast {c i t : Nat} {j : Int32} {x : Nat} (hk : kd c = 3) (hc : c = 41 ∨ c = 42 ∨ c = 43) (ht : tA c = t) (hj : vp_in j (len c)) (hd : decode mi.2.1 pc = .ok (.aastore, 1))
    (h : WP mi d k (pc + 1) L st (lv, fr, fi, ai, up3 ar c i j.toNatClampNeg (some x), li, out, rho) Q QX) : WP mi d k pc L (vR t x :: vI j :: vR c i :: st) (lv, fr, fi, ai, ar, li, out, rho) Q QX := by
  intro p l e R s m args below meth cc D A lv0 ad0 hC H locs cells slots ls ad hD
  have hl := lv_of hD.lvs.2.2.1 (not71 (by omega))
  have ht10 : t < 10 := by subst ht; rcases hc with rfl | rfl | rfl <;> decide
  have hlx := lv_of hD.lvs.1 (show ¬ (71 ≤ t ∧ t < 75) by omega)
  have hr := refs_of hD.1 hl hk
  have hlt : j.toNatClampNeg < len c := Nat.not_le.mp fun q => hj (Or.inr q)
  have h0 : ¬ j < 0 := fun q => hj (Or.inl q)
  have hK := hC.2.2.2.2.2.2.2.1.1
  obtain ⟨cellV, g1, g2, g3, -⟩ := ob_of hD.1 hlx ht10
  have hcls := (hK.1 t _ (cls_at ht10)).2
  have hRA : ∃ (kA9 : Class) (comp : ClassId), s.vm.classes[D.2.1 (kA c)]? = some kA9 ∧ kA9.kind = .array comp (.object (cn t)) ∧ s.vm.findClass (cn t) = some comp := by
    have h9 := (hK.2 (kA c) _ (tys_at D (kA_lt c))).2
    subst ht
    rcases hc with rfl | rfl | rfl <;> (obtain ⟨a1, a2, a3, a4, a5, -⟩ := h9; exact ⟨a1, a2, a3, a4, a5⟩)
  obtain ⟨kA9, comp, k1, k2, k3⟩ := hRA
  have hcomp : comp = D.1.1 t := Option.some.inj (k3.symm.trans hcls.1)
  subst hcomp
  obtain ⟨kC, hkC, -⟩ := hcls.2
  refine W.aast hC.1 hC.2.1 hr (fun q h => by cases h) (fun h => by cases h) k1 k2 rfl hkC ⟨h0, by rw [vp_cell_q, arrV_size]; exact hlt⟩ g1 (fun q h => by rw [g3] at h; cases h) (by rw [g2]; exact hkC) (by rw [g2]; exact va_assign hcls) rfl rfl hd fun H1 e9 z oq => ?_
  have hm : MM D (lv, fr, fi, ai, up3 ar c i j.toNatClampNeg (some x), li, out, rho) ad H1 := by
    refine hD.1.write hl (Or.inl rfl) rfl oq ?_ (fun c' i' hl' hne h' => cOK_congr h' (fun _ _ _ => rfl) (fun _ => rfl) (fun _ => up3_o _ _ _ hne) (fun _ => rfl) (fun _ => rfl)) hD.1.2.2.1 (fun c' i' y j' h1 h2 h3 h4 => ?_) hD.1.2.2.2.2.1
    · unfold cOK
      rw [hk]
      show H1[ad c i]? = some (vp_cell _ (len c, .inr (.inr (.inr (.inr (fun q => (up3 ar c i j.toNatClampNeg (some x) c i q).map (ad (tA c))))))))
      rw [e9, vp_cell_q, vp_cell_q, arrV_store, up3_r]
      congr 2
      funext q
      by_cases hq : q = j.toNatClampNeg
      · subst hq
        simp [updV, va_up, va_rf, ht]
      · simp [updV, va_up, hq]
    · have h4' : up3 ar c i j.toNatClampNeg (some x) c' i' y = some j' := h4
      by_cases z : c' = c ∧ i' = i ∧ y = j.toNatClampNeg
      · rw [z.1, z.2.1, z.2.2, up3_s] at h4'
        cases h4'
        rw [z.1, ht]
        exact hlx
      · rw [up3_n _ _ z] at h4'
        exact hD.1.2.2.2.1 c' i' y j' h1 h2 h3 h4'
  exact h p l e R s m args below meth cc D A lv0 ad0 hC H1 _ cells slots ls ad (hD.wr hm rfl (hD.own1 hl) z oq hD.lvs.2.2.2)
/-- a new row of references -/
theorem wp_anew {c i x : Nat} {N : Int32} (hk : kd c = 3) (hc : c = 41 ∨ c = 42 ∨ c = 43) (hn : ¬ lv c i = true) (hN : ¬ N < 0) (hN2 : N.toNatClampNeg = len c) (hw : Cond.classLink mi.1.cls x (cn (tA c)) ∈ TW) (hao : ∀ s, KN s → va_AO (cn (tA c)) s) (hd : decode mi.2.1 pc = .ok (.anewarray x, 3))
    (h : WP mi d k (pc + 3) L (vR c i :: st) (up2 lv c i true, fr, fi, ai, up2 ar c i (fun _ => none), li, out, rho) Q QX) : WP mi d (k + 1) pc L (vI N :: st) (lv, fr, fi, ai, ar, li, out, rho) Q QX := by
  intro p l e R s m args below meth cc D A lv0 ad0 hC H locs cells slots ls ad hD
  have hts := hC.2.2.2.2.2.2.1
  have hb1 := hD.2.2.2.2.2.2.1
  have hb2 := hD.2.2.2.2.2.2.2
  have hlen : len c ≤ 7 := by rcases hc with rfl | rfl | rfl <;> decide
  have hc9 : kd c ≠ 9 := by rw [hk]; decide
  have hK := hC.2.2.2.2.2.2.2.1.1
  refine W.anew hC.1 hC.2.1 hC.2.2.2.2.2.1 (hts _ hw) (va_AO.use (hao s hC.2.2.2.2.2.2.2.1.2)) rfl hd rfl hN (by rw [hN2]; omega) (by omega) (by omega) fun cA kA9 comp f1 f2 f3 f4 => ?_
  have hcA : cA = D.2.1 (kA c) := by
    have h9 := (hK.2 (kA c) _ (tys_at D (kA_lt c))).2
    rcases hc with rfl | rfl | rfl <;> (obtain ⟨a1, a2, a3, a4, a5, a6⟩ := h9; exact Option.some.inj (f1.symm.trans a6))
  subst hcA
  generalize hH1 : H.push ({ cls := D.2.1 (kA c), slots := Array.replicate N.toNatClampNeg .null, vm := .none } : Cell) = H1
  have z1 : H1.size = H.size + 1 := by rw [← hH1, Array.size_push]
  have e1 : H1[H.size]? = some (arrV (D.2.1 (kA c)) (len c) (fun _ => .null)) := by rw [← hH1, Array.getElem?_push_size, ← arrV_new, hN2]
  have o1 : ∀ q : Nat, q < H.size → H1[q]? = H[q]? := fun q hq => by rw [← hH1, Array.getElem?_push, if_neg (Nat.ne_of_lt hq)]
  have hm := hD.1
  have hoA := adN_old (ad := ad) (a := H.size) hn
  have hoA2 : ∀ c' i', lv c' i' = true → kd c' = 4 → adN ad c i H.size (c' + 10) i' = ad (c' + 10) i' := fun c' i' h1 h2 => up2_n _ _ (fun z => by have := kd4 h2; omega)
  have hold : ∀ c' i', lv c' i' = true → cOK D (up2 lv c i true, fr, fi, ai, up2 ar c i (fun _ => none), li, out, rho) (adN ad c i H.size) H1 c' i' := fun c' i' hl' => by
    have hne : ¬ (c' = c ∧ i' = i) := fun z => hn (by rw [← z.1, ← z.2]; exact hl')
    exact cOK_move hm hl' o1 hoA (hoA2 c' i' hl') (fun _ _ _ => ⟨rfl, fun _ => rfl, fun _ _ => rfl⟩) (fun _ => rfl) (fun _ => up2_n ar _ hne) (fun _ => rfl) (fun _ => rfl)
  have hm' : MM D (up2 lv c i true, fr, fi, ai, up2 ar c i (fun _ => none), li, out, rho) (adN ad c i H.size) H1 := by
    have old : ∀ c' i', up2 lv c i true c' i' = true → ¬ (c' = c ∧ i' = i) → lv c' i' = true := fun c' i' h1 z => by rw [up2_n _ _ z] at h1; exact h1
    refine hm.grow hn hc9 o1 rfl hoA hoA2 (fun j hj => up2_n _ _ (fun z => by omega)) (up2_s _ _ _ _) (fun z => by rw [hk] at z; cases z) ?_ hold (fun z => by omega) (fun c' i' y t j h1 h2 h3 h4 h5 => ?_) (fun c' i' y j h1 h2 h3 h4 => ?_) (fun c' i' j h1 h2 h3 => ?_)
    · have e2 : adN ad c i H.size c i = H.size := up2_s _ _ _ _
      unfold cOK
      rw [hk]
      show H1[adN ad c i H.size c i]? = some (vp_cell _ (len c, .inr (.inr (.inr (.inr (fun q => (up2 ar c i (fun _ => none) c i q).map (adN ad c i H.size (tA c))))))))
      rw [e2, e1, up2_s, vp_cell_q]
      rfl
    · exact hm.2.2.1 c' i' y t j (old c' i' h1 (fun z => by rw [z.1, hk] at h2; cases h2)) h2 h3 h4 h5
    · have h4' : up2 ar c i (fun _ => none) c' i' y = some j := h4
      by_cases z : c' = c ∧ i' = i
      · rw [z.1, z.2, up2_s] at h4'
        cases h4'
      · rw [up2_n ar _ z] at h4'
        exact hm.2.2.2.1 c' i' y j (old c' i' h1 z) h2 h3 h4'
    · exact hm.2.2.2.2.1 c' i' j (old c' i' h1 (fun z => by rw [z.1, hk] at h2; cases h2)) h2 h3
  have hE : Ext D lv ad (up2 lv c i true) (adN ad c i H.size) := Ext_grow hoA
  have hst := map_ext hE hm hm' hD.lvs.2
  have hgo := h p l e R s m args below meth cc D A lv0 ad0 hC H1 locs (cells + 1) (slots + N.toNatClampNeg) ls (adN ad c i H.size) (hD.gr hC.2.2.2.2.2.2.2.2.2.2.2.2.2.1 hm' hE (lvx_grow hoA hoA2 (up2_s _ _ _ _) (fun z => by rw [hk] at z; cases z)) (by omega) o1 ⟨Or.inl (up2_s _ _ _ _), LvS_ext hE hD.lvs.2⟩ (by omega) (by omega))
  rw [List.map_cons, hst] at hgo
  have e2 : tV (adN ad c i H.size) (vR c i) = .ref H.size := congrArg Value.ref (up2_s ad c i H.size)
  rw [e2] at hgo
  exact hgo
/-- checkcast of an object of that very class, and of null -/
theorem wp_cast {c i x : Nat} (hc : c < 10) (hw : Cond.classLink mi.1.cls x (cn c) ∈ TW) (hd : decode mi.2.1 pc = .ok (.checkcast x, 3))
    (h : WP mi d k (pc + 3) L (vR c i :: st) (lv, fr, fi, ai, ar, li, out, rho) Q QX) : WP mi d k pc L (vR c i :: st) (lv, fr, fi, ai, ar, li, out, rho) Q QX := by
  intro p l e R s m args below meth cc D A lv0 ad0 hC H locs cells slots ls ad hD
  have hl := lv_of hD.lvs.1 (show ¬ (71 ≤ c ∧ c < 75) by omega)
  exact va_castS hC.1 hC.2.1 hC.2.2.2.2.2.1 (hC.2.2.2.2.2.2.1 _ hw) (hC.2.2.2.2.2.2.2.1.1.1 c _ (cls_at hc)).2 (recv9 hC.2.2.2.2.2.2.2.1 hD.1 hl hc) hd (h p l e R s m args below meth cc D A lv0 ad0 hC H locs cells slots ls ad hD)
/-- the class's static rows -/
theorem wp_gets {j x : Nat} (hj : j < 3) (hw : Cond.fieldLink mi.1.cls x "BrambleMesh" (polN j) "[I" ∈ TW) (hd : decode mi.2.1 pc = .ok (.getstatic x, 3))
    (h : WP mi d k (pc + 3) L (vR (71 + j) 0 :: st) (lv, fr, fi, ai, ar, li, out, rho) Q QX) : WP mi d k pc L st (lv, fr, fi, ai, ar, li, out, rho) Q QX := by
  intro p l e R s m args below meth cc D A lv0 ad0 hC H locs cells slots ls ad hD
  have hS := hC.2.2.2.2.2.2.2.2.2.2.2.2.2.2.1.2.2.1 j hj
  have hgo := h p l e R s m args below meth cc D A lv0 ad0 hC H locs cells slots ls ad (hD.stk ⟨Or.inr ⟨Nat.le_add_right _ _, by show 71 + j < 75; omega, rfl⟩, hD.lvs⟩)
  have e9 : tV ad (vR (71 + j) 0) = .ref (D.2.2.2 j) := congrArg Value.ref (hD.1.2.2.2.2.2.1 j (by omega))
  rw [List.map_cons, e9] at hgo
  exact va_gets hC.1 hC.2.1 hS.1 hD.2.2.1 hC.2.2.2.2.2.1 (hC.2.2.2.2.2.2.1 _ hw) (fun _ q => q) hd hgo
theorem wp_ialdS {j : Nat} {y : Int32} (hj : j < 3) (hy : vp_in y 3) (hd : decode mi.2.1 pc = .ok (.iaload, 1))
    (h : WP mi d k (pc + 1) L (vI (polV j y.toNatClampNeg) :: st) (lv, fr, fi, ai, ar, li, out, rho) Q QX) : WP mi d k pc L (vI y :: vR (71 + j) 0 :: st) (lv, fr, fi, ai, ar, li, out, rho) Q QX := by
  intro p l e R s m args below meth cc D A lv0 ad0 hC H locs cells slots ls ad hD
  have hS := hC.2.2.2.2.2.2.2.2.2.2.2.2.2.2.1.2.2.1 j hj
  have hgo := h p l e R s m args below meth cc D A lv0 ad0 hC H locs cells slots ls ad (hD.stk ⟨trivial, hD.lvs.2.2⟩)
  have e9 : tV ad (vR (71 + j) 0) = .ref (D.2.2.2 j) := congrArg Value.ref (hD.1.2.2.2.2.2.1 j (by omega))
  rw [List.map_cons, List.map_cons, e9]
  exact va_ti hC.1 hC.2.1 hS.2 hD.2.2.1 hy rfl hd hgo
/-- Math.min, Math.max -/
theorem wp_mmin {x : Nat} {a b : Int32} (hw : Cond.methodLink mi.1.cls x Lib.Math.min.name ∈ TW) (hw2 : Cond.static Lib.Math.min.name ∈ TW) (hw3 : Cond.initialized "java/lang/Math" ∈ TW) (hw4 : Cond.code Lib.Math.min.name Lib.Math.min.code 2 (some .int) ∈ TW) (hd : decode mi.2.1 pc = .ok (.invokestatic x, 3)) (hdd : 1 ≤ d) (hr : st.length ≤ 4)
    (h : WP mi d k (pc + 3) L (vI (if b < a then b else a) :: st) (lv, fr, fi, ai, ar, li, out, rho) Q QX) : WP mi d k pc L (vI b :: vI a :: st) (lv, fr, fi, ai, ar, li, out, rho) Q QX := by
  intro p l e R s m args below meth cc D A lv0 ad0 hC H locs cells slots ls ad hD
  have hts := hC.2.2.2.2.2.2.1
  have hf1 := hC.2.2.2.2.2.2.2.2.2.2.2.1
  have hf2 := hC.2.2.2.2.2.2.2.2.2.2.2.2.1
  have hb1 := hD.2.2.2.2.2.2.1
  have hb2 := hD.2.2.2.2.2.2.2
  have hrc := rest_cat ad (rest := st)
  exact va_mmin hC.1 hC.2.1 (hC.2.2.2.2.1.trans hD.lh.1.symm) hC.2.2.2.2.2.1 (hts _ hw) (hts _ hw2) (hts _ hw3) (hts _ hw4) (by omega) (by omega) (by omega) (by omega) hd (h p l e R s m args below meth cc D A lv0 ad0 hC H locs cells slots ls ad (hD.stk ⟨trivial, hD.lvs.2.2⟩))
theorem wp_mmax {x : Nat} {a b : Int32} (hw : Cond.methodLink mi.1.cls x Lib.Math.max.name ∈ TW) (hw2 : Cond.static Lib.Math.max.name ∈ TW) (hw3 : Cond.initialized "java/lang/Math" ∈ TW) (hw4 : Cond.code Lib.Math.max.name Lib.Math.max.code 2 (some .int) ∈ TW) (hd : decode mi.2.1 pc = .ok (.invokestatic x, 3)) (hdd : 1 ≤ d) (hr : st.length ≤ 4)
    (h : WP mi d k (pc + 3) L (vI (if a < b then b else a) :: st) (lv, fr, fi, ai, ar, li, out, rho) Q QX) : WP mi d k pc L (vI b :: vI a :: st) (lv, fr, fi, ai, ar, li, out, rho) Q QX := by
  intro p l e R s m args below meth cc D A lv0 ad0 hC H locs cells slots ls ad hD
  have hts := hC.2.2.2.2.2.2.1
  have hf1 := hC.2.2.2.2.2.2.2.2.2.2.2.1
  have hf2 := hC.2.2.2.2.2.2.2.2.2.2.2.2.1
  have hb1 := hD.2.2.2.2.2.2.1
  have hb2 := hD.2.2.2.2.2.2.2
  have hrc := rest_cat ad (rest := st)
  exact va_mmax hC.1 hC.2.1 (hC.2.2.2.2.1.trans hD.lh.1.symm) hC.2.2.2.2.2.1 (hts _ hw) (hts _ hw2) (hts _ hw3) (hts _ hw4) (by omega) (by omega) (by omega) (by omega) hd (h p l e R s m args below meth cc D A lv0 ad0 hC H locs cells slots ls ad (hD.stk ⟨trivial, hD.lvs.2.2⟩))
/-- the law's script -/
theorem wp_sld {N : Nat} {xs : Nat → Int32} {y : Int32} (hs : mi.2.2.2.2.2 = some (N, xs)) (hy : vp_in y N) (hd : decode mi.2.1 pc = .ok (.iaload, 1))
    (h : WP mi d k (pc + 1) L (vI (xs y.toNatClampNeg) :: st) (lv, fr, fi, ai, ar, li, out, rho) Q QX) : WP mi d k pc L (vI y :: vR 74 0 :: st) (lv, fr, fi, ai, ar, li, out, rho) Q QX := by
  intro p l e R s m args below meth cc D A lv0 ad0 hC H locs cells slots ls ad hD
  obtain ⟨hX, hbl, hbA⟩ := hC.2.2.2.2.2.2.2.2.2.2.2.2.2.2.2 N xs hs
  have hgo := h p l e R s m args below meth cc D A lv0 ad0 hC H locs cells slots ls ad (hD.stk ⟨trivial, hD.lvs.2.2⟩)
  have e9 : tV ad (vR 74 0) = .ref (D.2.2.2 3) := congrArg Value.ref (hD.1.2.2.2.2.2.1 3 (by omega))
  rw [List.map_cons, List.map_cons, e9]
  exact va_sld hC.1 hC.2.1 hX hbl hbA hD.2.2.1 hy hd hgo
theorem wp_slen {N : Nat} {xs : Nat → Int32} (hs : mi.2.2.2.2.2 = some (N, xs)) (hd : decode mi.2.1 pc = .ok (.arraylength, 1))
    (h : WP mi d k (pc + 1) L (vI (Int32.ofNat N) :: st) (lv, fr, fi, ai, ar, li, out, rho) Q QX) : WP mi d k pc L (vR 74 0 :: st) (lv, fr, fi, ai, ar, li, out, rho) Q QX := by
  intro p l e R s m args below meth cc D A lv0 ad0 hC H locs cells slots ls ad hD
  obtain ⟨hX, hbl, hbA⟩ := hC.2.2.2.2.2.2.2.2.2.2.2.2.2.2.2 N xs hs
  have hgo := h p l e R s m args below meth cc D A lv0 ad0 hC H locs cells slots ls ad (hD.stk ⟨trivial, hD.lvs.2⟩)
  have e9 : tV ad (vR 74 0) = .ref (D.2.2.2 3) := congrArg Value.ref (hD.1.2.2.2.2.2.1 3 (by omega))
  rw [List.map_cons, e9]
  exact va_slen hC.1 hC.2.1 hX hbl hbA hD.2.2.1 hd hgo
end WPQ
end
section
section WPT
variable {mi mj : MI} {d d' k k1 k2 pc : Nat} {L L' : List (Option sV)} {st rest : List sV} {S : OM} {As : List sV} {Q Q1 : Option sV → OM → Prop} {QX QX1 : String → OM → Prop}
/-- throw new E("a text") -/
theorem wp_throw {E : String} {j ik ic : Nat} {names : List String} (hj : j < 3) (hcn : mi.1.cls = "BrambleMesh") (hfit : Bundle.fit E = true) (hnm : ∀ n ∈ names, Bundle.fit n = true) (hln : names.length ≤ 4) (hw1 : Cond.classLink mi.1.cls ik E ∈ TW) (hw2 : Cond.initialized E ∈ TW) (hat : ∀ w ∈ vx_atS mi.1.cls ic E names, w ∈ TW)
    (d0 : decode mi.2.1 pc = .ok (.new ik, 3)) (d3 : decode mi.2.1 (pc + 3) = .ok (.dup, 1)) (d4 : decode mi.2.1 (pc + 4) = .ok (.ldc_w (eIx j), 3)) (d7 : decode mi.2.1 (pc + 7) = .ok (.invokespecial ic, 3)) (d10 : decode mi.2.1 (pc + 10) = .ok (.athrow, 1)) (hh : mi.2.2.2.2.1 = []) (hdd : 8 ≤ d) (hr : st.length ≤ 4) (hQ : QX E S) : WP mi d (k + 1) pc L st S Q QX := by
  intro p l e R s m args below meth cc D A lv0 ad0 hC H locs cells slots ls ad hD
  have hts := hC.2.2.2.2.2.2.1
  have hf1 := hC.2.2.2.2.2.2.2.2.2.2.2.1
  have hf2 := hC.2.2.2.2.2.2.2.2.2.2.2.2.1
  have hb1 := hD.2.2.2.2.2.2.1
  have hb2 := hD.2.2.2.2.2.2.2
  have hSt := hC.2.2.2.2.2.2.2.2.2.2.2.2.2.2.1
  obtain ⟨sa, hsa⟩ := hSt.2.2.2.2 j hj
  have hrc := rest_cat ad (rest := st)
  have hgood : ∀ w ∈ TW, vx_ot w = true := fun w hw => by
    unfold vx_ot
    rw [(List.mem_filter.mp hw).2, Bool.or_true]
  refine vx_throwSW (A := A) hC.1 hC.2.1 hC.2.2.2.2.2.2.2.2.1 hC.2.2.2.2.2.1 hfit hnm (hts _ hw1) (hts _ hw2) (by rw [hcn]; exact hsa) (fun w hw => hts w (hat w hw)) (fun w hw => ?_) hSt.1 hSt.2.1 hD.2.2.1 (hD.lh.1.trans hC.2.2.2.2.1.symm) d0 d3 d4 d7 d10 (fun x hx => ?_) (by omega) (by omega) (by omega) (by omega) hC.2.2.2.1 (fun t hW hsz hkp => ?_) hD.2.2.1.2.2 (by omega) (by omega)
  · rcases List.mem_cons.mp hw with rfl | hw
    · exact hgood _ hw1
    · rcases List.mem_cons.mp hw with rfl | hw
      · exact hgood _ hw2
      · exact hgood _ (hat w hw)
  · rw [hC.2.2.2.2.2.2.2.2.2.1, hh] at hx
    cases hx
  · have hm : MM D S ad t.heap := ⟨fun c i hl => by
      have hq := cOK_lt (hD.1.1 c i hl)
      exact cOK_kept (hD.1.1 c i hl) (hkp _ hq.1) (fun hk hne => hkp _ (hq.2 hk hne)), hD.1.2⟩
    exact ⟨⟨S, ad, hQ, hm, hD.2.2.2.1, hD.2.1⟩, Nat.le_trans hD.2.2.1.1 hsz, fun q h1 h2 => (hkp q (Nat.lt_of_lt_of_le h1 hD.2.2.1.1)).trans (hD.2.2.1.2.1 q h1 h2)⟩
end WPT
end
