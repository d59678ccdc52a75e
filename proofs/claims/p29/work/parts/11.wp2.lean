theorem Sta.kept {D : DD} {A : Nat → Prop} {U : State} {H H1 : Heap} (h : Sta D A U H) (hq : ∀ a : Nat, a < H.size → ¬ A a → H1[a]? = H[a]?) : Sta D A U H1 :=
  ⟨h.1.kept hq, h.2.1.kept hq, fun j hj => ⟨(h.2.2.1 j hj).1.kept hq, (h.2.2.1 j hj).2.kept hq⟩, ⟨h.2.2.2.1.1.kept hq, h.2.2.2.1.2.kept hq⟩, h.2.2.2.2⟩
theorem Sta.narrow {D : DD} {A B : Nat → Prop} {U : State} {H : Heap} (h : Sta D A U H) (hAB : ∀ q, B q → A q) : Sta D B U H :=
  ⟨h.1.narrow hAB, h.2.1.narrow hAB, fun j hj => ⟨(h.2.2.1 j hj).1.narrow hAB, (h.2.2.1 j hj).2.narrow hAB⟩, ⟨h.2.2.2.1.1.narrow hAB, h.2.2.2.1.2.narrow hAB⟩, h.2.2.2.2⟩
theorem Sta.warm {D : DD} {A : Nat → Prop} {s U : State} {H : Heap} (hW : s.WarmedH U.vm) (h : Sta D A s H) : Sta D A U H :=
  ⟨h.1.moved hW.alike, h.2.1.moved hW.alike, fun j hj => ⟨(h.2.2.1 j hj).1.moved hW.alike, (h.2.2.1 j hj).2.moved hW.alike⟩, ⟨h.2.2.2.1.1.moved hW.alike, h.2.2.2.1.2.moved hW.alike⟩, fun j hj => (h.2.2.2.2 j hj).elim fun a q => ⟨a, vk_R.warm hW q⟩⟩
theorem Sta.same {D : DD} {A : Nat → Prop} {s U : State} {H : Heap} (hv : U.vm = s.vm) (h : Sta D A s H) : Sta D A U H :=
  ⟨h.1.moved (by rw [hv]; exact Vm.Alike.refl _), h.2.1.moved (by rw [hv]; exact Vm.Alike.refl _), fun j hj => ⟨(h.2.2.1 j hj).1.moved (by rw [hv]; exact Vm.Alike.refl _), (h.2.2.1 j hj).2.moved (by rw [hv]; exact Vm.Alike.refl _)⟩, ⟨h.2.2.2.1.1.moved (by rw [hv]; exact Vm.Alike.refl _), h.2.2.2.1.2.moved (by rw [hv]; exact Vm.Alike.refl _)⟩, fun j hj => (h.2.2.2.2 j hj).elim fun a q => ⟨a, vk_R.same hv q⟩⟩
/-- the words that any method may use -/
def TW : List Cond := lw_tbl.filter goodWord
theorem TW_of {w : Cond} (h : w ∈ lw_tbl) (g : goodWord w = true) : w ∈ TW := List.mem_filter.mpr ⟨h, g⟩
theorem tw1 {w : Cond} (i : Nat) (h : tables_1[i]? = some w) (g : goodWord w = true) : w ∈ TW := TW_of (List.mem_append_right _ (List.mem_of_getElem? h)) g
theorem twS {q : MethodName × Nat} (i : Nat) (h : lw_privs[i]? = some q) (g : goodWord (Cond.selects q.1.cls q.1 q.1) = true) : Cond.selects q.1.cls q.1 q.1 ∈ TW :=
  TW_of (List.mem_append_left _ (List.mem_map.mpr ⟨q, List.mem_of_getElem? h, rfl⟩)) g
theorem TW_good : GoodIn TW TW := fun w h => ⟨h, good_of_word (List.mem_filter.mp h).2⟩
/-- the values that name cells name live ones -/
def LvS (lv : Nat → Nat → Bool) : List sV → Prop
  | [] => True
  | v :: r => LvV lv v ∧ LvS lv r
/-- the locals -/
def LH (ad : Ad) (lv : Nat → Nat → Bool) (n : Nat) (L : List (Option sV)) (ls : Array Slot) : Prop :=
  ls.size = n ∧ lv_wf ls ∧ L.length = n ∧ ∀ (i : Nat) (v : sV), L[i]? = some (some v) → ls[i]? = some (.val (tV ad v)) ∧ (tV ad v).category = 1 ∧ LvV lv v
def lhl (ad : Ad) (L : List (Option sV)) : List (Nat × Value) := (List.range L.length).filterMap (fun i => (L[i]?.join).map (fun v => (i, tV ad v)))
theorem lhl_mem {ad : Ad} {L : List (Option sV)} {i : Nat} {v : sV} (h : L[i]? = some (some v)) : (i, tV ad v) ∈ lhl ad L := by
  refine List.mem_filterMap.mpr ⟨i, List.mem_range.mpr (List.getElem?_eq_some_iff.mp h).1, ?_⟩
  rw [h]
  rfl
theorem lhl_of {ad : Ad} {L : List (Option sV)} {q : Nat × Value} (h : q ∈ lhl ad L) : ∃ v, L[q.1]? = some (some v) ∧ q.2 = tV ad v := by
  obtain ⟨i, -, hi⟩ := List.mem_filterMap.mp h
  cases hL : L[i]? with
  | none => rw [hL] at hi; simp at hi
  | some o =>
    cases o with
    | none => rw [hL] at hi; simp at hi
    | some v =>
      rw [hL] at hi
      simp at hi
      subst hi
      exact ⟨v, hL, rfl⟩
theorem LH.has {ad : Ad} {lv : Nat → Nat → Bool} {n : Nat} {L : List (Option sV)} {ls : Array Slot} (h : LH ad lv n L ls) : lv_has ls n (lhl ad L) := by
  refine ⟨h.1, h.2.1, fun q hq => ?_⟩
  obtain ⟨v, h1, h2⟩ := lhl_of hq
  rw [(h.2.2.2 _ v h1).1, h2]
theorem LH.put {ad : Ad} {lv : Nat → Nat → Bool} {n i : Nat} {L : List (Option sV)} {ls ls' : Array Slot} {v : sV} (h : LH ad lv n L ls) (hc : (tV ad v).category = 1) (hv : LvV lv v) (hl : lv_has ls' n ((i, tV ad v) :: (lhl ad L).filter (fun q => !(q.1 == i) && !(q.1 + 1 == i && q.2.category == 2)))) : LH ad lv n (L.set i (some v)) ls' := by
  refine ⟨hl.1, hl.2.1, by rw [List.length_set]; exact h.2.2.1, fun j w hj => ?_⟩
  by_cases hji : j = i
  · subst hji
    rw [List.getElem?_set] at hj
    simp at hj
    obtain ⟨-, rfl⟩ := hj
    exact ⟨hl.2.2 _ List.mem_cons_self, hc, hv⟩
  · rw [List.getElem?_set_ne (Ne.symm hji)] at hj
    obtain ⟨h1, h2, h3⟩ := h.2.2.2 j w hj
    refine ⟨hl.2.2 (j, tV ad w) (List.mem_cons_of_mem _ (List.mem_filter.mpr ⟨lhl_mem hj, ?_⟩)), h2, h3⟩
    simp [hji, h2]
theorem LH.ext {D : DD} {lv lv' : Nat → Nat → Bool} {ad ad' : Ad} {S S' : OM} {H H' : Heap} (hE : Ext D lv ad lv' ad') (hm : MM D S ad H) (hm' : MM D S' ad' H') {n : Nat} {L : List (Option sV)} {ls : Array Slot} (h : LH ad lv n L ls) : LH ad' lv' n L ls :=
  ⟨h.1, h.2.1, h.2.2.1, fun i v hi => by
    obtain ⟨h1, h2, h3⟩ := h.2.2.2 i v hi
    rw [tV_ext hE hm hm' h3]
    exact ⟨h1, h2, LvV_ext hE h3⟩⟩
theorem LvS_ext {D : DD} {lv lv' : Nat → Nat → Bool} {ad ad' : Ad} (hE : Ext D lv ad lv' ad') : ∀ {st : List sV}, LvS lv st → LvS lv' st
  | [], _ => trivial
  | _ :: _, h => ⟨LvV_ext hE h.1, LvS_ext hE h.2⟩
theorem map_ext {D : DD} {lv lv' : Nat → Nat → Bool} {ad ad' : Ad} {S S' : OM} {H H' : Heap} (hE : Ext D lv ad lv' ad') (hm : MM D S ad H) (hm' : MM D S' ad' H') : ∀ {st : List sV}, LvS lv st → st.map (tV ad') = st.map (tV ad)
  | [], _ => rfl
  | v :: r, h => by rw [List.map_cons, List.map_cons, tV_ext hE hm hm' h.1, map_ext hE hm hm' h.2]
/-- a method: name, bytes, locals, what it returns, handlers; for the law, its script -/
abbrev MI : Type := MethodName × ByteArray × Nat × Option FieldType × List (Nat × Nat × Nat × Nat) × Option (Nat × (Nat → Int32))
def Ctx (mi : MI) (d : Nat) (p : Program) (l : Launch) (R : Room) (s : State) (m : MethodId) (args : Array Value) (meth : Method) (c : Code) (D : DD) (A : Nat → Prop) : Prop :=
  p.tables.exec = Jvm.exec ∧ c.code = mi.2.1 ∧ meth.sig.returnType = mi.2.2.2.1 ∧ meth.locks = false ∧ c.maxLocals = mi.2.2.1 ∧ s.vm.findClass mi.1.cls = some m.cls ∧ (∀ w ∈ TW, w.before args s = true) ∧ Kst D s ∧ l.stackTraces = false ∧ c.exceptionTable.toList = tableOf mi.2.2.2.2.1 ∧ meth.name = mi.1.name ∧ d ≤ R.frames ∧ 64 * d ≤ R.locals ∧ (∀ q, s.heap.size ≤ q → A q) ∧ Sta D A s s.heap ∧ (∀ N xs, mi.2.2.2.2.2 = some (N, xs) → va_X (D.2.2.2 3) N xs s s.heap ∧ D.2.2.2 3 < s.heap.size ∧ ¬ A (D.2.2.2 3))
def Dyn (D : DD) (A : Nat → Prop) (lv0 : Nat → Nat → Bool) (ad0 : Ad) (s : State) (R : Room) (n k : Nat) (L : List (Option sV)) (st : List sV) (S : OM) (H : Heap) (locs : List Loc) (cells slots : Nat) (ls : Array Slot) (ad : Ad) : Prop :=
  MM D S ad H ∧ (∀ q, own D S.1 ad q → A q) ∧ va_S A s.heap H locs ∧ Ext D lv0 ad0 S.1 ad ∧ LvS S.1 st ∧ LH ad S.1 n L ls ∧ cells + k ≤ R.cells ∧ slots + 700 * k ≤ R.slots
def Qn (Q : Option sV → OM → Prop) (D : DD) (A : Nat → Prop) (lv0 : Nat → Nat → Bool) (ad0 : Ad) : Array Value → State → Outcome → State → Prop := fun _ st oc t =>
  (∃ (r : Option sV) (S' : OM) (ad' : Ad), oc = .returned (r.map (tV ad')) ∧ Q r S' ∧ MM D S' ad' t.heap ∧ Ext D lv0 ad0 S'.1 ad' ∧ (∀ v, r = some v → LvV S'.1 v) ∧ (∀ q, own D S'.1 ad' q → A q)) ∧ va_F A st t
def Xn (QX : String → OM → Prop) (D : DD) (A : Nat → Prop) (lv0 : Nat → Nat → Bool) (ad0 : Ad) : String → State → State → Prop := fun E st t =>
  (∃ (S' : OM) (ad' : Ad), QX E S' ∧ MM D S' ad' t.heap ∧ Ext D lv0 ad0 S'.1 ad' ∧ (∀ q, own D S'.1 ad' q → A q)) ∧ va_F A st t
def WP (mi : MI) (d k pc : Nat) (L : List (Option sV)) (st : List sV) (S : OM) (Q : Option sV → OM → Prop) (QX : String → OM → Prop) : Prop :=
  ∀ (p : Program) (l : Launch) (e : Env) (R : Room) (s : State) (m : MethodId) (args : Array Value) (below : List Frame) (meth : Method) (c : Code) (D : DD) (A : Nat → Prop) (lv0 : Nat → Nat → Bool) (ad0 : Ad),
    Ctx mi d p l R s m args meth c D A → ∀ (H : Heap) (locs : List Loc) (cells slots : Nat) (ls : Array Slot) (ad : Ad), Dyn D A lv0 ad0 s R mi.2.2.1 k L st S H locs cells slots ls ad →
      W p l e R s m args below meth c H locs cells slots (vx_MQ below (Qn Q D A lv0 ad0) (Xn QX D A lv0 ad0) args s R.cells R.slots A) (F0 m pc ls (st.map (tV ad)))
theorem Dyn.stk {D : DD} {A : Nat → Prop} {lv0 : Nat → Nat → Bool} {ad0 : Ad} {s : State} {R : Room} {n k : Nat} {L : List (Option sV)} {st st' : List sV} {S : OM} {H : Heap} {locs : List Loc} {cells slots : Nat} {ls : Array Slot} {ad : Ad}
    (h : Dyn D A lv0 ad0 s R n k L st S H locs cells slots ls ad) (h' : LvS S.1 st') : Dyn D A lv0 ad0 s R n k L st' S H locs cells slots ls ad := ⟨h.1, h.2.1, h.2.2.1, h.2.2.2.1, h', h.2.2.2.2.2⟩
theorem Dyn.lvs {D : DD} {A : Nat → Prop} {lv0 : Nat → Nat → Bool} {ad0 : Ad} {s : State} {R : Room} {n k : Nat} {L : List (Option sV)} {st : List sV} {S : OM} {H : Heap} {locs : List Loc} {cells slots : Nat} {ls : Array Slot} {ad : Ad}
    (h : Dyn D A lv0 ad0 s R n k L st S H locs cells slots ls ad) : LvS S.1 st := h.2.2.2.2.1
theorem Dyn.lh {D : DD} {A : Nat → Prop} {lv0 : Nat → Nat → Bool} {ad0 : Ad} {s : State} {R : Room} {n k : Nat} {L : List (Option sV)} {st : List sV} {S : OM} {H : Heap} {locs : List Loc} {cells slots : Nat} {ls : Array Slot} {ad : Ad}
    (h : Dyn D A lv0 ad0 s R n k L st S H locs cells slots ls ad) : LH ad S.1 n L ls := h.2.2.2.2.2.1
theorem Dyn.loc {D : DD} {A : Nat → Prop} {lv0 : Nat → Nat → Bool} {ad0 : Ad} {s : State} {R : Room} {n k : Nat} {L L' : List (Option sV)} {st st' : List sV} {S : OM} {H : Heap} {locs : List Loc} {cells slots : Nat} {ls ls' : Array Slot} {ad : Ad}
    (h : Dyn D A lv0 ad0 s R n k L st S H locs cells slots ls ad) (h1 : LH ad S.1 n L' ls') (h' : LvS S.1 st') : Dyn D A lv0 ad0 s R n k L' st' S H locs cells slots ls' ad := ⟨h.1, h.2.1, h.2.2.1, h.2.2.2.1, h', h1, h.2.2.2.2.2.2⟩
