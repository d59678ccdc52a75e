/-! THE MACHINE OF IDS: every cell of the class and every row of the law has a code (its class, or the role of the array or list that it is) and an id; values name cells by code and id; a method's frame, memory and budget are one judgement, WP, which the rows below turn, an instruction a row. -/
abbrev sV : Type := Int32 ⊕ (Option (Nat × Nat)) ⊕ Int64
abbrev vI (x : Int32) : sV := Sum.inl x
abbrev vR (c i : Nat) : sV := Sum.inr (Sum.inl (some (c, i)))
abbrev vN : sV := Sum.inr (Sum.inl none)
abbrev vO (c : Nat) (o : Option Nat) : sV := Sum.inr (Sum.inl (o.map (fun i => (c, i))))
abbrev vL (x : Int64) : sV := Sum.inr (Sum.inr x)
abbrev Ad : Type := Nat → Nat → Nat
def tV (ad : Ad) (v : sV) : Value := match v with
  | .inl x => .int x
  | .inr (.inl (some q)) => .ref (ad q.1 q.2)
  | .inr (.inl none) => .null
  | .inr (.inr x) => .long x
theorem tV_O (ad : Ad) (c : Nat) (o : Option Nat) : tV ad (vO c o) = va_rf (o.map (ad c)) := by cases o <;> rfl
/-- the memory: live cells; reference fields, int fields (by 128*class+field and id); int arrays, reference arrays, lists (by role and id); the law's long; the law's own rows (by number) -/
abbrev OM : Type := (Nat → Nat → Bool) × (Nat → Nat → Option Nat) × (Nat → Nat → Int32) × (Nat → Nat → Nat → Int32) × (Nat → Nat → Nat → Option Nat) × (Nat → Nat → List Nat) × Int64 × (Nat → Nat → Int32)
def up2 {α : Type} (m : Nat → Nat → α) (f i : Nat) (v : α) : Nat → Nat → α := fun g j => if g = f then (if j = i then v else m g j) else m g j
def up3 {α : Type} (m : Nat → Nat → Nat → α) (f i j : Nat) (v : α) : Nat → Nat → Nat → α := fun g a b => if g = f then (if a = i then (if b = j then v else m g a b) else m g a b) else m g a b
theorem up2_s {α : Type} (m : Nat → Nat → α) (f i : Nat) (v : α) : up2 m f i v f i = v := by simp [up2]
theorem up2_f {α : Type} (m : Nat → Nat → α) {f g : Nat} (i j : Nat) (v : α) (h : g ≠ f) : up2 m f i v g j = m g j := by simp [up2, h]
theorem up2_i {α : Type} (m : Nat → Nat → α) (f g : Nat) {i j : Nat} (v : α) (h : j ≠ i) : up2 m f i v g j = m g j := by
  unfold up2
  by_cases hg : g = f
  · rw [if_pos hg, if_neg h]
  · rw [if_neg hg]
theorem up2_n {α : Type} (m : Nat → Nat → α) {f g i j : Nat} (v : α) (h : ¬ (g = f ∧ j = i)) : up2 m f i v g j = m g j := by
  by_cases hg : g = f
  · exact up2_i m f g v (fun q => h ⟨hg, q⟩)
  · exact up2_f m i j v hg
theorem up3_s {α : Type} (m : Nat → Nat → Nat → α) (f i j : Nat) (v : α) : up3 m f i j v f i j = v := by simp [up3]
theorem up3_n {α : Type} (m : Nat → Nat → Nat → α) {f i j g a b : Nat} (v : α) (h : ¬ (g = f ∧ a = i ∧ b = j)) : up3 m f i j v g a b = m g a b := by
  unfold up3
  by_cases hg : g = f
  · rw [if_pos hg]
    by_cases ha : a = i
    · rw [if_pos ha, if_neg (fun q => h ⟨hg, ha, q⟩)]
    · rw [if_neg ha]
  · rw [if_neg hg]
theorem up3_r {α : Type} (m : Nat → Nat → Nat → α) (f i j : Nat) (v : α) : up3 m f i j v f i = va_up (m f i) j v := by
  funext b
  simp [up3, va_up]
theorem up3_o {α : Type} (m : Nat → Nat → Nat → α) {f i g a : Nat} (j : Nat) (v : α) (h : ¬ (g = f ∧ a = i)) : up3 m f i j v g a = m g a := by
  funext b
  exact up3_n m v (fun q => h ⟨q.1, q.2.1⟩)
/-- the kind of a code: 0 object, 1 ints, 2 booleans, 3 references, 4 list, 5 the long row -/
def kd (c : Nat) : Nat := if c < 10 then 0 else if c < 30 then 9 else if c < 40 then (if c = 34 then 2 else 1) else if c < 50 then 3 else if c < 57 then 4 else if c = 70 then 5 else if c < 200 then 9 else if c < 210 then 1 else 9
/-- how many fields an object has -/
def nF (c : Nat) : Nat := match c with
  | 0 => 3 | 1 => 10 | 2 => 4 | 3 => 4 | 4 => 13 | 5 => 5 | 6 => 6 | 7 => 16 | 8 => 11 | _ => 0
/-- what a field refers to: 0 for an int, else the code and one -/
def tg (c k : Nat) : Nat := match c with
  | 1 => match k with | 1 => 8 | 2 => 5 | 4 => 57 | _ => 0
  | 3 => match k with | 2 => 36 | 3 => 37 | _ => 0
  | 4 => match k with | 7 => 31 | 8 => 44 | 9 => 32 | 10 => 55 | _ => 0
  | 5 => match k with | 0 => 8 | _ => 0
  | 6 => match k with | 2 => 33 | 3 => 34 | 4 => 35 | 5 => 4 | _ => 0
  | 7 => match k with | 8 => 2 | 9 => 56 | _ => 0
  | 8 => match k with | 4 => 41 | 5 => 42 | 6 => 43 | 7 => 51 | 8 => 52 | 9 => 53 | 10 => 54 | _ => 0
  | _ => 0
/-- what a row of references, or a list, holds -/
def tA (c : Nat) : Nat := match c with
  | 40 => 37 | 41 => 6 | 42 => 2 | 43 => 0 | 50 => 4 | 51 => 5 | 52 => 1 | 53 => 7 | 54 => 1 | 55 => 1 | 56 => 7 | _ => 0
/-- how many places a row has -/
def len (c : Nat) : Nat := if c < 30 then 0 else if c < 200 then (match c with
  | 30 => 4 | 31 => 7 | 32 => 4 | 33 => 4 | 34 => 4 | 35 => 2 | 36 => 2 | 37 => 49 | 40 => 3 | 41 => 6 | 42 => 7 | 43 => 7 | 70 => 1 | _ => 0)
  else if c = 200 then 6 else if c ≤ 203 then 12 else if c = 204 then 6 else if c ≤ 206 then 60 else if c = 207 then 40 else 7
/-- which class of rows -/
def kA (c : Nat) : Nat := if kd c = 2 then 1 else match c with
  | 40 => 3 | 41 => 4 | 42 => 5 | 43 => 6 | 70 => 2 | _ => 0
/-- the world's constants: class ids and slots; classes of rows; ArrayList's shared empty row; the class's static rows -/
abbrev DD : Type := va_G × (Nat → ClassId) × Nat × (Nat → Nat)
def cls : List vw_C := [(RX0, TX0, 3), (RX1, TX1, 10), (RX2, TX2, 4), (RX3, TX3, 4), (RX4, TX4, 13), (RX5, TX5, 5), (RX6, TX6, 6), (RX7, TX7, 16), (RX8, TX8, 11), (RX8, TX8, 0), (RJx4a65c, TJx4a65c, 3)]
def tyr (t : Nat) : FieldType := match t with
  | 0 => .int | 1 => .boolean | 2 => .int | 3 => .array .int | 4 => .object RX6 | 5 => .object RX2 | 6 => .object RX0 | _ => .object "java/lang/Object"
def tysD (D : DD) : List (ClassId × FieldType) := (List.range 8).map (fun t => (D.2.1 t, tyr t))
/-- the exceptions that the class throws -/
def eCl (j : Nat) : String := match j with | 0 => "java/lang/IndexOutOfBoundsException" | 1 => "java/lang/IllegalArgumentException" | _ => "java/lang/IllegalStateException"
theorem va_AOA.moved {t : FieldType} {u U : State} (hvm : u.vm.Alike U.vm) (h : va_AOA t u) : va_AOA t U := by
  obtain ⟨comp, c, k, h1, h2, h3, h4, h5⟩ := arrayOverA_spec h
  obtain ⟨k', hk', he⟩ := hvm.2.2 _ _ h3
  have e1 := va_idx_bare U.vm comp
  rw [hvm.bare_eq] at e1
  have hi := e1.symm.trans ((va_idx_bare u.vm comp).trans h2)
  have hkind : k'.kind = .array comp (.array t) := by rw [he]; exact h4
  have f1 : U.vm.findClass (FieldType.array t).toString = some comp := by rw [hvm.findClass]; exact h1
  have f2 : U.vm.findClass ("[" ++ (FieldType.array t).toString) = some c := by rw [hvm.findClass]; exact h5
  unfold va_AOA Cond.before Cond.holds
  simp only [Cond.value]
  rw [f1, Option.bind_some]
  refine (congrArg (fun o : Option Nat => (o.bind (fun c => (U.vm.classes[c]?).map fun (k : Class) => match k.kind with | .array _ ty => decide (ty = FieldType.array t) && decide (U.vm.findClass ("[" ++ (FieldType.array t).toString) = some c) | _ => false) == some true)) hi).trans ?_
  simp [hk', hkind, f2]
def cn (c : Nat) : String := match c with | 0 => RX0 | 1 => RX1 | 2 => RX2 | 3 => RX3 | 4 => RX4 | 5 => RX5 | 6 => RX6 | 7 => RX7 | _ => RX8
/-- the constructors behind the exceptions' own -/
def dM (j : Nat) : MethodName := Bundle.initS (match j with | 0 => "java/lang/RuntimeException" | 1 => "java/lang/Exception" | _ => Bundle.tN)
/-- words that the tables alone decide -/
def KN (s : State) : Prop := va_AO RX6 s ∧ va_AO RX2 s ∧ va_AO RX0 s ∧ va_AO "java/lang/Object" s ∧ va_AOA .int s ∧ va_Nw (.methodLinkNest RX8 52 yX6_init RX8) s ∧ va_Nw (.methodLinkNest RX6 28 yX3_init RX8) s ∧ va_Nw (.methodLinkNest RX8 53 yX2_init RX8) s ∧ va_Nw (.methodLinkNest RX4 53 yX0_init RX8) s ∧
  (∀ j, j < 3 → va_Nw (.castable (eCl j) (eCl j)) s) ∧ (∀ j j', j < 3 → j' < 3 → j ≠ j' → va_Nc (eCl j) (eCl j') s) ∧ va_Dc s ∧ (∃ mi, va_Mi "[Ljava/lang/Object;" mi s) ∧ (∀ c, c < 9 → va_Nw (.castable (cn c) "java/lang/Object") s) ∧ ∀ j, j < 3 → va_Nw (.declares (dM j)) s
theorem KN.warm {s U : State} (hW : s.WarmedH U.vm) (h : KN s) : KN U := by
  obtain ⟨h1, h2, h3, h4, h5, h6, h7, h8, h9, h10, h11, h12, ⟨mi, h13⟩, h14, h15⟩ := h
  exact ⟨h1.moved hW.alike, h2.moved hW.alike, h3.moved hW.alike, h4.moved hW.alike, h5.moved hW.alike, h6.warmM hW, h7.warmM hW, h8.warmM hW, h9.warmM hW, fun j hj => (h10 j hj).warmC hW, fun j j' a b c => (h11 j j' a b c).moved hW.alike, h12.moved hW.alike, ⟨mi, h13.moved hW.alike⟩, fun c hc => (h14 c hc).warmC hW, fun j hj => (h15 j hj).warmD hW⟩
theorem KN.same {s U : State} (hv : s.vm = U.vm) (h : KN s) : KN U := by
  have ha : s.vm.Alike U.vm := by rw [hv]; exact Vm.Alike.refl _
  obtain ⟨h1, h2, h3, h4, h5, h6, h7, h8, h9, h10, h11, h12, ⟨mi, h13⟩, h14, h15⟩ := h
  exact ⟨h1.moved ha, h2.moved ha, h3.moved ha, h4.moved ha, h5.moved ha, va_Nw.same rfl hv h6, va_Nw.same rfl hv h7, va_Nw.same rfl hv h8, va_Nw.same rfl hv h9, fun j hj => va_Nw.same rfl hv (h10 j hj), fun j j' a b c => (h11 j j' a b c).moved ha, h12.moved ha, ⟨mi, h13.moved ha⟩, fun c hc => va_Nw.same rfl hv (h14 c hc), fun j hj => va_Nw.same rfl hv (h15 j hj)⟩
def Kst (D : DD) (s : State) : Prop := va_K D.1 cls (tysD D) s ∧ KN s
theorem Kst.warm {D : DD} {s U : State} (hW : s.WarmedH U.vm) (h : Kst D s) : Kst D U := ⟨va_K.moved hW.alike h.1, h.2.warm hW⟩
theorem Kst.same {D : DD} {s U : State} (hv : s.vm = U.vm) (h : Kst D s) : Kst D U := ⟨va_K.moved (by rw [hv]; exact Vm.Alike.refl _) h.1, h.2.same hv⟩
/-- the value of a field -/
def fV (ad : Ad) (rho : Nat → Nat → Int32) (fr : Nat → Nat → Option Nat) (fi : Nat → Nat → Int32) (c i k : Nat) : Value := match tg c k with
  | 0 => .int (if c = 9 then rho k 0 else fi (128 * c + k) i)
  | t + 1 => va_rf ((fr (128 * c + k) i).map (ad t))
def aI (rho : Nat → Nat → Int32) (ai : Nat → Nat → Nat → Int32) (c i : Nat) : Nat → Int32 := if 200 ≤ c then rho (c - 200) else ai c i
/-- a live cell, as the heap has it -/
def cOK (D : DD) (S : OM) (ad : Ad) (H : Heap) (c i : Nat) : Prop := match kd c with
  | 0 => t_OB (ad c i) (D.1.1 c) (nF c) (D.1.2 c) H (fV ad S.2.2.2.2.2.2.2 S.2.1 S.2.2.1 c i)
  | 1 => H[ad c i]? = some (vp_cell (D.2.1 (kA c)) (len c, .inl (aI S.2.2.2.2.2.2.2 S.2.2.2.1 c i)))
  | 2 => H[ad c i]? = some (vp_cell (D.2.1 (kA c)) (len c, .inl (aI S.2.2.2.2.2.2.2 S.2.2.2.1 c i)))
  | 3 => H[ad c i]? = some (vp_cell (D.2.1 (kA c)) (len c, .inr (.inr (.inr (.inr (fun j => (S.2.2.2.2.1 c i j).map (ad (tA c))))))))
  | 4 => (∃ m : Int32, t_OB (ad c i) (D.1.1 10) 3 (D.1.2 10) H (vp_V [.int m, .ref (ad (c + 10) i), .int (nI (S.2.2.2.2.2.1 c i).length)])) ∧
      ((ad (c + 10) i = D.2.2.1 ∧ S.2.2.2.2.2.1 c i = []) ∨ (ad (c + 10) i ≠ D.2.2.1 ∧ ∃ n : Nat, (S.2.2.2.2.2.1 c i).length ≤ n ∧ 10 ≤ n ∧ n ≤ 700 ∧ H[ad (c + 10) i]? = some (vp_cell (D.2.1 7) (n, .inr (.inr (.inr (.inr (fun j => ((S.2.2.2.2.2.1 c i)[j]?).map (ad (tA c))))))))))
  | 5 => H[ad c i]? = some (vp_cell (D.2.1 2) (1, .inr (.inl (fun _ => S.2.2.2.2.2.2.1))))
  | _ => False
/-- the cells that the machine has: the live ones, and the rows behind lists -/
def lvx (D : DD) (lv : Nat → Nat → Bool) (ad : Ad) (c i : Nat) : Prop := lv c i = true ∨ (60 ≤ c ∧ c < 67 ∧ lv (c - 10) i = true ∧ ad c i ≠ D.2.2.1)
def own (D : DD) (lv : Nat → Nat → Bool) (ad : Ad) (q : Nat) : Prop := ∃ c i, lvx D lv ad c i ∧ q = ad c i
def MM (D : DD) (S : OM) (ad : Ad) (H : Heap) : Prop :=
  (∀ c i, S.1 c i = true → cOK D S ad H c i) ∧
  (∀ c i c' i', lvx D S.1 ad c i → lvx D S.1 ad c' i' → ad c i = ad c' i' → c = c' ∧ i = i') ∧
  (∀ c i k t j, S.1 c i = true → kd c = 0 → k < nF c → tg c k = t + 1 → S.2.1 (128 * c + k) i = some j → S.1 t j = true) ∧
  (∀ c i k j, S.1 c i = true → kd c = 3 → k < len c → S.2.2.2.2.1 c i k = some j → S.1 (tA c) j = true) ∧
  (∀ c i j, S.1 c i = true → kd c = 4 → j ∈ S.2.2.2.2.2.1 c i → S.1 (tA c) j = true) ∧
  (∀ j, j < 4 → ad (71 + j) 0 = D.2.2.2 j) ∧ (∀ c i, S.1 c i = true → (70 ≤ c ∨ c = 9) → i = 0)
def LvV (lv : Nat → Nat → Bool) (v : sV) : Prop := match v with
  | .inr (.inl (some q)) => lv q.1 q.2 = true ∨ (71 ≤ q.1 ∧ q.1 < 75 ∧ q.2 = 0)
  | _ => True
def Ext (D : DD) (lv0 : Nat → Nat → Bool) (ad0 : Ad) (lv : Nat → Nat → Bool) (ad : Ad) : Prop := ∀ c i, lv0 c i = true → lv c i = true ∧ ad c i = ad0 c i
theorem Ext.rf {D : DD} {lv : Nat → Nat → Bool} {ad : Ad} : Ext D lv ad lv ad := fun _ _ h => ⟨h, rfl⟩
theorem Ext.tr {D : DD} {lv0 lv1 lv2 : Nat → Nat → Bool} {a0 a1 a2 : Ad} (h : Ext D lv0 a0 lv1 a1) (h2 : Ext D lv1 a1 lv2 a2) : Ext D lv0 a0 lv2 a2 :=
  fun c i q => ⟨(h2 c i (h c i q).1).1, (h2 c i (h c i q).1).2.trans (h c i q).2⟩
/-- the same values, named behind a step -/
theorem tV_ext {D : DD} {lv lv' : Nat → Nat → Bool} {ad ad' : Ad} {S S' : OM} {H H' : Heap} (hE : Ext D lv ad lv' ad') (hm : MM D S ad H) (hm' : MM D S' ad' H') {v : sV} (h : LvV lv v) : tV ad' v = tV ad v := by
  rcases v with x | o | x
  · rfl
  · cases o with
    | none => rfl
    | some q =>
      obtain ⟨c, i⟩ := q
      show Value.ref (ad' c i) = Value.ref (ad c i)
      rcases h with h | ⟨h1, h2, h3⟩
      · rw [(hE c i h).2]
      · have e3 : i = 0 := h3
        have h1' : 71 ≤ c := h1
        have h2' : c < 75 := h2
        have ec : c = 71 + (c - 71) := by omega
        rw [e3, ec, hm'.2.2.2.2.2.1 (c - 71) (by omega), hm.2.2.2.2.2.1 (c - 71) (by omega)]
  · rfl
theorem LvV_ext {D : DD} {lv lv' : Nat → Nat → Bool} {ad ad' : Ad} (hE : Ext D lv ad lv' ad') {v : sV} (h : LvV lv v) : LvV lv' v := by
  rcases v with x | o | x
  · trivial
  · cases o with
    | none => trivial
    | some q =>
      rcases h with h | h
      · exact Or.inl (hE _ _ h).1
      · exact Or.inr h
  · trivial
/-- the static rows' contents -/
def polV (j : Nat) (i : Nat) : Int32 := match j with
  | 0 => (match i with | 0 => 20 | 1 => 1 | _ => 0)
  | 1 => (match i with | 0 => 1 | _ => 0)
  | _ => (match i with | 0 => 100 | 1 => 3 | _ => 50)
def polN (j : Nat) : String := match j with | 0 => "POLICY_AT_FIRST" | 1 => "POLICY_LEAST" | _ => "POLICY_MOST"
def eTx (j : Nat) : String := match j with | 0 => "there is no such number" | 1 => "an argument is out of range" | _ => "this is not possible any more"
def eIx (j : Nat) : Nat := match j with | 0 => 258 | 1 => 265 | _ => 270
/-- what the statics hold, which nobody writes -/
def Sta (D : DD) (A : Nat → Prop) (U : State) (H : Heap) : Prop :=
  vx_Zq Bundle.tN "UNASSIGNED_STACK" Bundle.steD A U H ∧ vx_Zq Bundle.tN "SUPPRESSED_SENTINEL" Bundle.listD A U H ∧
  (∀ j, j < 3 → va_Z "BrambleMesh" (polN j) "[I" (.ref (D.2.2.2 j)) A U H ∧ va_T .int (D.2.2.2 j) 3 (fun i => .int (polV j i)) A U H) ∧
  (va_Z "java/util/ArrayList" "DEFAULTCAPACITY_EMPTY_ELEMENTDATA" "[Ljava/lang/Object;" (.ref D.2.2.1) A U H ∧ va_T (.object "java/lang/Object") D.2.2.1 0 (fun _ => .null) A U H) ∧
  (∀ j, j < 3 → ∃ a, vk_R "BrambleMesh" (eIx j) (eTx j) a U)
theorem vk_R.alike {own tx : String} {k a : Nat} {s U : State} (hW : s.WarmedH U.vm) (h : vk_R own k tx a s) : vk_R own k tx a U := vk_R.warm hW h
