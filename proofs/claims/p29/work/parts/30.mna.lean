/-! the rows of the policies: multianewarray -/
section MNA
/-- several new cells at once (no lists) -/
theorem MM.grows {D : DD} {S S' : OM} {ad ad' : Ad} {H H1 : Heap} {P : Nat → Nat → Prop} (hm : MM D S ad H) (hP : ∀ c i, P c i → ¬ S.1 c i = true ∧ kd c ≠ 4 ∧ kd c ≠ 9 ∧ c < 71 ∧ H.size ≤ ad' c i) (hinj : ∀ c i c' i', P c i → P c' i' → ad' c i = ad' c' i' → c = c' ∧ i = i') (hlv : ∀ c i, S'.1 c i = true → P c i ∨ S.1 c i = true) (hup : ∀ c i, S.1 c i = true → S'.1 c i = true)
    (hA : ∀ c i, ¬ P c i → ad' c i = ad c i) (hA3 : ∀ j, j < 4 → ad' (71 + j) 0 = ad (71 + j) 0)
    (hself : ∀ c i, P c i → cOK D S' ad' H1 c i) (hoth : ∀ c' i', S.1 c' i' = true → cOK D S' ad' H1 c' i') (h0 : ∀ c i, P c i → (70 ≤ c ∨ c = 9) → i = 0)
    (hfr : ∀ c' i' k t j, S'.1 c' i' = true → kd c' = 0 → k < nF c' → tg c' k = t + 1 → S'.2.1 (128 * c' + k) i' = some j → S'.1 t j = true)
    (har : ∀ c' i' k j, S'.1 c' i' = true → kd c' = 3 → k < len c' → S'.2.2.2.2.1 c' i' k = some j → S'.1 (tA c') j = true)
    (hli : ∀ c' i' j, S'.1 c' i' = true → kd c' = 4 → j ∈ S'.2.2.2.2.2.1 c' i' → S'.1 (tA c') j = true) : MM D S' ad' H1 := by
  have key : ∀ c' i', lvx D S'.1 ad' c' i' → P c' i' ∨ (lvx D S.1 ad c' i' ∧ ad' c' i' = ad c' i') := by
    intro c' i' h
    by_cases hp : P c' i'
    · exact Or.inl hp
    · have e := hA c' i' hp
      rcases h with h | ⟨h1, h2, h3, h4⟩
      · rcases hlv c' i' h with z | z
        · exact Or.inl z
        · exact Or.inr ⟨Or.inl z, e⟩
      · rcases hlv _ _ h3 with z | z
        · exact absurd (kd_list h1 h2) (hP _ _ z).2.1
        · exact Or.inr ⟨Or.inr ⟨h1, h2, z, by rw [← e]; exact h4⟩, e⟩
  refine ⟨fun c' i' h => ?_, fun c1 i1 c2 i2 h1 h2 he => ?_, hfr, har, hli, fun j hj => (hA3 j hj).trans (hm.2.2.2.2.2.1 j hj), fun c' i' h hz => ?_⟩
  · rcases hlv c' i' h with z | z
    · exact hself c' i' z
    · exact hoth c' i' z
  · rcases key c1 i1 h1 with z1 | ⟨z1, e1⟩ <;> rcases key c2 i2 h2 with z2 | ⟨z2, e2⟩
    · exact hinj c1 i1 c2 i2 z1 z2 he
    · have a1 := (hP c1 i1 z1).2.2.2.2
      rw [he, e2] at a1
      exact absurd (lvx_lt hm z2) (Nat.not_lt.mpr a1)
    · have a1 := (hP c2 i2 z2).2.2.2.2
      rw [← he, e1] at a1
      exact absurd (lvx_lt hm z1) (Nat.not_lt.mpr a1)
    · exact hm.2.1 c1 i1 c2 i2 z1 z2 (by rw [← e1, ← e2]; exact he)
  · rcases hlv c' i' h with z | z
    · exact h0 c' i' z hz
    · exact hm.2.2.2.2.2.2 c' i' z hz
variable {p : Program} {l : Launch} {e : Env} {R : Room} {s : State} {m : MethodId} {args : Array Value} {below : List Frame} {meth : Method} {c : Code} {H : Heap} {locs : List Loc} {cells slots : Nat} {Q0 : State → Prop} {cc : ByteArray} {pc : Nat} {ls : Array Slot} {rest : List Value}
theorem W_mna (hexec : p.tables.exec = Jvm.exec) (hb : c.code = cc) {own : String} {index : Nat} {ty : FieldType} {cy : ClassId} (hown : s.vm.findClass own = some m.cls) (hclink : (Cond.classLink own index ("[" ++ (FieldType.array ty).toString)).before args s = true) (hover : va_AOA ty s) (harr : (Cond.arrayClass ty).before args s = true) (hcy : s.vm.findClass (FieldType.array ty).toString = some cy)
    {n k : Int32} {z : vp_A} (hn : ¬ n < 0) (hk : ¬ k < 0) (hb1 : n.toNatClampNeg * 4 ≤ 536870912) (hb2 : k.toNatClampNeg * componentBytes ty ≤ 536870912) (hb3 : k.toNatClampNeg ≤ 536870912) (hdf : fits ty (defaultValue ty) = true) (hdd : (defaultValue ty).isDefault = true) (hcells : cells + (1 + n.toNatClampNeg) ≤ R.cells) (hslots : slots + (n.toNatClampNeg + n.toNatClampNeg * k.toNatClampNeg) ≤ R.slots) (hz : ∀ c : ClassId, Jvm.Free.Multi.innerC c k.toNatClampNeg (defaultValue ty) = vp_cell c z) (hdg : decode cc pc = .ok (.multianewarray index 2, 4))
    (kk : ∀ (cA : ClassId) (H1 : Heap), s.vm.findClass ("[" ++ (FieldType.array ty).toString) = some cA → H1.size = H.size + 1 + n.toNatClampNeg → (∀ x : Nat, x < H.size → H1[x]? = H[x]?) → H1[H.size]? = some (vp_cell cA (n.toNatClampNeg, .inr (.inr (.inr (.inr (fun i => if i < n.toNatClampNeg then some (H.size + 1 + i) else none)))))) → (∀ j : Nat, j < n.toNatClampNeg → H1[H.size + 1 + j]? = some (vp_cell cy z)) →
      W p l e R s m args below meth c H1 locs (cells + 1 + n.toNatClampNeg) (slots + n.toNatClampNeg + n.toNatClampNeg * k.toNatClampNeg) Q0 (F0 m (pc + 4) ls (.ref H.size :: rest))) : W p l e R s m args below meth c H locs cells slots Q0 (F0 m pc ls (.int k :: .int n :: rest)) := by
  intro T hT Xs
  obtain ⟨vm₁, cA, comp, -, fA, fC, hO, -, X', step⟩ := Xs.multianewarray2F hexec hown hclink (va_AOA.use hover) harr (g := F0 m pc ls (.int k :: .int n :: rest)) rfl (by rw [hb]; exact hdg) rfl hn hk hb1 hb2 hb3 hdf hdd hcells hslots
  have ec : some cy = some comp := hcy.symm.trans fC
  cases ec
  generalize hF : Jvm.Free.Multi.fill (T.setVm vm₁) cA cy n.toNatClampNeg k.toNatClampNeg (defaultValue ty) n.toNatClampNeg = F at X' step
  have hTh : (T.setVm vm₁).heap = H := hT
  obtain ⟨f1, f2, -, -⟩ := Jvm.Free.Multi.fill_facts (T.setVm vm₁) cA cy n.toNatClampNeg k.toNatClampNeg (defaultValue ty) n.toNatClampNeg
  rw [hF, hTh] at f1 f2
  have hold : ∀ x : Nat, x < H.size → F.heap[x]? = H[x]? := fun x hx => by
    have := Jvm.Free.Multi.fill_old (T.setVm vm₁) cA cy n.toNatClampNeg k.toNatClampNeg (defaultValue ty) (a := x) (by rw [hTh]; exact hx) n.toNatClampNeg
    rw [hF, hTh] at this
    exact this
  have hrow : ∀ j : Nat, j < n.toNatClampNeg → F.heap[H.size + 1 + j]? = some (vp_cell cy z) := fun j hj => by
    have := Jvm.Free.Multi.fill_inner (T.setVm vm₁) cA cy n.toNatClampNeg k.toNatClampNeg (defaultValue ty) n.toNatClampNeg j hj
    rw [hF, hTh, hz] at this
    exact this
  have hout : Jvm.Free.Multi.outerC cA n.toNatClampNeg H.size n.toNatClampNeg = vp_cell cA (n.toNatClampNeg, .inr (.inr (.inr (.inr (fun i => if i < n.toNatClampNeg then some (H.size + 1 + i) else none))))) := by
    rw [vp_cell_q]
    exact vr_outer cA n.toNatClampNeg H.size n.toNatClampNeg
  rw [hout] at f2
  obtain ⟨t, a1, b1⟩ := kk cA F.heap fA f1 hold f2 hrow F rfl X'
  refine ⟨t, step t ?_, b1⟩
  have e : T.heap.size = H.size := by rw [hT]
  rw [e]
  exact a1
end MNA
