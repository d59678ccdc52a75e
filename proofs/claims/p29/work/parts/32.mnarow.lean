section MN2
variable {mi : MI} {d k pc : Nat} {L L' : List (Option sV)} {st : List sV} {Q : Option sV → OM → Prop} {QX : String → OM → Prop} {lv : Nat → Nat → Bool} {fr : Nat → Nat → Option Nat} {fi : Nat → Nat → Int32} {ai : Nat → Nat → Nat → Int32} {ar : Nat → Nat → Nat → Option Nat} {li : Nat → Nat → List Nat} {out : Int64} {rho : Nat → Nat → Int32}
/-- the new cells of the policies: the outer row, and three inner ones -/
abbrev mP (c i : Nat) : Prop := (c = 40 ∧ i = 0) ∨ (c = 37 ∧ i < 3)
def mlv (lv : Nat → Nat → Bool) (c i : Nat) : Bool := if mP c i then true else lv c i
def mai (ai : Nat → Nat → Nat → Int32) (c i : Nat) : Nat → Int32 := if mP c i then (fun _ => 0) else ai c i
def mar (ar : Nat → Nat → Nat → Option Nat) (c i : Nat) : Nat → Option Nat := if mP c i then (fun j => if j < 3 then some j else none) else ar c i
def mad (ad : Ad) (h c i : Nat) : Nat := if mP c i then (if c = 40 then h else h + 1 + i) else ad c i
theorem wp_mna {x : Nat} {a b : Int32} (hb : b = 49) (ha : a = 3) (hn : ∀ c i, mP c i → ¬ lv c i = true) (hw : Cond.classLink mi.1.cls x "[[I" ∈ TW) (hw2 : Cond.arrayClass .int ∈ TW) (hd : decode mi.2.1 pc = .ok (.multianewarray x 2, 4))
    (h : WP mi d k (pc + 4) L (vR 40 0 :: st) (mlv lv, fr, fi, mai ai, mar ar, li, out, rho) Q QX) : WP mi d (k + 4) pc L (vI b :: vI a :: st) (lv, fr, fi, ai, ar, li, out, rho) Q QX := by
  subst hb
  subst ha
  intro p l e R s m args below meth cc D A lv0 ad0 hC H locs cells slots ls ad hD
  have hts := hC.2.2.2.2.2.2.1
  have hb1 := hD.2.2.2.2.2.2.1
  have hb2 := hD.2.2.2.2.2.2.2
  have hK := hC.2.2.2.2.2.2.2.1
  have e3 : (3 : Int32).toNatClampNeg = 3 := by decide
  have e49 : (49 : Int32).toNatClampNeg = 49 := by decide
  have hcy : s.vm.findClass (FieldType.array .int).toString = some (D.2.1 0) := (hK.1.2 0 _ (tys_at D (by decide))).2
  have hcO : s.vm.findClass ("[" ++ (FieldType.array .int).toString) = some (D.2.1 3) := (hK.1.2 3 _ (tys_at D (by decide))).2
  refine W_mna (ty := .int) (z := (49, .inl (fun _ => 0))) hC.1 hC.2.1 hC.2.2.2.2.2.1 (hts _ hw) hK.2.2.2.2.2.1 (hts _ hw2) hcy (by decide) (by decide) (by decide) (by decide) (by decide) rfl rfl (by rw [e3]; omega) (by rw [e3, e49]; omega) (fun c => by rw [e49, vp_cell_i]; exact arrV_new c 49 (.int 0)) hd fun cA H1 fA z1 o1 f2 f3 => ?_
  rw [e3] at z1 f2 f3
  rw [e3, e49]
  have hcA : cA = D.2.1 3 := Option.some.inj (fA.symm.trans hcO)
  subst hcA
  have hm := hD.1
  have hPn : ∀ c i, mP c i → (c = 40 ∨ c = 37) := fun c i z => z.elim (fun q => Or.inl q.1) (fun q => Or.inr q.1)
  have hoA : ∀ c' i', lv c' i' = true → mad ad H.size c' i' = ad c' i' := fun c' i' h => if_neg (fun z => hn c' i' z h)
  have hoA2 : ∀ c' i', lv c' i' = true → kd c' = 4 → mad ad H.size (c' + 10) i' = ad (c' + 10) i' := fun c' i' _ h => if_neg (fun z => by have := kd4 h; have := hPn _ _ z; omega)
  have hPa : ∀ c i, mP c i → mad ad H.size c i = if c = 40 then H.size else H.size + 1 + i := fun c i z => if_pos z
  have hlvP : ∀ c i, mlv lv c i = true → mP c i ∨ lv c i = true := fun c i z => by
    unfold mlv at z
    by_cases q : mP c i
    · exact Or.inl q
    · rw [if_neg q] at z; exact Or.inr z
  have hup : ∀ c i, lv c i = true → mlv lv c i = true := fun c i z => by unfold mlv; rw [if_neg (fun q => hn c i q z)]; exact z
  have hsP : ∀ c i, mP c i → mlv lv c i = true := fun c i z => if_pos z
  have hold : ∀ c' i', lv c' i' = true → cOK D (mlv lv, fr, fi, mai ai, mar ar, li, out, rho) (mad ad H.size) H1 c' i' := fun c' i' hl' => by
    have hne : ¬ mP c' i' := fun z => hn c' i' z hl'
    refine cOK_move hm hl' o1 hoA (hoA2 c' i' hl') (fun _ _ _ => ⟨rfl, fun _ => rfl, fun _ _ => rfl⟩) (fun _ => ?_) (fun _ => if_neg hne) (fun _ => rfl) (fun _ => rfl)
    unfold aI
    split
    · rfl
    · exact if_neg hne
  have hm' : MM D (mlv lv, fr, fi, mai ai, mar ar, li, out, rho) (mad ad H.size) H1 := by
    refine hm.grows (P := mP) (fun c i z => ⟨hn c i z, ?_, ?_, ?_, ?_⟩) (fun c i c' i' z z' q => ?_) hlvP hup (fun c i z => if_neg z) (fun j hj => if_neg (fun z => by have := hPn _ _ z; omega)) (fun c i z => ?_) hold (fun c i z q => by have := hPn _ _ z; omega) (fun c' i' y t j h1 h2 h3 h4 h5 => ?_) (fun c' i' y j h1 h2 h3 h4 => ?_) (fun c' i' j h1 h2 h3 => ?_)
    · rcases hPn c i z with rfl | rfl <;> decide
    · rcases hPn c i z with rfl | rfl <;> decide
    · have := hPn c i z; omega
    · rw [hPa c i z]; split <;> omega
    · rw [hPa c i z, hPa c' i' z'] at q
      rcases z with ⟨rfl, rfl⟩ | ⟨rfl, z⟩ <;> rcases z' with ⟨rfl, rfl⟩ | ⟨rfl, z'⟩
      · exact ⟨rfl, rfl⟩
      · rw [if_pos rfl, if_neg (by decide)] at q; omega
      · rw [if_neg (by decide), if_pos rfl] at q; omega
      · rw [if_neg (by decide), if_neg (by decide)] at q; exact ⟨rfl, by omega⟩
    · have hz := z
      rcases z with ⟨rfl, rfl⟩ | ⟨rfl, z⟩
      · show H1[mad ad H.size 40 0]? = some (vp_cell (D.2.1 3) (3, .inr (.inr (.inr (.inr (fun j => (mar ar 40 0 j).map (mad ad H.size 37)))))))
        rw [hPa 40 0 hz, if_pos rfl, f2]
        refine congrArg (fun f => some (vp_cell (D.2.1 3) (3, .inr (.inr (.inr (.inr f)))))) (funext fun j => ?_)
        unfold mar
        rw [if_pos hz]
        by_cases hj : j < 3
        · rw [if_pos hj, if_pos hj]
          show some _ = some (mad ad H.size 37 j)
          rw [hPa 37 j (Or.inr ⟨rfl, hj⟩), if_neg (by decide)]
        · rw [if_neg hj, if_neg hj]
          rfl
      · show H1[mad ad H.size 37 i]? = some (vp_cell (D.2.1 0) (49, .inl (aI rho (mai ai) 37 i)))
        rw [hPa 37 i hz, if_neg (by decide), f3 i z]
        have : aI rho (mai ai) 37 i = fun _ => 0 := by
          unfold aI mai
          rw [if_neg (by decide), if_pos hz]
        rw [this]
    · rcases hlvP c' i' h1 with z | z
      · rcases hPn _ _ z with rfl | rfl <;> cases h2
      · exact hup _ _ (hm.2.2.1 c' i' y t j z h2 h3 h4 h5)
    · rcases hlvP c' i' h1 with z | z
      · rcases z with ⟨rfl, rfl⟩ | ⟨rfl, z⟩
        · have h4' : mar ar 40 0 y = some j := h4
          have hy : y < 3 := h3
          unfold mar at h4'
          rw [if_pos (Or.inl ⟨rfl, rfl⟩), if_pos hy] at h4'
          cases h4'
          exact hsP 37 _ (Or.inr ⟨rfl, hy⟩)
        · cases h2
      · have h4' : mar ar c' i' y = some j := h4
        unfold mar at h4'
        rw [if_neg (fun q => hn c' i' q z)] at h4'
        exact hup _ _ (hm.2.2.2.1 c' i' y j z h2 h3 h4')
    · rcases hlvP c' i' h1 with z | z
      · rcases hPn _ _ z with rfl | rfl <;> cases h2
      · exact hup _ _ (hm.2.2.2.2.1 c' i' j z h2 h3)
  have hE : Ext D lv ad (mlv lv) (mad ad H.size) := fun c i z => ⟨hup c i z, hoA c i z⟩
  have hst := map_ext hE hm hm' hD.lvs.2.2
  have hown : ∀ q, own D (mlv lv) (mad ad H.size) q → own D lv ad q ∨ H.size ≤ q := by
    rintro q ⟨c, i, hx, rfl⟩
    by_cases z : mP c i
    · rw [hPa c i z]
      exact Or.inr (by split <;> omega)
    · have e : mad ad H.size c i = ad c i := if_neg z
      rw [e]
      refine Or.inl ⟨c, i, ?_, rfl⟩
      rcases hx with hx | ⟨h1, h2, h3, h4⟩
      · exact Or.inl ((hlvP c i hx).resolve_left z)
      · refine Or.inr ⟨h1, h2, (hlvP _ _ h3).resolve_left (fun q => ?_), by rw [← e]; exact h4⟩
        have := hPn _ _ q
        have := kd4 (kd_list h1 h2)
        omega
  have hgo := h p l e R s m args below meth cc D A lv0 ad0 hC H1 locs (cells + 1 + 3) (slots + 3 + 3 * 49) ls (mad ad H.size) (hD.gr hC.2.2.2.2.2.2.2.2.2.2.2.2.2.1 hm' hE hown (by omega) o1 ⟨Or.inl (hsP 40 0 (Or.inl ⟨rfl, rfl⟩)), LvS_ext hE hD.lvs.2.2⟩ (by omega) (by omega))
  rw [List.map_cons, hst] at hgo
  have e2 : tV (mad ad H.size) (vR 40 0) = .ref H.size := congrArg Value.ref ((hPa 40 0 (Or.inl ⟨rfl, rfl⟩)).trans (if_pos rfl))
  rw [e2] at hgo
  exact hgo
end MN2
