/-! a try with its budget -/
section PS9
variable {rho rho' : RH} {P S PR : Nat → Prop}
theorem pc_callerOf {o : Nat} (hj : J6 PR rho) (ht : TP o rho) : PC (f9_callerOf (nI o) rho) (fun r m => m = rho ∧ r = cal rho o ∧ ∃ c, c < 7 ∧ cal rho o = nI c ∧ (o < 400 → c < 6) ∧ (400 ≤ o → o < 440 → c = 6)) := by
  have ho := ht.lt
  have hcl : cal rho o = if o < 400 then rho 34 o else if o < 440 then 6 else rho 61 (o - 440) := rfl
  unfold f9_callerOf
  refine pc_if (fun c1 => ?_) (fun c1 => ?_)
  · rw [l400, nI_leI (by omega) (by omega)] at c1
    rw [if_neg (by omega)] at hcl
    refine pc_if (fun c2 => ?_) (fun c2 => ?_)
    · rw [l440, nI_leI (by omega) (by omega)] at c2
      rw [if_neg (by omega)] at hcl
      rw [hcl]
      refine pc_ck (fun _ => pc_some ?_)
      have h3 : o - 440 < iP rho := by
        rcases ht with z | z | z
        · omega
        · omega
        · exact z.2.2
      rw [l400, l40, nI_s c1, nI_s (by omega), nI_clamp (by omega), show o - 400 - 40 = o - 440 by omega]
      obtain ⟨c, hc, e⟩ := hj.2.2.2.2.2 _ h3
      exact ⟨rfl, rfl, c, by omega, e, fun z => by omega, fun _ z => by omega⟩
    · rw [l440, nI_leI (by omega) (by omega)] at c2
      rw [if_pos (by omega)] at hcl
      rw [hcl]
      exact pc_some ⟨rfl, rfl, 6, by omega, rfl, fun z => by omega, fun _ _ => rfl⟩
  · rw [l400, nI_leI (by omega) (by omega)] at c1
    rw [if_pos (by omega)] at hcl
    rw [hcl]
    refine pc_ck (fun _ => pc_some ?_)
    rw [nI_clamp (by omega)]
    have h3 : o < iC rho := by
      rcases ht with z | z | z
      · exact z.2.1
      · omega
      · omega
    obtain ⟨c, hc, e⟩ := jc_sv hj.1 hj.2.2.2.2.1.jO h3
    exact ⟨rfl, rfl, c, by omega, e, fun _ => hc, fun z => by omega⟩
/-- a first try is paid -/
theorem bud_first {F q c : Nat} {x : Int32} (hb : JB F q rho) (hF : F ≤ 4000) (hq : q ≤ 4000) (hc : c < 7) (hx : x = if rho 17 c + rho 16 c ≤ 1000 then rho 17 c + rho 16 c else 1000) : JB (if c < 6 then F + 1 else F) (if c < 6 then q else q + 1) (up2 (up2 rho 17 c x) 18 c (rho 18 c + 1)) ∧ nv (rho 18 c) ≤ nv (rho 18 c + 1) := by
  obtain ⟨⟨s, hs, es⟩, a, b, d, e18, e19, e17, hd, hp, ha, ha6⟩ := hb c hc
  have ha9 : a ≤ 4000 := by
    by_cases h6 : c < 6
    · have := ha h6
      omega
    · have := ha6 (by omega)
      omega
  refine ⟨fun c' hc' => ?_, ?_⟩
  · by_cases e : c' = c
    · subst e
      refine ⟨⟨s, hs, es⟩, a + 1, b, if d + s ≤ 1000 then d + s else 1000, ?_, e19, ?_, by split <;> omega, by split <;> omega, fun z => ?_, fun z => ?_⟩
      · rw [up2_s, e18, nI_1]
      · rw [up2_f _ _ _ _ (by decide), up2_s, hx, e17, es, nI_k, l1000]
        by_cases z : d + s ≤ 1000
        · rw [if_pos z, if_pos ((nI_leI (by omega) (by omega)).mpr z)]
        · rw [if_neg z, if_neg (fun y => z ((nI_leI (by omega) (by omega)).mp y))]
      · rw [if_pos z]
        have := ha z
        omega
      · rw [if_neg (by omega), ha6 z]
    · have e18' : (up2 (up2 rho 17 c x) 18 c (rho 18 c + 1)) 18 c' = rho 18 c' := (up2_i _ _ _ _ e)
      have e17' : (up2 (up2 rho 17 c x) 18 c (rho 18 c + 1)) 17 c' = rho 17 c' := (up2_f _ _ _ _ (by decide)).trans (up2_i _ _ _ _ e)
      obtain ⟨h1, a, b, d, f18, f19, f17, gd, gp, ga, ga6⟩ := hb c' hc'
      refine ⟨h1, a, b, d, e18'.trans f18, f19, e17'.trans f17, gd, gp, fun z => ?_, fun z => ?_⟩
      · have := ga z
        split <;> omega
      · rw [if_pos (by omega)]
        exact ga6 z
  · rw [e18, nI_1, nv_nI (by omega), nv_nI (by omega)]
    omega
/-- a retry, or a hedge, is paid -/
theorem bud_extra {F q c : Nat} (hb : JB F q rho) (hF : F ≤ 4000) (hq : q ≤ 4000) (hc : c < 7) (hp : ¬ rho 17 c < 100) : JB F q (up2 (up2 rho 17 c (rho 17 c - 100)) 19 c (rho 19 c + 1)) ∧ nv (rho 19 c) ≤ nv (rho 19 c + 1) := by
  obtain ⟨⟨s, hs, es⟩, a, b, d, e18, e19, e17, hd, hp9, ha, ha6⟩ := hb c hc
  have ha9 : a ≤ 4000 := by
    by_cases h6 : c < 6
    · have := ha h6
      omega
    · have := ha6 (by omega)
      omega
  have hd9 : 100 ≤ d := by
    rw [e17, l100, Int32.lt_iff_toInt_lt, nI_toInt (by omega), nI_toInt (by omega)] at hp
    omega
  refine ⟨fun c' hc' => ?_, ?_⟩
  · by_cases e : c' = c
    · subst e
      refine ⟨⟨s, hs, es⟩, a, b + 1, d - 100, e18, ?_, ?_, by omega, by omega, ha, ha6⟩
      · rw [up2_s, e19, nI_1]
      · rw [up2_f _ _ _ _ (by decide), up2_s, e17, l100, nI_s hd9]
    · have e19' : (up2 (up2 rho 17 c (rho 17 c - 100)) 19 c (rho 19 c + 1)) 19 c' = rho 19 c' := (up2_i _ _ _ _ e)
      have e17' : (up2 (up2 rho 17 c (rho 17 c - 100)) 19 c (rho 19 c + 1)) 17 c' = rho 17 c' := (up2_f _ _ _ _ (by decide)).trans (up2_i _ _ _ _ e)
      obtain ⟨h1, a, b, d, f18, f19, f17, gd, gp, ga, ga6⟩ := hb c' hc'
      exact ⟨h1, a, b, d, f18, e19'.trans f19, e17'.trans f17, gd, gp, ga, ga6⟩
  · rw [e19, nI_1, nv_nI (by omega), nv_nI (by omega)]
    omega
theorem jb_c {F q : Nat} {m : RH} (h : JB F q rho) (e16 : m 16 = rho 16) (e17 : m 17 = rho 17) (e18 : m 18 = rho 18) (e19 : m 19 = rho 19) : JB F q m := by
  unfold JB
  rw [e16, e17, e18, e19]
  exact h
theorem tt_b {c : Nat} {x y : Int32} (h : nv (rho 18 c) ≤ nv y) : TT rho (up2 (up2 rho 17 c x) 18 c y) := by
  refine ⟨⟨Nat.le_refl _, Nat.le_refl _, Nat.le_refl _, Nat.le_refl _, fun k _ => ⟨rfl, rfl, rfl, rfl, rfl, fun _ => rfl⟩, fun _ _ _ => rfl, fun _ z => z, fun c' _ => ⟨?_, Nat.le_refl _⟩, fun _ _ => ⟨rfl, rfl, rfl⟩⟩, fun _ => rfl⟩
  show nv (rho 18 c') ≤ nv (if c' = c then y else rho 18 c')
  by_cases e : c' = c
  · rw [if_pos e, e]
    exact h
  · rw [if_neg e]
    exact Nat.le_refl _
theorem tt_b2 {c : Nat} {x y : Int32} (h : nv (rho 19 c) ≤ nv y) : TT rho (up2 (up2 rho 17 c x) 19 c y) := by
  refine ⟨⟨Nat.le_refl _, Nat.le_refl _, Nat.le_refl _, Nat.le_refl _, fun k _ => ⟨rfl, rfl, rfl, rfl, rfl, fun _ => rfl⟩, fun _ _ _ => rfl, fun _ z => z, fun c' _ => ⟨Nat.le_refl _, ?_⟩, fun _ _ => ⟨rfl, rfl, rfl⟩⟩, fun _ => rfl⟩
  show nv (rho 19 c') ≤ nv (if c' = c then y else rho 19 c')
  by_cases e : c' = c
  · rw [if_pos e, e]
    exact h
  · rw [if_neg e]
    exact Nat.le_refl _
theorem kp_b {c : Nat} {x y : Int32} : Kp rho (up2 (up2 rho 17 c x) 18 c y) := fun F hF => by
  have h1 : F ∈ kf := List.contains_iff_mem.mp hF
  have h2 : ∀ G, G ∈ kf → G ≠ 17 ∧ G ≠ 18 := by decide
  funext j
  rw [up2_f _ _ _ _ (h2 F h1).2, up2_f _ _ _ _ (h2 F h1).1]
theorem kp_b2 {c : Nat} {x y : Int32} : Kp rho (up2 (up2 rho 17 c x) 19 c y) := fun F hF => by
  have h1 : F ∈ kf := List.contains_iff_mem.mp hF
  have h2 : ∀ G, G ∈ kf → G ≠ 17 ∧ G ≠ 19 := by decide
  funext j
  rw [up2_f _ _ _ _ (h2 F h1).2, up2_f _ _ _ _ (h2 F h1).1]
/-- what a try keeps -/
def KB (rho m : RH) : Prop := TT rho m ∧ Kp rho m ∧ (∀ j, j < iC rho → m 37 j = rho 37 j) ∧ (∀ j, j < iC rho ∨ 400 ≤ j → m 46 j = rho 46 j) ∧ Fs m = Fs rho
theorem pc_tries0 {o F q : Nat} (hj : J6 PR rho) (ht : TP o rho) (ho : o < 440) (hb : JB F q rho) (hF : F ≤ 4000) (hq : q ≤ 4000) : PC (f9_tries (nI o) 0 rho) (fun _ m => J6 PR m ∧ JB (if o < 400 then F + 1 else F) (if o < 400 then q else q + 1) m ∧ KB rho m) := by
  unfold f9_tries
  refine pc_ob (pc_callerOf hj ht) (fun r m h => ?_)
  obtain ⟨rfl, rfl, c, hc, ec, hc6, hc7⟩ := h
  rw [ec]
  refine pc_ro ro_f9_calledBy (fun r4 => ?_)
  refine pc_if (fun _ => ?_) (fun z => absurd rfl z)
  refine pc_ck (fun _ => ?_)
  have key : ∀ x, (x = if m 17 c + m 16 c ≤ 1000 then m 17 c + m 16 c else 1000) → PC (b9_tries_60 (nI o) 0 (nI c) r4 (nI c) x m) (fun _ m' => J6 PR m' ∧ JB (if o < 400 then F + 1 else F) (if o < 400 then q else q + 1) m' ∧ KB m m') := fun x hx => by
    unfold b9_tries_60
    refine pc_ck (fun _ => ?_)
    refine pc_wr ?_
    refine pc_ck (fun _ => ?_)
    refine pc_wr ?_
    rw [nI_clamp (n := c) (by omega)]
    obtain ⟨b1, b2⟩ := bud_first hb hF hq hc hx
    have e18 : (up2 m 17 c x) 18 c + 1 = m 18 c + 1 := rfl
    rw [e18]
    have hT := tt_b (x := x) b2
    have hK : Kp m (up2 (up2 m 17 c x) 18 c (m 18 c + 1)) := kp_b
    have hj2 : J6 PR (up2 (up2 m 17 c x) 18 c (m 18 c + 1)) := hj
    have ht2 : TP o (up2 (up2 m 17 c x) 18 c (m 18 c + 1)) := ht
    have e37 : (up2 (up2 m 17 c x) 18 c (m 18 c + 1)) 37 = m 37 := rfl
    have e46 : (up2 (up2 m 17 c x) 18 c (m 18 c + 1)) 46 = m 46 := rfl
    have eF : Fs (up2 (up2 m 17 c x) 18 c (m 18 c + 1)) = Fs m := rfl
    have eC : iC (up2 (up2 m 17 c x) 18 c (m 18 c + 1)) = iC m := rfl
    generalize up2 (up2 m 17 c x) 18 c (m 18 c + 1) = B at b1 hT hK hj2 ht2 e37 e46 eF eC ⊢
    refine (pc_t100 hj2 ht2 hc).mono (fun _ m' h => ?_)
    obtain ⟨h1, h2, h3, h4, h5, h6, h7⟩ := h
    refine ⟨h1, ?_, hT.tr h2, hK.tr h3, fun j hj => (h4 j (by omega)).trans (by rw [e37]), fun j hj => (h5 j (by omega)).trans (by rw [e46]), h6.trans eF⟩
    have e6 : ∀ x y : Nat, (if c < 6 then x else y) = if o < 400 then x else y := fun x y => by
      by_cases z : o < 400
      · rw [if_pos z, if_pos (hc6 z)]
      · rw [if_neg z, if_neg (by rw [hc7 (by omega) ho]; omega)]
    rw [e6, e6] at b1
    exact jb_c b1 (h3 16 rfl) (h7 17 (Or.inl rfl)) (h7 18 (Or.inr (Or.inl rfl))) (h7 19 (Or.inr (Or.inr rfl)))
  rw [nI_clamp (n := c) (by omega)]
  exact pc_if (fun z => key _ (by rw [if_pos z])) (fun z => key _ (by rw [if_neg z]))
theorem pc_tries1 {o F q c : Nat} {x2 : Int32} (hj : J6 PR rho) (ht : TP o rho) (ho : o < 440) (hb : JB F q rho) (hF : F ≤ 4000) (hq : q ≤ 4000) (hw : x2 = 1 ∨ x2 = 2) (hcal : cal rho o = nI c) (hc : c < 7) (hp : ¬ rho 17 c < 100) : PC (f9_tries (nI o) x2 rho) (fun _ m => J6 PR m ∧ JB F q m ∧ KB rho m) := by
  unfold f9_tries
  refine pc_ob (pc_callerOf hj ht) (fun r m h => ?_)
  obtain ⟨rfl, rfl, -⟩ := h
  rw [hcal]
  refine pc_ro ro_f9_calledBy (fun r4 => ?_)
  refine pc_if (fun z => absurd z (by rcases hw with rfl | rfl <;> decide)) (fun _ => ?_)
  refine pc_if (fun z => absurd z (by rcases hw with rfl | rfl <;> decide)) (fun _ => ?_)
  refine pc_ck (fun _ => ?_)
  refine pc_wr ?_
  refine pc_wr ?_
  rw [nI_clamp (n := c) (by omega)]
  obtain ⟨b1, b2⟩ := bud_extra hb hF hq hc hp
  have e19 : (up2 m 17 c (m 17 c - 100)) 19 c + 1 = m 19 c + 1 := rfl
  rw [e19]
  have hT := tt_b2 (x := m 17 c - 100) b2
  have hK : Kp m (up2 (up2 m 17 c (m 17 c - 100)) 19 c (m 19 c + 1)) := kp_b2
  have hj2 : J6 PR (up2 (up2 m 17 c (m 17 c - 100)) 19 c (m 19 c + 1)) := hj
  have ht2 : TP o (up2 (up2 m 17 c (m 17 c - 100)) 19 c (m 19 c + 1)) := ht
  have e37 : (up2 (up2 m 17 c (m 17 c - 100)) 19 c (m 19 c + 1)) 37 = m 37 := rfl
  have e46 : (up2 (up2 m 17 c (m 17 c - 100)) 19 c (m 19 c + 1)) 46 = m 46 := rfl
  have eF : Fs (up2 (up2 m 17 c (m 17 c - 100)) 19 c (m 19 c + 1)) = Fs m := rfl
  have eC : iC (up2 (up2 m 17 c (m 17 c - 100)) 19 c (m 19 c + 1)) = iC m := rfl
  generalize up2 (up2 m 17 c (m 17 c - 100)) 19 c (m 19 c + 1) = B at b1 hT hK hj2 ht2 e37 e46 eF eC ⊢
  refine (pc_t100 hj2 ht2 hc).mono (fun _ m' h => ?_)
  obtain ⟨h1, h2, h3, h4, h5, h6, h7⟩ := h
  exact ⟨h1, jb_c b1 (h3 16 rfl) (h7 17 (Or.inl rfl)) (h7 18 (Or.inr (Or.inl rfl))) (h7 19 (Or.inr (Or.inr rfl))), hT.tr h2, hK.tr h3, fun j hj => (h4 j (by omega)).trans (by rw [e37]), fun j hj => (h5 j (by omega)).trans (by rw [e46]), h6.trans eF⟩
theorem pc_tries3 {o F q : Nat} (hj : J6 PR rho) (ht : TP o rho) (hb : JB F q rho) : PC (f9_tries (nI o) 3 rho) (fun _ m => J6 PR m ∧ JB F q m ∧ KB rho m) := by
  unfold f9_tries
  refine pc_ob (pc_callerOf hj ht) (fun r m h => ?_)
  obtain ⟨rfl, rfl, c, hc, ec, -⟩ := h
  rw [ec]
  refine pc_ro ro_f9_calledBy (fun r4 => ?_)
  refine pc_if (fun z => absurd z (by decide)) (fun _ => ?_)
  refine pc_if (fun _ => ?_) (fun z => absurd rfl z)
  refine (pc_t100 hj ht hc).mono (fun _ m' h => ?_)
  obtain ⟨h1, h2, h3, h4, h5, h6, h7⟩ := h
  exact ⟨h1, jb_c hb (h3 16 rfl) (h7 17 (Or.inl rfl)) (h7 18 (Or.inr (Or.inl rfl))) (h7 19 (Or.inr (Or.inr rfl))), h2, h3, h4, h5, h6⟩
end PS9
