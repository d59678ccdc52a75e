/-! ends of calls: what is below ends with them -/
section PE
variable {rho rho' : RH} {P S PR : Nat → Prop}
theorem df_n {F G : Nat} (h : DF F) (hG : ([0, 1, 2, 6, 7, 10, 11, 13, 14, 15, 16, 17, 18, 19, 20, 31, 32, 34, 36, 38, 40, 51, 54, 55, 56, 57, 58, 63, 64].contains G) = false) : F ≠ G := fun z => by
  subst z
  rw [List.contains_iff_mem.mpr h] at hG
  cases hG
theorem pc_hasEnded {k : Nat} (hk : k < 400) : PC (f9_hasEnded (nI k) rho) (fun r m => m = rho ∧ (r = 0 ↔ rho 37 k ≤ 2)) := by
  rw [e9_hasEnded hk]
  refine pc_some ⟨rfl, ?_⟩
  by_cases h : rho 37 k ≤ 2
  · rw [if_pos h]
    exact ⟨fun _ => h, fun _ => rfl⟩
  · rw [if_neg h]
    exact ⟨fun z => absurd z (by decide), fun z => absurd z h⟩
theorem pc_liveOf (hc : JC rho) {x1 : Int32} : PC (f9_liveOf x1 (-1) rho) (fun r m => m = rho ∧ ((r = -1 ∧ ∀ k, k < iC rho → rho 32 k = x1 → ¬ rho 37 k ≤ 2) ∨ ∃ k, k < iC rho ∧ r = nI k ∧ rho 32 k = x1 ∧ rho 37 k ≤ 2)) := by
  have hC := hc.C
  have main : ∀ (n j : Nat), j ≤ 400 → (∀ k, k < j → k < iC rho → rho 32 k = x1 → ¬ rho 37 k ≤ 2) → PC (l9_liveOf_2 n x1 (-1) (nI j) rho) (fun r m => m = rho ∧ ((r = -1 ∧ ∀ k, k < iC rho → rho 32 k = x1 → ¬ rho 37 k ≤ 2) ∨ ∃ k, k < iC rho ∧ r = nI k ∧ rho 32 k = x1 ∧ rho 37 k ≤ 2)) := by
    intro n
    induction n with
    | zero =>
      intro j hj h
      rw [l9_liveOf_2]
      exact pc_none
    | succ n ih =>
      intro j hj h
      rw [l9_liveOf_2]
      refine pc_if (fun c => pc_some ⟨rfl, Or.inl ⟨rfl, fun k hk => h k ?_ hk⟩⟩) (fun c => ?_)
      · rw [hC.1, nI_leI (by omega) (by omega)] at c
        omega
      · rw [hC.1, nI_leI (by omega) (by omega)] at c
        refine pc_ck (fun _ => ?_)
        rw [nI_clamp (by omega), nI_1]
        refine pc_if (fun c3 => ?_) (fun c3 => ih (j + 1) (by omega) (fun k h1 h2 h3 => ?_))
        · refine pc_ob (pc_hasEnded (by omega)) (fun r m h9 => ?_)
          obtain ⟨rfl, h9⟩ := h9
          refine pc_if (fun c4 => ?_) (fun c4 => ih (j + 1) (by omega) (fun k h1 h2 h3 => ?_))
          · rw [if_neg (nI_ne1 (by omega))]
            exact pc_some ⟨rfl, Or.inr ⟨j, by omega, rfl, c3, h9.mp c4⟩⟩
          · by_cases e : k = j
            · subst e
              exact fun z => c4 (h9.mpr z)
            · exact h k (by omega) h2 h3
        · by_cases e : k = j
          · subst e
            exact absurd h3 c3
          · exact h k (by omega) h2 h3
  exact main FU 0 (by omega) (fun k hk => by omega)
theorem pc_setsEnd {x1 x2 : Int32} : PC (f9_setsEnd x1 x2 rho) (fun _ m => ∃ k v, k < 400 ∧ x1 = nI k ∧ m = up2 (up2 rho 37 k x2) 42 k v) := by
  unfold f9_setsEnd
  refine pc_ck (fun c => ?_)
  obtain ⟨k, hk, rfl⟩ := vq_ix c (by omega)
  simp only [nI_clamp (n := k) (by omega)]
  repeat' (first | with_reducible exact pc_none | (with_reducible refine pc_wr ?_) | (with_reducible refine pc_if (fun _ => ?_) (fun _ => ?_)) | exact pc_some ⟨k, _, hk, rfl, rfl⟩)
theorem eqs_set {k : Nat} {v e : Int32} (hl : rho 37 k ≤ 2) (he : ¬ e ≤ 2) : EqS rho (up2 (up2 rho 37 k e) 42 k v) := by
  refine ⟨fun F j hF => ?_, fun j _ => rfl, Nat.le_refl _, fun j => ?_⟩
  · rw [up2_f _ _ _ _ (df_n hF rfl), up2_f _ _ _ _ (df_n hF rfl)]
  · show (if j = k then e else rho 37 j) = rho 37 j ∨ (rho 37 j ≤ 2 ∧ ¬ (if j = k then e else rho 37 j) ≤ 2)
    by_cases h : j = k
    · rw [if_pos h, h]
      exact Or.inr ⟨hl, he⟩
    · rw [if_neg h]
      exact Or.inl rfl
def EqP (rho m : RH) : Prop := EqS rho m ∧ m 37 = rho 37 ∧ m 45 = rho 45 ∧ m 34 = rho 34 ∧ JM m
theorem EqP.rf (h : JM rho) : EqP rho rho := ⟨EqS.rf, rfl, rfl, rfl, h⟩
theorem EqP.tr {a b c : RH} (h : EqP a b) (h2 : EqP b c) : EqP a c := ⟨h.1.tr h2.1, h2.2.1.trans h.2.1, h2.2.2.1.trans h.2.2.1, h2.2.2.2.1.trans h.2.2.2.1, h2.2.2.2.2⟩
theorem pc_rep1 : ∀ (n : Nat) (x1 x2 : Int32) (rho : RH), JM rho → Ix (rho 34 x1.toNatClampNeg) 6 → PC (l9_repairsFor_7 n x1 x2 rho) (fun _ m => EqP rho m) := by
  intro n
  induction n with
  | zero =>
    intro x1 x2 rho hm hx
    rw [l9_repairsFor_7]
    exact pc_none
  | succ n ih =>
    intro x1 x2 rho hm hx
    rw [l9_repairsFor_7]
    refine pc_if (fun _ => pc_some (EqP.rf hm)) (fun _ => ?_)
    refine pc_ck (fun _ => ?_)
    refine pc_ck (fun _ => ?_)
    refine pc_if (fun _ => ih _ _ _ hm hx) (fun _ => ?_)
    refine pc_ro ro_f9_hasRunIn (fun r5 => ?_)
    refine pc_if (fun _ => ih _ _ _ hm hx) (fun _ => ?_)
    refine pc_if (fun _ => ih _ _ _ hm hx) (fun _ => ?_)
    refine pc_ck (fun c => ?_)
    obtain ⟨p, hp, e⟩ := vq_ix c (by omega)
    refine pc_wr ?_
    refine pc_ck (fun _ => ?_)
    refine pc_wr ?_
    refine pc_ck (fun _ => ?_)
    refine pc_wr ?_
    refine pc_wr ?_
    have key : ∀ M : RH, EqP rho M → PC (l9_repairsFor_7 n x1 (x2 + (-1)) M) (fun _ m => EqP rho m) := fun M h => (ih _ _ M h.2.2.2.2 (by rw [h.2.2.2.1]; exact hx)).mono (fun _ m h2 => EqP.tr h h2)
    refine key _ ⟨⟨fun F j hF => ?_, fun j hj => ?_, ?_, fun j => Or.inl rfl⟩, rfl, rfl, rfl, fun q hq => ?_⟩
    · rw [up2_f _ _ _ _ (df_n hF rfl), up2_f _ _ _ _ (df_n hF rfl), up2_f _ _ _ _ (df_n hF rfl), up2_f _ _ _ _ (df_n hF rfl)]
    · rw [up2_f _ _ _ _ (by decide), up2_n _ _ (fun z => by
        have z2 : j = (440 + rho 59 0).toNatClampNeg := z.2
        rw [e, l440, nI_k, nI_clamp (by omega)] at z2
        omega)]
      rfl
    · show nv (rho 59 0) ≤ nv (rho 59 0 + 1)
      rw [e, nI_1, nv_nI (by omega), nv_nI (by omega)]
      omega
    · have hq' : q < nv (rho 59 0 + 1) := hq
      show Ix (if q = (rho 59 0).toNatClampNeg then rho 34 x1.toNatClampNeg else rho 61 q) 6
      rw [e, nI_1, nv_nI (by omega)] at hq'
      rw [e, nI_clamp (by omega)]
      by_cases z : q = p
      · rw [if_pos z]
        exact hx
      · rw [if_neg z]
        refine hm q ?_
        unfold iP
        rw [e, nv_nI (by omega)]
        omega
theorem pc_rep {x1 : Int32} (hm : JM rho) (hx : Ix (rho 34 x1.toNatClampNeg) 6) : PC (f9_repairsFor x1 rho) (fun _ m => EqP rho m) := by
  unfold f9_repairsFor
  exact pc_ck (fun _ => pc_rep1 _ _ _ _ hm hx)
def JO (rho : RH) : Prop := ∀ i, i < iI rho → Ix (rho 7 i) 6
theorem EqS.jO (h : EqS rho rho') (ho : JO rho) : JO rho' := by
  intro i hi
  rw [h.eI] at hi
  rw [h.f 7 rfl]
  exact ho i hi
theorem jc_sv (hc : JC rho) (ho : JO rho) {k : Nat} (hk : k < iC rho) : Ix (rho 34 k) 6 := by
  rw [← (hc.2.2.2 k hk).2.2.1]
  exact ho _ (hc.Xi hk).2
theorem jl_mono {S' : Nat → Prop} (h : JL P S rho) (hs : ∀ k o, k < iC rho → rho 37 k ≤ 2 → iO rho k = o → o < 400 → S o → S' o) : JL P S' rho := fun k hk hl => ⟨(h k hk hl).1, fun z => ((h k hk hl).2 z).imp id (hs k _ hk hl rfl z)⟩
theorem eqp_jl (h : EqP rho rho') (hl : JL P S rho) : JL P S rho' := by
  intro k hk
  rw [h.1.eC] at hk
  rw [h.2.1, h.1.f 0 rfl, h.1.f 38 rfl, h.1.eO]
  exact hl k hk
theorem pc_endsL (k0 : Nat) : ∀ (n d : Nat) (rho : RH), d ≤ 400 → JC rho → JO rho → JM rho → JL P (fun o => S o ∨ ∃ j, j < d ∧ rho 45 j = nI o) rho → (∀ j, j < d → ∃ q, rho 45 j = nI q ∧ k0 ≤ q ∧ q < iC rho) →
    PC (l9_endsCall_15 n (nI d) rho) (fun _ m => EqS rho m ∧ JL P S m ∧ (∀ j, j < k0 → m 37 j = rho 37 j) ∧ JM m) := by
  intro n
  induction n with
  | zero =>
    intro d rho hd hc hoo hmm hl hs
    rw [l9_endsCall_15]
    exact pc_none
  | succ n ih =>
    intro d rho hd hc hoo hmm hl hs
    have hC := hc.C
    rw [l9_endsCall_15]
    refine pc_if (fun c => ?_) (fun c => ?_)
    · have : d = 0 := by
        rw [l0, nI_leI (by omega) (by omega)] at c
        omega
      subst this
      exact pc_some ⟨EqS.rf, jl_mono hl (fun k o _ _ _ _ z => z.elim id (fun ⟨j, hj, _⟩ => by omega)), fun _ _ => rfl, hmm⟩
    · obtain ⟨d, rfl⟩ : ∃ d', d = d' + 1 := ⟨d - 1, by
        have : d ≠ 0 := fun z => c (by rw [z]; decide)
        omega⟩
      obtain ⟨q, hq, hk0, hqC⟩ := hs d (by omega)
      rw [nI_pred]
      refine pc_ck (fun _ => ?_)
      rw [nI_clamp (by omega), hq]
      refine pc_ob (pc_liveOf hc) (fun r m h9 => ?_)
      obtain ⟨rfl, h9⟩ := h9
      have hS1 : ∀ j, j < d → ∃ q, m 45 j = nI q ∧ k0 ≤ q ∧ q < iC m := fun j hj => hs j (by omega)
      refine pc_if (fun cr => ?_) (fun cr => ?_)
      · have hno : ∀ k, k < iC m → m 32 k = nI q → ¬ m 37 k ≤ 2 := by
          rcases h9 with ⟨-, h⟩ | ⟨k, hk, e, -⟩
          · exact h
          · rw [e] at cr
            exact absurd cr (nI_ne1 (by omega))
        have hl1 : JL P (fun o => S o ∨ ∃ j, j < d ∧ m 45 j = nI o) m := jl_mono hl (fun k o hk hlk e ho z => by
          rcases z with z | ⟨j, hj, z⟩
          · exact Or.inl z
          · by_cases ej : j = d
            · subst ej
              rw [hq] at z
              have : q = o := (nI_inj (by omega) (by omega)).mp z
              exact absurd hlk (hno k hk (by rw [(hc.O hk).1, e, this]))
            · exact Or.inr ⟨j, by omega, z⟩)
        refine pc_ck (fun _ => ?_)
        refine pc_ck (fun _ => ?_)
        rw [nI_p1m1]
        refine pc_if (fun _ => ih d m (by omega) hc hoo hmm hl1 hS1) (fun _ => ?_)
        refine pc_ob (pc_rep hmm (by rw [nI_clamp (n := d) (by omega), hq, nI_clamp (by omega)]; exact jc_sv hc hoo hqC)) (fun _ m2 h2 => ?_)
        refine (ih d m2 (by omega) (h2.1.jC hc) (h2.1.jO hoo) h2.2.2.2.2 (by rw [h2.2.2.1]; exact eqp_jl h2 hl1) (fun j hj => by rw [h2.2.2.1, h2.1.eC]; exact hS1 j hj)).mono (fun _ m3 h3 => ⟨h2.1.tr h3.1, h3.2.1, fun j hj => (h3.2.2.1 j hj).trans (by rw [h2.2.1]), h3.2.2.2⟩)
      · obtain ⟨b, hb, e, h32, hlb⟩ : ∃ k, k < iC m ∧ r = nI k ∧ m 32 k = nI q ∧ m 37 k ≤ 2 := by
          rcases h9 with ⟨h, -⟩ | h
          · exact absurd h cr
          · exact h
        subst e
        have hbq : iO m b = q := by
          unfold iO
          rw [h32, nv_nI (by omega)]
        have hqb : q < b := by
          have := ((hc.2.2.2 b hb).2.2.2.1 (by omega)).1
          omega
        refine pc_ob pc_setsEnd (fun _ m2 h2 => ?_)
        obtain ⟨b', v, hb', e, rfl⟩ := h2
        have : b = b' := (nI_inj (by omega) (by omega)).mp e
        subst this
        refine pc_ck (fun c5 => ?_)
        refine pc_wr ?_
        have hd4 : d + 1 < 400 := by
          obtain ⟨a, ha, ea⟩ := vq_ix c5 (by omega)
          have := (nI_inj (by omega) (by omega)).mp ea
          omega
        rw [nI_clamp (by omega), nI_1]
        have hE : EqS m (up2 (up2 (up2 m 37 b 7) 42 b v) 45 (d + 1) (nI b)) := by
          have h1 := eqs_set (v := v) hlb (by decide : ¬ (7 : Int32) ≤ 2)
          exact ⟨fun F j hF => (up2_f _ _ _ _ (df_n hF rfl)).trans (h1.1 F j hF), h1.2.1, h1.2.2.1, h1.2.2.2⟩
        have h45 : ∀ j, (up2 (up2 (up2 m 37 b 7) 42 b v) 45 (d + 1) (nI b)) 45 j = if j = d + 1 then nI b else m 45 j := fun j => rfl
        have h37 : ∀ j, (up2 (up2 (up2 m 37 b 7) 42 b v) 45 (d + 1) (nI b)) 37 j = if j = b then 7 else m 37 j := fun j => rfl
        have hmM : JM (up2 (up2 (up2 m 37 b 7) 42 b v) 45 (d + 1) (nI b)) := hmm
        generalize up2 (up2 (up2 m 37 b 7) 42 b v) 45 (d + 1) (nI b) = M at hE h45 h37 hmM ⊢
        refine (ih (d + 1 + 1) M (by omega) (hE.jC hc) (hE.jO hoo) hmM ?_ ?_).mono (fun _ m3 h3 => ⟨hE.tr h3.1, h3.2.1, fun j hj => (h3.2.2.1 j hj).trans ?_, h3.2.2.2⟩)
        · intro k hk hlk
          rw [hE.eC] at hk
          rw [h37] at hlk
          by_cases ek : k = b
          · rw [if_pos ek] at hlk
            exact absurd hlk (by decide)
          · rw [if_neg ek] at hlk
            rw [hE.f 0 rfl, hE.f 38 rfl, hE.eO]
            obtain ⟨a1, a2⟩ := hl k hk hlk
            refine ⟨a1, fun z => ?_⟩
            rcases a2 z with a3 | a3 | ⟨j, hj, a3⟩
            · by_cases eo : iO m k = b
              · exact Or.inr (Or.inr ⟨d + 1, by omega, by rw [h45, if_pos rfl, eo]⟩)
              · rw [h37, if_neg eo]
                exact Or.inl a3
            · exact Or.inr (Or.inl a3)
            · exact Or.inr (Or.inr ⟨j, by omega, by rw [h45, if_neg (by omega)]; exact a3⟩)
        · intro j hj
          rw [h45, hE.eC]
          by_cases ej : j = d + 1
          · rw [if_pos ej]
            exact ⟨b, rfl, by omega, hb⟩
          · rw [if_neg ej]
            exact hs j (by omega)
        · rw [h37, if_neg (by omega)]
theorem pc_endsCall (hc : JC rho) (hoo : JO rho) (hmm : JM rho) (hl : JL P S rho) {k : Nat} {e : Int32} (hk : k < iC rho) (hv : rho 37 k ≤ 2) (he : ¬ e ≤ 2) : PC (f9_endsCall (nI k) e rho) (fun _ m => EqS rho m ∧ JL P S m ∧ (∀ j, j < k → m 37 j = rho 37 j) ∧ m 37 k = e ∧ JM m) := by
  have hC := hc.C
  unfold f9_endsCall
  refine pc_wr ?_
  refine pc_ob pc_setsEnd (fun _ m2 h2 => ?_)
  obtain ⟨k', v, hk', ek, rfl⟩ := h2
  have : k = k' := (nI_inj (by omega) (by omega)).mp ek
  subst this
  have hE : EqS rho (up2 (up2 (up2 rho 45 (0 : Int32).toNatClampNeg (nI k)) 37 k e) 42 k v) := by
    have h1 := eqs_set (v := v) hv he
    refine ⟨fun F j hF => ?_, h1.2.1, h1.2.2.1, h1.2.2.2⟩
    rw [up2_f _ _ _ _ (df_n hF rfl), up2_f _ _ _ _ (df_n hF rfl), up2_f _ _ _ _ (df_n hF rfl)]
  have h45 : ∀ j, (up2 (up2 (up2 rho 45 (0 : Int32).toNatClampNeg (nI k)) 37 k e) 42 k v) 45 j = if j = 0 then nI k else rho 45 j := fun j => rfl
  have h37 : ∀ j, (up2 (up2 (up2 rho 45 (0 : Int32).toNatClampNeg (nI k)) 37 k e) 42 k v) 37 j = if j = k then e else rho 37 j := fun j => rfl
  have hmM : JM (up2 (up2 (up2 rho 45 (0 : Int32).toNatClampNeg (nI k)) 37 k e) 42 k v) := hmm
  generalize up2 (up2 (up2 rho 45 (0 : Int32).toNatClampNeg (nI k)) 37 k e) 42 k v = M at hE h45 h37 hmM ⊢
  rw [l1]
  refine (pc_endsL (P := P) (S := S) k FU 1 M (by omega) (hE.jC hc) (hE.jO hoo) hmM ?_ (fun j hj => ⟨k, by rw [h45, if_pos (by omega)], Nat.le_refl _, by rw [hE.eC]; exact hk⟩)).mono (fun _ m3 h3 => ⟨hE.tr h3.1, h3.2.1, fun j hj => (h3.2.2.1 j hj).trans (by rw [h37, if_neg (by omega)]), ?_, h3.2.2.2⟩)
  · intro j hj hlj
    rw [hE.eC] at hj
    rw [h37] at hlj
    by_cases ej : j = k
    · rw [if_pos ej] at hlj
      exact absurd hlj he
    · rw [if_neg ej] at hlj
      rw [hE.f 0 rfl, hE.f 38 rfl, hE.eO]
      obtain ⟨a1, a2⟩ := hl j hj hlj
      refine ⟨a1, fun z => ?_⟩
      by_cases eo : iO rho j = k
      · exact Or.inr (Or.inr ⟨0, by omega, by rw [h45, if_pos rfl, eo]⟩)
      · rw [h37, if_neg eo]
        exact (a2 z).imp id Or.inl
  · rcases h3.1.2.2.2 k with z | ⟨z, -⟩
    · rw [z, h37, if_pos rfl]
    · rw [h37, if_pos rfl] at z
      exact absurd z he
theorem pc_turnsOff (hc : JC rho) (hoo : JO rho) (hmm : JM rho) (hl : JL P S rho) {o : Nat} (ho : o < 540) : PC (f9_turnsOff (nI o) rho) (fun _ m => EqS rho m ∧ JL P S m ∧ (o < 400 → ∀ j, j ≤ o → m 37 j = rho 37 j) ∧ JM m) := by
  have main : ∀ (n : Nat) (x2 : Int32) (rho : RH), JC rho → JO rho → JM rho → JL P S rho → (x2 = -1 ∨ ∃ k, k < iC rho ∧ x2 = nI k ∧ rho 32 k = nI o ∧ rho 37 k ≤ 2) → PC (l9_turnsOff_7 n (nI o) x2 rho) (fun _ m => EqS rho m ∧ JL P S m ∧ (o < 400 → ∀ j, j ≤ o → m 37 j = rho 37 j) ∧ JM m) := by
    intro n
    induction n with
    | zero =>
      intro x2 rho hc hoo hmm hl h
      rw [l9_turnsOff_7]
      exact pc_none
    | succ n ih =>
      intro x2 rho hc hoo hmm hl h
      rw [l9_turnsOff_7]
      refine pc_if (fun _ => pc_some ⟨EqS.rf, hl, fun _ _ _ => rfl, hmm⟩) (fun c => ?_)
      obtain ⟨k, hk, rfl, h32, h37⟩ := h.resolve_left c
      have hC := hc.C
      refine pc_ob (pc_endsCall hc hoo hmm hl hk h37 (by decide)) (fun _ m h2 => ?_)
      refine pc_ob (pc_liveOf (h2.1.jC hc)) (fun r m3 h3 => ?_)
      obtain ⟨rfl, h3⟩ := h3
      refine (ih r m3 (h2.1.jC hc) (h2.1.jO hoo) h2.2.2.2.2 h2.2.1 (h3.imp (fun z => z.1) id)).mono (fun _ m4 h4 => ⟨h2.1.tr h4.1, h4.2.1, fun ho4 j hj => (h4.2.2.1 ho4 j hj).trans (h2.2.2.1 j ?_), h4.2.2.2⟩)
      have e1 : iO rho k = o := by
        unfold iO
        rw [h32, nv_nI (by omega)]
      have := ((hc.2.2.2 k hk).2.2.2.1 (by omega)).1
      omega
  unfold f9_turnsOff
  refine pc_ob (pc_liveOf hc) (fun r m h => ?_)
  obtain ⟨rfl, h⟩ := h
  exact main FU r m hc hoo hmm hl (h.imp (fun z => z.1) id)
end PE
