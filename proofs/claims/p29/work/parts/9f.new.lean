/-! what a new call and a try keep -/
section PN9
variable {rho rho' : RH} {P S PR : Nat → Prop}
theorem new_f {m : RH} {k : Nat} (h : ∀ F j, DF F → F ≠ 31 → ((F = 32 ∨ F = 34 ∨ F = 36 ∨ F = 38 ∨ F = 40) → j ≠ k) → m F j = rho F j) (F : Nat) (hF : ([0, 1, 2, 6, 7, 10, 11, 13, 14, 15, 16, 17, 18, 19, 20, 31, 32, 34, 36, 38, 40, 51, 54, 55, 56, 57, 58, 63, 64].contains F && !([31, 32, 34, 36, 38, 40].contains F)) = true) : m F = rho F := by
  rw [Bool.and_eq_true, Bool.not_eq_true'] at hF
  obtain ⟨h1, h2⟩ := hF
  have ne : ∀ G, [31, 32, 34, 36, 38, 40].contains G = true → F ≠ G := fun G hG z => by
    rw [z, hG] at h2
    cases h2
  refine funext fun j => h F j (df h1) (ne 31 rfl) (fun z => ?_)
  rcases z with z | z | z | z | z
  · exact absurd z (ne 32 rfl)
  · exact absurd z (ne 34 rfl)
  · exact absurd z (ne 36 rfl)
  · exact absurd z (ne 38 rfl)
  · exact absurd z (ne 40 rfl)
/-- all but budgets -/
def J6 (PR : Nat → Prop) (rho : RH) : Prop := JC rho ∧ JL AL9 NO9 rho ∧ JQ rho ∧ JR PR rho ∧ JS rho ∧ JM rho
def kf : List Nat := [0, 1, 2, 6, 7, 10, 11, 13, 14, 15, 16, 20, 51, 54, 55, 56, 57, 58, 63, 64]
/-- fields that stay -/
def Kp (rho m : RH) : Prop := ∀ F, kf.contains F = true → m F = rho F
theorem Kp.rf : Kp rho rho := fun _ _ => rfl
theorem Kp.tr {a b c : RH} (h : Kp a b) (h2 : Kp b c) : Kp a c := fun F q => (h2 F q).trans (h F q)
theorem kf_df {F : Nat} (h : kf.contains F = true) : ([0, 1, 2, 6, 7, 10, 11, 13, 14, 15, 16, 17, 18, 19, 20, 31, 32, 34, 36, 38, 40, 51, 54, 55, 56, 57, 58, 63, 64].contains F && !([31, 32, 34, 36, 38, 40].contains F)) = true := by
  have h1 : F ∈ kf := List.contains_iff_mem.mp h
  have h2 : ∀ G, G ∈ kf → ([0, 1, 2, 6, 7, 10, 11, 13, 14, 15, 16, 17, 18, 19, 20, 31, 32, 34, 36, 38, 40, 51, 54, 55, 56, 57, 58, 63, 64].contains G && !([31, 32, 34, 36, 38, 40].contains G)) = true := by decide
  exact h2 F h1
theorem EqS.kp (h : EqS rho rho') : Kp rho rho' := fun F q => funext fun j => h.1 F j (df ((Bool.and_eq_true _ _).mp (kf_df q)).1)
theorem new_J {o : Nat} {m : RH} (hj : J6 PR rho) (ht : TP o rho) (hn : NewC o rho m) : J6 PR m ∧ TT rho m ∧ Kp rho m ∧ (∀ j, j < iC rho → m 37 j = rho 37 j) ∧ (∀ j, j ≠ iC rho → m 46 j = rho 46 j) ∧ Fs m = Fs rho ∧ (∀ F, F = 17 ∨ F = 18 ∨ F = 19 → m F = rho F) := by
  obtain ⟨hc, hl, hq, hr, hs, hm⟩ := hj
  obtain ⟨i, hi, h4, n31, nF, n9, n59, n61, n32, n36, n34, n46, n38, n39, n37⟩ := hn
  have hC := hc.C
  have ho := ht.lt
  have g := new_f nF
  have eC : iC m = iC rho + 1 := by
    unfold iC
    rw [n31, nv_nI (by omega)]
    rfl
  have eI : iI m = iI rho := by unfold iI; rw [g 6 rfl]
  have eR : iR m = iR rho := by unfold iR; rw [g 51 rfl]
  have eP : iP m = iP rho := by unfold iP; rw [n59]
  have f32 : ∀ j, j ≠ iC rho → m 32 j = rho 32 j := fun j hj => nF 32 j (df rfl) (by decide) (fun _ => hj)
  have f34 : ∀ j, j ≠ iC rho → m 34 j = rho 34 j := fun j hj => nF 34 j (df rfl) (by decide) (fun _ => hj)
  have f36 : ∀ j, j ≠ iC rho → m 36 j = rho 36 j := fun j hj => nF 36 j (df rfl) (by decide) (fun _ => hj)
  have f38 : ∀ j, j ≠ iC rho → m 38 j = rho 38 j := fun j hj => nF 38 j (df rfl) (by decide) (fun _ => hj)
  have f40 : ∀ j, j ≠ iC rho → m 40 j = rho 40 j := fun j hj => nF 40 j (df rfl) (by decide) (fun _ => hj)
  have eO : ∀ j, j ≠ iC rho → iO m j = iO rho j := fun j hj => by unfold iO; rw [f32 j hj]
  have eX : ∀ j, j ≠ iC rho → iX m j = iX rho j := fun j hj => by unfold iX; rw [f36 j hj]
  have eS : ∀ j, j ≠ iC rho → sc m j = sc rho j := fun j hj => by unfold sc; rw [(n9 j hj).1]
  have eO9 : iO m (iC rho) = o := by unfold iO; rw [n32, nv_nI (by omega)]
  have eX9 : iX m (iC rho) = i := by unfold iX; rw [n36, nv_nI (by have := hc.I; omega)]
  have eS9 : sc m (iC rho) = 0 := by unfold sc; rw [n46]; rfl
  have hol : o < 400 → o < iC rho ∧ rho 37 o = 2 := fun z => by
    rcases ht with h | h | h
    · exact h.2
    · omega
    · omega
  have eFs : Fs m = Fs rho := by
    unfold Fs
    rw [eC, List.range_succ, List.map_append, List.sum_append]
    have : (List.map (sc m) [iC rho]).sum = 0 := by simp [eS9]
    rw [this, Nat.add_zero]
    congr 1
    refine List.map_congr_left (fun k hk => eS k ?_)
    have := List.mem_range.mp hk
    omega
  have cnt : ∀ x lo hi : Int32, cntI m x lo hi = cntI rho x lo hi + if m 36 (iC rho) = x ∧ ¬ (m 37 (iC rho) < lo ∨ hi < m 37 (iC rho)) then 1 else 0 := fun x lo hi => by
    unfold cntI
    rw [eC, List.range_succ, List.filter_append, List.length_append]
    congr 1
    · refine cnt_same (fun k hk => ?_)
      have hk := List.mem_range.mp hk
      rw [f36 k (by omega), (n9 k (by omega)).2]
    · by_cases z : m 36 (iC rho) = x ∧ ¬ (m 37 (iC rho) < lo ∨ hi < m 37 (iC rho))
      · rw [if_pos z, List.filter_cons_of_pos (by exact decide_eq_true z)]
        rfl
      · rw [if_neg z, List.filter_cons_of_neg (by rw [decide_eq_false z]; decide)]
        rfl
  refine ⟨⟨⟨⟨iC rho + 1, by omega, n31⟩, by rw [g 6 rfl]; exact hc.2.1, by rw [g 51 rfl]; exact hc.2.2.1, fun j hj => ?_⟩, fun j hj hlj => ?_, fun i' hi' => ?_, fun r hr' => ?_, ?_, fun p hp => ?_⟩, ⟨⟨by omega, by omega, by omega, by omega, fun k hk => ⟨f32 k (by omega), f34 k (by omega), f36 k (by omega), f38 k (by omega), f40 k (by omega), fun _ => (n9 k (by omega)).2⟩, fun r _ _ => by rw [g 56 rfl], fun p z => by rw [g 63 rfl]; exact z, fun c _ => by rw [g 18 rfl, g 19 rfl]; exact ⟨Nat.le_refl _, Nat.le_refl _⟩, fun i _ => by rw [g 7 rfl, g 10 rfl, g 11 rfl]; exact ⟨rfl, rfl, rfl⟩⟩, fun s => by rw [g 2 rfl]⟩, fun F hF => g F (kf_df hF), fun j hj => (n9 j (by omega)).2, fun j hj => (n9 j hj).1, eFs, ?_⟩
  · rw [eC] at hj
    rw [eI, g 7 rfl]
    by_cases e : j = iC rho
    · rw [e, eX9, eO9, n32, n36, n34, n46]
      refine ⟨⟨o, ho, rfl⟩, ⟨i, hi, rfl⟩, rfl, fun z => ⟨(hol z).1, ?_⟩, ⟨0, by omega, by decide⟩⟩
      rw [f38 o (by have := hol z; omega)]
      exact n38 z
    · have := hc.2.2.2 j (by omega)
      rw [eX j e, eO j e, f32 j e, f36 j e, f34 j e, (n9 j e).1, f38 j e]
      refine ⟨this.1, this.2.1, this.2.2.1, fun z => ⟨(this.2.2.2.1 z).1, ?_⟩, this.2.2.2.2⟩
      rw [f38 _ (by have := (this.2.2.2.1 z).1; omega)]
      exact (this.2.2.2.1 z).2
  · rw [eC] at hj
    by_cases e : j = iC rho
    · rw [e, eO9, g 0 rfl]
      refine ⟨fun _ => n39, fun z => Or.inl ?_⟩
      rw [(n9 o (by have := hol z; omega)).2]
      exact (hol z).2
    · rw [(n9 j e).2] at hlj
      have h1 := hl j (by omega) hlj
      have h2 := (hc.2.2.2 j (by omega)).2.2.2.1
      rw [g 0 rfl, f38 j e, eO j e]
      refine ⟨h1.1, fun z => ?_⟩
      rw [(n9 (iO rho j) (by have := (h2 z).1; omega)).2]
      exact h1.2 z
  · rw [eI] at hi'
    rw [cnt, cnt, g 10 rfl, g 11 rfl, g 14 rfl, n36]
    have h1 := hq i' hi'
    have hI := hc.I
    refine ⟨?_, ?_, h1.2.2⟩
    · by_cases z : nI i = nI i' ∧ ¬ (m 37 (iC rho) < 1 ∨ 2 < m 37 (iC rho))
      · rw [if_pos z]
        have e : i = i' := (nI_inj (by omega) (by omega)).mp z.1
        rw [← e] at h1 ⊢
        rcases n37 with q | q | q
        · refine absurd ?_ q
          rw [← not_lt32]
          exact fun y => z.2 (Or.inr y)
        · omega
        · rw [q.1] at z
          exact absurd (Or.inl (by decide)) z.2
      · rw [if_neg z]
        exact h1.1
    · by_cases z : nI i = nI i' ∧ ¬ (m 37 (iC rho) < 0 ∨ 0 < m 37 (iC rho))
      · rw [if_pos z]
        have e : i = i' := (nI_inj (by omega) (by omega)).mp z.1
        rw [← e] at h1 ⊢
        rcases n37 with q | q | q
        · refine absurd ?_ q
          have h0 : ¬ 0 < m 37 (iC rho) := fun y => z.2 (Or.inr y)
          rw [Int32.lt_iff_toInt_lt] at h0
          rw [Int32.le_iff_toInt_le]
          have e0 : (0 : Int32).toInt = 0 := by decide
          have e2 : (2 : Int32).toInt = 2 := by decide
          omega
        · rw [q.1] at z
          exact absurd (Or.inr (by decide)) z.2
        · omega
      · rw [if_neg z]
        exact h1.2.1
  · rw [eR] at hr'
    rw [g 56 rfl, g 55 rfl, g 54 rfl, g 57 rfl, g 58 rfl, g 0 rfl, eC]
    obtain ⟨b1, b2, b3, b4, b5, b6, b7, b8⟩ := hr r hr'
    refine ⟨b1, b2, b3, b4, b5, b6, fun z => ?_, b8⟩
    obtain ⟨k, hk, e⟩ := b7 z
    exact ⟨k, by omega, by rw [f32 k (by omega)]; exact e⟩
  · unfold JS
    rw [g 0 rfl, g 1 rfl, g 2 rfl, g 13 rfl, g 15 rfl, g 20 rfl, g 7 rfl, eI]
    exact hs
  · rw [eP] at hp
    rw [n61]
    exact hm p hp
  · intro F hF
    rcases hF with rfl | rfl | rfl
    · exact g 17 rfl
    · exact g 18 rfl
    · exact g 19 rfl
theorem eqd_J6 (h : EqD rho rho') (hj : J6 PR rho) : J6 PR rho' := ⟨h.qs.jC hj.1, h.jL hj.2.1, h.qs.jQ hj.2.2.1, h.qs.jR hj.2.2.2.1, h.qs.jS hj.2.2.2.2.1, h.jM hj.2.2.2.2.2⟩
theorem TP.kp {o : Nat} {m : RH} (ht : TP o rho) (hk : Kp rho m) (h1 : iC rho ≤ iC m) (h2 : iP rho ≤ iP m) (h3 : o < 400 → m 37 o = rho 37 o) : TP o m := by
  have eR : iR m = iR rho := by unfold iR; rw [hk 51 rfl]
  rcases ht with h | h | h
  · exact Or.inl ⟨h.1, by omega, by rw [h3 h.1]; exact h.2.2⟩
  · exact Or.inr (Or.inl ⟨h.1, h.2.1, by omega, by rw [hk 0 rfl, hk 54 rfl]; exact h.2.2.2⟩)
  · exact Or.inr (Or.inr ⟨h.1, h.2.1, by omega⟩)
/-- what a try, behind its budget, keeps -/
def KT (rho m : RH) : Prop := TT rho m ∧ Kp rho m ∧ (∀ j, j < iC rho → m 37 j = rho 37 j) ∧ (∀ j, j < iC rho ∨ 400 ≤ j → m 46 j = rho 46 j) ∧ Fs m = Fs rho ∧ (∀ F, F = 17 ∨ F = 18 ∨ F = 19 → m F = rho F)
theorem eqd_KT (h : EqD rho rho') (hc : JC rho) : KT rho rho' := ⟨h.qs.tT, h.qs.kp, fun j _ => h.2.2.2.1 j, fun j _ => h.2.1 j, h.qs.eF hc, fun F hF => by
  rcases hF with rfl | rfl | rfl
  · exact h.qs.f 17 rfl
  · exact h.qs.f 18 rfl
  · exact h.qs.f 19 rfl⟩
theorem KT.tr {a b c : RH} (h : KT a b) (h2 : KT b c) : KT a c := ⟨h.1.tr h2.1, h.2.1.tr h2.2.1, fun j hj => (h2.2.2.1 j (Nat.lt_of_lt_of_le hj h.1.1.1)).trans (h.2.2.1 j hj), fun j hj => (h2.2.2.2.1 j (hj.imp (fun z => Nat.lt_of_lt_of_le z h.1.1.1) id)).trans (h.2.2.2.1 j hj), h2.2.2.2.2.1.trans h.2.2.2.2.1, fun F hF => (h2.2.2.2.2.2 F hF).trans (h.2.2.2.2.2 F hF)⟩
theorem nq_J {o : Nat} {m : RH} (hj : J6 PR rho) (ht : TP o rho) (h : EqD rho m ∨ NQ o rho m) : J6 PR m ∧ KT rho m := by
  rcases h with h | ⟨b, hn, h⟩
  · exact ⟨eqd_J6 h hj, eqd_KT h hj.1⟩
  · obtain ⟨a1, a2, a3, a4, a5, a6, a7⟩ := new_J hj ht hn
    have h4 : iC rho < 400 := by
      obtain ⟨i, -, h4, -⟩ := hn
      exact h4
    exact ⟨eqd_J6 h a1, KT.tr ⟨a2, a3, a4, fun j hj => a5 j (by omega), a6, a7⟩ (eqd_KT h a1.1)⟩
theorem JS.jO (h : JS rho) : JO rho := h.2.2.2.2.2
theorem JS.jP (h : JS rho) : JP rho := fun p hp => (h.2.2.2.1 p hp).1
theorem pc_t155 {o c : Nat} {x4 s2 s3 : Int32} (hj : J6 PR rho) (ht : TP o rho) (hc7 : c < 7) : PC (b9_tries_155 (nI o) (nI c) x4 (nI o) s2 s3 rho) (fun _ m => J6 PR m ∧ KT rho m) := by
  unfold b9_tries_155
  refine pc_ck (fun _ => ?_)
  refine pc_wr ?_
  refine pc_ob (pcd_f9_wantedVersion (rho0 := rho) (eqd_w EqD.rf rfl)) (fun r m h => ?_)
  have hj2 := eqd_J6 h hj
  have ht2 : TP o m := ht.kp h.qs.kp (by rw [h.qs.eC]; exact Nat.le_refl _) h.qs.2.2.1 (fun _ => h.2.2.2.1 o)
  have fin : ∀ s0, (s0 = -1 ∨ ∃ i, i < iI m ∧ s0 = nI i ∧ m 7 i = x4) → PC (b9_tries_189 (nI o) (nI c) x4 s0 m) (fun _ m => J6 PR m ∧ KT rho m) := fun s0 hs => (pc_t189 hj2.1 hj2.2.2.2.2.1.jO hj2.2.1 hj2.2.2.2.2.1.jP hj2.2.2.2.2.1.1 ht2 hc7 hs).mono (fun _ m3 h3 => by
    obtain ⟨b1, b2⟩ := nq_J hj2 ht2 h3
    exact ⟨b1, (eqd_KT h hj.1).tr b2⟩)
  refine pc_if (fun _ => fin _ (Or.inl rfl)) (fun _ => ?_)
  refine pc_ob (pc_chosen hj2.1) (fun r m2 h2 => ?_)
  obtain ⟨rfl, h2⟩ := h2
  exact fin _ h2
theorem pc_t100 {o c : Nat} {x2 x4 : Int32} (hj : J6 PR rho) (ht : TP o rho) (hc7 : c < 7) : PC (b9_tries_100 (nI o) x2 (nI c) x4 rho) (fun _ m => J6 PR m ∧ KT rho m) := by
  have k127 : ∀ s2, PC (b9_tries_127 (nI o) x2 (nI c) x4 (nI o) s2 rho) (fun _ m => J6 PR m ∧ KT rho m) := fun s2 => by
    unfold b9_tries_127
    refine pc_ck (fun _ => ?_)
    refine pc_wr ?_
    refine pc_ck (fun _ => ?_)
    refine pc_wr ?_
    have hE : EqD rho (up2 (up2 rho 47 (nI o).toNatClampNeg s2) 48 (nI o).toNatClampNeg (up2 rho 47 (nI o).toNatClampNeg s2 48 (nI o).toNatClampNeg + 1)) := eqd_w (eqd_w EqD.rf rfl) rfl
    generalize up2 (up2 rho 47 (nI o).toNatClampNeg s2) 48 (nI o).toNatClampNeg (up2 rho 47 (nI o).toNatClampNeg s2 48 (nI o).toNatClampNeg + 1) = B at hE ⊢
    have ht2 : TP o B := ht.kp hE.qs.kp (by rw [hE.qs.eC]; exact Nat.le_refl _) hE.qs.2.2.1 (fun _ => hE.2.2.2.1 o)
    have fin : ∀ s2 s3, PC (b9_tries_155 (nI o) (nI c) x4 (nI o) s2 s3 B) (fun _ m => J6 PR m ∧ KT rho m) := fun s2 s3 => (pc_t155 (eqd_J6 hE hj) ht2 hc7).mono (fun _ _ h => ⟨h.1, (eqd_KT hE hj.1).tr h.2⟩)
    exact pc_if (fun _ => fin _ _) (fun _ => fin _ _)
  unfold b9_tries_100
  exact pc_ck (fun _ => pc_if (fun _ => k127 _) (fun _ => k127 _))
end PN9
