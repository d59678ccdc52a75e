/-! calls, requests and repairs go on -/
section PG9
variable {rho rho' : RH} {P S PR : Nat → Prop}
theorem JJ.j6 (h : JJ AL9 NO9 PR rho) : J6 PR rho := ⟨h.1, h.2.1, h.2.2.1, h.2.2.2.2.1, h.2.2.2.2.2.1, h.2.2.2.2.2.2⟩
theorem J6.jj (h : J6 PR rho) (hb : JB (Fs rho) (iR rho) rho) : JJ AL9 NO9 PR rho := ⟨h.1, h.2.1, h.2.2.1, hb, h.2.2.2.1, h.2.2.2.2.1, h.2.2.2.2.2⟩
theorem fs_le (h : JC rho) : Fs rho ≤ 4 * 400 := by
  have hC := h.C
  have : ∀ n, n ≤ iC rho → ((List.range n).map (sc rho)).sum ≤ 4 * n := by
    intro n
    induction n with
    | zero => intro _; simp
    | succ n ih =>
      intro hn
      have h1 := ih (by omega)
      rw [List.range_succ, List.map_append, List.sum_append]
      have h2 : (List.map (sc rho) [n]).sum = sc rho n := by simp
      have h3 : sc rho n < 5 := (h.2.2.2 n (by omega)).2.2.2.2.lt (by omega)
      omega
  have h9 := this (iC rho) (Nat.le_refl _)
  unfold Fs
  omega
theorem sum_upd {f g : Nat → Nat} {k : Nat} (h1 : ∀ j, j ≠ k → g j = f j) (h2 : g k = f k + 1) : ∀ n, k < n → ((List.range n).map g).sum = ((List.range n).map f).sum + 1 := by
  intro n
  induction n with
  | zero => intro h; omega
  | succ n ih =>
    intro hn
    rw [List.range_succ, List.map_append, List.map_append, List.sum_append, List.sum_append]
    have e1 : (List.map g [n]).sum = g n := by simp
    have e2 : (List.map f [n]).sum = f n := by simp
    rw [e1, e2]
    by_cases z : n = k
    · rw [z, h2]
      have : List.map g (List.range k) = List.map f (List.range k) := List.map_congr_left (fun j hj => h1 j (by have := List.mem_range.mp hj; omega))
      rw [this]
      omega
    · rw [ih (by omega), h1 n z]
      omega
/-- what is kept while something goes on -/
def KG (rho m : RH) : Prop := TT rho m ∧ Kp rho m
theorem KG.tr {a b c : RH} (h : KG a b) (h2 : KG b c) : KG a c := ⟨h.1.tr h2.1, h.2.tr h2.2⟩
theorem KG.rf : KG rho rho := ⟨TT.rf, Kp.rf⟩
theorem EqS.kg (h : EqS rho rho') : KG rho rho' := ⟨h.tT, h.kp⟩
theorem KB.kg (h : KB rho rho') : KG rho rho' := ⟨h.1, h.2.1⟩
theorem Kp.eR (h : Kp rho rho') : iR rho' = iR rho := by unfold iR; rw [h 51 rfl]
theorem cal_kg {o : Nat} (h : KG rho rho') (ho : o < 440) (ho2 : o < 400 → o < iC rho) : cal rho' o = cal rho o := by
  unfold cal
  by_cases z : o < 400
  · rw [if_pos z, if_pos z]
    exact (h.1.1.2.2.2.2.1 o (ho2 z)).2.1
  · rw [if_neg z, if_neg z, if_pos ho, if_pos ho]
theorem pc_begins {k : Nat} (hj : JJ AL9 NO9 PR rho) (hk : k < iC rho) (h37 : rho 37 k = 2) (hs : sc rho k ≤ 3) : PC (f9_begins (nI k) rho) (fun _ m => JJ AL9 NO9 PR m ∧ KG rho m ∧ m 37 k = 2) := by
  have hC := hj.1.C
  have hF := fs_le hj.1
  have hR := hj.1.R
  unfold f9_begins
  refine pc_ck (fun _ => ?_)
  refine pc_wr ?_
  refine pc_wr ?_
  refine pc_wr ?_
  rw [nI_clamp (n := k) (by omega)]
  have e46 : rho 46 k + 1 = nI (sc rho k) := ((hj.1.2.2.2 k hk).2.2.2.2).eq (by omega)
  have f46 : ∀ j, (up2 (up2 (up2 rho 46 k (rho 46 k + 1)) 48 k 0) 49 k 0) 46 j = if j = k then rho 46 k + 1 else rho 46 j := fun j => rfl
  have hsc : ∀ j, j ≠ k → sc (up2 (up2 (up2 rho 46 k (rho 46 k + 1)) 48 k 0) 49 k 0) j = sc rho j := fun j z => by
    unfold sc
    rw [f46, if_neg z]
  have hsk : sc (up2 (up2 (up2 rho 46 k (rho 46 k + 1)) 48 k 0) 49 k 0) k = sc rho k + 1 := by
    show nv ((up2 (up2 (up2 rho 46 k (rho 46 k + 1)) 48 k 0) 49 k 0) 46 k + 1) = _
    rw [f46, if_pos rfl, e46, nI_1, nv_nI (by omega)]
  have hj2 : J6 PR (up2 (up2 (up2 rho 46 k (rho 46 k + 1)) 48 k 0) 49 k 0) := by
    refine ⟨⟨hj.1.1, hj.1.2.1, hj.1.2.2.1, fun j hj9 => ?_⟩, hj.2.1, hj.2.2.1, hj.2.2.2.2.1, hj.2.2.2.2.2.1, hj.2.2.2.2.2.2⟩
    obtain ⟨a1, a2, a3, a4, a5⟩ := hj.1.2.2.2 j hj9
    refine ⟨a1, a2, a3, a4, ?_⟩
    rw [f46]
    by_cases z : j = k
    · rw [if_pos z, e46, nI_1]
      exact ⟨_, by omega, rfl⟩
    · rw [if_neg z]
      exact a5
  have hFs : Fs (up2 (up2 (up2 rho 46 k (rho 46 k + 1)) 48 k 0) 49 k 0) = Fs rho + 1 := sum_upd hsc hsk _ hk
  have hb : JB (Fs rho) (iR rho) (up2 (up2 (up2 rho 46 k (rho 46 k + 1)) 48 k 0) 49 k 0) := hj.2.2.2.1
  have hK : KG rho (up2 (up2 (up2 rho 46 k (rho 46 k + 1)) 48 k 0) 49 k 0) := by
    refine ⟨⟨⟨Nat.le_refl _, Nat.le_refl _, Nat.le_refl _, Nat.le_refl _, fun k _ => ⟨rfl, rfl, rfl, rfl, rfl, fun _ => rfl⟩, fun _ _ _ => rfl, fun _ z => z, fun c' _ => ⟨Nat.le_refl _, Nat.le_refl _⟩, fun _ _ => ⟨rfl, rfl, rfl⟩⟩, fun _ => rfl⟩, fun F hF => ?_⟩
    have h1 : F ∈ kf := List.contains_iff_mem.mp hF
    have h2 : ∀ G, G ∈ kf → G ≠ 46 ∧ G ≠ 48 ∧ G ≠ 49 := by decide
    funext j
    rw [up2_f _ _ _ _ (h2 F h1).2.2, up2_f _ _ _ _ (h2 F h1).2.1, up2_f _ _ _ _ (h2 F h1).1]
  have h37' : (up2 (up2 (up2 rho 46 k (rho 46 k + 1)) 48 k 0) 49 k 0) 37 k = 2 := h37
  have hC' : iC (up2 (up2 (up2 rho 46 k (rho 46 k + 1)) 48 k 0) 49 k 0) = iC rho := rfl
  generalize up2 (up2 (up2 rho 46 k (rho 46 k + 1)) 48 k 0) 49 k 0 = B at hj2 hFs hb hK h37' hC' ⊢
  refine pc_ob (pc_tries0 (F := Fs rho) (q := iR rho) hj2 (Or.inl ⟨by omega, by omega, h37'⟩) (by omega) hb (by omega) (by omega)) (fun _ m h => pc_some ?_)
  obtain ⟨b1, b2, b3⟩ := h
  rw [if_pos (by omega), if_pos (by omega)] at b2
  refine ⟨b1.jj ?_, hK.tr b3.kg, (b3.2.2.1 k (by omega)).trans h37'⟩
  rw [b3.2.2.2.2, hFs, b3.2.1.eR, hK.2.eR]
  exact b2
theorem jj_kb {m : RH} (hb : JB (Fs rho) (iR rho) m) (h6 : J6 PR m) (hk : KB rho m) : JJ AL9 NO9 PR m := h6.jj (by rw [hk.2.2.2.2, hk.2.1.eR]; exact hb)
/-- what goesStep gives -/
def GS (o : Nat) (PR : Nat → Prop) (rho : RH) (r : Int32) (m : RH) : Prop := JJ AL9 NO9 PR m ∧ KG rho m ∧ (o < 400 → m 37 o = rho 37 o) ∧ (r = 0 ∨ r = 2 ∨ (r = 1 ∧ ∃ k, k < iC m ∧ m 32 k = nI o))
theorem GS.of {o : Nat} {r : Int32} {m b : RH} (h : GS o PR b r m) (hk : KG rho b) (h3 : o < 400 → b 37 o = rho 37 o) : GS o PR rho r m := ⟨h.1, hk.tr h.2.1, fun z => (h.2.2.1 z).trans (h3 z), h.2.2.2⟩
theorem pc_goesL {o c : Nat} {x3 : Int32} (ho : o < 440) (hc : c < 7) : ∀ (n : Nat) (rho : RH), JJ AL9 NO9 PR rho → TP o rho → cal rho o = nI c → PC (l9_goesStep_12 n (nI o) (nI c) x3 rho) (GS o PR rho) := by
  intro n
  induction n with
  | zero =>
    intro rho hj ht hcal
    rw [l9_goesStep_12]
    exact pc_none
  | succ n ih =>
    intro rho hj ht hcal
    have hC := hj.1.C
    have hF := fs_le hj.1
    have hR := hj.1.R
    have hol : o < 400 → o < iC rho := fun z => by
      rcases ht with h | h | h
      · exact h.2.1
      · omega
      · omega
    rw [l9_goesStep_12]
    refine pc_ob (pcd_f9_looks (rho0 := rho) EqD.rf) (fun r1 B h => ?_)
    obtain ⟨hE, hr⟩ := h
    have hjB : JJ AL9 NO9 PR B := hE.jJ hj
    have hKB : KG rho B := hE.qs.kg
    have h37B : o < 400 → B 37 o = rho 37 o := fun _ => hE.2.2.2.1 o
    have hcB : iC B = iC rho := hE.qs.eC
    have htB : TP o B := ht.kp hE.qs.kp (by omega) hE.qs.2.2.1 h37B
    have hcalB : cal B o = nI c := (cal_kg hKB ho hol).trans hcal
    have fin : ∀ r : Int32, r = 0 ∨ r = 2 → GS o PR rho r B := fun r z => ⟨hjB, hKB, h37B, z.imp id Or.inl⟩
    have tr : ∀ x2 : Int32, (x2 = 1 ∨ x2 = 2) → ¬ B 17 c < 100 → PC (f9_tries (nI o) x2 B) (fun _ m => GS o PR B 0 m ∧ TP o m ∧ cal m o = nI c) := fun x2 hx hp => (pc_tries1 (F := Fs B) (q := iR B) hjB.j6 htB ho hjB.2.2.2.1 (by rw [hE.qs.eF hj.1]; omega) (by rw [hE.qs.eR]; omega) hx hcalB hc hp).mono (fun _ m h => by
      obtain ⟨b1, b2, b3⟩ := h
      have h3 : o < 400 → m 37 o = B 37 o := fun z => b3.2.2.1 o (by have := hol z; omega)
      exact ⟨⟨jj_kb b2 b1 b3, b3.kg, h3, Or.inl rfl⟩, htB.kp b3.2.1 b3.1.1.1 b3.1.1.2.2.2.1 h3, (cal_kg b3.kg ho (fun z => by have := hol z; omega)).trans hcalB⟩)
    have again : ¬ B 17 c < 100 → PC (ob (f9_tries (nI o) 1 B) fun _ r => l9_goesStep_12 n (nI o) (nI c) x3 r) (GS o PR rho) := fun hp => pc_ob (tr 1 (Or.inl rfl) hp) (fun _ m h => (ih m h.1.1 h.2.1 h.2.2).mono (fun _ _ q => (q.of h.1.2.1 h.1.2.2.1).of hKB h37B))
    refine pc_if (fun _ => ?_) (fun hr1 => ?_)
    · refine pc_ro ro_f9_hasOutOf (fun r5 => ?_)
      refine pc_if (fun _ => ?_) (fun _ => ?_)
      · refine pc_ck (fun _ => ?_)
        refine pc_ro ro_f9_policyOf (fun r10 => ?_)
        refine pc_if (fun _ => pc_some (fin 2 (Or.inr rfl))) (fun _ => ?_)
        refine pc_if (fun _ => ?_) (fun _ => ?_)
        · refine pc_ck (fun _ => ?_)
          rw [nI_clamp (n := c) (by omega)]
          exact pc_if (fun _ => pc_some (fin 2 (Or.inr rfl))) (fun hp => again hp)
        · refine pc_ro ro_f9_isSafeOf (fun r20 => ?_)
          refine pc_if (fun _ => pc_some (fin 2 (Or.inr rfl))) (fun _ => ?_)
          refine pc_ck (fun _ => ?_)
          rw [nI_clamp (n := c) (by omega)]
          exact pc_if (fun _ => pc_some (fin 2 (Or.inr rfl))) (fun hp => again hp)
      · refine pc_ro ro_f9_policyOf (fun r10 => ?_)
        refine pc_ro ro_f9_isSafeOf (fun r20 => ?_)
        refine pc_if (fun _ => pc_some (fin 0 (Or.inl rfl))) (fun _ => ?_)
        refine pc_if (fun _ => pc_some (fin 0 (Or.inl rfl))) (fun _ => ?_)
        refine pc_ck (fun _ => ?_)
        refine pc_if (fun _ => pc_some (fin 0 (Or.inl rfl))) (fun _ => ?_)
        refine pc_if (fun _ => ?_) (fun _ => pc_some (fin 0 (Or.inl rfl)))
        refine pc_ck (fun _ => ?_)
        rw [nI_clamp (n := c) (by omega)]
        refine pc_if (fun _ => pc_some (fin 0 (Or.inl rfl))) (fun hp => ?_)
        exact pc_ob (tr 2 (Or.inr rfl) hp) (fun _ m h => pc_some (h.1.of hKB h37B))
    · obtain ⟨-, k, hk, hk1, hk2⟩ := hr.resolve_left hr1
      have hk9 : k < iC rho := by
        rw [hC.1, nI_leI (by omega) (by omega)] at hk1
        omega
      refine pc_ob (pc_turnsOff hjB.1 hjB.2.2.2.2.2.1.jO hjB.2.2.2.2.2.2 hjB.2.1 ht.lt) (fun _ m h => pc_some ?_)
      obtain ⟨b1, b2, b3, b4⟩ := h
      have hKm : KG rho m := hKB.tr b1.kg
      refine ⟨b1.jJ hjB b2 b4, hKm, fun z => (b3 z o (Nat.le_refl _)).trans (h37B z), Or.inr (Or.inr ⟨rfl, k, Nat.lt_of_lt_of_le hk9 hKm.1.1.1, ?_⟩)⟩
      rw [(hKm.1.1.2.2.2.2.1 k hk9).1]
      exact hk2
theorem pc_goesStep {o : Nat} (ho : o < 440) (hj : JJ AL9 NO9 PR rho) (ht : TP o rho) : PC (f9_goesStep (nI o) rho) (GS o PR rho) := by
  unfold f9_goesStep
  refine pc_ob (pc_callerOf hj.j6 ht) (fun r m h => ?_)
  obtain ⟨rfl, rfl, c, hc, ec, -⟩ := h
  rw [ec]
  refine pc_ro ro_f9_calledBy (fun r4 => ?_)
  exact pc_goesL ho hc _ _ hj ht ec
theorem pc_goesCallL {k : Nat} : ∀ (n : Nat) (x2 : Int32) (rho : RH), JJ AL9 NO9 PR rho → k < iC rho → rho 37 k = 2 → PC (l9_goesCall_21 n (nI k) x2 rho) (fun _ m => JJ AL9 NO9 PR m ∧ KG rho m) := by
  intro n
  induction n with
  | zero =>
    intro x2 rho hj hk h37
    rw [l9_goesCall_21]
    exact pc_none
  | succ n ih =>
    intro x2 rho hj hk h37
    have hC := hj.1.C
    have fin : ∀ e : Int32, ¬ e ≤ 2 → PC (ob (f9_endsCall (nI k) e rho) fun _ r => some (0, r)) (fun _ m => JJ AL9 NO9 PR m ∧ KG rho m) := fun e he => pc_ob (pc_endsCall hj.1 hj.2.2.2.2.2.1.jO hj.2.2.2.2.2.2 hj.2.1 hk (by rw [h37]; decide) he) (fun _ m h => pc_some ⟨h.1.jJ hj h.2.1 h.2.2.2.2, h.1.kg⟩)
    rw [l9_goesCall_21]
    refine pc_if (fun _ => ?_) (fun _ => pc_if (fun _ => pc_some ⟨hj, KG.rf⟩) (fun _ => fin 4 (by decide)))
    refine pc_ck (fun _ => ?_)
    refine pc_ck (fun _ => ?_)
    refine pc_ck (fun cs => ?_)
    rw [nI_clamp (n := k) (by omega)] at cs ⊢
    refine pc_if (fun _ => pc_if (fun _ => pc_some ⟨hj, KG.rf⟩) (fun _ => fin 3 (by decide))) (fun cp => ?_)
    obtain ⟨s, hs, es⟩ := vq_ix cs (by omega)
    rw [es, nI_clamp (by omega)] at cp
    have e46 : rho 46 k + 1 = nI (sc rho k) := ((hj.1.2.2.2 k hk).2.2.2.2).eq (by omega)
    have hsc5 : sc rho k < 5 := ((hj.1.2.2.2 k hk).2.2.2.2).lt (by omega)
    have hs3 : sc rho k ≤ 3 := by
      obtain ⟨p, hp, ep⟩ := (hj.2.2.2.2.2.1.2.1 s hs).2
      have e46' : rho 46 k = nI (sc rho k) - 1 := by rw [← e46, Int32.add_sub_cancel]
      rw [ep, e46', Int32.le_iff_toInt_le, Int32.toInt_sub, Int32.toInt_sub, nI_toInt (by omega), nI_toInt (by omega)] at cp
      have e1 : (1 : Int32).toInt = 1 := by decide
      rw [e1, Int.bmod_eq_of_le (by omega) (by omega), Int.bmod_eq_of_le (by omega) (by omega)] at cp
      omega
    refine pc_ob (pc_begins hj hk h37 hs3) (fun _ m h => ?_)
    obtain ⟨b1, b2, b3⟩ := h
    have hk2 : k < iC m := Nat.lt_of_lt_of_le hk b2.1.1.1
    refine pc_ob (pc_goesStep (by omega) b1 (Or.inl ⟨by omega, hk2, b3⟩)) (fun r m2 h => ?_)
    refine (ih r m2 h.1 (Nat.lt_of_lt_of_le hk2 h.2.1.1.1.1) ((h.2.2.1 (by omega)).trans b3)).mono (fun _ m3 q => ⟨q.1, (b2.tr h.2.1).tr q.2⟩)
theorem pc_goesCall {k : Nat} (hj : JJ AL9 NO9 PR rho) (hk : k < iC rho) (h37 : rho 37 k = 2) : PC (f9_goesCall (nI k) rho) (fun _ m => JJ AL9 NO9 PR m ∧ KG rho m) := by
  have hC := hj.1.C
  unfold f9_goesCall
  refine pc_ck (fun _ => ?_)
  rw [nI_clamp (n := k) (by omega)]
  refine pc_if (fun c => ?_) (fun _ => ?_)
  · have hs : sc rho k ≤ 3 := by
      unfold sc
      rw [c]
      decide
    refine pc_ob (pc_begins hj hk h37 hs) (fun _ m h => ?_)
    obtain ⟨b1, b2, b3⟩ := h
    have hk2 : k < iC m := Nat.lt_of_lt_of_le hk b2.1.1.1
    refine pc_ob (pc_goesStep (by omega) b1 (Or.inl ⟨by omega, hk2, b3⟩)) (fun r m2 h => ?_)
    refine (pc_goesCallL FU r m2 h.1 (Nat.lt_of_lt_of_le hk2 h.2.1.1.1.1) ((h.2.2.1 (by omega)).trans b3)).mono (fun _ m3 q => ⟨q.1, (b2.tr h.2.1).tr q.2⟩)
  · refine pc_ob (pc_goesStep (by omega) hj (Or.inl ⟨by omega, hk, h37⟩)) (fun r m2 h => ?_)
    refine (pc_goesCallL FU r m2 h.1 (Nat.lt_of_lt_of_le hk h.2.1.1.1.1) ((h.2.2.1 (by omega)).trans h37)).mono (fun _ m3 q => ⟨q.1, h.2.1.tr q.2⟩)
end PG9
