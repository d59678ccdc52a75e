/-! requests end, repairs go on, work ends, queues move -/
section PQ9
variable {rho rho' : RH} {P S PR : Nat → Prop}
/-- what is kept through a tick's stages -/
def KQ (rho m : RH) : Prop := TT rho m ∧ m 0 = rho 0 ∧ m 54 = rho 54 ∧ m 51 = rho 51 ∧ m 55 = rho 55 ∧ m 64 = rho 64
theorem KQ.rf : KQ rho rho := ⟨TT.rf, rfl, rfl, rfl, rfl, rfl⟩
theorem KQ.tr {a b c : RH} (h : KQ a b) (h2 : KQ b c) : KQ a c := ⟨h.1.tr h2.1, h2.2.1.trans h.2.1, h2.2.2.1.trans h.2.2.1, h2.2.2.2.1.trans h.2.2.2.1, h2.2.2.2.2.1.trans h.2.2.2.2.1, h2.2.2.2.2.2.trans h.2.2.2.2.2⟩
theorem KG.kq (h : KG rho rho') : KQ rho rho' := ⟨h.1, h.2 0 rfl, h.2 54 rfl, h.2 51 rfl, h.2 55 rfl, h.2 64 rfl⟩
theorem KQ.eR (h : KQ rho rho') : iR rho' = iR rho := by unfold iR; rw [h.2.2.2.1]
theorem er_J {r : Nat} {e v : Int32} (hj : JJ AL9 NO9 PR rho) (hr : r < iR rho) (h8 : rho 56 r = 8) (he : e = 3 ∨ e = 4 ∨ e = 5) (h3 : e = 3 → ∃ k, k < iC rho ∧ rho 32 k = nI (400 + r)) (hv : e ≠ 3 → v = 1) :
    JJ AL9 NO9 PR (up2 (up2 (up2 rho 56 r e) 57 r (rho 0 0)) 58 r v) ∧ KQ rho (up2 (up2 (up2 rho 56 r e) 57 r (rho 0 0)) 58 r v) := by
  refine ⟨⟨hj.1, hj.2.1, hj.2.2.1, hj.2.2.2.1, fun q hq => ?_, hj.2.2.2.2.2.1, hj.2.2.2.2.2.2⟩, ⟨⟨Nat.le_refl _, Nat.le_refl _, Nat.le_refl _, Nat.le_refl _, fun k _ => ⟨rfl, rfl, rfl, rfl, rfl, fun _ => rfl⟩, fun q _ h => ?_, fun _ z => z, fun _ _ => ⟨Nat.le_refl _, Nat.le_refl _⟩, fun _ _ => ⟨rfl, rfl, rfl⟩⟩, fun _ => rfl⟩, rfl, rfl, rfl, rfl, rfl⟩
  · have f56 : (up2 (up2 (up2 rho 56 r e) 57 r (rho 0 0)) 58 r v) 56 q = if q = r then e else rho 56 q := rfl
    have f57 : (up2 (up2 (up2 rho 56 r e) 57 r (rho 0 0)) 58 r v) 57 q = if q = r then rho 0 0 else rho 57 q := rfl
    have f58 : (up2 (up2 (up2 rho 56 r e) 57 r (rho 0 0)) 58 r v) 58 q = if q = r then v else rho 58 q := rfl
    have f55 : (up2 (up2 (up2 rho 56 r e) 57 r (rho 0 0)) 58 r v) 55 q = rho 55 q := rfl
    have f54 : (up2 (up2 (up2 rho 56 r e) 57 r (rho 0 0)) 58 r v) 54 q = rho 54 q := rfl
    have f0 : (up2 (up2 (up2 rho 56 r e) 57 r (rho 0 0)) 58 r v) 0 0 = rho 0 0 := rfl
    obtain ⟨b1, b2, b3, b4, b5, b6, b7, b8⟩ := hj.2.2.2.2.1 q hq
    rw [f56, f57, f58, f55, f54, f0]
    by_cases z : q = r
    · subst z
      rw [if_pos rfl, if_pos rfl, if_pos rfl]
      have e8 : e ≠ 8 := by rcases he with rfl | rfl | rfl <;> decide
      exact ⟨by rcases he with h | h | h <;> simp [h], b2, b3, b4, fun z => absurd z e8, fun _ => ⟨b3, (b5 h8).1, Int32.le_refl _⟩, fun z => h3 z, fun _ z => hv z⟩
    · rw [if_neg z, if_neg z, if_neg z]
      exact ⟨b1, b2, b3, b4, b5, b6, b7, b8⟩
  · show (if q = r then e else rho 56 q) = rho 56 q
    rw [if_neg (fun z => h (by rw [z]; exact h8))]
theorem pc_endsRequest {r : Nat} {e : Int32} (hj : JJ AL9 NO9 PR rho) (hr : r < iR rho) (h8 : rho 56 r = 8) (he : e = 3 ∨ e = 4 ∨ e = 5) (h3 : e = 3 → ∃ k, k < iC rho ∧ rho 32 k = nI (400 + r)) : PC (f9_endsRequest (nI r) e rho) (fun _ m => JJ AL9 NO9 PR m ∧ KQ rho m ∧ m 56 r = e) := by
  have hR := hj.1.R
  unfold f9_endsRequest
  refine pc_ck (fun _ => ?_)
  refine pc_wr ?_
  refine pc_wr ?_
  simp only [nI_clamp (n := r) (by omega)]
  refine pc_ck (fun _ => ?_)
  have key : ∀ v, (e ≠ 3 → v = 1) → PC (ob (f9_turnsOff (400 + nI r) (up2 (up2 (up2 rho 56 r e) 57 r (rho 0 0)) 58 r v)) fun _ r9 => some (0, r9)) (fun _ m => JJ AL9 NO9 PR m ∧ KQ rho m ∧ m 56 r = e) := fun v hv => by
    obtain ⟨b1, b2⟩ := er_J hj hr h8 he h3 hv
    have h56 : (up2 (up2 (up2 rho 56 r e) 57 r (rho 0 0)) 58 r v) 56 r = e := by
      show (if r = r then e else rho 56 r) = e
      rw [if_pos rfl]
    generalize up2 (up2 (up2 rho 56 r e) 57 r (rho 0 0)) 58 r v = B at b1 b2 h56 ⊢
    rw [l400, nI_k]
    refine pc_ob (pc_turnsOff b1.1 b1.2.2.2.2.2.1.jO b1.2.2.2.2.2.2 b1.2.1 (by omega)) (fun _ m h => pc_some ?_)
    exact ⟨h.1.jJ b1 h.2.1 h.2.2.2, b2.tr h.1.kg.kq, (h.1.1 56 r (df rfl)).trans h56⟩
  refine pc_if (fun _ => pc_wr (key 1 (fun _ => rfl))) (fun _ => ?_)
  refine pc_if (fun c => ?_) (fun c => pc_wr (key 1 (fun _ => rfl)))
  exact pc_if (fun _ => pc_wr (key 0 (fun z => absurd c z))) (fun _ => pc_wr (key 1 (fun _ => rfl)))
theorem pc_goesRequest {r : Nat} (hj : JJ AL9 NO9 PR rho) (hr : r < iR rho) (h8 : rho 56 r = 8) (ht : rho 0 0 < rho 54 r) : PC (f9_goesRequest (nI r) rho) (fun _ m => JJ AL9 NO9 PR m ∧ KQ rho m) := by
  have hR := hj.1.R
  unfold f9_goesRequest
  rw [l400, nI_k]
  refine pc_ob (pc_goesStep (by omega) hj (Or.inr (Or.inl ⟨by omega, by omega, by rw [Nat.add_sub_cancel_left]; exact hr, by rw [Nat.add_sub_cancel_left]; exact ht⟩))) (fun r1 m h => ?_)
  obtain ⟨b1, b2, -, b4⟩ := h
  have hr2 : r < iR m := by rw [b2.2.eR]; exact hr
  have h82 : m 56 r = 8 := by rw [b2.2 56 rfl]; exact h8
  refine pc_if (fun _ => pc_some ⟨b1, b2.kq⟩) (fun c1 => ?_)
  refine pc_if (fun c2 => ?_) (fun _ => ?_)
  · have h3 : ∃ k, k < iC m ∧ m 32 k = nI (400 + r) := by
      rcases b4 with z | z | z
      · rw [z] at c1
        exact absurd (by decide) c1
      · rw [z] at c2
        exact absurd c2 (by decide)
      · exact z.2
    exact pc_ob (pc_endsRequest b1 hr2 h82 (Or.inl rfl) (fun _ => h3)) (fun _ m2 h => pc_some ⟨h.1, b2.kq.tr h.2.1⟩)
  · exact pc_ob (pc_endsRequest b1 hr2 h82 (Or.inr (Or.inl rfl)) (fun z => absurd z (by decide))) (fun _ m2 h => pc_some ⟨h.1, b2.kq.tr h.2.1⟩)
theorem pc_goesRepair {p : Nat} (hj : JJ AL9 NO9 PR rho) (hp : p < iP rho) (hp9 : p < 100) : PC (f9_goesRepair (nI p) rho) (fun _ m => JJ AL9 NO9 PR m ∧ KQ rho m) := by
  unfold f9_goesRepair
  rw [l440, nI_k]
  refine pc_ob (pcd_f9_looks (rho0 := rho) EqD.rf) (fun r1 B h => ?_)
  have hE := h.1
  have hjB : JJ AL9 NO9 PR B := hE.jJ hj
  have hKB : KG rho B := hE.qs.kg
  refine pc_if (fun _ => ?_) (fun _ => ?_)
  · refine pc_ro ro_f9_hasOutOf (fun r5 => ?_)
    refine pc_if (fun _ => ?_) (fun _ => pc_some ⟨hjB, hKB.kq⟩)
    refine pc_ob (pc_tries3 hjB.j6 (Or.inr (Or.inr ⟨by omega, by omega, ?_⟩)) hjB.2.2.2.1) (fun _ m h => pc_some ⟨jj_kb h.2.1 h.1 h.2.2, hKB.kq.tr h.2.2.kg.kq⟩)
    rw [Nat.add_sub_cancel_left]
    exact Nat.lt_of_lt_of_le hp hE.qs.2.2.1
  · refine pc_ck (fun _ => ?_)
    refine pc_wr ?_
    refine pc_wr ?_
    rw [nI_clamp (n := p) (by omega)]
    have e60 : (up2 B 63 p 1) 60 0 + 1 = B 60 0 + 1 := rfl
    rw [e60]
    have hj2 : JJ AL9 NO9 PR (up2 (up2 B 63 p 1) 60 0 (B 60 0 + 1)) := hjB
    have hK2 : KQ B (up2 (up2 B 63 p 1) 60 0 (B 60 0 + 1)) := by
      refine ⟨⟨⟨Nat.le_refl _, Nat.le_refl _, Nat.le_refl _, Nat.le_refl _, fun k _ => ⟨rfl, rfl, rfl, rfl, rfl, fun _ => rfl⟩, fun _ _ _ => rfl, fun q z => ?_, fun _ _ => ⟨Nat.le_refl _, Nat.le_refl _⟩, fun _ _ => ⟨rfl, rfl, rfl⟩⟩, fun _ => rfl⟩, rfl, rfl, rfl, rfl, rfl⟩
      show (if q = p then (1 : Int32) else B 63 q) ≠ 0
      by_cases e : q = p
      · rw [if_pos e]
        decide
      · rw [if_neg e]
        exact z
    generalize up2 (up2 B 63 p 1) 60 0 (B 60 0 + 1) = B2 at hj2 hK2 ⊢
    refine pc_ob (pc_turnsOff hj2.1 hj2.2.2.2.2.2.1.jO hj2.2.2.2.2.2.2 hj2.2.1 (by omega)) (fun _ m h => pc_some ?_)
    exact ⟨h.1.jJ hj2 h.2.1 h.2.2.2, (hKB.kq.tr hK2).tr h.1.kg.kq⟩
/-- a call that goes on changes its state -/
def EqL (k : Nat) (v : Int32) (rho m : RH) : Prop := (∀ F j, DF F → m F j = rho F j) ∧ (∀ j, m 46 j = rho 46 j) ∧ m 59 0 = rho 59 0 ∧ (∀ j, m 61 j = rho 61 j) ∧ ∀ j, m 37 j = if j = k then v else rho 37 j
theorem flt_upd {p q : Nat → Bool} {k : Nat} (h1 : ∀ j, j ≠ k → q j = p j) (h2 : p k = false) (h3 : q k = true) : ∀ n, k < n → ((List.range n).filter q).length = ((List.range n).filter p).length + 1 := by
  intro n
  induction n with
  | zero => intro h; omega
  | succ n ih =>
    intro hn
    rw [List.range_succ, List.filter_append, List.filter_append, List.length_append, List.length_append]
    by_cases z : n = k
    · rw [z, List.filter_cons_of_pos (by exact h3), List.filter_cons_of_neg (by rw [h2]; decide)]
      have : List.filter q (List.range k) = List.filter p (List.range k) := List.filter_congr (fun j hj => h1 j (by have := List.mem_range.mp hj; omega))
      rw [this]
      rfl
    · rw [ih (by omega)]
      have : List.filter q [n] = List.filter p [n] := List.filter_congr (fun j hj => h1 j (by rw [List.mem_singleton.mp hj]; exact z))
      rw [this]
      omega
theorem eql_S {k : Nat} {v : Int32} {m : RH} (h : EqL k v rho m) : EqS rho (fun F j => if F = 37 then rho 37 j else m F j) := by
  refine ⟨fun F j hF => ?_, fun j _ => h.2.1 j, ?_, fun j => Or.inl rfl⟩
  · show (if F = 37 then rho 37 j else m F j) = rho F j
    rw [if_neg (df_n hF rfl)]
    exact h.1 F j hF
  · show nv (rho 59 0) ≤ nv (m 59 0)
    rw [h.2.2.1]
    exact Nat.le_refl _
theorem eql_cnt {k : Nat} {v : Int32} {m : RH} (h : EqL k v rho m) (x lo hi : Int32) (hv : ¬ (v < lo ∨ hi < v) → rho 36 k = x → ¬ (rho 37 k < lo ∨ hi < rho 37 k)) : cntI m x lo hi ≤ cntI rho x lo hi := by
  unfold cntI
  have eC : iC m = iC rho := by unfold iC; rw [h.1 31 0 (df rfl)]
  rw [eC]
  refine cnt_mono (fun j _ hj => ?_)
  have hj := of_decide_eq_true hj
  rw [h.1 36 j (df rfl), h.2.2.2.2 j] at hj
  by_cases z : j = k
  · rw [if_pos z] at hj
    subst z
    exact decide_eq_true ⟨hj.1, hv hj.2 hj.1⟩
  · rw [if_neg z] at hj
    exact decide_eq_true hj
theorem eql_cnt1 {k : Nat} {v : Int32} {m : RH} (h : EqL k v rho m) (hk : k < iC rho) (x lo hi : Int32) (hx : rho 36 k = x) (h1 : ¬ (v < lo ∨ hi < v)) (h2 : rho 37 k < lo ∨ hi < rho 37 k) : cntI m x lo hi = cntI rho x lo hi + 1 := by
  unfold cntI
  have eC : iC m = iC rho := by unfold iC; rw [h.1 31 0 (df rfl)]
  rw [eC]
  refine flt_upd (k := k) (fun j hj => ?_) (decide_eq_false (fun z => z.2 h2)) (decide_eq_true ?_) _ hk
  · rw [h.1 36 j (df rfl), h.2.2.2.2 j, if_neg hj]
  · rw [h.1 36 k (df rfl), h.2.2.2.2 k, if_pos rfl]
    exact ⟨hx, h1⟩
theorem eql_J {k : Nat} {v : Int32} {m : RH} (hj : JJ AL9 NO9 PR rho) (h : EqL k v rho m) (hk : k < iC rho) (hl : rho 37 k ≤ 2) (hn : rho 37 k ≠ 2) (hv : v = 1 ∨ v = 2) (hq : ∀ i, i < iI rho → cntI m (nI i) 1 2 ≤ nv (rho 10 i) ∧ cntI m (nI i) 0 0 ≤ nv (rho 11 i)) : JJ AL9 NO9 PR m ∧ KQ rho m := by
  have hS := eql_S h
  have eC : iC m = iC rho := by unfold iC; rw [h.1 31 0 (df rfl)]
  have eI : iI m = iI rho := by unfold iI; rw [h.1 6 0 (df rfl)]
  have eP : iP m = iP rho := by unfold iP; rw [h.2.2.1]
  have f : ∀ F, ([0, 1, 2, 6, 7, 10, 11, 13, 14, 15, 16, 17, 18, 19, 20, 31, 32, 34, 36, 38, 40, 51, 54, 55, 56, 57, 58, 63, 64].contains F) = true → m F = rho F := fun F hF => funext fun j => h.1 F j (df hF)
  refine ⟨⟨(hS.jC hj.1 : _), fun j hj9 hlj => ?_, fun i hi => ?_, ?_, (hS.jR hj.2.2.2.2.1 : _), (hS.jS hj.2.2.2.2.2.1 : _), fun p hp => ?_⟩, ⟨⟨?_, ?_, ?_, ?_, fun j hj9 => ⟨h.1 32 j (df rfl), h.1 34 j (df rfl), h.1 36 j (df rfl), h.1 38 j (df rfl), h.1 40 j (df rfl), fun z => ?_⟩, fun r _ _ => h.1 56 r (df rfl), fun p z => by rw [h.1 63 p (df rfl)]; exact z, fun c _ => by rw [f 18 rfl, f 19 rfl]; exact ⟨Nat.le_refl _, Nat.le_refl _⟩, fun i _ => ⟨h.1 7 i (df rfl), h.1 10 i (df rfl), h.1 11 i (df rfl)⟩⟩, fun s => h.1 2 s (df rfl)⟩, f 0 rfl, f 54 rfl, f 51 rfl, f 55 rfl, f 64 rfl⟩
  · rw [eC] at hj9
    have hlr : rho 37 j ≤ 2 := by
      rw [h.2.2.2.2] at hlj
      by_cases z : j = k
      · rw [z]
        exact hl
      · rw [if_neg z] at hlj
        exact hlj
    have h1 := hj.2.1 j hj9 hlr
    have eO : iO m j = iO rho j := by unfold iO; rw [f 32 rfl]
    rw [f 0 rfl, f 38 rfl, eO]
    refine ⟨h1.1, fun z => ?_⟩
    have h2 := (h1.2 z).resolve_right id
    refine Or.inl ?_
    rw [h.2.2.2.2, if_neg (fun y => hn (by rw [← y]; exact h2))]
    exact h2
  · rw [eI] at hi
    rw [f 10 rfl, f 11 rfl, f 14 rfl]
    exact ⟨(hq i hi).1, (hq i hi).2, (hj.2.2.1 i hi).2.2⟩
  · have eFs : Fs m = Fs rho := by
      unfold Fs
      rw [eC]
      congr 1
      refine List.map_congr_left (fun q _ => ?_)
      unfold sc
      rw [h.2.1]
    have eR : iR m = iR rho := by unfold iR; rw [f 51 rfl]
    rw [eFs, eR]
    exact jb_c hj.2.2.2.1 (f 16 rfl) (f 17 rfl) (f 18 rfl) (f 19 rfl)
  · rw [eP] at hp
    rw [h.2.2.2.1]
    exact hj.2.2.2.2.2.2 p hp
  · rw [eC]; exact Nat.le_refl _
  · rw [eI]; exact Nat.le_refl _
  · unfold iR; rw [f 51 rfl]; exact Nat.le_refl _
  · rw [eP]; exact Nat.le_refl _
  · rw [h.2.2.2.2, if_neg (fun y => z (by rw [y]; exact hl))]
theorem pc_finishes {k : Nat} (hj : JJ AL9 NO9 PR rho) (hk : k < iC rho) (h1 : rho 37 k = 1) : PC (f9_finishesWork (nI k) rho) (fun _ m => JJ AL9 NO9 PR m ∧ KQ rho m) := by
  have hC := hj.1.C
  have fin : ∀ e : Int32, ¬ e ≤ 2 → PC (ob (f9_endsCall (nI k) e rho) fun _ r => some (0, r)) (fun _ m => JJ AL9 NO9 PR m ∧ KQ rho m) := fun e he => pc_ob (pc_endsCall hj.1 hj.2.2.2.2.2.1.jO hj.2.2.2.2.2.2 hj.2.1 hk (by rw [h1]; decide) he) (fun _ m h => pc_some ⟨h.1.jJ hj h.2.1 h.2.2.2.2, h.1.kg.kq⟩)
  unfold f9_finishesWork
  refine pc_ck (fun _ => ?_)
  refine pc_ck (fun _ => ?_)
  refine pc_if (fun _ => fin 4 (by decide)) (fun _ => ?_)
  refine pc_ck (fun _ => ?_)
  refine pc_if (fun _ => fin 3 (by decide)) (fun _ => ?_)
  refine pc_wr (pc_some ?_)
  rw [nI_clamp (n := k) (by omega)]
  have hE : EqL k 2 rho (up2 rho 37 k 2) := ⟨fun F j hF => up2_f _ _ _ _ (df_n hF rfl), fun _ => rfl, rfl, fun _ => rfl, fun _ => rfl⟩
  refine eql_J hj hE hk (by rw [h1]; decide) (by rw [h1]; decide) (Or.inr rfl) (fun i hi => ?_)
  have := hj.2.2.1 i hi
  exact ⟨Nat.le_trans (eql_cnt hE _ _ _ (fun _ _ => by rw [h1]; decide)) this.1, Nat.le_trans (eql_cnt hE _ _ _ (fun z _ => absurd (Or.inr (by decide)) z)) this.2.1⟩
theorem pc_deqL {i : Nat} : ∀ (n j : Nat) (rho : RH), JJ AL9 NO9 PR rho → i < iI rho → j ≤ iC rho → PC (l9_dequeues_10 n (nI i) (nI (cntI rho (nI i) 1 2)) (nI j) rho) (fun _ m => JJ AL9 NO9 PR m ∧ KQ rho m) := by
  intro n
  induction n with
  | zero =>
    intro j rho hj hi hjC
    rw [l9_dequeues_10]
    exact pc_none
  | succ n ih =>
    intro j rho hj hi hjC
    have hC := hj.1.C
    have hI := hj.1.I
    rw [l9_dequeues_10]
    refine pc_if (fun _ => pc_some ⟨hj, KQ.rf⟩) (fun c => ?_)
    rw [hC.1, nI_leI (by omega) (by omega)] at c
    refine pc_ck (fun _ => ?_)
    rw [nI_clamp (n := i) (by omega), nI_1 j]
    refine pc_if (fun _ => pc_some ⟨hj, KQ.rf⟩) (fun cs => ?_)
    have hlt := lt_nv (Nat.le_trans cnt_le (by omega)) cs
    refine pc_ck (fun _ => ?_)
    rw [nI_clamp (n := j) (by omega)]
    refine pc_if (fun c36 => ?_) (fun _ => ih (j + 1) rho hj hi (by omega))
    refine pc_if (fun c37 => ?_) (fun _ => ih (j + 1) rho hj hi (by omega))
    refine pc_ob (pc_runs (by omega)) (fun _ m q => ?_)
    obtain ⟨v, rfl⟩ := q
    have hE : EqL j 1 rho (up2 (up2 (up2 rho 37 j 1) 41 j 1) 39 j v) := ⟨fun F q hF => by rw [up2_f _ _ _ _ (df_n hF rfl), up2_f _ _ _ _ (df_n hF rfl), up2_f _ _ _ _ (df_n hF rfl)], fun _ => rfl, rfl, fun _ => rfl, fun _ => rfl⟩
    generalize up2 (up2 (up2 rho 37 j 1) 41 j 1) 39 j v = B at hE ⊢
    have e1 := eql_cnt1 hE (by omega) (nI i) 1 2 c36 (by decide) (by rw [c37]; decide)
    obtain ⟨b1, b2⟩ := eql_J hj hE (by omega) (by rw [c37]; decide) (by rw [c37]; decide) (Or.inl rfl) (fun i' hi' => by
      have h0 := hj.2.2.1 i' hi'
      refine ⟨?_, Nat.le_trans (eql_cnt hE _ _ _ (fun z _ => absurd (Or.inr (by decide)) z)) h0.2.1⟩
      by_cases z : i' = i
      · rw [z, e1]
        omega
      · refine Nat.le_trans (eql_cnt hE _ _ _ (fun _ y => ?_)) h0.1
        rw [c36] at y
        exact absurd ((nI_inj (by omega) (by omega)).mp y) (fun w => z w.symm))
    have eC : iC B = iC rho := by unfold iC; rw [hE.1 31 0 (df rfl)]
    rw [nI_1, ← e1]
    exact (ih (j + 1) B b1 (by unfold iI; rw [hE.1 6 0 (df rfl)]; exact hi) (by omega)).mono (fun _ m3 q => ⟨q.1, b2.tr q.2⟩)
theorem pc_dequeues {i : Nat} (hj : JJ AL9 NO9 PR rho) (hi : i < iI rho) : PC (f9_dequeues (nI i) rho) (fun _ m => JJ AL9 NO9 PR m ∧ KQ rho m) := by
  unfold f9_dequeues
  refine pc_ob (pc_countOf hj.1.C) (fun r m h => ?_)
  obtain ⟨rfl, rfl⟩ := h
  exact pc_deqL FU 0 _ hj hi (Nat.zero_le _)
end PQ9
