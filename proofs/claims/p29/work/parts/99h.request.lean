/-! a new request -/
section QV
variable {m : CM} {rho : RH}
def rqM (m : CM) (r : Nat) (x1 x2 dl t : Int32) : CM := sL (sI (sR (sI (sN (sI (sI (nsM (sN m 7 (4 * (400 + r))) (4 * (400 + r)) 6 x1 x2) 902 (4 * (400 + r)) (nI r)) 901 (4 * (400 + r)) dl) 5 r) 642 r 8) 640 r (some (4 * (400 + r)))) 641 r t) 51 0 (gL m 51 0 ++ [r])
def rqR (rho : RH) (r : Nat) (x1 x2 dl t : Int32) : RH := up2 (up2 (up2 (up2 (up2 (up2 (up2 (up2 (up2 (up2 rho 51 0 (nI (r + 1))) 52 r x1) 53 r x2) 54 r dl) 55 r t) 56 r 8) 46 (400 + r) (-1)) 46 (400 + r) (-1 + 1)) 48 (400 + r) 0) 49 (400 + r) 0
theorem rqM_I (m : CM) (r : Nat) (x1 x2 dl t : Int32) {f j : Nat} (h7 : ¬ (f / 128 = 7 ∧ j = 4 * (400 + r))) (h5 : ¬ (f / 128 = 5 ∧ j = r)) : gI (rqM m r x1 x2 dl t) f j = gI m f j := by
  have e : ∀ F J, (F / 128 = 7 ∧ J = 4 * (400 + r)) ∨ (F / 128 = 5 ∧ J = r) → ∀ v M, gI (sI M F J v) f j = gI M f j := fun F J hF v M => by
    rw [gI_sI]
    by_cases z : f = F
    · rw [if_pos z, if_neg (by omega)]
    · rw [if_neg z]
  unfold rqM
  rw [gI_sL, e 641 r (Or.inr ⟨by decide, rfl⟩), gI_sR, e 642 r (Or.inr ⟨by decide, rfl⟩), gI_sN, if_neg h5, e 901 _ (Or.inl ⟨by decide, rfl⟩), e 902 _ (Or.inl ⟨by decide, rfl⟩)]
  exact (ns_out m _ _ _ _).1 f j h7
theorem rqM_R (m : CM) (r : Nat) (x1 x2 dl t : Int32) {f j : Nat} (h7 : ¬ (f / 128 = 7 ∧ j = 4 * (400 + r))) (h5 : ¬ (f / 128 = 5 ∧ j = r)) : gR (rqM m r x1 x2 dl t) f j = gR m f j := by
  unfold rqM
  rw [gR_sL, gR_sI, gR_sR]
  have e2 : gR (sI (sN (sI (sI (nsM (sN m 7 (4 * (400 + r))) (4 * (400 + r)) 6 x1 x2) 902 (4 * (400 + r)) (nI r)) 901 (4 * (400 + r)) dl) 5 r) 642 r 8) f j = gR m f j := by
    rw [gR_sI, gR_sN, if_neg h5, gR_sI, gR_sI]
    exact (ns_out m _ _ _ _).2.1 f j h7
  by_cases z : f = 640
  · rw [if_pos z, if_neg (by omega), e2]
  · rw [if_neg z, e2]
theorem rqM_L (m : CM) (r : Nat) (x1 x2 dl t : Int32) {c j : Nat} (h : ¬ (c = 55 ∧ j = 4 * (400 + r))) (h2 : ¬ (c = 51 ∧ j = 0)) : gL (rqM m r x1 x2 dl t) c j = gL m c j := by
  unfold rqM
  rw [gL_sL, gL_sI, gL_sR, gL_sI, gL_sN, gL_sI, gL_sI, ns_L m (4 * (400 + r)) 6 x1 x2 h]
  by_cases z : c = 51
  · rw [if_pos z, if_neg (fun y => h2 ⟨z, y⟩)]
  · rw [if_neg z]
theorem rqM_V (m : CM) (r : Nat) (x1 x2 dl t : Int32) {c j : Nat} (h : ¬ ((c = 55 ∨ c = 7) ∧ j = 4 * (400 + r))) (h2 : ¬ (c = 5 ∧ j = r)) : gV (rqM m r x1 x2 dl t) c j = gV m c j := by
  unfold rqM
  rw [gV_sL, gV_sI, gV_sR, gV_sI, gV_sN, gV_sI, gV_sI, ns_V m (4 * (400 + r)) 6 x1 x2 h]
  by_cases z : c = 5
  · rw [if_pos z, if_neg (fun y => h2 ⟨z, y⟩)]
  · rw [if_neg z]
/-- its step -/
theorem rqM_at (m : CM) {r : Nat} (x1 x2 dl t : Int32) : gI (rqM m r x1 x2 dl t) 896 (4 * (400 + r)) = 6 ∧ gI (rqM m r x1 x2 dl t) 897 (4 * (400 + r)) = x1 ∧ gI (rqM m r x1 x2 dl t) 898 (4 * (400 + r)) = x2 ∧ gI (rqM m r x1 x2 dl t) 899 (4 * (400 + r)) = -1 ∧ gI (rqM m r x1 x2 dl t) 900 (4 * (400 + r)) = 0 ∧ gI (rqM m r x1 x2 dl t) 901 (4 * (400 + r)) = dl ∧ gI (rqM m r x1 x2 dl t) 902 (4 * (400 + r)) = nI r ∧ gI (rqM m r x1 x2 dl t) 903 (4 * (400 + r)) = -1 ∧ gI (rqM m r x1 x2 dl t) 906 (4 * (400 + r)) = 0 ∧ gI (rqM m r x1 x2 dl t) 907 (4 * (400 + r)) = 0 ∧ gI (rqM m r x1 x2 dl t) 910 (4 * (400 + r)) = 0 ∧ gI (rqM m r x1 x2 dl t) 911 (4 * (400 + r)) = 8 ∧ gR (rqM m r x1 x2 dl t) 904 (4 * (400 + r)) = none ∧ gR (rqM m r x1 x2 dl t) 905 (4 * (400 + r)) = some (4 * (400 + r)) ∧ gL (rqM m r x1 x2 dl t) 55 (4 * (400 + r)) = [] := by
  have hat := ns_at m (4 * (400 + r)) 6 x1 x2
  generalize hn : nsM (sN m 7 (4 * (400 + r))) (4 * (400 + r)) 6 x1 x2 = n0 at hat
  have e : ∀ f, f / 128 = 7 → f ≠ 902 → f ≠ 901 → gI (rqM m r x1 x2 dl t) f (4 * (400 + r)) = gI n0 f (4 * (400 + r)) := fun f h1 h2 h3 => by
    unfold rqM
    rw [hn, gI_sL, gI_sI, if_neg (by omega), gI_sR, gI_sI, if_neg (by omega), gI_sN, if_neg (by omega), gI_sI, if_neg h3, gI_sI, if_neg h2]
  refine ⟨(e 896 (by decide) (by decide) (by decide)).trans hat.1.1, (e 897 (by decide) (by decide) (by decide)).trans hat.1.2.1, (e 898 (by decide) (by decide) (by decide)).trans hat.1.2.2.1, (e 899 (by decide) (by decide) (by decide)).trans hat.1.2.2.2.1, (e 900 (by decide) (by decide) (by decide)).trans hat.1.2.2.2.2.1, ?_, ?_, (e 903 (by decide) (by decide) (by decide)).trans hat.1.2.2.2.2.2.2.2.1, (e 906 (by decide) (by decide) (by decide)).trans hat.1.2.2.2.2.2.2.2.2.1, (e 907 (by decide) (by decide) (by decide)).trans hat.1.2.2.2.2.2.2.2.2.2.1, (e 910 (by decide) (by decide) (by decide)).trans hat.1.2.2.2.2.2.2.2.2.2.2.1, (e 911 (by decide) (by decide) (by decide)).trans hat.1.2.2.2.2.2.2.2.2.2.2.2, ?_, ?_, ?_⟩
  · unfold rqM
    rw [gI_sL, gI_sI, if_neg (by decide), gI_sR, gI_sI, if_neg (by decide), gI_sN, if_neg (by omega), gI_sI, if_pos rfl, if_pos rfl]
  · unfold rqM
    rw [gI_sL, gI_sI, if_neg (by decide), gI_sR, gI_sI, if_neg (by decide), gI_sN, if_neg (by omega), gI_sI, if_neg (by decide), gI_sI, if_pos rfl, if_pos rfl]
  · unfold rqM
    rw [hn, gR_sL, gR_sI, gR_sR, if_neg (by decide), gR_sI, gR_sN, if_neg (by omega), gR_sI, gR_sI]
    exact hat.2.1
  · unfold rqM
    rw [hn, gR_sL, gR_sI, gR_sR, if_neg (by decide), gR_sI, gR_sN, if_neg (by omega), gR_sI, gR_sI]
    exact hat.2.2.1
  · unfold rqM
    rw [hn, gL_sL, if_neg (by decide)]
    exact hat.2.2.2
theorem rq_inv (h : INV m rho) {r : Nat} (hr : iR rho = r) (hr4 : r < 40) {x1 x2 : Int32} (h1 : Ix x1 6) (h2 : x2 = 0 ∨ x2 = 1) (dl t : Int32) : INVX N0 (fun x => N0 x ∨ x = 400 + r) (rqM m r x1 x2 dl t) (rqR rho r x1 x2 dl t) ∧ 4 + pot (rqM m r x1 x2 dl t) = pot m ∧ sc (rqR rho r x1 x2 dl t) (400 + r) = 1 := by
  have hb := INVX.rb9 h
  have hP := hb.P
  have hC := hb.C
  have hI' := fun f j (a : ¬ (f / 128 = 7 ∧ j = 4 * (400 + r))) (b : ¬ (f / 128 = 5 ∧ j = r)) => rqM_I m r x1 x2 dl t a b
  have hR' := fun f j (a : ¬ (f / 128 = 7 ∧ j = 4 * (400 + r))) (b : ¬ (f / 128 = 5 ∧ j = r)) => rqM_R m r x1 x2 dl t a b
  have hL := fun c j (a : ¬ (c = 55 ∧ j = 4 * (400 + r))) (b : ¬ (c = 51 ∧ j = 0)) => rqM_L m r x1 x2 dl t a b
  have hV := fun c j (a : ¬ ((c = 55 ∨ c = 7) ∧ j = 4 * (400 + r))) (b : ¬ (c = 5 ∧ j = r)) => rqM_V m r x1 x2 dl t a b
  have hat := rqM_at m (r := r) x1 x2 dl t
  have hA : gA (rqM m r x1 x2 dl t) = gA m := rfl
  have hO : gO (rqM m r x1 x2 dl t) = gO m := rfl
  have n640 : gR (rqM m r x1 x2 dl t) 640 r = some (4 * (400 + r)) := by
    unfold rqM
    rw [gR_sL, gR_sI, gR_sR, if_pos rfl, if_pos rfl]
  have n641 : gI (rqM m r x1 x2 dl t) 641 r = t := by
    unfold rqM
    rw [gI_sL, gI_sI, if_pos rfl, if_pos rfl]
  have n642 : gI (rqM m r x1 x2 dl t) 642 r = 8 := by
    unfold rqM
    rw [gI_sL, gI_sI, if_neg (by decide), gI_sR, gI_sI, if_pos rfl, if_pos rfl]
  have n51 : gL (rqM m r x1 x2 dl t) 51 0 = List.range (r + 1) := by
    unfold rqM
    rw [gL_sL, if_pos rfl, if_pos rfl, (INVX.al9 h).2.1, hr, List.range_succ]
  generalize rqM m r x1 x2 dl t = M at *
  have scn : sc (rqR rho r x1 x2 dl t) (400 + r) = 1 := by
    have : rqR rho r x1 x2 dl t 46 (400 + r) = 0 := by
      unfold rqR
      rw [up2_f _ _ _ _ (by decide), up2_f _ _ _ _ (by decide), up2_s]
      decide
    unfold sc
    rw [this]
    rfl
  have f46 : ∀ j, rqR rho r x1 x2 dl t 46 j = if j = 400 + r then (-1 + 1) else if j = 400 + r then -1 else rho 46 j := fun j => rfl
  have f48 : ∀ j, rqR rho r x1 x2 dl t 48 j = if j = 400 + r then 0 else rho 48 j := fun j => rfl
  have f49 : ∀ j, rqR rho r x1 x2 dl t 49 j = if j = 400 + r then 0 else rho 49 j := fun j => rfl
  have f52 : ∀ j, rqR rho r x1 x2 dl t 52 j = if j = r then x1 else rho 52 j := fun j => rfl
  have f53 : ∀ j, rqR rho r x1 x2 dl t 53 j = if j = r then x2 else rho 53 j := fun j => rfl
  have f54 : ∀ j, rqR rho r x1 x2 dl t 54 j = if j = r then dl else rho 54 j := fun j => rfl
  have f55 : ∀ j, rqR rho r x1 x2 dl t 55 j = if j = r then t else rho 55 j := fun j => rfl
  have f56 : ∀ j, rqR rho r x1 x2 dl t 56 j = if j = r then 8 else rho 56 j := fun j => rfl
  have sco : ∀ o, o ≠ 400 + r → sc (rqR rho r x1 x2 dl t) o = sc rho o := fun o z => by
    unfold sc
    rw [f46, if_neg z, if_neg z]
  have hiR : iR (rqR rho r x1 x2 dl t) = r + 1 := nv_nI (by omega)
  have hOE : ∀ o, OE (rqR rho r x1 x2 dl t) o → o = 400 + r ∨ (o ≠ 400 + r ∧ OE rho o) := fun o ho => by
    by_cases z : o = 400 + r
    · exact Or.inl z
    · refine Or.inr ⟨z, ?_⟩
      rcases ho with q | q | q
      · exact Or.inl q
      · exact Or.inr (Or.inl ⟨q.1, by rw [hiR] at q; omega⟩)
      · exact Or.inr (Or.inr q)
  have hOE2 : ∀ o, OE rho o → o ≠ 400 + r ∧ OE (rqR rho r x1 x2 dl t) o := fun o ho => by
    have hE := hb.E ho
    refine ⟨by omega, ?_⟩
    rcases ho with q | q | q
    · exact Or.inl q
    · exact Or.inr (Or.inl ⟨q.1, by rw [hiR]; omega⟩)
    · exact Or.inr (Or.inr q)
  have hT : TR (rqR rho r x1 x2 dl t) = TR rho := rfl
  have hTr : TR rho (400 + r) 0 = [] := by
    rw [List.eq_nil_iff_forall_not_mem]
    intro j hj
    have hj2 := TR_mem.mp hj
    have hE := hb.E (hb.rk9 j hj2.1).2.1
    rw [hj2.2.1] at hE
    omega
  have hcal : ∀ o, o ≠ 400 + r → cal (rqR rho r x1 x2 dl t) o = cal rho o := fun o z => rfl
  have g7 : ∀ o : Nat, o ≠ 400 + r → 400 ≤ o → o - 400 ≠ r := fun o z y => by omega
  have hcld : ∀ o n, o ≠ 400 + r → cld (rqR rho r x1 x2 dl t) o n = cld rho o n := fun o n z => by
    unfold cld
    by_cases y : o < 400
    · rw [if_pos y, if_pos y]
      rfl
    · rw [if_neg y, if_neg y, f52, if_neg (g7 o z (by omega))]
      rfl
  have hsaf : ∀ o n, o ≠ 400 + r → saf (rqR rho r x1 x2 dl t) o n = saf rho o n := fun o n z => by
    unfold saf
    by_cases y : o < 400
    · rw [if_pos y, if_pos y]
      rfl
    · rw [if_neg y, if_neg y, f53, if_neg (g7 o z (by omega))]
  have hdlo : ∀ o, o ≠ 400 + r → dlo (rqR rho r x1 x2 dl t) o = dlo rho o := fun o z => by
    unfold dlo
    by_cases y : o < 400
    · rw [if_pos y, if_pos y]
      rfl
    · rw [if_neg y, if_neg y, f54, if_neg (g7 o z (by omega))]
  have hgo : ∀ o, o ≠ 400 + r → (Go (rqR rho r x1 x2 dl t) o ↔ Go rho o) := fun o z => by
    unfold Go goB
    by_cases y : o < 400
    · rw [if_pos y, if_pos y]
      exact Iff.rfl
    · rw [if_neg y, if_neg y, f56, if_neg (g7 o z (by omega))]
      exact Iff.rfl
  have hgor : Go (rqR rho r x1 x2 dl t) (400 + r) := by
    unfold Go goB
    rw [if_neg (by omega), if_pos (by omega), f56, if_pos (by omega)]
    exact decide_eq_true rfl
  have hid : ∀ o n, o ≠ 400 + r → OE rho o → n < sc rho o → 4 * o + n ≠ 4 * (400 + r) := fun o n z ho hn => by
    have := hb.sce ho
    omega
  obtain ⟨b1, b2, b3, b4, b5, b6, b7, b8, b9, b10, b11, b12, b13, b14, b15, b16, c0, cs, ci, cp, cr, cq, ck, cw, cz⟩ := h
  have A : ∀ f j, f < 640 ∨ (768 ≤ f ∧ f < 896) ∨ 1024 ≤ f → gI M f j = gI m f j := fun f j z => hI' f j (by omega) (by omega)
  have B : ∀ f j, f < 640 ∨ (768 ≤ f ∧ f < 896) ∨ 1024 ≤ f → gR M f j = gR m f j := fun f j z => hR' f j (by omega) (by omega)
  refine ⟨⟨?_, ?_, ?_, ?_, ?_, ?_, ?_, ?_, ?_, ?_, ?_, ?_, ?_, ?_, ?_, ?_, ?_, cs, ci, cp, ?_, ?_, ?_, ?_, cz⟩, ?_, scn⟩
  · unfold A0
    rw [B 1028 0 (by decide), B 1029 0 (by decide), B 1030 0 (by decide), B 1031 0 (by decide), B 1032 0 (by decide), B 1033 0 (by decide), B 1034 0 (by decide), hO]
    refine ⟨b1.1, b1.2.1, b1.2.2.1, b1.2.2.2.1, b1.2.2.2.2.1, b1.2.2.2.2.2.1, b1.2.2.2.2.2.2.1, b1.2.2.2.2.2.2.2.1, b1.2.2.2.2.2.2.2.2.1, fun s hs => ?_⟩
    rw [B 770 s (by decide), B 771 s (by decide), B 772 s (by decide), B 773 s (by decide), B 386 s (by decide), B 387 s (by decide)]
    exact b1.2.2.2.2.2.2.2.2.2 s hs
  · unfold AGl
    rw [A 1024 0 (by decide), A 1025 0 (by decide), A 1026 0 (by decide), A 1027 0 (by decide)]
    exact b2
  · intro p hp
    rw [hA]
    exact b3 p hp
  · intro s hs
    rw [hA, A 768 s (by decide), A 769 s (by decide), A 384 s (by decide), A 385 s (by decide)]
    exact b4 s hs
  · intro c hc
    rw [A 256 c (by decide), A 257 c (by decide), A 258 c (by decide), A 259 c (by decide)]
    exact b5 c hc
  · intro i hi
    have hh := b6 i hi
    rw [hA, hO, B 519 i (by decide), B 520 i (by decide), B 521 i (by decide), B 522 i (by decide), A 512 i (by decide), A 513 i (by decide), A 514 i (by decide), A 515 i (by decide), A 516 i (by decide), A 517 i (by decide), A 518 i (by decide), A 524 i (by decide)]
    refine ⟨hh.1, hh.2.1, hh.2.2.1, hh.2.2.2.1, hh.2.2.2.2.1, hh.2.2.2.2.2.1, hh.2.2.2.2.2.2.1, hh.2.2.2.2.2.2.2.1, hh.2.2.2.2.2.2.2.2.1, hh.2.2.2.2.2.2.2.2.2.1, hh.2.2.2.2.2.2.2.2.2.2.1, hh.2.2.2.2.2.2.2.2.2.2.2.1, hh.2.2.2.2.2.2.2.2.2.2.2.2.1, fun c hc => ?_⟩
    rw [A 0 _ (by decide), A 1 _ (by decide), A 2 _ (by decide)]
    exact hh.2.2.2.2.2.2.2.2.2.2.2.2.2 c hc
  · intro i hi
    rw [A 523 i (by decide), hL 54 i (by omega) (by omega)]
    exact b7 i hi
  · intro j hj
    rw [hiR] at hj
    rw [f55, f56]
    by_cases z : j = r
    · subst z
      rw [if_pos rfl, if_pos rfl]
      exact ⟨n640, n641, n642, fun q => absurd rfl q⟩
    · rw [if_neg z, if_neg z, hR' 640 j (by omega) (by omega), hI' 641 j (by omega) (by omega), hI' 642 j (by omega) (by omega), hI' 643 j (by omega) (by omega), hI' 644 j (by omega) (by omega)]
      exact b8 j (by omega)
  · refine ⟨(hL 50 0 (by omega) (by omega)).trans b9.1, ?_, (hL 52 0 (by omega) (by omega)).trans b9.2.2.1, (hL 53 0 (by omega) (by omega)).trans b9.2.2.2⟩
    rw [hiR]
    exact n51
  · intro k hk
    have hk4 : k < iC rho := hk
    rw [A 128 k (by decide), B 129 k (by decide), B 130 k (by decide), A 131 k (by decide), B 132 k (by decide), hL 56 k (by omega) (by omega), sco k (by omega)]
    exact b10 k hk
  · intro k hk
    rw [A 133 k (by decide), A 134 k (by decide), A 135 k (by decide), A 136 k (by decide), A 137 k (by decide)]
    exact b11 k hk
  · intro o n ho hn
    rcases hOE o ho with rfl | ⟨z, ho2⟩
    · rw [scn] at hn
      have : n = 0 := by omega
      subst this
      refine ⟨hat.1.trans (by unfold cal; rw [if_neg (by omega), if_pos (by omega)]), ?_, ?_, ?_, ?_, ?_, ?_, ?_, ?_, hat.2.2.2.2.2.2.2.2.2.2.2.2.2.1⟩
      · refine hat.2.1.trans ?_
        unfold cld
        rw [if_neg (by omega), if_pos (by omega), f52, if_pos (by omega)]
      · refine hat.2.2.1.trans ?_
        unfold saf
        rw [if_neg (by omega), if_pos (by omega), f53, if_pos (by omega)]
      · refine hat.2.2.2.1.trans ?_
        unfold und
        rw [if_neg (by omega)]
      · refine hat.2.2.2.2.1.trans ?_
        unfold zon
        rw [if_neg (by omega)]
      · refine hat.2.2.2.2.2.1.trans ?_
        unfold dlo
        rw [if_neg (by omega), if_pos (by omega), f54, if_pos (by omega)]
      · refine hat.2.2.2.2.2.2.1.trans ?_
        unfold rqo
        rw [if_neg (by omega), if_pos (by omega), show 400 + r - 400 = r by omega]
      · refine hat.2.2.2.2.2.2.2.1.trans ?_
        unfold rpo
        rw [if_pos (by omega)]
      · refine hat.2.2.2.2.2.2.2.2.2.2.2.2.1.trans ?_
        unfold owr
        rw [if_neg (by omega)]
    · rw [sco o z] at hn
      have hq := hid o n z ho2 hn
      rw [hI' 896 _ (by omega) (by omega), hI' 897 _ (by omega) (by omega), hI' 898 _ (by omega) (by omega), hI' 899 _ (by omega) (by omega), hI' 900 _ (by omega) (by omega), hI' 901 _ (by omega) (by omega), hI' 902 _ (by omega) (by omega), hI' 903 _ (by omega) (by omega), hR' 904 _ (by omega) (by omega), hR' 905 _ (by omega) (by omega), hcal o z, hcld o n z, hsaf o n z, hdlo o z]
      exact b12 o n ho2 hn
  · intro o n ho hn
    rw [hT]
    rcases hOE o ho with rfl | ⟨z, ho2⟩
    · rw [scn] at hn
      have : n = 0 := by omega
      subst this
      rw [hTr]
      exact ⟨hat.2.2.2.2.2.2.2.2.2.2.2.2.2.2, hat.2.2.2.2.2.2.2.2.2.2.1⟩
    · rw [sco o z] at hn
      have hq := hid o n z ho2 hn
      rw [hL 55 _ (by omega) (by omega), hI' 910 _ (by omega) (by omega)]
      exact b13 o n ho2 hn
  · refine ⟨fun o n ho hn => ?_, fun k hk y => ?_⟩
    · rcases hOE o ho with rfl | ⟨z, ho2⟩
      · rw [scn] at hn ⊢
        have : n = 0 := by omega
        subst this
        exact ⟨fun q => by omega, fun _ _ => ⟨fun _ => hat.2.2.2.2.2.2.2.2.2.2.2.1, fun q => absurd hgor q⟩⟩
      · rw [sco o z] at hn ⊢
        have hq := hid o n z ho2 hn
        rw [hI' 911 _ (by omega) (by omega), hgo o z]
        exact b14.1 o n ho2 hn
    · have hrk := ck k hk
      have h3 := hOE2 _ hrk.2.1
      have hq := hid _ (iN rho k) h3.1 hrk.2.1 hrk.2.2.2.2.1
      refine (b14.2 k hk y).imp id (fun w => ?_)
      show gI M 911 (4 * iO rho k + iN rho k) ≠ 8
      rw [hI' 911 _ (fun q => hq q.2) (by omega)]
      exact w
  · intro o n ho h4 hn
    rw [f48, f49]
    rcases hOE o ho with rfl | ⟨z, ho2⟩
    · rw [scn] at hn
      have : n = 0 := by omega
      subst this
      rw [if_pos rfl, if_pos rfl]
      exact ⟨hat.2.2.2.2.2.2.2.2.1, hat.2.2.2.2.2.2.2.2.2.1, ⟨0, 0, rfl, rfl, Or.inl (Or.inr rfl), by omega, by omega⟩, fun q => absurd rfl q⟩
    · rw [sco o z] at hn
      have hq := hid o n z ho2 (by omega)
      rw [if_neg z, if_neg z, hI' 906 _ (by omega) (by omega), hI' 907 _ (by omega) (by omega), hI' 908 _ (by omega) (by omega), hI' 909 _ (by omega) (by omega)]
      have hh := b15 o n ho2 h4 hn
      refine ⟨hh.1, hh.2.1, ?_, fun q => ⟨(hh.2.2.2 q).1, ?_⟩⟩
      · obtain ⟨a, b, y1, y2, y3, y4, y5⟩ := hh.2.2.1
        exact ⟨a, b, y1, y2, y3.imp (fun w => Or.inl w) id, y4, y5⟩
      · exact (hh.2.2.2 q).2.imp (fun w => Or.inl w) id
  · refine ⟨fun k hk h4 => ?_, fun j hj h4 => ?_, fun i hi h12 => ?_, fun o n ho hn q => ?_⟩
    · rw [hV 1 k (by omega) (by omega), hV 56 k (by omega) (by omega)]
      exact b16.1 k hk h4
    · rw [hiR] at hj
      rw [hV 5 j (by omega) (by omega)]
      exact b16.2.1 j (by omega) h4
    · rw [hV 4 i (by omega) (by omega), hV 30 i (by omega) (by omega), hV 31 i (by omega) (by omega), hV 43 i (by omega) (by omega), hV 54 i (by omega) (by omega)]
      have hh := b16.2.2.1 i hi h12
      exact ⟨hh.1, hh.2.1, hh.2.2.1, hh.2.2.2.1, hh.2.2.2.2.1, fun c hc => (hV 0 _ (by omega) (by omega)).trans (hh.2.2.2.2.2 c hc)⟩
    · have hne : 4 * o + n ≠ 4 * (400 + r) := fun y => by
        have h1 : o = 400 + r := by omega
        have h2 : n = 0 := by omega
        refine q ⟨?_, ?_⟩
        · rw [h1]
          exact Or.inr (Or.inl ⟨by omega, by rw [hiR]; omega⟩)
        · rw [h1, scn, h2]
          omega
      rw [hV 7 _ (by omega) (by omega), hV 55 _ (by omega) (by omega)]
      refine b16.2.2.2 o n ho hn (fun y => q ?_)
      have h3 := hOE2 o y.1
      exact ⟨h3.2, by rw [sco o h3.1]; exact y.2⟩
  · exact ⟨c0.1, c0.2.1, c0.2.2.1, ⟨r + 1, by omega, rfl⟩, c0.2.2.2.2.1, fun _ => by rw [hiR]; omega, c0.2.2.2.2.2.2⟩
  · intro j hj
    rw [hiR] at hj
    rw [f52, f53, f46]
    by_cases z : j = r
    · rw [if_pos z, if_pos z, if_pos (by omega)]
      exact ⟨h1, h2, by decide⟩
    · rw [if_neg z, if_neg z, if_neg (by omega), if_neg (by omega)]
      exact cr j (by omega)
  · intro p hp
    rw [f46, if_neg (by have : iP (rqR rho r x1 x2 dl t) = iP rho := rfl; omega), if_neg (by omega)]
    exact cq p hp
  · intro k hk
    have hk4 : k < iC rho := hk
    have hh := ck k hk
    have h3 := hOE2 _ hh.2.1
    have hio : iO (rqR rho r x1 x2 dl t) k = iO rho k := rfl
    have hin : iN (rqR rho r x1 x2 dl t) k = iN rho k := rfl
    rw [hio, hin, sco _ h3.1, sco k (by omega), hcld _ _ h3.1, hcal _ h3.1, f46, if_neg (by omega), if_neg (by omega)]
    exact ⟨hh.1, h3.2, hh.2.2⟩
  · intro k hk
    have hk4 : k < iC rho := hk
    have hh := cw k hk
    have h3 := hOE2 _ (ck k hk).2.1
    have hio : iO (rqR rho r x1 x2 dl t) k = iO rho k := rfl
    rw [hio, sco _ h3.1, sco k (by omega)]
    exact hh
  · have hlen : (gL m 51 0).length = r := by rw [b9.2.1, List.length_range, hr]
    have e56 : ∀ k, gL M 56 k = gL m 56 k := fun k => hL 56 k (by omega) (by omega)
    unfold pot
    rw [n51, hL 50 0 (by omega) (by omega), hL 52 0 (by omega) (by omega), hL 53 0 (by omega) (by omega), List.length_range]
    simp only [e56, hlen]
    generalize ((List.range (gL m 52 0).length).map fun k => 4 - (gL m 56 k).length).sum = s
    omega
end QV
