/-! a new step; repairs that are begun -/
section PJ
variable {X Y : Nat → Prop} {m M : CM} {rho : RH}
def nsM (m : CM) (id : Nat) (x1 x2 x3 : Int32) : CM := sI (sI (sI (sI (sI (sR (sNL (sI (sI (sI (sI m 899 id (-1)) 901 id 1000000) 902 id (-1)) 903 id (-1)) 55 id) 905 id (some id)) 909 id (-1)) 911 id 8) 896 id x1) 897 id x2) 898 id x3
theorem e8_X7init {id : Nat} {x1 x2 x3 : Int32} (hv : gV m 55 id = false) (h3 : x3 = 0 ∨ x3 = 1) : f8_X7_init id x1 x2 x3 m = some (0, nsM m id x1 x2 x3, 1) := by
  unfold f8_X7_init
  simp only [wr_s]
  have e : gV (sI (sI (sI (sI m 899 id (-1)) 901 id 1000000) 902 id (-1)) 903 id (-1)) 55 id = false := hv
  rw [if_pos e, if_pos h3]
  rfl
/-- a memory with a new step's object, apart from lists and what is live -/
def OutS (m M : CM) (id : Nat) : Prop := (∀ f j, ¬ (f / 128 = 7 ∧ j = id) → gI M f j = gI m f j) ∧ (∀ f j, ¬ (f / 128 = 7 ∧ j = id) → gR M f j = gR m f j) ∧ gA M = gA m ∧ gO M = gO m
theorem ns_out (m : CM) (id : Nat) (x1 x2 x3 : Int32) : OutS m (nsM (sN m 7 id) id x1 x2 x3) id := by
  refine ⟨fun f j h => ?_, fun f j h => ?_, rfl, rfl⟩
  · unfold nsM
    simp only [gI_sI, gI_sR, gI_sNL, gI_sN]
    by_cases hj : j = id
    · have hf : ¬ f / 128 = 7 := fun z => h ⟨z, hj⟩
      have h899 : f ≠ 899 := fun z => hf (by omega)
      have h901 : f ≠ 901 := fun z => hf (by omega)
      have h902 : f ≠ 902 := fun z => hf (by omega)
      have h903 : f ≠ 903 := fun z => hf (by omega)
      have h909 : f ≠ 909 := fun z => hf (by omega)
      have h911 : f ≠ 911 := fun z => hf (by omega)
      have h896 : f ≠ 896 := fun z => hf (by omega)
      have h897 : f ≠ 897 := fun z => hf (by omega)
      have h898 : f ≠ 898 := fun z => hf (by omega)
      simp [hf, h899, h901, h902, h903, h909, h911, h896, h897, h898]
    · simp [hj]
  · unfold nsM
    simp only [gR_sI, gR_sR, gR_sNL, gR_sN]
    by_cases hj : j = id
    · have hf : ¬ f / 128 = 7 := fun z => h ⟨z, hj⟩
      have h905 : f ≠ 905 := fun z => hf (by omega)
      simp [hf, h905]
    · simp [hj]
theorem ns_at (m : CM) (id : Nat) (x1 x2 x3 : Int32) : (gI (nsM (sN m 7 id) id x1 x2 x3) 896 id = x1 ∧ gI (nsM (sN m 7 id) id x1 x2 x3) 897 id = x2 ∧ gI (nsM (sN m 7 id) id x1 x2 x3) 898 id = x3 ∧ gI (nsM (sN m 7 id) id x1 x2 x3) 899 id = -1 ∧ gI (nsM (sN m 7 id) id x1 x2 x3) 900 id = 0 ∧ gI (nsM (sN m 7 id) id x1 x2 x3) 901 id = 1000000 ∧ gI (nsM (sN m 7 id) id x1 x2 x3) 902 id = -1 ∧ gI (nsM (sN m 7 id) id x1 x2 x3) 903 id = -1 ∧ gI (nsM (sN m 7 id) id x1 x2 x3) 906 id = 0 ∧ gI (nsM (sN m 7 id) id x1 x2 x3) 907 id = 0 ∧ gI (nsM (sN m 7 id) id x1 x2 x3) 910 id = 0 ∧ gI (nsM (sN m 7 id) id x1 x2 x3) 911 id = 8) ∧ gR (nsM (sN m 7 id) id x1 x2 x3) 904 id = none ∧ gR (nsM (sN m 7 id) id x1 x2 x3) 905 id = some id ∧ gL (nsM (sN m 7 id) id x1 x2 x3) 55 id = [] := by
  unfold nsM
  simp only [gI_sI, gI_sR, gI_sNL, gI_sN, gR_sI, gR_sR, gR_sNL, gR_sN, gL_sI, gL_sR, gL_sNL, gL_sN]
  simp
theorem ns_L (m : CM) (id : Nat) (x1 x2 x3 : Int32) {c j : Nat} (h : ¬ (c = 55 ∧ j = id)) : gL (nsM (sN m 7 id) id x1 x2 x3) c j = gL m c j := by
  unfold nsM
  simp only [gL_sI, gL_sR, gL_sNL, gL_sN]
  by_cases hc : c = 55
  · rw [if_pos hc, if_neg (fun z => h ⟨hc, z⟩)]
  · rw [if_neg hc]
theorem ns_V (m : CM) (id : Nat) (x1 x2 x3 : Int32) {c j : Nat} (h : ¬ ((c = 55 ∨ c = 7) ∧ j = id)) : gV (nsM (sN m 7 id) id x1 x2 x3) c j = gV m c j := by
  unfold nsM
  simp only [gV_sI, gV_sR, gV_sNL, gV_sN]
  by_cases hj : j = id
  · have h1 : c ≠ 55 := fun z => h ⟨Or.inl z, hj⟩
    have h2 : c ≠ 7 := fun z => h ⟨Or.inr z, hj⟩
    simp [h1, h2]
  · simp [hj]
/-- what a new step leaves as it was -/
theorem outs_basic {id : Nat} (hO : OutS m M id) : (A0 m → A0 M) ∧ (AGl m rho → AGl M rho) ∧ (AP m rho → AP M rho) ∧ (AS m rho → AS M rho) ∧ (AC m rho → AC M rho) ∧ (AI m rho → AI M rho) ∧ (AR m rho → AR M rho) ∧ (AW m rho → AW M rho) := by
  obtain ⟨o1, o2, o3, o4⟩ := hO
  have i1 : ∀ f j, f / 128 ≠ 7 → gI M f j = gI m f j := fun f j h => o1 f j (fun z => h z.1)
  have i2 : ∀ f j, f / 128 ≠ 7 → gR M f j = gR m f j := fun f j h => o2 f j (fun z => h z.1)
  refine ⟨fun h => ?_, fun h => ?_, fun h => ?_, fun h => ?_, fun h => ?_, fun h => ?_, fun h => ?_, fun h => ?_⟩
  · unfold A0 at h ⊢
    rw [o4, i2 1028 _ (by decide), i2 1029 _ (by decide), i2 1030 _ (by decide), i2 1031 _ (by decide), i2 1032 _ (by decide), i2 1033 _ (by decide), i2 1034 _ (by decide)]
    refine ⟨h.1, h.2.1, h.2.2.1, h.2.2.2.1, h.2.2.2.2.1, h.2.2.2.2.2.1, h.2.2.2.2.2.2.1, h.2.2.2.2.2.2.2.1, h.2.2.2.2.2.2.2.2.1, fun s hs => ?_⟩
    rw [i2 770 _ (by decide), i2 771 _ (by decide), i2 772 _ (by decide), i2 773 _ (by decide), i2 386 _ (by decide), i2 387 _ (by decide)]
    exact h.2.2.2.2.2.2.2.2.2 s hs
  · unfold AGl
    rw [i1 _ _ (by decide), i1 _ _ (by decide), i1 _ _ (by decide), i1 _ _ (by decide)]
    exact h
  · unfold AP
    rw [o3]
    exact h
  · intro s hs
    rw [i1 _ _ (by decide), i1 _ _ (by decide), i1 _ _ (by decide), i1 _ _ (by decide), o3]
    exact h s hs
  · intro c hc
    rw [i1 _ _ (by decide), i1 _ _ (by decide), i1 _ _ (by decide), i1 _ _ (by decide)]
    exact h c hc
  · intro i hi
    have hh := h i hi
    rw [o3, o4, i2 519 _ (by decide), i2 520 _ (by decide), i2 521 _ (by decide), i2 522 _ (by decide), i1 512 _ (by decide), i1 513 _ (by decide), i1 514 _ (by decide), i1 515 _ (by decide), i1 516 _ (by decide), i1 517 _ (by decide), i1 518 _ (by decide), i1 524 _ (by decide)]
    refine ⟨hh.1, hh.2.1, hh.2.2.1, hh.2.2.2.1, hh.2.2.2.2.1, hh.2.2.2.2.2.1, hh.2.2.2.2.2.2.1, hh.2.2.2.2.2.2.2.1, hh.2.2.2.2.2.2.2.2.1, hh.2.2.2.2.2.2.2.2.2.1, hh.2.2.2.2.2.2.2.2.2.2.1, hh.2.2.2.2.2.2.2.2.2.2.2.1, hh.2.2.2.2.2.2.2.2.2.2.2.2.1, fun c hc => ?_⟩
    rw [i1 0 _ (by decide), i1 1 _ (by decide), i1 2 _ (by decide)]
    exact hh.2.2.2.2.2.2.2.2.2.2.2.2.2 c hc
  · intro r hr
    rw [i2 640 _ (by decide), i1 641 _ (by decide), i1 642 _ (by decide), i1 643 _ (by decide), i1 644 _ (by decide)]
    exact h r hr
  · intro k hk
    rw [i1 133 _ (by decide), i1 134 _ (by decide), i1 135 _ (by decide), i1 136 _ (by decide), i1 137 _ (by decide)]
    exact h k hk
/-! a repair more -/
def arM (m : CM) (P : Nat) (c u : Int32) : CM := sL (sI (nsM (sN m 7 (4 * (440 + P))) (4 * (440 + P)) c u 0) 903 (4 * (440 + P)) (nI P)) 53 0 (gL m 53 0 ++ [4 * (440 + P)])
def arR (rho : RH) (P : Nat) (c u : Int32) : RH := up2 (up2 (up2 (up2 rho 61 P c) 62 P u) 46 (440 + P) 0) 59 0 (nI (P + 1))
theorem ar_sc {P o : Nat} {c u : Int32} (h : o ≠ 440 + P) : sc (arR rho P c u) o = sc rho o := by
  unfold sc arR
  rw [up2_f _ _ _ _ (by decide), up2_i _ _ _ _ h]
  rfl
theorem ar_cal {P o : Nat} {c u : Int32} (h : o ≠ 440 + P) : cal (arR rho P c u) o = cal rho o := by
  unfold cal
  by_cases h1 : o < 400
  · rw [if_pos h1, if_pos h1]; rfl
  · rw [if_neg h1, if_neg h1]
    by_cases h2 : o < 440
    · rw [if_pos h2, if_pos h2]
    · rw [if_neg h2, if_neg h2]
      unfold arR
      rw [up2_f _ _ _ _ (by decide), up2_f _ _ _ _ (by decide), up2_f _ _ _ _ (by decide), up2_i _ _ _ _ (show o - 440 ≠ P by omega)]
theorem ar_cld {P o n : Nat} {c u : Int32} (h : o ≠ 440 + P) : cld (arR rho P c u) o n = cld rho o n := by
  unfold cld
  by_cases h1 : o < 400
  · rw [if_pos h1, if_pos h1]; rfl
  · rw [if_neg h1, if_neg h1]
    by_cases h2 : o < 440
    · rw [if_pos h2, if_pos h2]; rfl
    · rw [if_neg h2, if_neg h2]
      unfold arR
      rw [up2_f _ _ _ _ (by decide), up2_f _ _ _ _ (by decide), up2_i _ _ _ _ (show o - 440 ≠ P by omega)]
      rfl
theorem ar_inv (h : INVX X Y m rho) (hP : iP rho < 100) (hR : 0 < iR rho) {c u : Int32} (hc : Ix c 6) (hu : Ix u 6) : INVX X Y (arM m (iP rho) c u) (arR rho (iP rho) c u) ∧ 3 + pot (arM m (iP rho) c u) = pot m ∧ (∀ f j, j ≠ 4 * (440 + iP rho) → gI (arM m (iP rho) c u) f j = gI m f j) ∧ iP (arR rho (iP rho) c u) = iP rho + 1 := by
  have hb := h.rb9
  have hb0 := h.rb9
  have hC := hb.C
  generalize hPP : iP rho = P at *
  have hout0 := ns_out m (4 * (440 + P)) c u 0
  have hat := ns_at m (4 * (440 + P)) c u 0
  have hLL := fun c9 j9 (q : ¬ (c9 = 55 ∧ j9 = 4 * (440 + P))) => ns_L m (4 * (440 + P)) c u 0 q
  have hVV := fun c9 j9 (q : ¬ ((c9 = 55 ∨ c9 = 7) ∧ j9 = 4 * (440 + P))) => ns_V m (4 * (440 + P)) c u 0 q
  generalize hn0 : nsM (sN m 7 (4 * (440 + P))) (4 * (440 + P)) c u 0 = n0 at *
  have hM : arM m P c u = sL (sI n0 903 (4 * (440 + P)) (nI P)) 53 0 (gL m 53 0 ++ [4 * (440 + P)]) := by unfold arM; rw [hn0]
  generalize arM m P c u = M at *
  have iI1 : ∀ f j, ¬ (f = 903 ∧ j = 4 * (440 + P)) → gI M f j = gI n0 f j := fun f j q => by
    rw [hM, gI_sL, gI_sI]
    by_cases hf : f = 903
    · rw [if_pos hf, if_neg (fun z => q ⟨hf, z⟩)]
    · rw [if_neg hf]
  have hout : OutS m M (4 * (440 + P)) := ⟨fun f j q => by rw [iI1 f j (fun z => q ⟨by rw [z.1], z.2⟩)]; exact hout0.1 f j q, fun f j q => by rw [hM]; exact hout0.2.1 f j q, by rw [hM]; exact hout0.2.2.1, by rw [hM]; exact hout0.2.2.2⟩
  have hL : ∀ c9 j9, ¬ (c9 = 55 ∧ j9 = 4 * (440 + P)) → ¬ c9 = 53 → gL M c9 j9 = gL m c9 j9 := fun c9 j9 q1 q2 => by
    rw [hM, gL_sL, if_neg q2]
    exact hLL c9 j9 q1
  have hL53 : gL M 53 0 = gL m 53 0 ++ [4 * (440 + P)] := by rw [hM, gL_sL, if_pos rfl, if_pos rfl]
  have hV : ∀ c9 j9, ¬ ((c9 = 55 ∨ c9 = 7) ∧ j9 = 4 * (440 + P)) → gV M c9 j9 = gV m c9 j9 := fun c9 j9 q => by rw [hM]; exact hVV c9 j9 q
  have hlen : (gL m 53 0).length = P := by
    rw [h.al9.2.2.2, List.length_map, List.length_range, hPP]
  obtain ⟨b1, b2, b3, b4, b5, b6, b7, b8, b9, b10, b11, b12, b13, b14, b15, b16, c0, cs, ci, cp, cr, cq, ck, cw, cz⟩ := h
  obtain ⟨g1, g2, g3, g4, g5, g6, g8, g11⟩ := outs_basic (rho := rho) hout
  have iPn : iP (arR rho P c u) = P + 1 := by
    unfold iP arR
    rw [up2_s, nv_nI (by omega)]
  have hOE : ∀ o, OE (arR rho P c u) o → o = 440 + P ∨ (OE rho o ∧ o ≠ 440 + P) := fun o ho => by
    by_cases z : o = 440 + P
    · exact Or.inl z
    · refine Or.inr ⟨?_, z⟩
      rcases ho with q | q | q
      · exact Or.inl q
      · exact Or.inr (Or.inl q)
      · rw [iPn] at q
        exact Or.inr (Or.inr ⟨q.1, by omega⟩)
  have hOE2 : ∀ o, OE rho o → OE (arR rho P c u) o ∧ o ≠ 440 + P := fun o ho => by
    have hE := hb.E ho
    refine ⟨?_, by omega⟩
    rcases ho with q | q | q
    · exact Or.inl q
    · exact Or.inr (Or.inl q)
    · refine Or.inr (Or.inr ⟨q.1, ?_⟩)
      rw [iPn]
      omega
  have scn : sc (arR rho P c u) (440 + P) = 1 := by
    unfold sc arR
    rw [up2_f _ _ _ _ (by decide), up2_s]
    rfl
  have hidx : ∀ o n, OE rho o → n < sc rho o → 4 * o + n ≠ 4 * (440 + P) := fun o n ho hn => by
    have := (hOE2 o ho).2
    have := (hb.sce ho).2.1
    omega
  have hT : TR (arR rho P c u) = TR rho := rfl
  have z63 : rho 63 P = 0 := cz.2.1 P (by omega) (by omega)
  refine ⟨⟨g1 b1, g2 b2, g3 b3, g4 b4, g5 b5, g6 b6, fun i hi => ?_, g8 b8, ?_, fun k hk => ?_, g11 b11, fun o n ho hn => ?_, fun o n ho hn => ?_, ⟨fun o n ho hn => ?_, fun k hk z => ?_⟩, fun o n ho ho4 hn => ?_, ⟨fun k k1 k2 => ?_, fun r r1 r2 => ?_, fun i i1 i2 => ?_, fun o n h1 h2 h3 => ?_⟩, ⟨c0.1, c0.2.1, c0.2.2.1, c0.2.2.2.1, ?_, fun _ => hR, c0.2.2.2.2.2.2.1, c0.2.2.2.2.2.2.2.1, ?_⟩, cs, ci, cp, fun r hr => ?_, fun p hp => ?_, fun k hk => ?_, fun k hk => ?_, ⟨cz.1, fun p p1 p2 => ?_, cz.2.2⟩⟩, ?_, ?_, iPn⟩
  · rw [hout.1 _ _ (by omega), hL _ _ (by omega) (by omega)]
    exact b7 i hi
  · unfold AL
    rw [hL _ _ (by omega) (by omega), hL _ _ (by omega) (by omega), hL _ _ (by omega) (by omega), hL53, iPn, List.range_succ, List.map_append, b9.2.2.2, hPP]
    exact ⟨b9.1, b9.2.1, b9.2.2.1, rfl⟩
  · have hk2 : k < iC rho := hk
    have hk4 : k ≠ 440 + P := by omega
    rw [hL _ _ (by omega) (by omega), hout.1 _ _ (by omega), hout.1 _ _ (by omega), hout.2.1 _ _ (by omega), hout.2.1 _ _ (by omega), hout.2.1 _ _ (by omega), ar_sc hk4]
    exact b10 k hk
  · rcases hOE o ho with rfl | ⟨ho2, hne⟩
    · rw [scn] at hn
      have : n = 0 := by omega
      subst this
      rw [Nat.add_zero]
      have e903 : gI M 903 (4 * (440 + P)) = nI P := by rw [hM, gI_sL, gI_sI, if_pos rfl, if_pos rfl]
      have eR : ∀ f, gR M f (4 * (440 + P)) = gR n0 f (4 * (440 + P)) := fun f => by rw [hM]; rfl
      rw [e903, iI1 896 _ (by omega), iI1 897 _ (by omega), iI1 898 _ (by omega), iI1 899 _ (by omega), iI1 900 _ (by omega), iI1 901 _ (by omega), iI1 902 _ (by omega), eR, eR, hat.1.1, hat.1.2.1, hat.1.2.2.1, hat.1.2.2.2.1, hat.1.2.2.2.2.1, hat.1.2.2.2.2.2.1, hat.1.2.2.2.2.2.2.1, hat.2.1, hat.2.2.1]
      unfold cal cld saf und zon dlo rqo rpo owr
      rw [if_neg (by omega), if_neg (by omega), if_neg (by omega), if_neg (by omega), if_neg (by omega), if_neg (by omega), if_neg (by omega), if_neg (by omega), if_neg (by omega), if_neg (by omega), if_neg (by omega), if_neg (by omega), if_neg (by omega), if_neg (by omega), show 440 + P - 440 = P by omega]
      refine ⟨?_, ?_, rfl, rfl, rfl, rfl, rfl, rfl, rfl, rfl⟩
      · show c = (if P = P then c else _)
        rw [if_pos rfl]
      · show u = (if P = P then u else _)
        rw [if_pos rfl]
    · rw [ar_sc hne] at hn
      have hid := hidx o n ho2 hn
      rw [hout.1 _ _ (fun z => hid z.2), hout.1 _ _ (fun z => hid z.2), hout.1 _ _ (fun z => hid z.2), hout.1 _ _ (fun z => hid z.2), hout.1 _ _ (fun z => hid z.2), hout.1 _ _ (fun z => hid z.2), hout.1 _ _ (fun z => hid z.2), hout.1 _ _ (fun z => hid z.2), hout.2.1 _ _ (fun z => hid z.2), hout.2.1 _ _ (fun z => hid z.2), ar_cal hne, ar_cld hne]
      exact b12 o n ho2 hn
  · rw [hT]
    rcases hOE o ho with rfl | ⟨ho2, hne⟩
    · rw [scn] at hn
      have : n = 0 := by omega
      subst this
      rw [Nat.add_zero]
      have e : TR rho (440 + P) 0 = [] := by
        rw [List.eq_nil_iff_forall_not_mem]
        intro k hk
        have hk2 := TR_mem.mp hk
        exact (hOE2 _ (ck k hk2.1).2.1).2 hk2.2.1
      have eL : gL M 55 (4 * (440 + P)) = [] := by
        rw [hM, gL_sL, if_neg (by decide)]
        exact hat.2.2.2
      rw [e, iI1 910 _ (by omega), eL, hat.1.2.2.2.2.2.2.2.2.2.2.1]
      exact ⟨rfl, rfl⟩
    · rw [ar_sc hne] at hn
      have hid := hidx o n ho2 hn
      rw [hL _ _ (fun z => hid z.2) (by omega), hout.1 _ _ (fun z => hid z.2)]
      exact b13 o n ho2 hn
  · rcases hOE o ho with rfl | ⟨ho2, hne⟩
    · rw [scn] at hn ⊢
      have : n = 0 := by omega
      subst this
      rw [Nat.add_zero]
      have e8 : gI M 911 (4 * (440 + P)) = 8 := by rw [iI1 911 _ (by omega)]; exact hat.1.2.2.2.2.2.2.2.2.2.2.2
      refine ⟨fun z => by omega, fun _ _ => ⟨fun _ => e8, fun z => absurd ?_ z⟩⟩
      unfold Go goB
      rw [if_neg (by omega), if_neg (by omega), show 440 + P - 440 = P by omega]
      exact decide_eq_true z63
    · rw [ar_sc hne] at hn ⊢
      have hid := hidx o n ho2 hn
      rw [hout.1 _ _ (fun z => hid z.2)]
      exact b14.1 o n ho2 hn
  · have hid := hidx _ _ (ck k hk).2.1 (ck k hk).2.2.2.2.1
    have hh := b14.2 k hk z
    show X (iO rho k) ∨ gI M 911 (4 * iO rho k + iN rho k) ≠ 8
    rw [hout.1 _ _ (fun z => hid z.2)]
    exact hh
  · rcases hOE o ho with rfl | ⟨ho2, hne⟩
    · omega
    · rw [ar_sc hne] at hn
      have hid := hidx o n ho2 (by omega)
      rw [hout.1 _ _ (fun z => hid z.2), hout.1 _ _ (fun z => hid z.2), hout.1 _ _ (fun z => hid z.2), hout.1 _ _ (fun z => hid z.2)]
      exact b15 o n ho2 ho4 hn
  · rw [hV _ _ (by omega), hV _ _ (by omega)]
    exact b16.1 k k1 k2
  · rw [hV _ _ (by omega)]
    exact b16.2.1 r r1 r2
  · have hh := b16.2.2.1 i i1 i2
    rw [hV _ _ (by omega), hV _ _ (by omega), hV _ _ (by omega), hV _ _ (by omega), hV _ _ (by omega)]
    refine ⟨hh.1, hh.2.1, hh.2.2.1, hh.2.2.2.1, hh.2.2.2.2.1, fun c' hc' => ?_⟩
    rw [hV _ _ (by omega)]
    exact hh.2.2.2.2.2 c' hc'
  · have hne : 4 * o + n ≠ 4 * (440 + P) := fun z => by
      have e1 : o = 440 + P := by omega
      have e2 : n = 0 := by omega
      subst e1; subst e2
      refine h3 ⟨Or.inr (Or.inr ⟨by omega, by rw [iPn]; omega⟩), by rw [scn]; omega⟩
    rw [hV _ _ (fun z => hne z.2), hV _ _ (fun z => hne z.2)]
    refine b16.2.2.2 o n h1 h2 (fun z => h3 ?_)
    have hq := hOE2 o z.1
    exact ⟨hq.1, by rw [ar_sc hq.2]; exact z.2⟩
  · refine ⟨P + 1, by omega, ?_⟩
    unfold arR
    rw [up2_s]
  · rw [iPn, List.range_succ, List.filter_append]
    have e : [P].filter (fun p => decide (arR rho P c u 63 p ≠ 0)) = [] := by
      rw [List.filter_cons_of_neg]
      · rfl
      · show ¬ decide (rho 63 P ≠ 0) = true
        simp [z63]
    rw [e, List.append_nil]
    have := c0.2.2.2.2.2.2.2.2
    rw [hPP] at this
    exact this
  · refine ⟨(cr r hr).1, (cr r hr).2.1, ?_⟩
    have hR2 := hb.R
    have hr2 : r < iR rho := hr
    show (if 400 + r = 440 + P then 0 else rho 46 (400 + r)) = 0
    rw [if_neg (by omega)]
    exact (cr r hr).2.2
  · rw [iPn] at hp
    by_cases hpP : p = P
    · subst hpP
      refine ⟨?_, ?_, ?_, Or.inl z63⟩
      · show Ix (if p = p then c else _) 6
        rw [if_pos rfl]
        exact hc
      · show Ix (if p = p then u else _) 6
        rw [if_pos rfl]
        exact hu
      · show (if 440 + p = 440 + p then 0 else _) = (0 : Int32)
        rw [if_pos rfl]
    · have hh := cq p (by omega)
      refine ⟨?_, ?_, ?_, hh.2.2.2⟩
      · show Ix (if p = P then c else rho 61 p) 6
        rw [if_neg hpP]
        exact hh.1
      · show Ix (if p = P then u else rho 62 p) 6
        rw [if_neg hpP]
        exact hh.2.1
      · show (if 440 + p = 440 + P then 0 else rho 46 (440 + p)) = 0
        rw [if_neg (by omega)]
        exact hh.2.2.1
  · have hk2 : k < iC rho := hk
    have hh := ck k hk2
    have hq := hOE2 _ hh.2.1
    have hk4 : k ≠ 440 + P := by omega
    refine ⟨hh.1, hq.1, hh.2.2.1, hh.2.2.2.1, ?_, hh.2.2.2.2.2.1, hh.2.2.2.2.2.2.1, hh.2.2.2.2.2.2.2.1, ?_, ?_, hh.2.2.2.2.2.2.2.2.2.2.1, ?_, ?_⟩
    · show iN rho k < sc (arR rho P c u) (iO rho k)
      rw [ar_sc hq.2]
      exact hh.2.2.2.2.1
    · show rho 34 k = cld (arR rho P c u) (iO rho k) (iN rho k)
      rw [ar_cld hq.2]
      exact hh.2.2.2.2.2.2.2.2.1
    · show rho 35 k = cal (arR rho P c u) (iO rho k)
      rw [ar_cal hq.2]
      exact hh.2.2.2.2.2.2.2.2.2.1
    · show Ix ((if k = 440 + P then 0 else rho 46 k) + 1) 5
      rw [if_neg hk4]
      exact hh.2.2.2.2.2.2.2.2.2.2.2.1
    · rw [ar_sc hk4]
      exact hh.2.2.2.2.2.2.2.2.2.2.2.2
  · have hk2 : k < iC rho := hk
    have hh := cw k hk2
    have hq := hOE2 _ (ck k hk2).2.1
    refine ⟨hh.1, fun z => ?_, hh.2.2.1, fun z => by rw [ar_sc (show k ≠ 440 + P by omega)]; exact hh.2.2.2 z⟩
    show iN rho k + 1 = sc (arR rho P c u) (iO rho k)
    rw [ar_sc hq.2]
    exact hh.2.1 z
  · rw [iPn] at p1
    exact cz.2.1 p (by omega) p2
  · have e56 : ∀ k, gL M 56 k = gL m 56 k := fun k => hL _ _ (by omega) (by omega)
    unfold pot
    rw [hL 52 _ (by omega) (by omega), hL 51 _ (by omega) (by omega), hL 50 _ (by omega) (by omega), hL53, List.length_append, List.length_singleton, hlen]
    simp only [e56]
    omega
  · intro f j hj
    exact hout.1 f j (fun z => hj z.2)
end PJ
