/-! a try, both sides: the theorem -/
section PZ
variable {X Y : Nat → Prop} {m : CM} {rho : RH}
theorem tc_fr (rho : RH) (c what : Nat) {F j : Nat} (h1 : F ≠ 17) (h2 : F ≠ 18) (h3 : F ≠ 19) : tcR rho c what F j = rho F j := by
  unfold tcR
  split
  · rfl
  · unfold acR
    split
    · rw [up2_f _ _ _ _ h3, up2_f _ _ _ _ h1]
    · rw [up2_f _ _ _ _ h2, up2_f _ _ _ _ h1]
theorem ta_fr (rho : RH) (o c what : Nat) {F j : Nat} (h1 : F ≠ 17) (h2 : F ≠ 18) (h3 : F ≠ 19) (h4 : F ≠ 47) (h5 : F ≠ 48) (h6 : F ≠ 49) : taR rho o c what F j = rho F j := by
  unfold taR a2R
  rw [up2_f _ _ _ _ h6, up2_f _ _ _ _ h5, up2_f _ _ _ _ h4]
  exact tc_fr rho c what h1 h2 h3
theorem tc_inv (h : INVX X Y m rho) {c what : Nat} (hc : c < 7) : INVX X Y (tcM m c what) (tcR rho c what) ∧ pot (tcM m c what) = pot m := by
  unfold tcM tcR
  split
  · exact ⟨h, rfl⟩
  · exact ac_inv h hc _
theorem gI_tcM (m : CM) (c what : Nat) {f j : Nat} (h : f < 256 ∨ 259 < f) : gI (tcM m c what) f j = gI m f j := by
  unfold tcM
  split
  · rfl
  · unfold acM
    split
    · rw [gI_sI, if_neg (by omega), gI_sI, if_neg (by omega)]
    · rw [gI_sI, if_neg (by omega), gI_sI, if_neg (by omega)]
theorem TR_nodup (rho : RH) (o n : Nat) : (TR rho o n).Nodup := List.nodup_range.filter _
theorem try_both {o n c s : Nat} (h : INVX X (fun x => Y x ∨ x = o) m rho) (hX : ∀ x, ¬ X x) (ho : OE rho o) (hn : n + 1 = sc rho o) (hc : cal rho o = nI c) (hs : cld rho o n = nI s) (hc7 : c < 7) (hs6 : s < 6) (hgo : Go rho o) (what : Nat) (hw : what < 4) (hw3 : what = 3 ↔ 440 ≤ o) (hLK : LKd rho o n)
    (hab : o < 440 → ∃ a b, rho 48 o = nI a ∧ rho 49 o = nI b ∧ (what = 0 → a = 0 ∧ b = 0) ∧ (what = 1 → 1 ≤ a ∧ b < 3) ∧ (what = 2 → a = 1) ∧ a ≤ b + 2 ∧ b ≤ 3) (hj : o < 440 → gI m 909 (4 * o + n) = rho 50 o ∨ gI m 909 (4 * o + n) = -1) :
    ∃ m1 g1 m' rho', f8_X8_tryOnce 0 (4 * o + n) (if what = 1 ∨ what = 2 then 1 else 0) (if what = 1 then sI m 907 (4 * o + n) (gI m 907 (4 * o + n) + 1) else m) = some (0, m1, g1) ∧ f8_X8_lookAtEnds 0 (4 * o + n) m1 = some (0, m', 0) ∧ f9_tries (nI o) (nI what) rho = some (0, rho') ∧ INVX X Y m' rho' ∧ g1 + pot m' ≤ pot m ∧ LKd rho' o n ∧ FrT rho rho' ∧ rho' 49 o = rho 49 o + w1 what := by
  have hb := h.rb9
  have hC := hb.C
  have hE := hb.E ho
  have hss := hb.sce ho
  have hA := tc_inv (what := what) h hc7
  have ho1 : OE (tcR rho c what) o := by
    unfold OE iC iR iP at ho ⊢
    rw [tc_fr rho c what (by decide) (by decide) (by decide), tc_fr rho c what (by decide) (by decide) (by decide), tc_fr rho c what (by decide) (by decide) (by decide)]
    exact ho
  have hn1 : n + 1 = sc (tcR rho c what) o := by
    unfold sc at hn ⊢
    rw [tc_fr rho c what (by decide) (by decide) (by decide)]
    exact hn
  have hnow := hA.1.now
  have hae : o < 440 → gI (tcM m c what) 906 (4 * o + n) = tcR rho c what 48 o ∧ gI (tcM m c what) 907 (4 * o + n) = tcR rho c what 49 o := fun z => ⟨(hA.1.ae9 o n ho1 z hn1).1, (hA.1.ae9 o n ho1 z hn1).2.1⟩
  have hI2 : INVX X (fun x => Y x ∨ x = o) (taM m (4 * o + n) c what) (taR rho o c what) := by
    refine (a2_inv hA.1 ho1 hn1 (fun z => ⟨?_, ?_, ?_, ?_⟩)).mono (fun _ z => z) (fun x z => z.elim id Or.inr)
    · rw [(hae z).1]
    · rw [(hae z).2]
    · obtain ⟨a, b, z1, z2, z3, z4, z5, z6, z7⟩ := hab z
      refine ⟨a + 1, b + (if what = 1 then 1 else 0), ?_, ?_, by omega, ?_, ?_⟩
      · rw [tc_fr rho c what (by decide) (by decide) (by decide), z1, nI_1]
      · rw [tc_fr rho c what (by decide) (by decide) (by decide), z2]
        unfold w1
        split
        · rw [nI_1]
        · rw [add0]
          rfl
      · split
        · have := z4 (by assumption); omega
        · have : what ≠ 1 := by assumption
          have h5 : what = 0 ∨ what = 2 ∨ what = 3 := by omega
          rcases h5 with q | q | q
          · have := z3 q; omega
          · have := z5 q; omega
          · have := hw3.mp q; omega
      · split
        · have := z4 (by assumption); omega
        · omega
    · rw [(hae z).1]
      by_cases h0 : tcR rho c what 48 o = 0
      · rw [if_pos h0, if_pos h0, hnow]
      · rw [if_neg h0, if_neg h0]
        exact ((hA.1.ae9 o n ho1 z hn1).2.2.2 h0).1
  have f := fun (F j : Nat) (a1 : F ≠ 17) (a2 : F ≠ 18) (a3 : F ≠ 19) (a4 : F ≠ 47) (a5 : F ≠ 48) (a6 : F ≠ 49) => ta_fr rho o c what (F := F) (j := j) a1 a2 a3 a4 a5 a6
  have ho2 : OE (taR rho o c what) o := ho1
  have hn2 : n + 1 = sc (taR rho o c what) o := hn1
  have eC2 : iC (taR rho o c what) = iC rho := by unfold iC; rw [f 31 0 (by decide) (by decide) (by decide) (by decide) (by decide) (by decide)]
  have eO2 : ∀ j, iO (taR rho o c what) j = iO rho j := fun j => by unfold iO; rw [f 32 j (by decide) (by decide) (by decide) (by decide) (by decide) (by decide)]
  have eN2 : ∀ j, iN (taR rho o c what) j = iN rho j := fun j => by unfold iN; rw [f 33 j (by decide) (by decide) (by decide) (by decide) (by decide) (by decide)]
  have eT2 : TR (taR rho o c what) o n = TR rho o n := by
    unfold TR
    rw [eC2]
    apply List.filter_congr
    intro x _
    rw [eO2, eN2]
  have hc2 : cal (taR rho o c what) o = nI c := by
    rw [← hc]
    unfold cal
    rw [f 34 o (by decide) (by decide) (by decide) (by decide) (by decide) (by decide), f 61 _ (by decide) (by decide) (by decide) (by decide) (by decide) (by decide)]
  have hs2 : cld (taR rho o c what) o n = nI s := by
    rw [← hs]
    unfold cld iS
    rw [f 34 o (by decide) (by decide) (by decide) (by decide) (by decide) (by decide), f 3 _ (by decide) (by decide) (by decide) (by decide) (by decide) (by decide), f 52 _ (by decide) (by decide) (by decide) (by decide) (by decide) (by decide), f 62 _ (by decide) (by decide) (by decide) (by decide) (by decide) (by decide)]
  have hgo2 : Go (taR rho o c what) o := (Go_fr (fun _ => f 37 o (by decide) (by decide) (by decide) (by decide) (by decide) (by decide)) (f 56 _ (by decide) (by decide) (by decide) (by decide) (by decide) (by decide)) (f 63 _ (by decide) (by decide) (by decide) (by decide) (by decide) (by decide))).mpr hgo
  have e48 : taR rho o c what 48 o = rho 48 o + 1 := by
    unfold taR a2R
    rw [up2_f _ _ _ _ (by decide), up2_s, tc_fr rho c what (by decide) (by decide) (by decide)]
  have e49 : taR rho o c what 49 o = rho 49 o + w1 what := by
    unfold taR a2R
    rw [up2_s, tc_fr rho c what (by decide) (by decide) (by decide)]
  have e909 : gI (taM m (4 * o + n) c what) 909 (4 * o + n) = gI m 909 (4 * o + n) := gI_tcM m c what (by omega)
  obtain ⟨m1, g1, rho1, fl, k1, k2, k3, k4, k5, k6, k7, l, k8, k9⟩ := B_both (Y := Y) hI2 hX ho2 hn2 hc2 hs2 hc7 hs6 hgo2 (fun z => by
      obtain ⟨a, b, z1, z2, z3, z4, z5, z6, z7⟩ := hab z
      exact ⟨a + 1, by omega, by omega, by rw [e48, z1, nI_1]⟩) (fun z => by
      rw [e909, f 50 o (by decide) (by decide) (by decide) (by decide) (by decide) (by decide)]
      exact hj z)
  rw [eT2] at k8
  rw [eC2] at k5 k6 k7 k9
  have eC1 : iC rho ≤ iC rho1 ∧ iC rho1 ≤ iC rho + 1 := by have := k4.2.2.2; rw [eC2] at this; exact this
  have hoC : o ≠ iC rho ∨ 400 ≤ iC rho := by omega
  have kB := k4.2.1
  rw [eC2] at kB
  have f1 : ∀ F j, F ≠ 17 → F ≠ 18 → F ≠ 19 → F ≠ 24 → F ≠ 26 → F ≠ 31 → F ≠ 47 → F ≠ 48 → F ≠ 49 → F ≠ 50 → (F < 32 ∨ 43 < F) → F ≠ 46 → rho1 F j = rho F j := fun F j a1 a2 a3 a4 a5 a6 a7 a8 a9 b1 b2 b3 => (k4.1 F j a4 a5 a6 b1 b2 b3).trans (f F j a1 a2 a3 a7 a8 a9)
  have f2 : ∀ F j, F ≠ 39 → ((32 ≤ F ∧ F ≤ 43) ∨ F = 46) → (j ≠ iC rho ∨ 400 ≤ iC rho) → rho1 F j = rho F j := fun F j a1 a2 a3 => (kB F j a1 a2 a3).trans (f F j (by omega) (by omega) (by omega) (by omega) (by omega) (by omega))
  have f43 : ∀ j, rho1 43 j = rho 43 j := fun j => (k4.2.2.1 j).trans (f 43 j (by decide) (by decide) (by decide) (by decide) (by decide) (by decide))
  have ho3 : OE rho1 o := by
    have h51 := f1 51 0 (by decide) (by decide) (by decide) (by decide) (by decide) (by decide) (by decide) (by decide) (by decide) (by decide) (by decide) (by decide)
    have h59 := f1 59 0 (by decide) (by decide) (by decide) (by decide) (by decide) (by decide) (by decide) (by decide) (by decide) (by decide) (by decide) (by decide)
    have eR : iR rho1 = iR rho := by unfold iR; rw [h51]
    have eP : iP rho1 = iP rho := by unfold iP; rw [h59]
    unfold OE at ho ⊢
    rw [eR, eP]
    omega
  have hn3 : n + 1 = sc rho1 o := by
    unfold sc at hn ⊢
    rw [f2 46 o (by decide) (by decide) hoC]
    exact hn
  have hgo3 : Go rho1 o := (Go_fr (fun z => f2 37 o (by decide) (by decide) hoC) (f1 56 _ (by decide) (by decide) (by decide) (by decide) (by decide) (by decide) (by decide) (by decide) (by decide) (by decide) (by decide) (by decide)) (f1 63 _ (by decide) (by decide) (by decide) (by decide) (by decide) (by decide) (by decide) (by decide) (by decide) (by decide) (by decide) (by decide))).mpr hgo
  have h9113 := stp k2 hX ho3 hn3 hgo3
  have hpot : g1 + pot m1 ≤ pot m := by
    have e : pot (taM m (4 * o + n) c what) = pot (tcM m c what) := rfl
    have := hA.2
    omega
  have hkn : ∀ k, k ≠ iC rho → knB rho1 k = knB rho k := fun k hk => by
    unfold knB
    rw [f2 37 k (by decide) (by decide) (Or.inl hk), f2 42 k (by decide) (by decide) (Or.inl hk), f2 38 k (by decide) (by decide) (Or.inl hk), f1 0 0 (by decide) (by decide) (by decide) (by decide) (by decide) (by decide) (by decide) (by decide) (by decide) (by decide) (by decide) (by decide)]
  have hT0 : ∀ x, x ∈ TR rho o n → rho1 43 x = 0 → knB rho1 x = false := fun x hx z => by
    have hxC := (TR_mem.mp hx).1
    rw [hkn x (by omega)]
    rw [f43] at z
    exact hLK x hx z
  have hFr : FrT rho rho1 := ⟨fun F j a1 a2 a3 a4 a5 a6 a7 a8 a9 b1 b2 b3 b4 b5 b6 b7 b8 b9 => f1 F j a1 a2 a3 a7 a9 b3 b6 b7 b8 b9 (by omega) b5, fun F j a1 a2 a3 a4 a5 => f2 F j a1 a4 a5, eC1.1, eC1.2⟩
  have e491 : rho1 49 o = rho 49 o + w1 what := by
    rw [← e49]
    exact k4.1 49 o (by decide) (by decide) (by decide) (by decide) (by decide) (by decide)
  have h8 := e8_try0 h ho hn hc hc7 hw hw3
  have h9 := e9_tries0 hb ho hn hc hs hc7 hw
  rw [k5] at h9
  cases fl with
  | false =>
    rw [if_neg (by decide)] at h9
    have hL1 : LKd rho1 o n := fun k hk z => by
      by_cases hkC : k = iC rho
      · rw [hkC]
        exact k7 rfl (hkC ▸ hk)
      · rw [k8] at hk
        rcases List.mem_append.mp hk with q | q
        · exact hT0 k q z
        · exact absurd (k9 k q) hkC
    exact ⟨m1, g1, m1, rho1, h8.trans k1, e8_lookNone k2 ho3 hn3 h9113 hL1, h9, k2, hpot, hL1, hFr, e491⟩
  | true =>
    rw [if_pos rfl] at h9
    obtain ⟨q1, q2, q3⟩ := k6 rfl
    have hl : l = [iC rho] := by
      have hnd := TR_nodup rho1 o n
      rw [k8] at hnd q1
      have hnd2 := (List.nodup_append.mp hnd).2.1
      have hmem : iC rho ∈ l := by
        rcases List.mem_append.mp q1 with q | q
        · have := (TR_mem.mp q).1
          omega
        · exact q
      cases l with
      | nil => cases hmem
      | cons x t =>
        cases t with
        | nil => rw [k9 x List.mem_cons_self]
        | cons y t =>
          have e1 := k9 x List.mem_cons_self
          have e2 := k9 y (List.mem_cons_of_mem _ List.mem_cons_self)
          have := (List.nodup_cons.mp hnd2).1
          rw [e1, e2] at this
          exact absurd List.mem_cons_self this
    rw [hl] at k8
    have hCk : iC rho < 400 := by
      have := (TR_mem.mp q1).1
      have := k2.rb9.C
      omega
    have h9' : f9_tries (nI o) (nI what) rho = if knB rho1 (iC rho) = true then (ob (f9_looksAt (nI (iC rho)) rho1) fun _ rho9 => some (0, rho9)) else some (0, rho1) := by
      rw [h9]
      unfold LOOKT
      rw [e9_isKnown hCk, ob_s]
      cases knB rho1 (iC rho) with
      | true => rw [if_pos rfl, if_neg (show ¬ (1 : Int32) = 0 by decide), if_pos rfl]
      | false => rw [if_neg (show ¬ false = true by decide), if_pos rfl, if_neg (show ¬ false = true by decide)]
    cases hq : knB rho1 (iC rho) with
    | false =>
      rw [hq, if_neg (by decide)] at h9'
      have hL1 : LKd rho1 o n := fun k hk z => by
        rw [k8] at hk
        rcases List.mem_append.mp hk with q | q
        · exact hT0 k q z
        · rw [List.mem_singleton.mp q]
          exact hq
      exact ⟨m1, g1, m1, rho1, h8.trans k1, e8_lookNone k2 ho3 hn3 h9113 hL1, h9', k2, hpot, hL1, hFr, e491⟩
    | true =>
      rw [hq, if_pos rfl] at h9'
      have hc3 : cal rho1 o = nI c := by
        rw [← hc]
        unfold cal
        rw [f2 34 o (by decide) (by decide) hoC, f1 61 _ (by decide) (by decide) (by decide) (by decide) (by decide) (by decide) (by decide) (by decide) (by decide) (by decide) (by decide) (by decide)]
      have hs3 : cld rho1 o n = nI s := by
        rw [← hs]
        unfold cld iS
        rw [f2 34 o (by decide) (by decide) hoC, f1 3 _ (by decide) (by decide) (by decide) (by decide) (by decide) (by decide) (by decide) (by decide) (by decide) (by decide) (by decide) (by decide), f1 52 _ (by decide) (by decide) (by decide) (by decide) (by decide) (by decide) (by decide) (by decide) (by decide) (by decide) (by decide) (by decide), f1 62 _ (by decide) (by decide) (by decide) (by decide) (by decide) (by decide) (by decide) (by decide) (by decide) (by decide) (by decide) (by decide)]
      have hen : ¬ enR rho1 (iC rho) = 3 := by
        unfold enR
        rw [q2]
        split <;> decide
      have hL := lk_inv k2 q1 ho3 hn3 hc3 hs3 hc7 hs6
      have hll := e8_lookLast k2 ho3 hn3 h9113 hc3 hs3 hc7 hs6 k8 hT0 q3 hq hen
      have hfl := lkB_L rho1 o (iC rho) c s
      rw [hL.2.2.1, ob_s] at h9'
      refine ⟨m1, g1, _, _, h8.trans k1, hll, h9', hL.1, by rw [hL.2.1]; exact hpot, fun k hk z => ?_, ⟨fun F j a1 a2 a3 a4 a5 a6 a7 a8 a9 b1 b2 b3 b4 b5 b6 b7 b8 b9 => ?_, fun F j a1 a2 a3 a4 a5 => ?_, ?_, ?_⟩, ?_⟩
      · rw [hfl.T, k8] at hk
        rw [hfl.kn]
        rw [lkB_fr rho1 o (iC rho) c s (by decide) (by decide) (by decide) (by decide) (by decide) (by decide) (by decide)] at z
        by_cases hkC : k = iC rho
        · rw [if_pos ⟨rfl, hkC⟩] at z
          exact absurd z (by decide)
        · rw [if_neg (fun q => hkC q.2)] at z
          rcases List.mem_append.mp hk with q | q
          · exact hT0 k q z
          · exact absurd (List.mem_singleton.mp q) hkC
      · rw [hfl F j a4 a5 a6 a8 b1 b2 (by omega) b9]
        exact hFr.1 F j a1 a2 a3 a4 a5 a6 a7 a8 a9 b1 b2 b3 b4 b5 b6 b7 b8 b9
      · rw [hfl F j (by omega) (by omega) (by omega) (by omega) (by omega) (by omega) a3 (by omega)]
        exact hFr.2.1 F j a1 a2 a3 a4 a5
      · rw [hfl.C]; exact eC1.1
      · rw [hfl.C]; exact eC1.2
      · rw [hfl 49 o (by decide) (by decide) (by decide) (by decide) (by decide) (by decide) (by decide) (by decide)]
        exact e491
end PZ
