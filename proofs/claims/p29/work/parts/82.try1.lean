/-! a try: accounts and counters; then the choice and the new call -/
section PV
variable {X Y : Nat → Prop} {m : CM} {rho : RH}
theorem sI_self (m : CM) (f i : Nat) : sI m f i (gI m f i) = m := by
  refine cm_ext rfl rfl (fun g j => ?_) rfl
  rw [gI_sI]
  by_cases h1 : g = f
  · by_cases h2 : j = i
    · rw [if_pos h1, if_pos h2, h1, h2]
    · rw [if_pos h1, if_neg h2]
  · rw [if_neg h1]
theorem sI_comm (m : CM) {f g : Nat} (i j : Nat) (v w : Int32) (h : f ≠ g) : sI (sI m f i v) g j w = sI (sI m g j w) f i v := by
  refine cm_ext rfl rfl (fun a b => ?_) rfl
  simp only [gI_sI]
  by_cases h1 : a = g
  · have h2 : a ≠ f := fun z => h (z.symm.trans h1)
    simp [h1, Ne.symm h]
  · simp [h1]
/-- accounts -/
def acM (m : CM) (c : Nat) (ext : Bool) : CM := if ext = true then sI (sI m 259 c (gI m 259 c + 1)) 256 c (gI m 256 c - 100) else sI (sI m 258 c (gI m 258 c + 1)) 256 c (if gI m 256 c + gI m 257 c < 1000 then gI m 256 c + gI m 257 c else 1000)
def acR (rho : RH) (c : Nat) (ext : Bool) : RH := if ext = true then up2 (up2 rho 17 c (rho 17 c - 100)) 19 c (rho 19 c + 1) else up2 (up2 rho 17 c (if rho 17 c + rho 16 c ≤ 1000 then rho 17 c + rho 16 c else 1000)) 18 c (rho 18 c + 1)
theorem e8_account (m : CM) (c : Nat) (ext : Bool) : f8_X2_account c (if ext = true then 1 else 0) m = some (0, acM m c ext, 0) := by
  unfold f8_X2_account acM
  cases ext with
  | true => rfl
  | false => rfl
theorem min1000 (x : Int32) : (if x < 1000 then x else 1000) = if x ≤ 1000 then x else 1000 := by
  by_cases h1 : x < 1000
  · rw [if_pos h1, if_pos (by rw [Int32.le_iff_toInt_le]; rw [Int32.lt_iff_toInt_lt] at h1; omega)]
  · by_cases h2 : x ≤ 1000
    · rw [if_neg h1, if_pos h2]
      apply Int32.toInt_inj.mp
      rw [Int32.lt_iff_toInt_lt] at h1
      rw [Int32.le_iff_toInt_le] at h2
      omega
    · rw [if_neg h1, if_neg h2]
theorem ac_inv (h : INVX X Y m rho) {c : Nat} (hc : c < 7) (ext : Bool) : INVX X Y (acM m c ext) (acR rho c ext) ∧ pot (acM m c ext) = pot m := by
  have hac := h.ac9 c hc
  cases ext with
  | true =>
    obtain ⟨b1, b2, b3, b4, b5, b6, b7, b8, b9, b10, b11, b12, b13, b14, b15, b16, b17⟩ := h
    refine ⟨⟨b1, b2, b3, b4, fun c' hc' => ?_, b6, b7, b8, b9, b10, b11, b12, b13, b14, b15, b16, b17⟩, rfl⟩
    have hh := b5 c' hc'
    refine ⟨?_, hh.2.1, hh.2.2.1, ?_⟩
    · show (if c' = c then gI m 256 c - 100 else gI m 256 c') = (if c' = c then rho 17 c - 100 else rho 17 c')
      rw [hac.1, hh.1]
    · show (if c' = c then gI m 259 c + 1 else gI m 259 c') = (if c' = c then rho 19 c + 1 else rho 19 c')
      rw [hac.2.2.2, hh.2.2.2]
  | false =>
    obtain ⟨b1, b2, b3, b4, b5, b6, b7, b8, b9, b10, b11, b12, b13, b14, b15, b16, b17⟩ := h
    refine ⟨⟨b1, b2, b3, b4, fun c' hc' => ?_, b6, b7, b8, b9, b10, b11, b12, b13, b14, b15, b16, b17⟩, rfl⟩
    have hh := b5 c' hc'
    refine ⟨?_, hh.2.1, ?_, hh.2.2.2⟩
    · show (if c' = c then (if gI m 256 c + gI m 257 c < 1000 then gI m 256 c + gI m 257 c else 1000) else gI m 256 c') = (if c' = c then (if rho 17 c + rho 16 c ≤ 1000 then rho 17 c + rho 16 c else 1000) else rho 17 c')
      rw [hac.1, hac.2.1, hh.1, min1000]
    · show (if c' = c then gI m 258 c + 1 else gI m 258 c') = (if c' = c then rho 18 c + 1 else rho 18 c')
      rw [hac.2.2.1, hh.2.2.1]
def a2M (m : CM) (s : Nat) (x907 x908 x906 : Int32) : CM := sI (sI (sI m 907 s x907) 908 s x908) 906 s x906
def a2R (rho : RH) (o : Nat) (y47 y48 y49 : Int32) : RH := up2 (up2 (up2 rho 47 o y47) 48 o y48) 49 o y49
theorem a2_inv (h : INVX X Y m rho) {o n : Nat} {x907 x908 x906 y47 y48 y49 : Int32} (ho : OE rho o) (hn : n + 1 = sc rho o) (hc : o < 440 → x906 = y48 ∧ x907 = y49 ∧ (∃ a b, y48 = nI a ∧ y49 = nI b ∧ 1 ≤ a ∧ a ≤ b + 2 ∧ b ≤ 3) ∧ x908 = y47) : INVX X (fun x => Y x ∨ x = o) (a2M m (4 * o + n) x907 x908 x906) (a2R rho o y47 y48 y49) := by
  have hb := h.rb9
  have hs := hb.sce ho
  obtain ⟨b1, b2, b3, b4, b5, b6, b7, b8, b9, b10, b11, b12, b13, b14, b15, b16, b17⟩ := h
  refine ⟨b1, b2, b3, b4, b5, b6, b7, b8, b9, b10, b11, b12, b13, b14, fun o' n' ho' ho4 hn' => ?_, b16, b17⟩
  have hn2 : n' + 1 = sc rho o' := hn'
  have ho2 : OE rho o' := ho'
  have hs' := hb.sce ho2
  have hh := b15 o' n' ho2 ho4 hn2
  by_cases hoo : o' = o
  · subst hoo
    have hnn : n' = n := by omega
    subst hnn
    obtain ⟨c1, c2, c3, c4⟩ := hc ho4
    have r48 : a2R rho o' y47 y48 y49 48 o' = y48 := by unfold a2R; rw [up2_f _ _ _ _ (by decide), up2_s]
    have r49 : a2R rho o' y47 y48 y49 49 o' = y49 := by unfold a2R; rw [up2_s]
    have r47 : a2R rho o' y47 y48 y49 47 o' = y47 := by unfold a2R; rw [up2_f _ _ _ _ (by decide), up2_f _ _ _ _ (by decide), up2_s]
    rw [r48, r49, r47]
    refine ⟨?_, ?_, ?_, fun _ => ⟨?_, Or.inl (Or.inr rfl)⟩⟩
    · unfold a2M
      rw [gI_sI, if_pos rfl, if_pos rfl, c1]
    · unfold a2M
      rw [gI_sI, if_neg (by decide), gI_sI, if_neg (by decide), gI_sI, if_pos rfl, if_pos rfl, c2]
    · obtain ⟨a, b, z1, z2, z3, z4⟩ := c3
      exact ⟨a, b, z1, z2, Or.inr z3, z4⟩
    · unfold a2M
      rw [gI_sI, if_neg (by decide), gI_sI, if_pos rfl, if_pos rfl, c4]
  · have hne : 4 * o' + n' ≠ 4 * o + n := by omega
    have g1 : ∀ f, gI (a2M m (4 * o + n) x907 x908 x906) f (4 * o' + n') = gI m f (4 * o' + n') := fun f => by
      unfold a2M
      rw [gI_sI, if_neg hne, ite_self, gI_sI, if_neg hne, ite_self, gI_sI, if_neg hne, ite_self]
    have g2 : ∀ F, a2R rho o y47 y48 y49 F o' = rho F o' := fun F => by
      unfold a2R
      rw [up2_n _ _ (fun z => hoo z.2), up2_n _ _ (fun z => hoo z.2), up2_n _ _ (fun z => hoo z.2)]
    rw [g1, g1, g1, g1, g2, g2, g2, g2]
    obtain ⟨a, b, z1, z2, z3, z4⟩ := hh.2.2.1
    refine ⟨hh.1, hh.2.1, ⟨a, b, z1, z2, z3.imp Or.inl id, z4⟩, fun z => ⟨(hh.2.2.2 z).1, (hh.2.2.2 z).2.imp Or.inl id⟩⟩
def R8 (i0 : Nat) (i1 : Nat) (m1 : CM) : CR (Int32) :=
  cb (f8_X8_choose i0 (i1) m1) fun r3 m4 =>
  if r3 = none then
    wr (sI m4 909 i1 (6)) fun m10 =>
    some (0, m10, 0)
  else
    od (gR m4 1033 i0) fun j12 =>
    if (nI (gL m4 52 j12).length) < 400 then
      cb (f8_X8_policyOf i0 (i1) (0) m4) fun r15 m16 =>
      if gV m16 1 ((gL m16 52 0).length) = false then
      cg 1 (
      wr (sN m16 1 ((gL m16 52 0).length)) fun m24 =>
      od (gR m24 1033 i0) fun j26 =>
      od (r3) fun j28 =>
      cb (f8_X1_init ((gL m16 52 0).length) ((nI (gL m24 52 j26).length)) (i1) (j28) ((if ((gI m4 1024 i0) + r15) < (gI m4 901 i1) then ((gI m4 1024 i0) + r15) else (gI m4 901 i1))) m24) fun _ m31 =>
      od (gR m31 1033 i0) fun j36 =>
      if (gL m31 52 j36).length ≤ 450 then
      cg 1 (
      wr (sL m31 52 j36 (gL m31 52 j36 ++ [((gL m16 52 0).length)])) fun m41 =>
      od (gR m41 905 i1) fun j43 =>
      if (gL m41 55 j43).length ≤ 450 then
      cg 1 (
      wr (sL m41 55 j43 (gL m41 55 j43 ++ [((gL m16 52 0).length)])) fun m48 =>
      od (gR m48 521 j28) fun j50 =>
      if vq ((gI m48 896 i1)) 7 then
      wr (sA m48 31 j50 ((gI m48 896 i1)).toNatClampNeg (((gA m48 31 j50 ((gI m48 896 i1)).toNatClampNeg) + 1))) fun m53 =>
      cb (f8_X8_place i0 (((gL m16 52 0).length)) m53) fun _ m56 =>
      some (0, m56, 0)
      else none)
      else none)
      else none)
      else none
    else
      wr (sI m4 909 i1 (6)) fun m61 =>
      some (0, m61, 0)
theorem b36_e (s : Nat) (m : CM) : b8_X8_tryOnce_36 0 s m = R8 0 s (sI m 906 s (gI m 906 s + 1)) := rfl
def R9 (x1 x3 x4 : Int32) (rho : RH) : Option (Int32 × RH) := ob (f9_wantedVersion (x4) rho) fun r4 rho5 => if (rho5 31 0) = 400 then b9_tries_189 (x1) (x3) (x4) ((-1)) rho5 else ob (f9_chosen (x1) (x3) (x4) (r4) rho5) fun r8 rho9 => b9_tries_189 (x1) (x3) (x4) (r8) rho9
theorem b155_e {o : Nat} (ho : o < 540) (x3 x4 s2 s3 : Int32) (rho : RH) : b9_tries_155 (nI o) x3 x4 (nI o) s2 s3 rho = R9 (nI o) x3 x4 (up2 rho 49 o (s2 + s3)) := by
  unfold b9_tries_155
  rw [if_pos (vq_nI ho (by omega)), nI_clamp (by omega), wr_s]
  rfl
/-- the step's last end, set where its owner's counters are spared -/
theorem s909_inv {o n : Nat} {e : Int32} (h : INVX X (fun x => Y x ∨ x = o) m rho) (ho : OE rho o) (hn : n + 1 = sc rho o) (h1 : o < 440 → ∃ a, 1 ≤ a ∧ a ≤ 10 ∧ rho 48 o = nI a) : INVX X Y (sI m 909 (4 * o + n) e) (up2 rho 50 o e) := by
  have hb := h.rb9
  have hs := hb.sce ho
  obtain ⟨b1, b2, b3, b4, b5, b6, b7, b8, b9, b10, b11, b12, b13, b14, b15, b16, b17⟩ := h
  refine ⟨b1, b2, b3, b4, b5, b6, b7, b8, b9, b10, b11, b12, b13, b14, fun o' n' ho' ho4 hn' => ?_, b16, b17⟩
  have hn2 : n' + 1 = sc rho o' := hn'
  have ho2 : OE rho o' := ho'
  have hs' := hb.sce ho2
  have hh := b15 o' n' ho2 ho4 hn2
  obtain ⟨a, b, z1, z2, z3, z4⟩ := hh.2.2.1
  by_cases hoo : o' = o
  · subst hoo
    have hnn : n' = n := by omega
    subst hnn
    refine ⟨hh.1, hh.2.1, ⟨a, b, z1, z2, Or.inr ?_, z4⟩, fun z => ⟨(hh.2.2.2 z).1, Or.inr (Or.inl ?_)⟩⟩
    · obtain ⟨a', y1, y2, y3⟩ := h1 ho4
      have : nI a = nI a' := z1.symm.trans y3
      rw [nI_eq (by omega) (by omega)] at this
      omega
    · rw [gI_sI, if_pos rfl, if_pos rfl, up2_s]
  · refine ⟨hh.1, hh.2.1, ⟨a, b, z1, z2, z3.imp (fun z => z.resolve_right hoo) id, z4⟩, fun z => ⟨(hh.2.2.2 z).1, ?_⟩⟩
    rw [gI_sI, if_pos rfl, if_neg (by omega), up2_i _ _ _ _ hoo]
    exact (hh.2.2.2 z).2.imp (fun z => z.resolve_right hoo) id
/-- an owner's counters are no longer spared -/
theorem INVX.dropY {o : Nat} (h : INVX X (fun x => Y x ∨ x = o) m rho) (h1 : o < 440 → ∃ a, 1 ≤ a ∧ a ≤ 10 ∧ rho 48 o = nI a) (h2 : ∀ n, OE rho o → o < 440 → n + 1 = sc rho o → gI m 909 (4 * o + n) = rho 50 o ∨ (gI m 909 (4 * o + n) = -1 ∧ ∃ k, k ∈ TR rho o n ∧ rho 43 k = 0)) : INVX X Y m rho := by
  have hb := h.rb9
  obtain ⟨b1, b2, b3, b4, b5, b6, b7, b8, b9, b10, b11, b12, b13, b14, b15, b16, b17⟩ := h
  refine ⟨b1, b2, b3, b4, b5, b6, b7, b8, b9, b10, b11, b12, b13, b14, fun o' n' ho' ho4 hn' => ?_, b16, b17⟩
  have hh := b15 o' n' ho' ho4 hn'
  obtain ⟨a, b, z1, z2, z3, z4⟩ := hh.2.2.1
  by_cases hoo : o' = o
  · subst hoo
    refine ⟨hh.1, hh.2.1, ⟨a, b, z1, z2, Or.inr ?_, z4⟩, fun z => ⟨(hh.2.2.2 z).1, Or.inr (h2 n' ho' ho4 hn')⟩⟩
    obtain ⟨a', y1, y2, y3⟩ := h1 ho4
    have : nI a = nI a' := z1.symm.trans y3
    rw [nI_eq (by omega) (by omega)] at this
    omega
  · exact ⟨hh.1, hh.2.1, ⟨a, b, z1, z2, z3.imp (fun z => z.resolve_right hoo) id, z4⟩, fun z => ⟨(hh.2.2.2 z).1, (hh.2.2.2 z).2.imp (fun z => z.resolve_right hoo) id⟩⟩
/-- what a try leaves as it was; k: the call that is made, if one is -/
def FrT (rho rho' : RH) : Prop := (∀ F j, F ≠ 17 → F ≠ 18 → F ≠ 19 → F ≠ 21 → F ≠ 22 → F ≠ 23 → F ≠ 24 → F ≠ 25 → F ≠ 26 → F ≠ 27 → F ≠ 28 → F ≠ 31 → (F < 32 ∨ 43 < F) → F ≠ 46 → F ≠ 47 → F ≠ 48 → F ≠ 49 → F ≠ 50 → rho' F j = rho F j) ∧
  (∀ F j, F ≠ 39 → F ≠ 41 → F ≠ 43 → ((32 ≤ F ∧ F ≤ 43) ∨ F = 46) → (j ≠ iC rho ∨ 400 ≤ iC rho) → rho' F j = rho F j) ∧ iC rho ≤ iC rho' ∧ iC rho' ≤ iC rho + 1
theorem FrT.rf (rho : RH) : FrT rho rho := ⟨fun _ _ _ _ _ _ _ _ _ _ _ _ _ _ _ _ _ _ _ _ => rfl, fun _ _ _ _ _ _ _ => rfl, Nat.le_refl _, Nat.le_succ _⟩
end PV
