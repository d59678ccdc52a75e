/-! a request is made -/
section PL9
variable {rho rho' : RH} {P S PR : Nat → Prop}
theorem pc_begins4 {r : Nat} (hr : r < 40) (hj : J6 AL9 rho) (hb : JB (Fs rho) r rho) (hR : iR rho = r + 1) (h46 : rho 46 (400 + r) = -1) (ht : rho 0 0 < rho 54 r) : PC (f9_begins (nI (400 + r)) rho) (fun _ m => JA m ∧ KG rho m) := by
  have hC := hj.1.C
  have hF := fs_le hj.1
  unfold f9_begins
  refine pc_ck (fun _ => ?_)
  refine pc_wr ?_
  refine pc_wr ?_
  refine pc_wr ?_
  rw [nI_clamp (n := 400 + r) (by omega)]
  have f46 : ∀ j, (up2 (up2 (up2 rho 46 (400 + r) (rho 46 (400 + r) + 1)) 48 (400 + r) 0) 49 (400 + r) 0) 46 j = if j = 400 + r then rho 46 (400 + r) + 1 else rho 46 j := fun j => rfl
  have hj2 : J6 AL9 (up2 (up2 (up2 rho 46 (400 + r) (rho 46 (400 + r) + 1)) 48 (400 + r) 0) 49 (400 + r) 0) := by
    refine ⟨⟨hj.1.1, hj.1.2.1, hj.1.2.2.1, fun j hj9 => ?_⟩, hj.2.1, hj.2.2.1, hj.2.2.2.1, hj.2.2.2.2.1, hj.2.2.2.2.2⟩
    have hj9' : j < iC rho := hj9
    obtain ⟨a1, a2, a3, a4, a5⟩ := hj.1.2.2.2 j hj9
    refine ⟨a1, a2, a3, a4, ?_⟩
    rw [f46, if_neg (by omega)]
    exact a5
  have hFs : Fs (up2 (up2 (up2 rho 46 (400 + r) (rho 46 (400 + r) + 1)) 48 (400 + r) 0) 49 (400 + r) 0) = Fs rho := by
    show ((List.range (iC rho)).map _).sum = ((List.range (iC rho)).map _).sum
    congr 1
    refine List.map_congr_left (fun j hj9 => ?_)
    have := List.mem_range.mp hj9
    unfold sc
    rw [f46, if_neg (by omega)]
  have hb2 : JB (Fs rho) r (up2 (up2 (up2 rho 46 (400 + r) (rho 46 (400 + r) + 1)) 48 (400 + r) 0) 49 (400 + r) 0) := hb
  have hK : KG rho (up2 (up2 (up2 rho 46 (400 + r) (rho 46 (400 + r) + 1)) 48 (400 + r) 0) 49 (400 + r) 0) := by
    refine ⟨⟨⟨Nat.le_refl _, Nat.le_refl _, Nat.le_refl _, Nat.le_refl _, fun k _ => ⟨rfl, rfl, rfl, rfl, rfl, fun _ => rfl⟩, fun _ _ _ => rfl, fun _ z => z, fun c' _ => ⟨Nat.le_refl _, Nat.le_refl _⟩, fun _ _ => ⟨rfl, rfl, rfl⟩⟩, fun _ => rfl⟩, fun F hF => ?_⟩
    have h1 : F ∈ kf := List.contains_iff_mem.mp hF
    have h2 : ∀ G, G ∈ kf → G ≠ 46 ∧ G ≠ 48 ∧ G ≠ 49 := by decide
    funext j
    rw [up2_f _ _ _ _ (h2 F h1).2.2, up2_f _ _ _ _ (h2 F h1).2.1, up2_f _ _ _ _ (h2 F h1).1]
  have hR2 : iR (up2 (up2 (up2 rho 46 (400 + r) (rho 46 (400 + r) + 1)) 48 (400 + r) 0) 49 (400 + r) 0) = r + 1 := hR
  have ht2 : (up2 (up2 (up2 rho 46 (400 + r) (rho 46 (400 + r) + 1)) 48 (400 + r) 0) 49 (400 + r) 0) 0 0 < (up2 (up2 (up2 rho 46 (400 + r) (rho 46 (400 + r) + 1)) 48 (400 + r) 0) 49 (400 + r) 0) 54 r := ht
  generalize up2 (up2 (up2 rho 46 (400 + r) (rho 46 (400 + r) + 1)) 48 (400 + r) 0) 49 (400 + r) 0 = B at hj2 hFs hb2 hK hR2 ht2 ⊢
  have hT : TP (400 + r) B := Or.inr (Or.inl ⟨by omega, by omega, by rw [Nat.add_sub_cancel_left]; omega, by rw [Nat.add_sub_cancel_left]; exact ht2⟩)
  refine pc_ob (pc_tries0 (F := Fs rho) (q := r) hj2 hT (by omega) hb2 (by omega) (by omega)) (fun _ m h => pc_some ?_)
  obtain ⟨b1, b2, b3⟩ := h
  rw [if_neg (by omega), if_neg (by omega)] at b2
  refine ⟨b1.jj ?_, hK.tr b3.kg⟩
  rw [b3.2.2.2.2, hFs, b3.2.1.eR, hR2]
  exact b2
theorem pc_request {s t : Nat} {x2 : Int32} (hj : JA rho) (hs : s < 6) (hx : x2 = 0 ∨ x2 = 1) (ht : 1 ≤ t ∧ t ≤ 200) : PC (f9_request (nI s) x2 (nI t) rho) (fun b m => JA m ∧ TT rho m ∧ m 0 = rho 0 ∧ ((iR rho < 40 ∧ m 64 0 = 0 ∧ b = nI (iR rho) ∧ iR m = iR rho + 1 ∧ m 55 (iR rho) = rho 0 0) ∨ (iR rho = 40 ∧ m 64 0 = 3))) := by
  have hR := hj.1.R
  have h1 : ¬ (nI s < 0 ∨ 5 < nI s) := nb (lo := 0) (hi := 5) (by omega) (by omega) (by omega)
  have h2 : ¬ (nI t < 1 ∨ 200 < nI t) := nb (lo := 1) (hi := 200) ht.1 ht.2 (by omega)
  unfold f9_request
  rw [e9_isService, ob_s, e9_in, ob_s, if_neg h1, if_neg h2]
  refine pc_if (fun c => ?_) (fun c => ?_)
  · rw [hR.1, l40, nI_leI (by omega) (by omega)] at c
    have e : f9_goes 1 1 0 rho = some (0, up2 rho 64 0 3) := by
      rw [e9_goes, if_pos (Or.inr (Or.inr rfl)), if_neg i10, if_neg i10, if_pos rfl]
    rw [e, ob_s]
    refine pc_if (fun _ => pc_some ⟨hj, TT.rf, rfl, Or.inr ⟨by omega, rfl⟩⟩) (fun z => absurd rfl z)
  · rw [hR.1, l40, nI_leI (by omega) (by omega)] at c
    rw [go1, ob_s]
    refine pc_if (fun z => absurd z i10) (fun _ => ?_)
    have e51 : (up2 rho 64 0 0) 51 0 = nI (iR rho) := hR.1
    refine pc_wr ?_
    refine pc_ck (fun _ => ?_)
    refine pc_wr ?_
    refine pc_ck (fun _ => ?_)
    refine pc_wr ?_
    refine pc_wr ?_
    refine pc_wr ?_
    refine pc_wr ?_
    refine pc_ck (fun _ => ?_)
    refine pc_wr ?_
    rw [e51]
    generalize hr : iR rho = r at *
    have e400 : (400 : Int32) + nI r = nI (400 + r) := by rw [l400, nI_k]
    rw [e400, nI_clamp (n := r) (by omega), nI_clamp (n := 400 + r) (by omega), nI_1]
    obtain ⟨a, ha, ea⟩ := hj.2.2.2.2.2.1.1
    have e54 : (up2 (up2 (up2 (up2 rho 64 0 0) 51 0 (nI (r + 1))) 52 r (nI s)) 53 r x2) 0 0 + nI t = nI (a + t) := by
      show rho 0 0 + nI t = _
      rw [ea, nI_k]
    rw [e54]
    have e55 : ∀ v, (up2 (up2 (up2 (up2 (up2 rho 64 0 0) 51 0 (nI (r + 1))) 52 r (nI s)) 53 r x2) 54 r v) 0 0 = rho 0 0 := fun v => rfl
    rw [e55]
    have f56 : ∀ q, (up2 (up2 (up2 (up2 (up2 (up2 (up2 (up2 rho 64 0 0) 51 0 (nI (r + 1))) 52 r (nI s)) 53 r x2) 54 r (nI (a + t))) 55 r (rho 0 0)) 56 r 8) 46 (400 + r) (-1)) 56 q = if q = r then 8 else rho 56 q := fun q => rfl
    have f54 : ∀ q, (up2 (up2 (up2 (up2 (up2 (up2 (up2 (up2 rho 64 0 0) 51 0 (nI (r + 1))) 52 r (nI s)) 53 r x2) 54 r (nI (a + t))) 55 r (rho 0 0)) 56 r 8) 46 (400 + r) (-1)) 54 q = if q = r then nI (a + t) else rho 54 q := fun q => rfl
    have f55 : ∀ q, (up2 (up2 (up2 (up2 (up2 (up2 (up2 (up2 rho 64 0 0) 51 0 (nI (r + 1))) 52 r (nI s)) 53 r x2) 54 r (nI (a + t))) 55 r (rho 0 0)) 56 r 8) 46 (400 + r) (-1)) 55 q = if q = r then rho 0 0 else rho 55 q := fun q => rfl
    have f46 : ∀ q, (up2 (up2 (up2 (up2 (up2 (up2 (up2 (up2 rho 64 0 0) 51 0 (nI (r + 1))) 52 r (nI s)) 53 r x2) 54 r (nI (a + t))) 55 r (rho 0 0)) 56 r 8) 46 (400 + r) (-1)) 46 q = if q = 400 + r then -1 else rho 46 q := fun q => rfl
    have f51 : (up2 (up2 (up2 (up2 (up2 (up2 (up2 (up2 rho 64 0 0) 51 0 (nI (r + 1))) 52 r (nI s)) 53 r x2) 54 r (nI (a + t))) 55 r (rho 0 0)) 56 r 8) 46 (400 + r) (-1)) 51 0 = nI (r + 1) := rfl
    have f0 : (up2 (up2 (up2 (up2 (up2 (up2 (up2 (up2 rho 64 0 0) 51 0 (nI (r + 1))) 52 r (nI s)) 53 r x2) 54 r (nI (a + t))) 55 r (rho 0 0)) 56 r 8) 46 (400 + r) (-1)) 0 = rho 0 := rfl
    have f64 : (up2 (up2 (up2 (up2 (up2 (up2 (up2 (up2 rho 64 0 0) 51 0 (nI (r + 1))) 52 r (nI s)) 53 r x2) 54 r (nI (a + t))) 55 r (rho 0 0)) 56 r 8) 46 (400 + r) (-1)) 64 0 = 0 := rfl
    have hC := hj.1.C
    have eR : iR (up2 (up2 (up2 (up2 (up2 (up2 (up2 (up2 rho 64 0 0) 51 0 (nI (r + 1))) 52 r (nI s)) 53 r x2) 54 r (nI (a + t))) 55 r (rho 0 0)) 56 r 8) 46 (400 + r) (-1)) = r + 1 := by
      unfold iR
      rw [f51, nv_nI (by omega)]
    have eFs : Fs (up2 (up2 (up2 (up2 (up2 (up2 (up2 (up2 rho 64 0 0) 51 0 (nI (r + 1))) 52 r (nI s)) 53 r x2) 54 r (nI (a + t))) 55 r (rho 0 0)) 56 r 8) 46 (400 + r) (-1)) = Fs rho := by
      show ((List.range (iC rho)).map _).sum = ((List.range (iC rho)).map _).sum
      congr 1
      refine List.map_congr_left (fun j hj9 => ?_)
      have := List.mem_range.mp hj9
      unfold sc
      rw [f46, if_neg (by omega)]
    have hb : JB (Fs rho) r (up2 (up2 (up2 (up2 (up2 (up2 (up2 (up2 rho 64 0 0) 51 0 (nI (r + 1))) 52 r (nI s)) 53 r x2) 54 r (nI (a + t))) 55 r (rho 0 0)) 56 r 8) 46 (400 + r) (-1)) := by
      have := hj.2.2.2.1
      rw [hr] at this
      exact this
    have hj6 : J6 AL9 (up2 (up2 (up2 (up2 (up2 (up2 (up2 (up2 rho 64 0 0) 51 0 (nI (r + 1))) 52 r (nI s)) 53 r x2) 54 r (nI (a + t))) 55 r (rho 0 0)) 56 r 8) 46 (400 + r) (-1)) := by
      refine ⟨⟨hj.1.1, hj.1.2.1, ⟨r + 1, by omega, f51⟩, fun j hj9 => ?_⟩, hj.2.1, hj.2.2.1, fun q hq => ?_, hj.2.2.2.2.2.1, hj.2.2.2.2.2.2⟩
      · have hj9' : j < iC rho := hj9
        obtain ⟨a1, a2, a3, a4, a5⟩ := hj.1.2.2.2 j hj9
        refine ⟨a1, a2, a3, a4, ?_⟩
        rw [f46, if_neg (by omega)]
        exact a5
      · rw [eR] at hq
        rw [f56, f54, f55, f0]
        by_cases z : q = r
        · rw [if_pos z, if_pos z, if_pos z, ea]
          refine ⟨Or.inr (Or.inr (Or.inr rfl)), by rw [nI_toInt (by omega)]; omega, Int32.le_refl _, by rw [nI_toInt (by omega), nI_toInt (by omega)]; omega, fun _ => ⟨?_, fun _ => ?_⟩, fun y => absurd rfl y, fun y => absurd y (by decide), fun y => absurd rfl y⟩
          · exact nI_le (by omega) (by omega)
          · exact nI_lt9 (by omega) (by omega)
        · rw [if_neg z, if_neg z, if_neg z]
          exact hj.2.2.2.2.1 q (by omega)
    have hT : TT rho (up2 (up2 (up2 (up2 (up2 (up2 (up2 (up2 rho 64 0 0) 51 0 (nI (r + 1))) 52 r (nI s)) 53 r x2) 54 r (nI (a + t))) 55 r (rho 0 0)) 56 r 8) 46 (400 + r) (-1)) := by
      refine ⟨⟨Nat.le_refl _, Nat.le_refl _, by rw [eR]; omega, Nat.le_refl _, fun k _ => ⟨rfl, rfl, rfl, rfl, rfl, fun _ => rfl⟩, fun q hq _ => ?_, fun _ z => z, fun c' _ => ⟨Nat.le_refl _, Nat.le_refl _⟩, fun _ _ => ⟨rfl, rfl, rfl⟩⟩, fun _ => rfl⟩
      rw [f56, if_neg (by omega)]
    have hlt : rho 0 0 < nI (a + t) := by
      rw [ea]
      exact nI_lt9 (by omega) (by omega)
    generalize up2 (up2 (up2 (up2 (up2 (up2 (up2 (up2 rho 64 0 0) 51 0 (nI (r + 1))) 52 r (nI s)) 53 r x2) 54 r (nI (a + t))) 55 r (rho 0 0)) 56 r 8) 46 (400 + r) (-1) = B at *
    have g54 : B 0 0 < B 54 r := by
      rw [f0, f54, if_pos rfl]
      exact hlt
    refine pc_ob (pc_begins4 (by omega) hj6 (by rw [eFs]; exact hb) eR (by rw [f46, if_pos rfl]) g54) (fun _ m h => ?_)
    obtain ⟨b1, b2⟩ := h
    have eRm : iR m = r + 1 := b2.2.eR.trans eR
    refine pc_ob (pc_goesRequest b1 (by omega) (by rw [b2.2 56 rfl, f56, if_pos rfl]) (by rw [b2.2 0 rfl, b2.2 54 rfl]; exact g54)) (fun _ m2 h2 => pc_some ?_)
    obtain ⟨c1, c2⟩ := h2
    have hK := b2.kq.tr c2
    refine ⟨c1, hT.tr hK.1, hK.2.1.trans f0, Or.inl ⟨by omega, ?_, rfl, hK.eR.trans eR, ?_⟩⟩
    · rw [hK.2.2.2.2.2]
      exact f64
    · rw [hK.2.2.2.2.1, f55, if_pos rfl]
end PL9
