/-! the reference at its start -/
section P9
def fill (rho : RH) (y a b : Nat) (v : Int32) : RH := fun y' j => if y' = y ∧ a ≤ j ∧ j < b then v else rho y' j
theorem fill_e {rho : RH} {y a : Nat} {v : Int32} : fill rho y a a v = rho := by
  funext y' j
  unfold fill
  rw [if_neg (by omega)]
theorem fill_s {rho : RH} {y a b : Nat} {v : Int32} (h : a < b) : fill (up2 rho y a v) y (a + 1) b v = fill rho y a b v := by
  funext y' j
  unfold fill
  by_cases h1 : y' = y ∧ j = a
  · rw [h1.1, h1.2, if_neg (by omega), up2_s, if_pos (by omega)]
  · rw [up2_n _ _ h1]
    by_cases h3 : y' = y ∧ a < j ∧ j < b
    · rw [if_pos (by omega), if_pos (by omega)]
    · rw [if_neg (by omega), if_neg (by omega)]
theorem fill_x {rho : RH} {y y2 a b c : Nat} {v w : Int32} (h : y ≠ y2) : fill (up2 rho y2 c w) y a b v = up2 (fill rho y a b v) y2 c w := by
  funext y' j
  by_cases h1 : y' = y2 ∧ j = c
  · rw [h1.1, h1.2, up2_s]
    unfold fill
    rw [if_neg (by omega), up2_s]
  · rw [up2_n _ _ h1]
    unfold fill
    rw [up2_n _ _ h1]
theorem vq_nI {k n : Nat} (h : k < n) (hn : n < 2 ^ 31) : vq (nI k) n := vp_in_nI h hn
theorem init9_525 : ∀ (q k n : Nat) (rho : RH), k + q = 7 → q < n → l9_init_525 n (nI k) rho = some (0, fill (fill rho 16 k 7 10) 17 k 7 1000) := by
  intro q
  induction q with
  | zero =>
    intro k n rho hk hn
    obtain ⟨n, rfl⟩ : ∃ n', n = n' + 1 := ⟨n - 1, by omega⟩
    have : k = 7 := by omega
    subst this
    rw [l9_init_525, if_pos (by decide), fill_e, fill_e]
  | succ q ih =>
    intro k n rho hk hn
    obtain ⟨n, rfl⟩ : ∃ n', n = n' + 1 := ⟨n - 1, by omega⟩
    have c1 : ¬ (7 : Int32) ≤ nI k := fun z => by
      have h7 : nI 7 ≤ nI k := z
      rw [nI_leI (by omega) (by omega)] at h7
      omega
    rw [l9_init_525, if_neg c1, if_pos (vq_nI (by omega) (by omega))]
    show l9_init_525 n (nI k + 1) (up2 (up2 rho 16 (nI k).toNatClampNeg 10) 17 (nI k).toNatClampNeg 1000) = _
    rw [nI_1, ih (k + 1) n _ (by omega) (by omega), nI_clamp (by omega)]
    rw [fill_x (by decide), fill_s (by omega), fill_s (by omega)]
theorem init9_504 : ∀ (q k n : Nat) (rho : RH), k + q = 6 → q < n → l9_init_504 n (nI k) rho = l9_init_525 FU 0 (fill rho 1 k 6 1) := by
  intro q
  induction q with
  | zero =>
    intro k n rho hk hn
    obtain ⟨n, rfl⟩ : ∃ n', n = n' + 1 := ⟨n - 1, by omega⟩
    have : k = 6 := by omega
    subst this
    rw [l9_init_504, if_pos (by decide), fill_e]
  | succ q ih =>
    intro k n rho hk hn
    obtain ⟨n, rfl⟩ : ∃ n', n = n' + 1 := ⟨n - 1, by omega⟩
    have c1 : ¬ (6 : Int32) ≤ nI k := fun z => by
      have h7 : nI 6 ≤ nI k := z
      rw [nI_leI (by omega) (by omega)] at h7
      omega
    rw [l9_init_504, if_neg c1, if_pos (vq_nI (by omega) (by omega))]
    show l9_init_504 n (nI k + 1) (up2 rho 1 (nI k).toNatClampNeg 1) = _
    rw [nI_1, ih (k + 1) n _ (by omega) (by omega), nI_clamp (by omega), fill_s (by omega)]
theorem init9_482 : ∀ (q k n : Nat) (rho : RH), k + q = 147 → q < n → l9_init_482 n (nI k) rho = l9_init_504 FU 0 (fill rho 15 k 147 (-1)) := by
  intro q
  induction q with
  | zero =>
    intro k n rho hk hn
    obtain ⟨n, rfl⟩ : ∃ n', n = n' + 1 := ⟨n - 1, by omega⟩
    have : k = 147 := by omega
    subst this
    rw [l9_init_482, if_pos (by decide), fill_e]
  | succ q ih =>
    intro k n rho hk hn
    obtain ⟨n, rfl⟩ : ∃ n', n = n' + 1 := ⟨n - 1, by omega⟩
    have c1 : ¬ (147 : Int32) ≤ nI k := fun z => by
      have h7 : nI 147 ≤ nI k := z
      rw [nI_leI (by omega) (by omega)] at h7
      omega
    rw [l9_init_482, if_neg c1, if_pos (vq_nI (by omega) (by omega))]
    show l9_init_482 n (nI k + 1) (up2 rho 15 (nI k).toNatClampNeg (-1)) = _
    rw [nI_1, ih (k + 1) n _ (by omega) (by omega), nI_clamp (by omega), fill_s (by omega)]
/-- the reference's ints at its start -/
def rhoS : RH := fill (fill (fill (fill rhoI 15 0 147 (-1)) 1 0 6 1) 16 0 7 10) 17 0 7 1000
theorem init9 : l9_init_482 FU 0 rhoI = some (0, rhoS) := by
  have e0 : (0 : Int32) = nI 0 := by decide
  have hF : FU = 1000 := rfl
  rw [e0, init9_482 147 0 FU _ (by omega) (by omega), e0, init9_504 6 0 FU _ (by omega) (by omega), e0, init9_525 7 0 FU _ (by omega) (by omega)]
  rfl
end P9
