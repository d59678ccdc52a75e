/-! the law from its first instruction -/
section LM9
variable {N : Nat} {xs : Nat → Int32}
def cm0 : CM := (fun _ _ => false, fun _ _ => none, fun _ _ => 0, fun _ _ _ => 0, fun _ _ _ => none, fun _ _ => [])
def rho0 : RH := fun _ _ => 0
def rhoI : RH := up2 (up2 (up2 rho0 20 0 3) 29 0 4) 30 0 30
theorem law_main {INV : CM → RH → Prop} {pot : CM → Nat} (hN : N ≤ 3584) (H0 : CMD0 INV pot) (H1 : CMD1 INV pot) (H2 : CMD2 INV pot) (H3 : CMD3 INV pot) (H4 : CMD4 INV pot) (H5 : CMD5 INV pot) (H6 : CMD6 INV pot) (H7 : CMD7 INV pot) (H8 : CMD8 INV pot) (H9 : CMD9 INV pot) (H10 : CMD10 INV pot) (H11 : CMD11 INV pot) (H12 : CMD12 INV pot) (H13 : CMD13 INV pot) (H14 : CMD14 INV pot) (H15 : CMD15 INV pot) (H16 : CMD16 INV pot) (H17 : CMD17 INV pot) (H18 : CMD18 INV pot) (H19 : CMD19 INV pot) (H20 : CMD20 INV pot) (H21 : CMD21 INV pot) (H22 : CMD22 INV pot) (H23 : CMD23 INV pot) (H24 : CMD24 INV pot) (H25 : CMD25 INV pot) {m9 : CM} {r8 r9 : Int32} {n9 P : Nat} {rho9 : RH} (h8 : f8_X8_init 0 (sN cm0 8 0) = some (r8, m9, n9)) (h9 : l9_init_482 FU 0 rhoI = some (r9, rho9))
    (hI : ∀ m' : CM, (∀ c i, c < 57 → c ≠ 9 → m'.1 c i = m9.1 c i) → (∀ f i, f < 1152 → m'.2.1 f i = m9.2.1 f i) → m'.2.2 = m9.2.2 → INV m' rho9 ∧ pot m' ≤ P) {Q : Option sV → OM → Prop} {QX : String → OM → Prop} (hQ : ∀ S, Q (some (vI 1)) S) :
    WP (mLaw N xs) 60 (n9 + (55 + (P + 2 * 512 + 1) + 1) + 1) 0 [some (vR 74 0), none, none, none, none, none, none] [] (cM cm0 0 rho0) Q QX := by
  have hF : FR (sN cm0 8 0) m9 := fr8_X8_init _ _ _ h8
  have hlv : ∀ c, (c = 9 ∨ 57 ≤ c) → ∀ i, m9.1 c i = false := fun c hc i => by
    rw [hF.2 c i hc]
    exact up2_n (fun _ _ => false) true (fun z => by omega)
  refine cp_new (c := 8) (i := 0) (m1 := sN cm0 8 0) rfl (by decide) rfl kl_L_8 it_X8 in_X8 dL_law_0 ?_
  refine wp_dup dL_law_3 trivial ?_
  refine wp_callI (k1 := n9) (k2 := 55 + (P + 2 * 512 + 1) + 1) (As := []) (rest := [vR 8 0]) (w8_X8_init h8) okX8_init rfl rfl im_X8_init ml_L_94 dL_law_4 (by decide) (Nat.le_refl _) rfl (by decide) (fun r' S' z => ?_)
  obtain ⟨rfl, rfl⟩ := z
  show WP _ _ _ _ [some (vR 74 0), none, none, none, none, none, none] [vR 8 0] (m9.1, m9.2.1, m9.2.2.1, m9.2.2.2.1, m9.2.2.2.2.1, m9.2.2.2.2.2, 0, rho0) _ _
  refine wp_astore_n (L' := [some (vR 74 0), some (vR 8 0), none, none, none, none, none]) dL_law_7 rfl rfl ?_
  refine wp_newR (fun _ _ => rfl) (fun z => by rw [hlv 9 (Or.inl rfl) 0] at z; cases z) kl_L_95 it_X9 in_X9 dL_law_8 ?_
  refine wp_dup dL_law_11 trivial ?_
  refine wp_callI (k1 := 55) (k2 := P + 2 * 512 + 1) (As := []) (rest := [vR 9 0]) (w9_init (fun _ _ => rfl) (fun c hc => ?_) h9) okX9_init rfl rfl im_X9_init ml_L_97 dL_law_12 (by decide) (Nat.le_refl _) rfl (by decide) (fun r' S' z => ?_)
  · rw [up2_n _ _ (fun z => by omega)]
    exact hlv c (Or.inr (by omega)) 0
  obtain ⟨rfl, lv', fr', hIA, rfl⟩ := z
  show WP _ _ _ _ [some (vR 74 0), some (vR 8 0), none, none, none, none, none] [vR 9 0] _ _ _
  refine wp_astore_n (L' := [some (vR 74 0), some (vR 8 0), some (vR 9 0), none, none, none, none]) dL_law_15 rfl rfl ?_
  refine wp_iconst (v := 1) dL_law_16 (by decide) ?_
  have h70 : ¬ lv' 70 0 = true := fun z => by
    rw [hIA.2.1 70 0 (fun q => by omega), up2_n _ _ (fun z => by omega), hlv 70 (Or.inr (by omega)) 0] at z
    cases z
  refine wp_newl h70 rfl rfl dL_law_17 ac_long ?_
  refine wp_astore_n (L' := [some (vR 74 0), some (vR 8 0), some (vR 9 0), some (vR 70 0), none, none, none]) dL_law_19 rfl rfl ?_
  refine wp_iconst (v := 0) dL_law_20 (by decide) ?_
  refine wp_istore (L' := [some (vR 74 0), some (vR 8 0), some (vR 9 0), some (vR 70 0), some (vI 0), none, none]) dL_law_21 rfl rfl ?_
  have hm := hI (up2 lv' 70 0 true, fr', m9.2.2.1, m9.2.2.2.1, m9.2.2.2.2.1, m9.2.2.2.2.2) (fun c i h1 h2 => by
    show up2 lv' 70 0 true c i = _
    rw [up2_n _ _ (fun z => by omega), hIA.2.1 c i (fun z => by omega), up2_n _ _ (fun z => h2 z.1)]) (fun f i hf => by
    show fr' f i = _
    rw [hIA.2.2 f i (fun z => by omega), clr_n _ _ (fun z => by omega)]) rfl
  refine WP.gas (by have := hm.2; omega) (law_loop (N := N) (xs := xs) hN H0 H1 H2 H3 H4 H5 H6 H7 H8 H9 H10 H11 H12 H13 H14 H15 H16 H17 H18 H19 H20 H21 H22 H23 H24 H25 hQ 512 0 (up2 lv' 70 0 true, fr', m9.2.2.1, m9.2.2.2.1, m9.2.2.2.2.1, m9.2.2.2.2.2) rho9 0 none none (by omega) (by omega) (RA_of hIA) hm.1) 
end LM9
