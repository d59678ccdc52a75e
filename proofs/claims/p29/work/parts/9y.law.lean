/-! the law from its first instruction to its last -/
section LW9
abbrev mLaw9 (N : Nat) (xs : Nat → Int32) : MI := (yL_law, cL_law, 14, (some .boolean), [], some (N, xs))
variable {N : Nat} {xs : Nat → Int32} {Q : Option sV → OM → Prop} {QX : String → OM → Prop}
theorem law_end {u : LM} {rho : RH} {k : Nat} {kk : Int32} (hl : LI u rho) (hk : 2 ≤ k) (hQ : ∀ S, Q (some (vI 1)) S) :
    WP (mLaw9 N xs) 60 k 143 [some (vR 74 0), some (vR 8 0), some (vR 200 0), some (vR 201 0), some (vR 202 0), some (vR 203 0), some (vR 204 0), some (vR 205 0), some (vR 206 0), some (vR 207 0), some (vR 208 0), some (vR 209 0), some (vI 1), some (vI kk)] [] (cM u.1 0 u.2) Q QX := by
  obtain ⟨u1, f1, l1, g1⟩ := are_calls hl
  obtain ⟨u2, f2, l2, g2⟩ := are_requests l1
  obtain ⟨u3, f3, l3, g3⟩ := are_loads l2
  refine wp_iload dL_law_143 rfl ?_
  refine wp_if_eq (tgt := 191) dL_law_145 (by decide) (fun c => absurd c (by decide)) (fun _ => ?_)
  refine wp_aload_n dL_law_148 rfl ?_
  refine wp_aload_n dL_law_149 rfl ?_
  refine wp_aload_n dL_law_150 rfl ?_
  refine wp_aload dL_law_151 rfl ?_
  refine wp_aload dL_law_153 rfl ?_
  refine wp_callS24 (k1 := 1) (k2 := k - 1) (As := [vR 8 0, vR 200 0, vR 201 0, vR 205 0, vR 206 0]) (rest := []) (wfL_areCalls g1) okL_areCalls (by decide) sm_L_areCalls rfl ml_L_176 dL_law_155 rfl (by decide) (by omega) rfl (Nat.le_of_ble_eq_true rfl) (fun _ _ z => z.elim) (fun r' S' z => ?_)
  obtain ⟨rfl, rfl⟩ := z
  show WP _ _ _ _ [some (vR 74 0), some (vR 8 0), some (vR 200 0), some (vR 201 0), some (vR 202 0), some (vR 203 0), some (vR 204 0), some (vR 205 0), some (vR 206 0), some (vR 207 0), some (vR 208 0), some (vR 209 0), some (vI 1), some (vI kk)] [vI 1] (cM u1.1 0 u1.2) _ _
  refine wp_if_eq (tgt := 191) dL_law_158 (by decide) (fun c => absurd c (by decide)) (fun _ => ?_)
  refine wp_aload_n dL_law_161 rfl ?_
  refine wp_aload_n dL_law_162 rfl ?_
  refine wp_aload dL_law_163 rfl ?_
  refine wp_callS24 (k1 := 1) (k2 := k - 2) (As := [vR 8 0, vR 200 0, vR 207 0]) (rest := []) (wfL_areRequests g2) okL_areRequests (by decide) sm_L_areRequests rfl ml_L_180 dL_law_165 rfl (by decide) (by omega) rfl (Nat.le_of_ble_eq_true rfl) (fun _ _ z => z.elim) (fun r' S' z => ?_)
  obtain ⟨rfl, rfl⟩ := z
  show WP _ _ _ _ [some (vR 74 0), some (vR 8 0), some (vR 200 0), some (vR 201 0), some (vR 202 0), some (vR 203 0), some (vR 204 0), some (vR 205 0), some (vR 206 0), some (vR 207 0), some (vR 208 0), some (vR 209 0), some (vI 1), some (vI kk)] [vI 1] (cM u2.1 0 u2.2) _ _
  refine wp_if_eq (tgt := 191) dL_law_168 (by decide) (fun c => absurd c (by decide)) (fun _ => ?_)
  refine wp_aload_n dL_law_171 rfl ?_
  refine wp_aload_n dL_law_172 rfl ?_
  refine wp_aload dL_law_173 rfl ?_
  refine wp_aload dL_law_175 rfl ?_
  refine wp_aload dL_law_177 rfl ?_
  refine wp_aload dL_law_179 rfl ?_
  refine wp_callS24 (k1 := 0) (k2 := 0) (As := [vR 8 0, vR 200 0, vR 202 0, vR 203 0, vR 208 0, vR 209 0]) (rest := []) (wfL_areLoads g3) okL_areLoads (by decide) sm_L_areLoads rfl ml_L_184 dL_law_181 rfl (by decide) (by omega) rfl (Nat.le_of_ble_eq_true rfl) (fun _ _ z => z.elim) (fun r' S' z => ?_)
  obtain ⟨rfl, rfl⟩ := z
  show WP _ _ _ _ [some (vR 74 0), some (vR 8 0), some (vR 200 0), some (vR 201 0), some (vR 202 0), some (vR 203 0), some (vR 204 0), some (vR 205 0), some (vR 206 0), some (vR 207 0), some (vR 208 0), some (vR 209 0), some (vI 1), some (vI kk)] [vI 1] (cM u3.1 0 u3.2) _ _
  refine wp_if_eq (tgt := 191) dL_law_184 (by decide) (fun c => absurd c (by decide)) (fun _ => ?_)
  refine wp_iconst (v := 1) dL_law_187 (by decide) ?_
  refine wp_goto (tgt := 192) dL_law_188 (by decide) ?_
  exact wp_zreturn rfl (by decide) dL_law_192 (hQ _)
theorem law_loop (hN : N ≤ 4000) (hQ : ∀ S, Q (some (vI 1)) S) : ∀ (d k g : Nat) (u : LM) (rho : RH), k + d = 90 → LI u rho → nv (rho 0 0) ≤ 4 * k → pot u.1 + 2 * d + 2 ≤ g →
    WP (mLaw9 N xs) 60 g 83 [some (vR 74 0), some (vR 8 0), some (vR 200 0), some (vR 201 0), some (vR 202 0), some (vR 203 0), some (vR 204 0), some (vR 205 0), some (vR 206 0), some (vR 207 0), some (vR 208 0), some (vR 209 0), some (vI 1), some (vI (nI k))] [] (cM u.1 0 u.2) Q QX := by
  intro d
  induction d with
  | zero =>
    intro k g u rho hk hl ht hg
    refine wp_iload dL_law_83 rfl ?_
    refine wp_bipush (v := 90) dL_law_85 (by decide) ?_
    refine wp_icmp_ge (tgt := 143) dL_law_87 (by decide) (fun _ => law_end hl (by omega) hQ) (fun c => ?_)
    exact absurd (nI_le (a := 90) (b := k) (by omega) (by omega)) c
  | succ d ih =>
    intro k g u rho hk hl ht hg
    obtain ⟨u', rho', n, h1, h2, h3, h4⟩ := acts_ok hl (by omega) (atV N xs (2 * nI k)) (atV N xs (2 * nI k + 1))
    have e2 : (2 : Int32) * nI k = nI (2 * k) := by rw [l2, pk_mul]
    have e3 : (2 : Int32) * nI k + 1 = nI (2 * k + 1) := by rw [e2, nI_1]
    have p2 : ¬ (2 : Int32) * nI k < 0 := by rw [e2]; exact lt0 (by omega)
    have p3 : ¬ (2 : Int32) * nI k + 1 < 0 := by rw [e3]; exact lt0 (by omega)
    refine wp_iload dL_law_83 rfl ?_
    refine wp_bipush (v := 90) dL_law_85 (by decide) ?_
    refine wp_icmp_ge (tgt := 143) dL_law_87 (by decide) (fun c => ?_) (fun _ => ?_)
    · exact absurd c (cle (a := k) (b := 90) (by omega) (by omega))
    refine wp_iload dL_law_90 rfl ?_
    refine wp_if_eq (tgt := 143) dL_law_92 (by decide) (fun c => absurd c (by decide)) (fun _ => ?_)
    refine wp_aload_n dL_law_95 rfl ?_
    refine wp_aload_n dL_law_96 rfl ?_
    refine wp_aload_n dL_law_97 rfl ?_
    refine wp_aload dL_law_98 rfl ?_
    refine wp_aload dL_law_100 rfl ?_
    refine wp_aload dL_law_102 rfl ?_
    refine wp_aload dL_law_104 rfl ?_
    refine wp_aload dL_law_106 rfl ?_
    refine wp_aload dL_law_108 rfl ?_
    refine wp_aload dL_law_110 rfl ?_
    refine wp_aload dL_law_112 rfl ?_
    refine wp_aload_n dL_law_114 rfl ?_
    refine wp_iconst (v := 2) dL_law_115 (by decide) ?_
    refine wp_iload dL_law_116 rfl ?_
    refine wp_imul dL_law_118 ?_
    refine wp_callSA (N := N) (xs := xs) (k1 := 0) (k2 := g) (As := [vR 74 0, vI (2 * nI k)]) (rest := [vR 209 0, vR 208 0, vR 207 0, vR 206 0, vR 205 0, vR 204 0, vR 203 0, vR 202 0, vR 201 0, vR 200 0, vR 8 0]) rfl (wL_at p2 hN) okL_at (Nat.le_of_ble_eq_true rfl) sm_L_at rfl ml_L_189 dL_law_119 rfl (by decide) (by omega) rfl (Nat.le_of_ble_eq_true rfl) (fun _ _ z => z.elim) (fun r' S' z => ?_)
    obtain ⟨rfl, rfl⟩ := z
    show WP _ _ _ _ [some (vR 74 0), some (vR 8 0), some (vR 200 0), some (vR 201 0), some (vR 202 0), some (vR 203 0), some (vR 204 0), some (vR 205 0), some (vR 206 0), some (vR 207 0), some (vR 208 0), some (vR 209 0), some (vI 1), some (vI (nI k))] [vI (atV N xs (2 * nI k)), vR 209 0, vR 208 0, vR 207 0, vR 206 0, vR 205 0, vR 204 0, vR 203 0, vR 202 0, vR 201 0, vR 200 0, vR 8 0] (cM u.1 0 u.2) _ _
    refine wp_aload_n dL_law_122 rfl ?_
    refine wp_iconst (v := 2) dL_law_123 (by decide) ?_
    refine wp_iload dL_law_124 rfl ?_
    refine wp_imul dL_law_126 ?_
    refine wp_iconst (v := 1) dL_law_127 (by decide) ?_
    refine wp_iadd dL_law_128 ?_
    refine wp_callSA (N := N) (xs := xs) (k1 := 0) (k2 := g) (As := [vR 74 0, vI (2 * nI k + 1)]) (rest := [vI (atV N xs (2 * nI k)), vR 209 0, vR 208 0, vR 207 0, vR 206 0, vR 205 0, vR 204 0, vR 203 0, vR 202 0, vR 201 0, vR 200 0, vR 8 0]) rfl (wL_at p3 hN) okL_at (Nat.le_of_ble_eq_true rfl) sm_L_at rfl ml_L_189 dL_law_129 rfl (by decide) (by omega) rfl (Nat.le_of_ble_eq_true rfl) (fun _ _ z => z.elim) (fun r' S' z => ?_)
    obtain ⟨rfl, rfl⟩ := z
    show WP _ _ _ _ [some (vR 74 0), some (vR 8 0), some (vR 200 0), some (vR 201 0), some (vR 202 0), some (vR 203 0), some (vR 204 0), some (vR 205 0), some (vR 206 0), some (vR 207 0), some (vR 208 0), some (vR 209 0), some (vI 1), some (vI (nI k))] [vI (atV N xs (2 * nI k + 1)), vI (atV N xs (2 * nI k)), vR 209 0, vR 208 0, vR 207 0, vR 206 0, vR 205 0, vR 204 0, vR 203 0, vR 202 0, vR 201 0, vR 200 0, vR 8 0] (cM u.1 0 u.2) _ _
    refine wp_callS24 (k1 := n) (k2 := g - n) (As := [vR 8 0, vR 200 0, vR 201 0, vR 202 0, vR 203 0, vR 204 0, vR 205 0, vR 206 0, vR 207 0, vR 208 0, vR 209 0, vI (atV N xs (2 * nI k)), vI (atV N xs (2 * nI k + 1))]) (rest := []) (wfL_acts h1) okL_acts (by decide) sm_L_acts rfl ml_L_193 dL_law_132 rfl (by decide) (by omega) rfl (Nat.le_of_ble_eq_true rfl) (fun _ _ z => z.elim) (fun r' S' z => ?_)
    obtain ⟨rfl, rfl⟩ := z
    show WP _ _ _ _ [some (vR 74 0), some (vR 8 0), some (vR 200 0), some (vR 201 0), some (vR 202 0), some (vR 203 0), some (vR 204 0), some (vR 205 0), some (vR 206 0), some (vR 207 0), some (vR 208 0), some (vR 209 0), some (vI 1), some (vI (nI k))] [vI 1] (cM u'.1 0 u'.2) _ _
    refine wp_istore (L' := [some (vR 74 0), some (vR 8 0), some (vR 200 0), some (vR 201 0), some (vR 202 0), some (vR 203 0), some (vR 204 0), some (vR 205 0), some (vR 206 0), some (vR 207 0), some (vR 208 0), some (vR 209 0), some (vI 1), some (vI (nI k))]) dL_law_135 rfl rfl ?_
    refine wp_iinc (v := nI k + 1) (L' := [some (vR 74 0), some (vR 8 0), some (vR 200 0), some (vR 201 0), some (vR 202 0), some (vR 203 0), some (vR 204 0), some (vR 205 0), some (vR 206 0), some (vR 207 0), some (vR 208 0), some (vR 209 0), some (vI 1), some (vI (nI k + 1))]) dL_law_137 rfl rfl rfl ?_
    refine wp_goto (tgt := 83) dL_law_140 (by decide) ?_
    rw [nI_1]
    exact ih (k + 1) (g - n) u' rho' (by omega) h2 (by omega) (by omega)

theorem lv10 (lv : Nat → Nat → Bool) {c i : Nat} (h : c < 57) : (up2 (up2 (up2 (up2 (up2 (up2 (up2 (up2 (up2 (up2 lv 200 0 true) 201 0 true) 202 0 true) 203 0 true) 204 0 true) 205 0 true) 206 0 true) 207 0 true) 208 0 true) 209 0 true) c i = lv c i := by
  rw [up2_n _ _ (fun z => by omega), up2_n _ _ (fun z => by omega), up2_n _ _ (fun z => by omega), up2_n _ _ (fun z => by omega), up2_n _ _ (fun z => by omega), up2_n _ _ (fun z => by omega), up2_n _ _ (fun z => by omega), up2_n _ _ (fun z => by omega), up2_n _ _ (fun z => by omega), up2_n _ _ (fun z => by omega)]
theorem INV10 {m : CM} {rho : RH} (h : INV m rho) : INV ((up2 (up2 (up2 (up2 (up2 (up2 (up2 (up2 (up2 (up2 m.1 200 0 true) 201 0 true) 202 0 true) 203 0 true) 204 0 true) 205 0 true) 206 0 true) 207 0 true) 208 0 true) 209 0 true), m.2) rho ∧ pot ((up2 (up2 (up2 (up2 (up2 (up2 (up2 (up2 (up2 (up2 m.1 200 0 true) 201 0 true) 202 0 true) 203 0 true) 204 0 true) 205 0 true) 206 0 true) 207 0 true) 208 0 true) 209 0 true), m.2) = pot m :=
  INV_al (fun c i h1 _ => lv10 m.1 h1) (fun _ _ _ => rfl) rfl h
def w0 : RH := fun _ _ => 0
theorem rS_J : JA rhoS := by
  have hC := rS_C
  have hI := rS_I
  have hR := rS_R
  have hP := rS_P
  refine ⟨⟨⟨0, by omega, rfl⟩, ⟨0, by omega, rfl⟩, ⟨0, by omega, rfl⟩, fun k hk => by omega⟩, fun k hk => by omega, fun i hi => by omega, fun c hc => ⟨?_, 0, 0, 1000, rfl, rfl, ?_, by omega, by omega, fun _ => Nat.zero_le _, fun _ => hR.symm⟩, fun r hr => by omega, ⟨⟨0, by omega, rfl⟩, fun s hs => ⟨?_, 0, by omega, rfl⟩, fun i hi => ⟨0, by omega, rfl⟩, fun p hp => ⟨Or.inl (rS_15 (by omega)), Or.inl (rS_15 (by omega))⟩, ⟨⟨3, by omega, rfl⟩, by decide⟩, fun i hi => by omega⟩, fun p hp => by omega⟩
  · refine ⟨10, by omega, ?_⟩
    have : c = 0 ∨ c = 1 ∨ c = 2 ∨ c = 3 ∨ c = 4 ∨ c = 5 ∨ c = 6 := by omega
    rcases this with rfl | rfl | rfl | rfl | rfl | rfl | rfl <;> decide
  · have : c = 0 ∨ c = 1 ∨ c = 2 ∨ c = 3 ∨ c = 4 ∨ c = 5 ∨ c = 6 := by omega
    rcases this with rfl | rfl | rfl | rfl | rfl | rfl | rfl <;> decide
  · refine ⟨1, by omega, ?_⟩
    have : s = 0 ∨ s = 1 ∨ s = 2 ∨ s = 3 ∨ s = 4 ∨ s = 5 := by omega
    rcases this with rfl | rfl | rfl | rfl | rfl | rfl <;> decide
theorem rS_L {m : CM} (hI : INV m rhoS) : LI (m, w0) rhoS :=
  ⟨hI, rS_J, ⟨rfl, rfl, rfl, ⟨0, rfl, Nat.zero_le _⟩, ⟨0, rfl, Nat.zero_le _⟩, ⟨0, rfl, Nat.zero_le _⟩⟩, fun i hi => absurd hi (by rw [rS_I]; omega), fun _ s hs => rfl, fun k _ => ⟨Or.inl (by show (0 : Int32) < 4; decide), Or.inl rfl⟩, fun r _ => Or.inl rfl, fun c _ => ⟨⟨0, rfl, Nat.zero_le _⟩, 0, rfl, Nat.zero_le _⟩⟩
theorem up_w0 {y : Nat} : va_up rho0 y (fun _ => 0) = rho0 := by
  funext j
  unfold va_up
  split <;> rfl

theorem law_arr {m : CM} (hlv : ∀ c, 57 ≤ c → m.1 c 0 = false) (hI0 : INV m rhoS) (hp0 : pot m = 7416) (hN : N ≤ 4000) (hQ : ∀ S, Q (some (vI 1)) S) :
    WP (mLaw9 N xs) 60 (7598 + 1 + 1 + 1 + 1 + 1 + 1 + 1 + 1 + 1 + 1) 8 [some (vR 74 0), some (vR 8 0), none, none, none, none, none, none, none, none, none, none, none, none] [] (cM m 0 rho0) Q QX := by
  obtain ⟨lv, fr, fi, ai, ar, li⟩ := m
  have hlv : ∀ c, 57 ≤ c → lv c 0 = false := hlv
  show WP _ _ _ _ [some (vR 74 0), some (vR 8 0), none, none, none, none, none, none, none, none, none, none, none, none] [] (lv, fr, fi, ai, ar, li, 0, rho0) _ _
  refine wp_bipush (v := 6) dL_law_8 (by decide) ?_
  refine wp_newaR (t := .int) (c := 200) (y := 0) (N := 6) (Or.inl rfl) rfl (fun z => ?_) (by decide) (by decide) (by decide) ac_int rfl dL_law_10 ?_
  · have z : lv 200 0 = true := z
    rw [hlv _ (by omega)] at z
    cases z
  rw [up_w0]
  refine wp_astore_n (L' := [some (vR 74 0), some (vR 8 0), some (vR 200 0), none, none, none, none, none, none, none, none, none, none, none]) dL_law_12 rfl rfl ?_
  refine wp_bipush (v := 12) dL_law_13 (by decide) ?_
  refine wp_newaR (t := .int) (c := 201) (y := 1) (N := 12) (Or.inl rfl) rfl (fun z => ?_) (by decide) (by decide) (by decide) ac_int rfl dL_law_15 ?_
  · have z : (up2 lv 200 0 true) 201 0 = true := z
    rw [up2_n _ _ (fun z => by omega)] at z
    rw [hlv _ (by omega)] at z
    cases z
  rw [up_w0]
  refine wp_astore_n (L' := [some (vR 74 0), some (vR 8 0), some (vR 200 0), some (vR 201 0), none, none, none, none, none, none, none, none, none, none]) dL_law_17 rfl rfl ?_
  refine wp_bipush (v := 12) dL_law_18 (by decide) ?_
  refine wp_newaR (t := .int) (c := 202) (y := 2) (N := 12) (Or.inl rfl) rfl (fun z => ?_) (by decide) (by decide) (by decide) ac_int rfl dL_law_20 ?_
  · have z : (up2 (up2 lv 200 0 true) 201 0 true) 202 0 = true := z
    rw [up2_n _ _ (fun z => by omega)] at z
    rw [up2_n _ _ (fun z => by omega)] at z
    rw [hlv _ (by omega)] at z
    cases z
  rw [up_w0]
  refine wp_astore (L' := [some (vR 74 0), some (vR 8 0), some (vR 200 0), some (vR 201 0), some (vR 202 0), none, none, none, none, none, none, none, none, none]) dL_law_22 rfl rfl ?_
  refine wp_bipush (v := 12) dL_law_24 (by decide) ?_
  refine wp_newaR (t := .int) (c := 203) (y := 3) (N := 12) (Or.inl rfl) rfl (fun z => ?_) (by decide) (by decide) (by decide) ac_int rfl dL_law_26 ?_
  · have z : (up2 (up2 (up2 lv 200 0 true) 201 0 true) 202 0 true) 203 0 = true := z
    rw [up2_n _ _ (fun z => by omega)] at z
    rw [up2_n _ _ (fun z => by omega)] at z
    rw [up2_n _ _ (fun z => by omega)] at z
    rw [hlv _ (by omega)] at z
    cases z
  rw [up_w0]
  refine wp_astore (L' := [some (vR 74 0), some (vR 8 0), some (vR 200 0), some (vR 201 0), some (vR 202 0), some (vR 203 0), none, none, none, none, none, none, none, none]) dL_law_28 rfl rfl ?_
  refine wp_bipush (v := 6) dL_law_30 (by decide) ?_
  refine wp_newaR (t := .int) (c := 204) (y := 4) (N := 6) (Or.inl rfl) rfl (fun z => ?_) (by decide) (by decide) (by decide) ac_int rfl dL_law_32 ?_
  · have z : (up2 (up2 (up2 (up2 lv 200 0 true) 201 0 true) 202 0 true) 203 0 true) 204 0 = true := z
    rw [up2_n _ _ (fun z => by omega)] at z
    rw [up2_n _ _ (fun z => by omega)] at z
    rw [up2_n _ _ (fun z => by omega)] at z
    rw [up2_n _ _ (fun z => by omega)] at z
    rw [hlv _ (by omega)] at z
    cases z
  rw [up_w0]
  refine wp_astore (L' := [some (vR 74 0), some (vR 8 0), some (vR 200 0), some (vR 201 0), some (vR 202 0), some (vR 203 0), some (vR 204 0), none, none, none, none, none, none, none]) dL_law_34 rfl rfl ?_
  refine wp_bipush (v := 60) dL_law_36 (by decide) ?_
  refine wp_newaR (t := .int) (c := 205) (y := 5) (N := 60) (Or.inl rfl) rfl (fun z => ?_) (by decide) (by decide) (by decide) ac_int rfl dL_law_38 ?_
  · have z : (up2 (up2 (up2 (up2 (up2 lv 200 0 true) 201 0 true) 202 0 true) 203 0 true) 204 0 true) 205 0 = true := z
    rw [up2_n _ _ (fun z => by omega)] at z
    rw [up2_n _ _ (fun z => by omega)] at z
    rw [up2_n _ _ (fun z => by omega)] at z
    rw [up2_n _ _ (fun z => by omega)] at z
    rw [up2_n _ _ (fun z => by omega)] at z
    rw [hlv _ (by omega)] at z
    cases z
  rw [up_w0]
  refine wp_astore (L' := [some (vR 74 0), some (vR 8 0), some (vR 200 0), some (vR 201 0), some (vR 202 0), some (vR 203 0), some (vR 204 0), some (vR 205 0), none, none, none, none, none, none]) dL_law_40 rfl rfl ?_
  refine wp_bipush (v := 60) dL_law_42 (by decide) ?_
  refine wp_newaR (t := .int) (c := 206) (y := 6) (N := 60) (Or.inl rfl) rfl (fun z => ?_) (by decide) (by decide) (by decide) ac_int rfl dL_law_44 ?_
  · have z : (up2 (up2 (up2 (up2 (up2 (up2 lv 200 0 true) 201 0 true) 202 0 true) 203 0 true) 204 0 true) 205 0 true) 206 0 = true := z
    rw [up2_n _ _ (fun z => by omega)] at z
    rw [up2_n _ _ (fun z => by omega)] at z
    rw [up2_n _ _ (fun z => by omega)] at z
    rw [up2_n _ _ (fun z => by omega)] at z
    rw [up2_n _ _ (fun z => by omega)] at z
    rw [up2_n _ _ (fun z => by omega)] at z
    rw [hlv _ (by omega)] at z
    cases z
  rw [up_w0]
  refine wp_astore (L' := [some (vR 74 0), some (vR 8 0), some (vR 200 0), some (vR 201 0), some (vR 202 0), some (vR 203 0), some (vR 204 0), some (vR 205 0), some (vR 206 0), none, none, none, none, none]) dL_law_46 rfl rfl ?_
  refine wp_bipush (v := 40) dL_law_48 (by decide) ?_
  refine wp_newaR (t := .int) (c := 207) (y := 7) (N := 40) (Or.inl rfl) rfl (fun z => ?_) (by decide) (by decide) (by decide) ac_int rfl dL_law_50 ?_
  · have z : (up2 (up2 (up2 (up2 (up2 (up2 (up2 lv 200 0 true) 201 0 true) 202 0 true) 203 0 true) 204 0 true) 205 0 true) 206 0 true) 207 0 = true := z
    rw [up2_n _ _ (fun z => by omega)] at z
    rw [up2_n _ _ (fun z => by omega)] at z
    rw [up2_n _ _ (fun z => by omega)] at z
    rw [up2_n _ _ (fun z => by omega)] at z
    rw [up2_n _ _ (fun z => by omega)] at z
    rw [up2_n _ _ (fun z => by omega)] at z
    rw [up2_n _ _ (fun z => by omega)] at z
    rw [hlv _ (by omega)] at z
    cases z
  rw [up_w0]
  refine wp_astore (L' := [some (vR 74 0), some (vR 8 0), some (vR 200 0), some (vR 201 0), some (vR 202 0), some (vR 203 0), some (vR 204 0), some (vR 205 0), some (vR 206 0), some (vR 207 0), none, none, none, none]) dL_law_52 rfl rfl ?_
  refine wp_bipush (v := 7) dL_law_54 (by decide) ?_
  refine wp_newaR (t := .int) (c := 208) (y := 8) (N := 7) (Or.inl rfl) rfl (fun z => ?_) (by decide) (by decide) (by decide) ac_int rfl dL_law_56 ?_
  · have z : (up2 (up2 (up2 (up2 (up2 (up2 (up2 (up2 lv 200 0 true) 201 0 true) 202 0 true) 203 0 true) 204 0 true) 205 0 true) 206 0 true) 207 0 true) 208 0 = true := z
    rw [up2_n _ _ (fun z => by omega)] at z
    rw [up2_n _ _ (fun z => by omega)] at z
    rw [up2_n _ _ (fun z => by omega)] at z
    rw [up2_n _ _ (fun z => by omega)] at z
    rw [up2_n _ _ (fun z => by omega)] at z
    rw [up2_n _ _ (fun z => by omega)] at z
    rw [up2_n _ _ (fun z => by omega)] at z
    rw [up2_n _ _ (fun z => by omega)] at z
    rw [hlv _ (by omega)] at z
    cases z
  rw [up_w0]
  refine wp_astore (L' := [some (vR 74 0), some (vR 8 0), some (vR 200 0), some (vR 201 0), some (vR 202 0), some (vR 203 0), some (vR 204 0), some (vR 205 0), some (vR 206 0), some (vR 207 0), some (vR 208 0), none, none, none]) dL_law_58 rfl rfl ?_
  refine wp_bipush (v := 7) dL_law_60 (by decide) ?_
  refine wp_newaR (t := .int) (c := 209) (y := 9) (N := 7) (Or.inl rfl) rfl (fun z => ?_) (by decide) (by decide) (by decide) ac_int rfl dL_law_62 ?_
  · have z : (up2 (up2 (up2 (up2 (up2 (up2 (up2 (up2 (up2 lv 200 0 true) 201 0 true) 202 0 true) 203 0 true) 204 0 true) 205 0 true) 206 0 true) 207 0 true) 208 0 true) 209 0 = true := z
    rw [up2_n _ _ (fun z => by omega)] at z
    rw [up2_n _ _ (fun z => by omega)] at z
    rw [up2_n _ _ (fun z => by omega)] at z
    rw [up2_n _ _ (fun z => by omega)] at z
    rw [up2_n _ _ (fun z => by omega)] at z
    rw [up2_n _ _ (fun z => by omega)] at z
    rw [up2_n _ _ (fun z => by omega)] at z
    rw [up2_n _ _ (fun z => by omega)] at z
    rw [up2_n _ _ (fun z => by omega)] at z
    rw [hlv _ (by omega)] at z
    cases z
  rw [up_w0]
  refine wp_astore (L' := [some (vR 74 0), some (vR 8 0), some (vR 200 0), some (vR 201 0), some (vR 202 0), some (vR 203 0), some (vR 204 0), some (vR 205 0), some (vR 206 0), some (vR 207 0), some (vR 208 0), some (vR 209 0), none, none]) dL_law_64 rfl rfl ?_
  have hI := INV10 hI0
  have hp := hI.2
  rw [hp0] at hp
  have hl := rS_L hI.1
  have e0 : rho0 = w0 := rfl
  show WP _ _ _ _ [some (vR 74 0), some (vR 8 0), some (vR 200 0), some (vR 201 0), some (vR 202 0), some (vR 203 0), some (vR 204 0), some (vR 205 0), some (vR 206 0), some (vR 207 0), some (vR 208 0), some (vR 209 0), none, none] [] (cM ((up2 (up2 (up2 (up2 (up2 (up2 (up2 (up2 (up2 (up2 lv 200 0 true) 201 0 true) 202 0 true) 203 0 true) 204 0 true) 205 0 true) 206 0 true) 207 0 true) 208 0 true) 209 0 true), fr, fi, ai, ar, li) 0 w0) _ _
  generalize ((up2 (up2 (up2 (up2 (up2 (up2 (up2 (up2 (up2 (up2 lv 200 0 true) 201 0 true) 202 0 true) 203 0 true) 204 0 true) 205 0 true) 206 0 true) 207 0 true) 208 0 true) 209 0 true), fr, fi, ai, ar, li) = m' at hp hl
  refine wp_aload_n dL_law_66 rfl ?_
  refine wp_callV (k1 := 0) (k2 := 7598) (As := []) (rest := []) (w8_X8_tick (q_tick hl.1)) okX8_tick ivX8_tick rfl (by decide) ml_L_173 dL_law_67 rfl (by decide) (by omega) rfl (Nat.le_of_ble_eq_true rfl) (fun _ _ z => z.elim) (fun r' S' z => ?_)
  obtain ⟨rfl, rfl⟩ := z
  show WP _ _ _ _ [some (vR 74 0), some (vR 8 0), some (vR 200 0), some (vR 201 0), some (vR 202 0), some (vR 203 0), some (vR 204 0), some (vR 205 0), some (vR 206 0), some (vR 207 0), some (vR 208 0), some (vR 209 0), none, none] [vI 0] (cM m' 0 w0) _ _
  refine wp_if_ne (tgt := 77) dL_law_70 (by decide) (fun c => absurd rfl c) (fun _ => ?_)
  refine wp_iconst (v := 1) dL_law_73 (by decide) ?_
  refine wp_goto (tgt := 78) dL_law_74 (by decide) ?_
  refine wp_istore (L' := [some (vR 74 0), some (vR 8 0), some (vR 200 0), some (vR 201 0), some (vR 202 0), some (vR 203 0), some (vR 204 0), some (vR 205 0), some (vR 206 0), some (vR 207 0), some (vR 208 0), some (vR 209 0), some (vI 1), none]) dL_law_78 rfl rfl ?_
  refine wp_iconst (v := 0) dL_law_80 (by decide) ?_
  refine wp_istore (L' := [some (vR 74 0), some (vR 8 0), some (vR 200 0), some (vR 201 0), some (vR 202 0), some (vR 203 0), some (vR 204 0), some (vR 205 0), some (vR 206 0), some (vR 207 0), some (vR 208 0), some (vR 209 0), some (vI 1), some (vI 0)]) dL_law_81 rfl rfl ?_
  exact law_loop hN hQ 90 0 7598 (m', w0) rhoS (by omega) hl (by show nv (rhoS 0 0) ≤ _; decide) (by show pot m' + 2 * 90 + 2 ≤ _; omega)
theorem law_main (hN : N ≤ 4000) (hQ : ∀ S, Q (some (vI 1)) S) :
    WP (mLaw9 N xs) 60 (59 + (7598 + 1 + 1 + 1 + 1 + 1 + 1 + 1 + 1 + 1 + 1) + 1) 0 [some (vR 74 0), none, none, none, none, none, none, none, none, none, none, none, none, none] [] (cM cm0 0 rho0) Q QX := by
  have hF : FR (sN cm0 8 0) mS := fr8_X8_init _ _ _ init8
  have hlv : ∀ c, 57 ≤ c → mS.1 c 0 = false := fun c hc => by
    rw [hF.2 c 0 (Or.inr hc)]
    exact up2_n (fun _ _ => false) true (fun z => by omega)
  refine cp_new (c := 8) (i := 0) (m1 := sN cm0 8 0) rfl (by decide) rfl kl_L_11 it_X8 in_X8 dL_law_0 ?_
  refine wp_dup dL_law_3 trivial ?_
  refine wp_callI (k1 := 59) (k2 := 7598 + 1 + 1 + 1 + 1 + 1 + 1 + 1 + 1 + 1 + 1) (As := []) (rest := [vR 8 0]) (w8_X8_init init8) okX8_init rfl rfl im_X8_init ml_L_188 dL_law_4 (by decide) (Nat.le_refl _) rfl (by decide) (fun r' S' z => ?_)
  obtain ⟨rfl, rfl⟩ := z
  show WP _ _ _ _ [some (vR 74 0), none, none, none, none, none, none, none, none, none, none, none, none, none] [vR 8 0] (mS.1, mS.2.1, mS.2.2.1, mS.2.2.2.1, mS.2.2.2.2.1, mS.2.2.2.2.2, 0, rho0) _ _
  refine wp_astore_n (L' := [some (vR 74 0), some (vR 8 0), none, none, none, none, none, none, none, none, none, none, none, none]) dL_law_7 rfl rfl ?_
  exact law_arr hlv INV_S pot_S hN hQ
end LW9
