/-! the law's state between two commands; its look at the calls -/
section LQ9
theorem lk_q {o : CR Int32} {u : LM} {k : Int32 → LM → LR} {a : Int32} (h : o = some (a, u.1, 0)) : lk o u k = k a u := by
  subst h
  show (k a u).map (fun q => (q.1, q.2.1, 0 + q.2.2)) = k a u
  cases k a u with
  | none => rfl
  | some q => show some (q.1, q.2.1, 0 + q.2.2) = some q; rw [Nat.zero_add]
theorem lk_g {o : CR Int32} {u u1 u9 : LM} {k : Int32 → LM → LR} {a r : Int32} {g n : Nat} (h : o = some (a, u1.1, g)) (hw : u.2 = u1.2) (h2 : k a u1 = some (r, u9, n)) : lk o u k = some (r, u9, g + n) := by
  subst h
  have e : (u1.1, u.2) = u1 := by rw [hw]
  show (k a (u1.1, u.2)).map _ = _
  rw [e, h2]
  rfl
theorem lb_g {o : LR} {u1 u9 : LM} {k : Int32 → LM → LR} {a r : Int32} {g n : Nat} (h : o = some (a, u1, g)) (h2 : k a u1 = some (r, u9, n)) : lb o k = some (r, u9, g + n) := by
  subst h
  show (k a u1).map _ = _
  rw [h2]
  rfl
def LC (w rho : RH) : Prop := ∀ k, k < 60 → (w 5 k < 4 ∨ (k < iC rho ∧ rho 37 k = w 5 k - 1 ∧ ¬ rho 37 k ≤ 2)) ∧ (w 6 k = 0 ∨ (k < iC rho ∧ rho 38 k = w 6 k))
def LRq (w rho : RH) : Prop := ∀ r, r < 40 → w 7 r = 0 ∨ w 7 r = 8 ∨ (r < iR rho ∧ rho 56 r = w 7 r ∧ rho 56 r ≠ 8)
def LFe (w rho : RH) : Prop := ∀ c, c < 7 → (∃ a, w 8 c = nI a ∧ a ≤ nv (rho 18 c)) ∧ ∃ a, w 9 c = nI a ∧ a ≤ nv (rho 19 c)
def LG (w rho : RH) : Prop := w 0 0 = rho 6 0 ∧ w 0 1 = rho 51 0 ∧ w 0 2 = rho 0 0 ∧ (∃ a, w 0 3 = nI a ∧ a ≤ iC rho) ∧ (∃ a, w 0 4 = nI a ∧ a ≤ iP rho) ∧ ∃ a, w 0 5 = nI a ∧ a ≤ nv (rho 60 0)
def LV (w rho : RH) : Prop := ∀ i, i < iI rho → w 1 i = rho 7 i ∧ w 2 i = rho 10 i ∧ w 3 i = rho 11 i
def LPl (w rho : RH) : Prop := iR rho = 0 → ∀ s, s < 6 → w 4 s = rho 2 s
def LI (u : LM) (rho : RH) : Prop := INV u.1 rho ∧ JA rho ∧ LG u.2 rho ∧ LV u.2 rho ∧ LPl u.2 rho ∧ LC u.2 rho ∧ LRq u.2 rho ∧ LFe u.2 rho
variable {m : CM} {rho : RH} {u : LM}
theorem qc0 (hI : INV m rho) {k : Nat} (hk : k < iC rho) : fW_call 0 (nI k) 0 m = some (rho 34 k, m, 0) := by
  rw [q_call hI hk (by decide), if_pos (by decide)]
theorem qc1 (hI : INV m rho) {k : Nat} (hk : k < iC rho) : fW_call 0 (nI k) 1 m = some (rho 36 k, m, 0) := by
  rw [q_call hI hk (by decide), if_neg (by decide), if_pos (by decide)]
theorem qc2 (hI : INV m rho) {k : Nat} (hk : k < iC rho) : fW_call 0 (nI k) 2 m = some (rho 37 k, m, 0) := by
  rw [q_call hI hk (by decide), if_neg (by decide), if_neg (by decide), if_pos (by decide)]
theorem qc3 (hI : INV m rho) {k : Nat} (hk : k < iC rho) : fW_call 0 (nI k) 3 m = some (rho 38 k, m, 0) := by
  rw [q_call hI hk (by decide), if_neg (by decide), if_neg (by decide), if_neg (by decide), if_pos (by decide)]
theorem qc4 (hI : INV m rho) {k : Nat} (hk : k < iC rho) : fW_call 0 (nI k) 4 m = some (if iO rho k < 400 then nI (iO rho k) else -1, m, 0) := by
  have hO := (INVX.rb9 hI).O hk
  rw [q_call hI hk (by decide), if_neg (by decide), if_neg (by decide), if_neg (by decide), if_neg (by decide), if_pos (by decide), hO.1, l400]
  by_cases z : iO rho k < 400
  · rw [if_pos z, if_neg (by rw [nI_leI (by omega) (by omega)]; omega)]
  · rw [if_neg z, if_pos ((nI_leI (by omega) (by omega)).mpr (by omega))]
theorem qc5 (hI : INV m rho) {k : Nat} (hk : k < iC rho) : fW_call 0 (nI k) 5 m = some (rho 40 k, m, 0) := by
  rw [q_call hI hk (by decide), if_neg (by decide), if_neg (by decide), if_neg (by decide), if_neg (by decide), if_neg (by decide), if_pos (by decide)]
theorem qc7 (hI : INV m rho) {k : Nat} (hk : k < iC rho) : fW_call 0 (nI k) 7 m = some (if iO rho k < 440 then -1 else nI (iO rho k - 440), m, 0) := by
  have hO := (INVX.rb9 hI).O hk
  rw [q_call hI hk (by decide), if_neg (by decide), if_neg (by decide), if_neg (by decide), if_neg (by decide), if_neg (by decide), if_neg (by decide), if_neg (by decide), hO.1, l440]
  by_cases z : iO rho k < 440
  · rw [if_pos z, if_neg (by rw [nI_leI (by omega) (by omega)]; omega)]
  · rw [if_neg z, if_pos ((nI_leI (by omega) (by omega)).mpr (by omega)), l400, l40, nI_sb (by omega), nI_sb (by omega), show iO rho k - 400 - 40 = iO rho k - 440 by omega]
theorem root_lt (hb : RB rho) : ∀ n k, k < n → k < iC rho → (rho 40 k).toInt < (iR rho : Int) := by
  intro n
  induction n with
  | zero => intro k h; omega
  | succ n ih =>
    intro k hkn hk
    have hrk := hb.rk9 k hk
    have hR := hb.R
    rw [hrk.2.2.2.2.2.2.2.2.2.2.1]
    unfold rqo
    by_cases z : iO rho k < 400
    · rw [if_pos z]
      have h1 := (hrk.2.2.1 z).1
      exact ih _ (by omega) (by omega)
    · rw [if_neg z]
      have hE := hb.E hrk.2.1
      by_cases y : iO rho k < 440
      · rw [if_pos y, nI_toInt (by omega)]
        omega
      · rw [if_neg y]
        have e : (-1 : Int32).toInt = -1 := by decide
        rw [e]
        omega
theorem b338 (hl : LI u rho) {k M : Nat} {K : Int32 → Int32 → Int32 → LM → LR} {s0 : Int32} (hk : k < iC rho) (hk6 : k < 60) : ∃ u', u'.1 = u.1 ∧ LI u' rho ∧ bL_areCalls_338 K (nI M) (nI k) (rho 37 k) (rho 38 k) s0 u = K s0 (nI M) (nI k + 1) u' := by
  obtain ⟨h1, h2, h3, h4, h5, h6, h7, h8⟩ := hl
  have hb := INVX.rb9 h1
  have hw := (hb.rw9 k hk).1
  refine ⟨sW (sW u 5 k (rho 37 k + 1)) 6 k (rho 38 k), rfl, ⟨h1, h2, h3, h4, h5, fun j hj => ?_, h7, h8⟩, ?_⟩
  · have f5 : (sW (sW u 5 k (rho 37 k + 1)) 6 k (rho 38 k)).2 5 j = if j = k then rho 37 k + 1 else u.2 5 j := rfl
    have f6 : (sW (sW u 5 k (rho 37 k + 1)) 6 k (rho 38 k)).2 6 j = if j = k then rho 38 k else u.2 6 j := rfl
    rw [f5, f6]
    by_cases z : j = k
    · rw [if_pos z, if_pos z, z]
      refine ⟨?_, Or.inr ⟨hk, rfl⟩⟩
      obtain ⟨a, ha, e⟩ := hw
      rw [e, nI_1]
      by_cases y : a + 1 < 4
      · exact Or.inl (by rw [l4]; exact nI_lt9 y (by omega))
      · refine Or.inr ⟨hk, (nI_pred a).symm, fun w => ?_⟩
        rw [l2, nI_leI (by omega) (by omega)] at w
        omega
    · rw [if_neg z, if_neg z]
      exact h6 j hj
  · unfold bL_areCalls_338
    rw [if_pos (vq_nI hk6 (by omega)), nI_clamp (by omega)]
    rfl
theorem b294 (hl : LI u rho) {k M : Nat} {K : Int32 → Int32 → Int32 → LM → LR} (hk : k < iC rho) (hk6 : k < 60) : ∃ u', u'.1 = u.1 ∧ LI u' rho ∧ bL_areCalls_294 K (nI M) (nI k) (rho 37 k) (if iO rho k < 400 then nI (iO rho k) else -1) (rho 40 k) (rho 38 k) u = K 1 (nI M) (nI k + 1) u' := by
  obtain ⟨u', e1, e2, e3⟩ := b338 (K := K) (M := M) (s0 := 1) hl hk hk6
  refine ⟨u', e1, e2, ?_⟩
  have hI := hl.1
  have hb := INVX.rb9 hI
  have hrk := hb.rk9 k hk
  have hE := hb.E hrk.2.1
  have hP := hb.P
  unfold bL_areCalls_294
  rw [lk_q (qc7 hI hk), lk_q (q_repairs hI 0), if_pos rfl, hP.1]
  by_cases z : iO rho k < 440
  · rw [if_pos z, if_neg (fun y => ?_), lk_q (qc7 hI hk), if_pos z, if_pos (by decide)]
    · exact e3
    · rw [Int32.le_iff_toInt_le, nI_toInt (by omega), show (-1 : Int32).toInt = -1 by decide] at y
      omega
  · rw [if_neg z, if_neg (by rw [nI_leI (by omega) (by omega)]; omega), lk_q (qc7 hI hk), if_neg z, if_neg (fun y => ?_), if_neg (by omega : ¬ iO rho k < 400), if_pos rfl, hrk.2.2.2.2.2.2.2.2.2.2.1]
    · unfold rqo
      rw [if_neg (by omega : ¬ iO rho k < 400), if_neg z, if_pos rfl]
      exact e3
    · rw [l0, Int32.lt_iff_toInt_lt, nI_toInt (by omega), nI_toInt (by omega)] at y
      omega
theorem b272 (hl : LI u rho) {k M : Nat} {K : Int32 → Int32 → Int32 → LM → LR} (hk : k < iC rho) (hk6 : k < 60) : ∃ u', u'.1 = u.1 ∧ LI u' rho ∧ bL_areCalls_272 K (nI M) (nI k) (rho 37 k) (if iO rho k < 400 then nI (iO rho k) else -1) (rho 40 k) (rho 38 k) u = K 1 (nI M) (nI k + 1) u' := by
  obtain ⟨u', e1, e2, e3⟩ := b294 (K := K) (M := M) hl hk hk6
  refine ⟨u', e1, e2, ?_⟩
  have hI := hl.1
  have hb := INVX.rb9 hI
  have hrk := hb.rk9 k hk
  unfold bL_areCalls_272
  by_cases z : iO rho k < 400
  · have h1 := hrk.2.2.1 z
    rw [if_pos z] at e3 ⊢
    rw [if_neg (fun y => ?_)]
    · by_cases y : 2 < rho 37 k
      · rw [if_pos y]
        exact e3
      · have hlv : rho 37 k ≤ 2 := not_lt32.mp y
        have h2 := ((hl.2.1.2.1 k hk hlv).2 z).resolve_right id
        rw [if_neg y, lk_q (qc2 hI (by omega)), if_pos h2]
        exact e3
    · rw [l0, Int32.lt_iff_toInt_lt, nI_toInt (by omega), nI_toInt (by omega)] at y
      omega
  · rw [if_neg z] at e3 ⊢
    rw [if_pos (by decide)]
    exact e3
theorem b258 (hl : LI u rho) {k M : Nat} {K : Int32 → Int32 → Int32 → LM → LR} (hk : k < iC rho) (hk6 : k < 60) : ∃ u', u'.1 = u.1 ∧ LI u' rho ∧ bL_areCalls_258 K (nI M) (nI k) (rho 37 k) (if iO rho k < 400 then nI (iO rho k) else -1) (rho 40 k) (rho 38 k) u = K 1 (nI M) (nI k + 1) u' := by
  obtain ⟨u', e1, e2, e3⟩ := b272 (K := K) (M := M) hl hk hk6
  refine ⟨u', e1, e2, ?_⟩
  unfold bL_areCalls_258
  by_cases y : 2 < rho 37 k
  · rw [if_pos y]
    exact e3
  · have hlv : rho 37 k ≤ 2 := not_lt32.mp y
    have h2 := (hl.2.1.2.1 k hk hlv).1 trivial
    have e02 : gW u 0 (2 : Int32).toNatClampNeg = rho 0 0 := hl.2.2.1.2.2.1
    rw [if_neg y, e02, if_neg (not_le32.mpr h2)]
    exact e3
theorem b213 (hl : LI u rho) {k M : Nat} {K : Int32 → Int32 → Int32 → LM → LR} (hk : k < iC rho) (hk6 : k < 60) : ∃ u', u'.1 = u.1 ∧ LI u' rho ∧ bL_areCalls_213 K (nI M) (nI k) (rho 37 k) (if iO rho k < 400 then nI (iO rho k) else -1) (rho 40 k) (rho 38 k) (rho 36 k) u = K 1 (nI M) (nI k + 1) u' := by
  obtain ⟨u', e1, e2, e3⟩ := b258 (K := K) (M := M) hl hk hk6
  refine ⟨u', e1, e2, ?_⟩
  have hI := hl.1
  have hb := INVX.rb9 hI
  have hX := hb.Xi hk
  have hI0 := hb.I
  have e00 : gW u 0 (0 : Int32).toNatClampNeg = nI (iI rho) := hl.2.2.1.1.trans hI0.1
  have ev : gW u 1 (iX rho k) = rho 34 k := (hl.2.2.2.1 _ hX.2).1.trans ((hl.2.1.1.2.2.2 k hk).2.2.1)
  have e6 := ((hl.2.2.2.2.2.1) k hk6).2
  unfold bL_areCalls_213
  rw [hX.1, if_neg (fun y => ?_), e00, if_neg (by rw [nI_leI (by omega) (by omega)]; omega), if_pos (vq_nI (by omega) (by omega)), lk_q (qc0 hI hk), nI_clamp (by omega), ev, if_pos rfl, if_pos (vq_nI hk6 (by omega)), nI_clamp (n := k) (by omega)]
  · rcases e6 with e6 | ⟨-, e6⟩
    · have e6' : gW u 6 k = 0 := e6
      rw [if_pos e6']
      exact e3
    · have e6' : rho 38 k = gW u 6 k := e6
      by_cases z : gW u 6 k = 0
      · rw [if_pos z]
        exact e3
      · rw [if_neg z, if_pos e6']
        exact e3
  · rw [l0, Int32.lt_iff_toInt_lt, nI_toInt (by omega), nI_toInt (by omega)] at y
    omega
theorem b152 (hl : LI u rho) {k M : Nat} {K : Int32 → Int32 → Int32 → LM → LR} (hk : k < iC rho) (hk6 : k < 60) : ∃ u', u'.1 = u.1 ∧ LI u' rho ∧ bL_areCalls_152 K (nI M) (nI k) (rho 37 k) (if iO rho k < 400 then nI (iO rho k) else -1) (rho 40 k) (rho 38 k) (rho 36 k) u = K 1 (nI M) (nI k + 1) u' := by
  obtain ⟨u', e1, e2, e3⟩ := b213 (K := K) (M := M) hl hk hk6
  refine ⟨u', e1, e2, ?_⟩
  have hI := hl.1
  have hb := INVX.rb9 hI
  have hR := hb.R
  have hrk := hb.rk9 k hk
  have hrt := root_lt hb _ k (Nat.lt_succ_self k) hk
  have e01 : gW u 0 (1 : Int32).toNatClampNeg = nI (iR rho) := hl.2.2.1.2.1.trans hR.1
  have hno : ¬ nI (iR rho) ≤ rho 40 k := fun y => by
    rw [Int32.le_iff_toInt_le, nI_toInt (by omega)] at y
    omega
  unfold bL_areCalls_152
  by_cases z : iO rho k < 400
  · have h1 := hrk.2.2.1 z
    have hdl := ((hl.2.1.1.2.2.2 k hk).2.2.2.1 z).2
    have hS1 := hb.S hk
    have hS2 := hb.S (show iO rho k < iC rho by omega)
    have hq : rho 40 (iO rho k) = rho 40 k := by
      rw [hrk.2.2.2.2.2.2.2.2.2.2.1]
      unfold rqo
      rw [if_pos z]
    rw [if_pos z] at e3 ⊢
    rw [if_neg (by rw [nI_leI (by omega) (by omega)]; omega), e01, if_neg hno, if_neg (fun y => ?_), lk_q (qc3 hI (by omega)), if_neg (fun y => ?_), lk_q (qc5 hI (by omega)), if_pos hq, lk_q (qc0 hI hk), lk_q (qc0 hI (by omega)), hS1.1, hS2.1, if_neg (by rw [nI_leI (by omega) (by omega)]; omega)]
    · exact e3
    · rw [Int32.lt_iff_toInt_lt] at y
      rw [Int32.le_iff_toInt_le] at hdl
      omega
    · rw [l0, Int32.lt_iff_toInt_lt, nI_toInt (by omega), nI_toInt (by omega)] at y
      omega
  · rw [if_neg z] at e3 ⊢
    rw [if_neg (fun y => ?_), e01, if_neg hno, if_pos (by decide)]
    · exact e3
    · rw [Int32.le_iff_toInt_le, nI_toInt (by omega), show (-1 : Int32).toInt = -1 by decide] at y
      omega
theorem b361 (hl : LI u rho) : ∃ u', u'.1 = u.1 ∧ LI u' rho ∧ bL_areCalls_361 1 u = some (1, u', 0) := by
  obtain ⟨h1, h2, h3, h4, h5, h6, h7, h8⟩ := hl
  refine ⟨sW u 0 3 (nI (iC rho)), rfl, ⟨h1, h2, ⟨h3.1, h3.2.1, h3.2.2.1, ⟨iC rho, rfl, Nat.le_refl _⟩, h3.2.2.2.2⟩, h4, h5, h6, h7, h8⟩, ?_⟩
  unfold bL_areCalls_361
  rw [lk_q (q_calls h1), wr_s, if_pos (Or.inr rfl)]
  rfl
theorem loop64 {M : Nat} (hM : M ≤ 60) : ∀ (d k n : Nat) (u : LM), k + d = M → d < n → M ≤ iC rho → LI u rho → ∃ u', u'.1 = u.1 ∧ LI u' rho ∧ lL_areCalls_64 n 1 (nI M) (nI k) u = some (1, u', 0) := by
  intro d
  induction d with
  | zero =>
    intro k n u hk hn hMC hl
    obtain ⟨n, rfl⟩ : ∃ n', n = n' + 1 := ⟨n - 1, by omega⟩
    obtain ⟨u', e1, e2, e3⟩ := b361 hl
    refine ⟨u', e1, e2, ?_⟩
    rw [lL_areCalls_64, if_pos ((nI_leI (by omega) (by omega)).mpr (by omega))]
    exact e3
  | succ d ih =>
    intro k n u hk hn hMC hl
    obtain ⟨n, rfl⟩ : ∃ n', n = n' + 1 := ⟨n - 1, by omega⟩
    have hI := hl.1
    have hb := INVX.rb9 hI
    have hkC : k < iC rho := by omega
    obtain ⟨u1, e1, e2, e3⟩ := b152 (K := lL_areCalls_64 n) (M := M) hl hkC (by omega)
    obtain ⟨u2, f1, f2, f3⟩ := ih (k + 1) n u1 (by omega) (by omega) hMC e2
    refine ⟨u2, f1.trans e1, f2, ?_⟩
    rw [nI_1] at e3
    obtain ⟨a, ha, ea⟩ := (hb.rw9 k hkC).1
    have h5 := ((hl.2.2.2.2.2.1) k (by omega)).1
    rw [lL_areCalls_64, if_neg (by rw [nI_leI (by omega) (by omega)]; omega), if_neg i10, lk_q (qc2 hI hkC), lk_q (qc4 hI hkC), lk_q (qc5 hI hkC), lk_q (qc3 hI hkC), lk_q (qc1 hI hkC), if_neg (fun y => ?_), if_neg (fun y => ?_), if_pos (vq_nI (show k < 60 by omega) (by omega)), nI_clamp (n := k) (by omega)]
    · rcases h5 with h5 | ⟨-, h5, -⟩
      · have h5' : gW u 5 k < 4 := h5
        rw [if_pos h5', e3]
        exact f3
      · have h5' : rho 37 k = gW u 5 k - 1 := h5
        by_cases z : gW u 5 k < 4
        · rw [if_pos z, e3]
          exact f3
        · rw [if_neg z, if_pos h5', e3]
          exact f3
    · rw [ea, l8, nI_leI (by omega) (by omega)] at y
      omega
    · rw [ea, l0, Int32.lt_iff_toInt_lt, nI_toInt (by omega), nI_toInt (by omega)] at y
      omega
theorem are_calls (hl : LI u rho) : ∃ u', u'.1 = u.1 ∧ LI u' rho ∧ fL_areCalls u = some (1, u', 1) := by
  have hI := hl.1
  have hb := INVX.rb9 hI
  have hC := hb.C
  have hF : FU = 1000 := rfl
  obtain ⟨a, ea, ha⟩ := hl.2.2.1.2.2.2.1
  have e03 : gW u 0 (3 : Int32).toNatClampNeg = nI a := ea
  have key : ∃ u', u'.1 = u.1 ∧ LI u' rho ∧ bL_areCalls_39 1 u = some (1, u', 0) := by
    unfold bL_areCalls_39
    rw [lk_q (q_calls hI)]
    by_cases z : 60 ≤ iC rho
    · obtain ⟨u', e1, e2, e3⟩ := loop64 (M := 60) (by omega) 60 0 FU u (by omega) (by omega) z hl
      exact ⟨u', e1, e2, by rw [if_pos (show (60 : Int32) ≤ nI (iC rho) from nI_le z (by omega))]; exact e3⟩
    · obtain ⟨u', e1, e2, e3⟩ := loop64 (M := iC rho) (by omega) (iC rho) 0 FU u (by omega) (by omega) (Nat.le_refl _) hl
      exact ⟨u', e1, e2, by rw [if_neg (show ¬ (60 : Int32) ≤ nI (iC rho) from cle (b := 60) (by omega) (by omega)), lk_q (q_calls hI)]; exact e3⟩
  obtain ⟨u', e1, e2, e3⟩ := key
  refine ⟨u', e1, e2, ?_⟩
  unfold fL_areCalls
  rw [lk_q (q_calls hI), e03, if_neg (fun y => ?_), lk_q (q_calls hI), if_neg (fun y => ?_), lk_q (q_calls hI)]
  · refine lk_g (g := 1) (n := 0) (u1 := u) (q_call_out hI) rfl ?_
    show (if (-1000001 : Int32) = -1000001 then bL_areCalls_39 1 u else bL_areCalls_39 0 u) = _
    rw [if_pos rfl]
    exact e3
  · rw [l400, Int32.lt_iff_toInt_lt, nI_toInt (by omega), nI_toInt (by omega)] at y
    omega
  · rw [Int32.lt_iff_toInt_lt, nI_toInt (by omega), nI_toInt (by omega)] at y
    omega
end LQ9
