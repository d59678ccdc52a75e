/-! the law's look at the loads and budgets -/
section LD9
variable {rho : RH} {u : LM}
theorem flt_snoc {p : Nat → Bool} {n : Nat} : ((List.range (n + 1)).filter p).length = ((List.range n).filter p).length + if p n = true then 1 else 0 := by
  rw [List.range_succ, List.filter_append, List.length_append]
  congr 1
  rw [List.filter_cons]
  split <;> rfl
def opn9 (rho : RH) (i c : Nat) : Nat := ((List.range c).filter (fun c => decide (rho 21 (12 * c + i) = 1))).length
theorem opn9_le (i c : Nat) : opn9 rho i c ≤ c := by
  have h := List.length_filter_le (fun c => decide (rho 21 (12 * c + i) = 1)) (List.range c)
  rw [List.length_range] at h
  exact h
def ld9 (rho : RH) (i : Nat) : Nat := cntI rho (nI i) 0 2
theorem ld9_le (hj : JQ rho) {i : Nat} (hi : i < iI rho) : ld9 rho i ≤ nv (rho 10 i) + nv (rho 11 i) := by
  obtain ⟨h1, h2, -⟩ := hj i hi
  have e : ld9 rho i = cntI rho (nI i) 0 0 + cntI rho (nI i) 1 2 := by
    refine cnt_add (fun x _ => ⟨?_, fun z => ?_⟩)
    · rw [Bool.eq_iff_iff, Bool.or_eq_true, decide_eq_true_iff, decide_eq_true_iff, decide_eq_true_iff]
      rw [Int32.lt_iff_toInt_lt, Int32.lt_iff_toInt_lt, Int32.lt_iff_toInt_lt, Int32.lt_iff_toInt_lt, show (2 : Int32).toInt = 2 by decide, show (0 : Int32).toInt = 0 by decide, show (1 : Int32).toInt = 1 by decide]
      constructor
      · intro z
        by_cases y : (rho 37 x).toInt < 1
        · exact Or.inl ⟨z.1, by omega⟩
        · exact Or.inr ⟨z.1, by omega⟩
      · intro z
        rcases z with z | z
        · exact ⟨z.1, by omega⟩
        · exact ⟨z.1, by omega⟩
    · have z1 := (of_decide_eq_true z.1).2
      have z2 := (of_decide_eq_true z.2).2
      rw [Int32.lt_iff_toInt_lt, Int32.lt_iff_toInt_lt, show (0 : Int32).toInt = 0 by decide] at z1
      rw [Int32.lt_iff_toInt_lt, Int32.lt_iff_toInt_lt, show (2 : Int32).toInt = 2 by decide, show (1 : Int32).toInt = 1 by decide] at z2
      omega
  omega
def live9 (rho : RH) (n : Nat) : Nat := ((List.range n).filter fun k => decide (¬ 3 ≤ rho 37 k)).length
def liv9 (rho : RH) : List Nat := (List.range (iC rho)).filter fun k => decide (¬ 3 ≤ rho 37 k)
def many9 (rho : RH) (n : Nat) : Nat := ((liv9 rho).filter (pR (rho 36) n)).length
theorem many_add (hb : RB rho) {n : Nat} (hn : n < 2 ^ 30) : many9 rho (n + 1) = many9 rho n + ld9 rho n := by
  unfold many9
  rw [pR_add hn]
  congr 1
  unfold liv9 ld9 cntI
  rw [List.filter_filter]
  refine cnt_same (fun x hx => ?_)
  have hx := List.mem_range.mp hx
  obtain ⟨a, ha, e⟩ := (hb.rw9 x hx).1
  rw [Bool.eq_iff_iff, Bool.and_eq_true, decide_eq_true_iff, decide_eq_true_iff, decide_eq_true_iff, e, l3, nI_leI (by omega) (by omega), l0, l2, Int32.lt_iff_toInt_lt, Int32.lt_iff_toInt_lt, nI_toInt (by omega), nI_toInt (by omega), nI_toInt (by omega)]
  constructor
  · intro z
    exact ⟨z.1, by omega⟩
  · intro z
    exact ⟨z.1, by omega⟩
theorem many_live (hb : RB rho) : many9 rho (iI rho) = live9 rho (iC rho) := by
  unfold many9 live9
  have e : (liv9 rho).filter (pR (rho 36) (iI rho)) = liv9 rho := List.filter_eq_self.mpr (fun x hx => by
    have hx := List.mem_range.mp (List.mem_filter.mp hx).1
    have h := hb.Xi hx
    exact ex_pR h.2 h.1)
  rw [e]
  rfl
theorem many_le (n : Nat) : many9 rho n ≤ iC rho := by
  have h := List.length_filter_le (pR (rho 36) n) (liv9 rho)
  have h2 := List.length_filter_le (fun k => decide (¬ 3 ≤ rho 37 k)) (List.range (iC rho))
  rw [List.length_range] at h2
  exact Nat.le_trans h h2
theorem live_le (n : Nat) : live9 rho n ≤ n := by
  have h2 := List.length_filter_le (fun k => decide (¬ 3 ≤ rho 37 k)) (List.range n)
  rw [List.length_range] at h2
  exact h2
theorem d375 (hl : LI u rho) : bL_areLoads_375 1 (nI (live9 rho (iC rho))) (nI (live9 rho (iC rho))) u = some (1, u, 0) := by
  have hI := hl.1
  have hb := INVX.rb9 hI
  have hR := hb.R
  have hP := hb.P
  have e01 : gW u 0 (1 : Int32).toNatClampNeg = nI (iR rho) := hl.2.2.1.2.1.trans hR.1
  obtain ⟨a4, e4, h4⟩ := hl.2.2.1.2.2.2.2.1
  obtain ⟨a5, e5, h5⟩ := hl.2.2.1.2.2.2.2.2
  have e04 : gW u 0 (4 : Int32).toNatClampNeg = nI a4 := e4
  have e05 : gW u 0 (5 : Int32).toNatClampNeg = nI a5 := e5
  obtain ⟨-, a, b, d, ea, -, -, -, -, -, e6⟩ := hl.2.1.2.2.2.1 6 (by omega)
  have e18 : rho 18 6 = nI (iR rho) := by rw [ea, e6 rfl]
  have e60 := hb.r09.2.2.2.2.2.2.2.2
  have hm := List.length_filter_le (fun p => decide (rho 63 p ≠ 0)) (List.range (iP rho))
  rw [List.length_range] at hm
  rw [e60, nv_nI (by omega)] at h5
  unfold bL_areLoads_375
  rw [if_neg i10, if_pos rfl, show (6 : Int32) = nI 6 from rfl, lk_q (q_first hI (by omega)), e18, e01, if_pos rfl, lk_q (q_repairs hI 1), if_neg i10, e05, e60, if_neg (fun y => ?_), lk_q (q_repairs hI 0), if_pos rfl, e04, hP.1, if_neg (fun y => ?_), lk_q (q_repairs hI 1), if_neg i10, e60, lk_q (q_repairs hI 0), if_pos rfl, hP.1, if_neg (fun y => ?_), lk_q (q_repairs hI 0), if_pos rfl, hP.1, if_neg (fun y => ?_)]
  · rw [l100, Int32.lt_iff_toInt_lt, nI_toInt (by omega), nI_toInt (by omega)] at y
    omega
  · rw [Int32.lt_iff_toInt_lt, nI_toInt (by omega), nI_toInt (by omega)] at y
    omega
  · rw [Int32.lt_iff_toInt_lt, nI_toInt (by omega), nI_toInt (by omega)] at y
    omega
  · rw [Int32.lt_iff_toInt_lt, nI_toInt (by omega), nI_toInt (by omega)] at y
    omega
theorem d353 (hl : LI u rho) {c : Nat} (hc : c < 7) {x7 x8 : Int32} {K : Int32 → Int32 → Int32 → Int32 → LM → LR} : ∃ u', u'.1 = u.1 ∧ LI u' rho ∧ bL_areLoads_353 K x7 x8 (nI c) (rho 18 c) (rho 19 c) 1 u = K 1 x7 x8 (nI (c + 1)) u' := by
  obtain ⟨h1, h2, h3, h4, h5, h6, h7, h8⟩ := hl
  refine ⟨sW (sW u 8 c (rho 18 c)) 9 c (rho 19 c), rfl, ⟨h1, h2, h3, h4, h5, h6, h7, fun j hj => ?_⟩, ?_⟩
  · have f8 : (sW (sW u 8 c (rho 18 c)) 9 c (rho 19 c)).2 8 j = if j = c then rho 18 c else u.2 8 j := rfl
    have f9 : (sW (sW u 8 c (rho 18 c)) 9 c (rho 19 c)).2 9 j = if j = c then rho 19 c else u.2 9 j := rfl
    obtain ⟨-, a, b, d, ea, eb, -, hd, hs, ha, h6⟩ := h2.2.2.2.1 c hc
    rw [f8, f9]
    by_cases z : j = c
    · rw [if_pos z, if_pos z, z]
      have hF := fs_le h2.1
      have hR := h2.1.R
      have ha9 : a ≤ 1600 := by
        by_cases y : c < 6
        · have := ha y
          omega
        · have := h6 (by omega)
          omega
      exact ⟨⟨a, ea, by rw [ea, nv_nI (by omega)]; exact Nat.le_refl _⟩, ⟨b, eb, by rw [eb, nv_nI (by omega)]; exact Nat.le_refl _⟩⟩
    · rw [if_neg z, if_neg z]
      exact h8 j hj
  · unfold bL_areLoads_353
    rw [if_pos (vq_nI hc (by omega)), nI_clamp (by omega), nI_1]
    rfl
theorem loop238 {x7 x8 : Int32} (hx : x7 = nI (live9 rho (iC rho))) (hx8 : x8 = nI (live9 rho (iC rho))) : ∀ (d c n : Nat) (u : LM), c + d = 7 → d < n → LI u rho → ∃ u', u'.1 = u.1 ∧ LI u' rho ∧ lL_areLoads_238 n 1 x7 x8 (nI c) u = some (1, u', 0) := by
  subst hx
  subst hx8
  intro d
  induction d with
  | zero =>
    intro c n u hc hn hl
    obtain ⟨n, rfl⟩ : ∃ n', n = n' + 1 := ⟨n - 1, by omega⟩
    refine ⟨u, rfl, hl, ?_⟩
    rw [lL_areLoads_238, l7, if_pos ((nI_leI (by omega) (by omega)).mpr (by omega))]
    exact d375 hl
  | succ d ih =>
    intro c n u hc hn hl
    obtain ⟨n, rfl⟩ : ∃ n', n = n' + 1 := ⟨n - 1, by omega⟩
    have hI := hl.1
    have hc7 : c < 7 := by omega
    obtain ⟨u1, e1, e2, e3⟩ := d353 (K := lL_areLoads_238 n) (x7 := nI (live9 rho (iC rho))) (x8 := nI (live9 rho (iC rho))) hl hc7
    obtain ⟨u2, f1, f2, f3⟩ := ih (c + 1) n u1 (by omega) (by omega) e2
    refine ⟨u2, f1.trans e1, f2, ?_⟩
    rw [f3] at e3
    obtain ⟨-, a, b, d9, ea, eb, ed, hd, hs, ha, h6⟩ := hl.2.1.2.2.2.1 c hc7
    have hF := fs_le hl.2.1.1
    have hR := hl.2.1.1.R
    have ha9 : a ≤ 1600 := by
      by_cases y : c < 6
      · have := ha y
        omega
      · have := h6 (by omega)
        omega
    obtain ⟨⟨p, ep, hp⟩, q, eq, hq⟩ := hl.2.2.2.2.2.2.2 c hc7
    have e8 : gW u 8 c = nI p := ep
    have e9 : gW u 9 c = nI q := eq
    rw [ea, nv_nI (by omega)] at hp
    rw [eb, nv_nI (by omega)] at hq
    have k1 : (100 : Int32) * nI a = nI (100 * a) := by rw [l100, pk_mul]
    have k2 : (100 : Int32) * nI b = nI (100 * b) := by rw [l100, pk_mul]
    have k3 : (1000 : Int32) + nI (100 * a) = nI (1000 + 100 * a) := by rw [l1000, nI_add]
    rw [ea, eb] at e3
    rw [lL_areLoads_238, if_neg (by rw [l7, nI_leI (by omega) (by omega)]; omega), if_neg i10, lk_q (q_first hI hc7), lk_q (q_extra hI hc7), lk_q (q_budget hI hc7), ea, eb, ed, if_neg (fun y => ?_), lk_q (q_budget hI hc7), ed, if_neg (fun y => ?_), if_pos (vq_nI hc7 (by omega)), nI_clamp (n := c) (by omega), e8, e9, if_neg (fun y => ?_), if_neg (fun y => ?_), k1, k2, k3, if_neg (fun y => ?_), lk_q (q_budget hI hc7), ed, nI_sb (by omega), if_neg (fun y => ?_)]
    · exact e3
    · rw [Int32.lt_iff_toInt_lt, nI_toInt (by omega), nI_toInt (by omega)] at y
      omega
    · rw [Int32.lt_iff_toInt_lt, nI_toInt (by omega), nI_toInt (by omega)] at y
      omega
    · rw [Int32.lt_iff_toInt_lt, nI_toInt (by omega), nI_toInt (by omega)] at y
      omega
    · rw [Int32.lt_iff_toInt_lt, nI_toInt (by omega), nI_toInt (by omega)] at y
      omega
    · rw [l1000, Int32.lt_iff_toInt_lt, nI_toInt (by omega), nI_toInt (by omega)] at y
      omega
    · rw [l0, Int32.lt_iff_toInt_lt, nI_toInt (by omega), nI_toInt (by omega)] at y
      omega
theorem loop199 (hl : LI u rho) {x7 : Int32} (hx : x7 = nI (live9 rho (iC rho))) : ∃ u', u'.1 = u.1 ∧ LI u' rho ∧ ∀ (d k n : Nat), k + d = iC rho → d < n → lL_areLoads_199 n 1 x7 (nI (live9 rho k)) (nI k) u = some (1, u', 0) := by
  have hI := hl.1
  have hb := INVX.rb9 hI
  have hC := hb.C
  have hF : FU = 1000 := rfl
  obtain ⟨u', e1, e2, e3⟩ := loop238 (x8 := nI (live9 rho (iC rho))) hx rfl 7 0 FU u (by omega) (by omega) hl
  refine ⟨u', e1, e2, ?_⟩
  intro d
  induction d with
  | zero =>
    intro k n hk hn
    obtain ⟨n, rfl⟩ : ∃ n', n = n' + 1 := ⟨n - 1, by omega⟩
    have hk' : k = iC rho := by omega
    rw [hk', lL_areLoads_199, lk_q (q_calls hI), if_pos ((nI_leI (by omega) (by omega)).mpr (by omega))]
    exact e3
  | succ d ih =>
    intro k n hk hn
    obtain ⟨n, rfl⟩ : ∃ n', n = n' + 1 := ⟨n - 1, by omega⟩
    have ih := ih (k + 1) n (by omega) (by omega)
    have ef : live9 rho (k + 1) = live9 rho k + if decide (¬ 3 ≤ rho 37 k) = true then 1 else 0 := flt_snoc
    rw [lL_areLoads_199, lk_q (q_calls hI), if_neg (by rw [nI_leI (by omega) (by omega)]; omega), lk_q (qc2 hI (by omega))]
    by_cases z : 3 ≤ rho 37 k
    · rw [if_neg (by simp [z])] at ef
      rw [ef] at ih
      rw [if_pos z]
      unfold bL_areLoads_226
      rw [l0, nI_add, nI_1]
      exact ih
    · rw [if_pos (by simp [z])] at ef
      rw [ef] at ih
      rw [if_neg z]
      unfold bL_areLoads_226
      rw [nI_1, nI_1]
      exact ih
theorem loop99 (hl : LI u rho) {i : Nat} (hi : i < iI rho) {x7 : Int32} {K : Int32 → Int32 → Int32 → LM → LR} : ∀ (d c n : Nat), c + d = 7 → d < n → lL_areLoads_99 K n 1 x7 (nI i) (nI (opn9 rho i c)) (nI c) u = K 1 x7 (nI (i + 1)) u := by
  have hI := hl.1
  have hb := INVX.rb9 hI
  intro d
  induction d with
  | zero =>
    intro c n hc hn
    obtain ⟨n, rfl⟩ : ∃ n', n = n' + 1 := ⟨n - 1, by omega⟩
    have hc' : c = 7 := by omega
    subst hc'
    have ho := opn9_le (rho := rho) i 7
    rw [lL_areLoads_99, l7, if_pos (nI_le (Nat.le_refl 7) (by omega)), if_neg i10]
    by_cases z : 0 < opn9 rho i 7
    · rw [if_pos (by rw [l0]; exact nI_lt9 z (by omega))]
      unfold bL_areLoads_180
      rw [nI_1]
    · have e0 : opn9 rho i 7 = 0 := by omega
      have e1 : obr rho i = 0 := e0
      obtain ⟨⟨a, ha, ea⟩, hne⟩ := hl.2.1.2.2.2.2.2.1.2.2.2.2.1
      have ha0 : 0 < a := by
        refine Nat.pos_of_ne_zero (fun z => hne ?_)
        rw [ea, z]
        rfl
      rw [e0, if_neg (by decide), lk_q (q_isShunned hI hi), e1, ea, if_pos (nI_lt9 ha0 (by omega)), if_pos rfl]
      unfold bL_areLoads_180
      rw [nI_1]
  | succ d ih =>
    intro c n hc hn
    obtain ⟨n, rfl⟩ : ∃ n', n = n' + 1 := ⟨n - 1, by omega⟩
    have hc7 : c < 7 := by omega
    have ih := ih (c + 1) n (by omega) (by omega)
    have ef : opn9 rho i (c + 1) = opn9 rho i c + if decide (rho 21 (12 * c + i) = 1) = true then 1 else 0 := flt_snoc
    obtain ⟨a, ha, ea⟩ := ((hb.ri9 i hi).2.2.2.2.2.2.2.2.2 c hc7).1
    have key : ∀ x : Int32, bL_areLoads_129 K (lL_areLoads_99 K n) 1 x7 (nI i) (nI c) (rho 21 (12 * c + i)) x (nI (opn9 rho i c)) u = lL_areLoads_99 K n 1 x7 (nI i) (nI (opn9 rho i c) + x) (nI c + 1) u := fun x => by
      unfold bL_areLoads_129
      rw [if_neg i10, if_neg (fun y => ?_), if_neg (fun y => ?_)]
      · rw [ea, l3, nI_leI (by omega) (by omega)] at y
        omega
      · rw [ea, l0, Int32.lt_iff_toInt_lt, nI_toInt (by omega), nI_toInt (by omega)] at y
        omega
    rw [lL_areLoads_99, if_neg (by rw [l7, nI_leI (by omega) (by omega)]; omega), lk_q (q_breaker hI hc7 hi), key, key]
    by_cases z : rho 21 (12 * c + i) = 1
    · rw [if_pos (by simp [z])] at ef
      rw [ef] at ih
      rw [if_pos z, nI_1, nI_1]
      exact ih
    · rw [if_neg (by simp [z])] at ef
      rw [ef] at ih
      rw [if_neg z, l0, nI_add, nI_1]
      exact ih
theorem loop9 (hl : LI u rho) : ∃ u', u'.1 = u.1 ∧ LI u' rho ∧ ∀ (d k n : Nat), k + d = iI rho → d < n → lL_areLoads_9 n 1 (nI (many9 rho k)) (nI k) u = some (1, u', 0) := by
  have hI := hl.1
  have hb := INVX.rb9 hI
  have hI9 := hb.I
  have hC := hb.C
  have hF : FU = 1000 := rfl
  have e00 : gW u 0 (0 : Int32).toNatClampNeg = nI (iI rho) := hl.2.2.1.1.trans hI9.1
  obtain ⟨u', e1, e2, e3⟩ := loop199 hl (congrArg nI (many_live hb))
  refine ⟨u', e1, e2, ?_⟩
  intro d
  induction d with
  | zero =>
    intro k n hk hn
    obtain ⟨n, rfl⟩ : ∃ n', n = n' + 1 := ⟨n - 1, by omega⟩
    have hk' : k = iI rho := by omega
    rw [hk', lL_areLoads_9, e00, if_pos ((nI_leI (by omega) (by omega)).mpr (by omega))]
    unfold bL_areLoads_193
    exact e3 (iC rho) 0 FU (by omega) (by omega)
  | succ d ih =>
    intro k n hk hn
    obtain ⟨n, rfl⟩ : ∃ n', n = n' + 1 := ⟨n - 1, by omega⟩
    have hkI : k < iI rho := by omega
    have ih := ih (k + 1) n (by omega) (by omega)
    have hld := ld9_le hl.2.1.2.2.1 hkI
    have hq := (hl.2.1.2.2.1 k hkI).2.2
    have hri := hb.ri9 k hkI
    have hv := hl.2.2.2.1 k hkI
    obtain ⟨a10, h10, i10'⟩ := hri.2.2.2.2.1
    obtain ⟨a11, h11, i11⟩ := hri.2.2.2.2.2.1
    obtain ⟨a14, h14, i14⟩ := hri.2.2.2.2.2.2.2.1
    have w2 : gW u 2 k = nI a10 := hv.2.1.trans i10'
    have w3 : gW u 3 k = nI a11 := hv.2.2.trans i11
    rw [i10', i11, nv_nI (by omega), nv_nI (by omega)] at hld hq
    rw [i14, nv_nI (by omega)] at hq
    rw [many_add hb (by omega), ← nI_add] at ih
    have eN : fW_load 0 (nI k) 1 u.1 = some (nI (ld9 rho k), u.1, 0) := q_loadNow hI hkI
    have e91 := loop99 (K := lL_areLoads_9 n) (x7 := nI (many9 rho k) + nI (ld9 rho k)) hl hkI 7 0 FU (by omega) (by omega)
    rw [lL_areLoads_9, e00, if_neg (by rw [nI_leI (by omega) (by omega)]; omega), if_neg i10, lk_q eN, if_neg (fun y => ?_), if_pos (vq_nI (by omega) (by omega)), nI_clamp (n := k) (by omega), w2, w3, nI_add, if_neg (fun y => ?_), lk_q (q_load hI hkI), w2, w3, nI_add, i14, if_neg (fun y => ?_), lk_q (q_load hI hkI), i14, if_neg (fun y => ?_)]
    · unfold bL_areLoads_91
      exact e91.trans ih
    · rw [l0, Int32.lt_iff_toInt_lt, nI_toInt (by omega), nI_toInt (by omega)] at y
      omega
    · rw [Int32.lt_iff_toInt_lt, nI_toInt (by omega), nI_toInt (by omega)] at y
      omega
    · rw [Int32.lt_iff_toInt_lt, nI_toInt (by omega), nI_toInt (by omega)] at y
      omega
    · rw [l0, Int32.lt_iff_toInt_lt, nI_toInt (by omega), nI_toInt (by omega)] at y
      omega
theorem are_loads (hl : LI u rho) : ∃ u', u'.1 = u.1 ∧ LI u' rho ∧ fL_areLoads u = some (1, u', 0) := by
  have hI9 := (INVX.rb9 hl.1).I
  have hF : FU = 1000 := rfl
  obtain ⟨u', e1, e2, e3⟩ := loop9 hl
  have h := e3 (iI rho) 0 FU (by omega) (by omega)
  have m0 : many9 rho 0 = 0 := List.length_eq_zero_iff.mpr (List.filter_eq_nil_iff.mpr (fun x _ h => by cases h))
  rw [m0] at h
  exact ⟨u', e1, e2, h⟩
end LD9
