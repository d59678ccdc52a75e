/-! the law's look at the requests -/
section RQ9
theorem cnt_add {l : List Nat} {p q s : Nat → Bool} (h : ∀ x, x ∈ l → s x = (p x || q x) ∧ ¬ (p x = true ∧ q x = true)) : (l.filter s).length = (l.filter p).length + (l.filter q).length := by
  induction l with
  | nil => rfl
  | cons x l ih =>
    have ih := ih (fun y hy => h y (List.mem_cons_of_mem _ hy))
    obtain ⟨h1, h2⟩ := h x (List.mem_cons_self)
    rw [List.filter_cons, List.filter_cons, List.filter_cons, h1]
    cases hp : p x <;> cases hq : q x
    · rw [if_neg (by decide), if_neg (by decide), if_neg (by decide)]
      exact ih
    · rw [if_pos (by decide), if_neg (by decide), if_pos (by decide), List.length_cons, List.length_cons, ih]
      omega
    · rw [if_pos (by decide), if_pos (by decide), if_neg (by decide), List.length_cons, List.length_cons, ih]
      omega
    · exact absurd ⟨hp, hq⟩ h2
def pR (f : Nat → Int32) : Nat → Nat → Bool
  | 0, _ => false
  | n + 1, x => pR f n x || decide (f x = nI n)
theorem pR_ex {f : Nat → Int32} {x : Nat} : ∀ {n : Nat}, pR f n x = true → ∃ r, r < n ∧ f x = nI r
  | 0, h => by cases h
  | n + 1, h => by
    have h' : (pR f n x || decide (f x = nI n)) = true := h
    rw [Bool.or_eq_true] at h'
    rcases h' with h' | h'
    · obtain ⟨r, h1, h2⟩ := pR_ex h'
      exact ⟨r, by omega, h2⟩
    · exact ⟨n, by omega, of_decide_eq_true h'⟩
theorem ex_pR {f : Nat → Int32} {x r : Nat} : ∀ {n : Nat}, r < n → f x = nI r → pR f n x = true
  | 0, h, _ => by omega
  | n + 1, h, e => by
    show (pR f n x || decide (f x = nI n)) = true
    rw [Bool.or_eq_true]
    by_cases z : r = n
    · rw [← z]
      exact Or.inr (decide_eq_true e)
    · exact Or.inl (ex_pR (by omega) e)
theorem pR_add {f : Nat → Int32} {l : List Nat} {n : Nat} (hn : n < 2 ^ 30) : (l.filter (pR f (n + 1))).length = (l.filter (pR f n)).length + (l.filter fun k => decide (f k = nI n)).length := by
  refine cnt_add (fun x _ => ⟨rfl, fun z => ?_⟩)
  obtain ⟨r, h1, h2⟩ := pR_ex z.1
  have h3 := of_decide_eq_true z.2
  rw [h2] at h3
  have := (nI_inj (by omega) (by omega)).mp h3
  omega
def cntR9 (rho : RH) (r : Nat) : Nat := ((List.range (iC rho)).filter fun k => decide (rho 40 k = nI r)).length
def sumR9 (rho : RH) (n : Nat) : Nat := ((List.range (iC rho)).filter (pR (rho 40) n)).length
theorem sumR9_add {rho : RH} {n : Nat} (hn : n < 2 ^ 30) : sumR9 rho (n + 1) = sumR9 rho n + cntR9 rho n := pR_add hn
theorem sumR9_le {rho : RH} (n : Nat) : sumR9 rho n ≤ iC rho := by
  have h := List.length_filter_le (pR (rho 40) n) (List.range (iC rho))
  rw [List.length_range] at h
  exact h
theorem cntR9_le {rho : RH} (n : Nat) : cntR9 rho n ≤ iC rho := by
  have h := List.length_filter_le (fun k => decide (rho 40 k = nI n)) (List.range (iC rho))
  rw [List.length_range] at h
  exact h
theorem toInt_nI {x : Int32} (h : 0 ≤ x.toInt) : ∃ a, x = nI a ∧ (a : Int) = x.toInt := by
  have h2 := Int32.toInt_lt x
  refine ⟨x.toInt.toNat, ?_, by omega⟩
  rw [← Int32.toInt_inj, nI_toInt (by omega)]
  omega
theorem diff_nI {a b : Int32} (h0 : 0 ≤ a.toInt) (h1 : a ≤ b) (h2 : b.toInt ≤ a.toInt + 200) : ∃ n, n ≤ 200 ∧ b - a = nI n := by
  rw [Int32.le_iff_toInt_le] at h1
  obtain ⟨x, rfl, ex⟩ := toInt_nI h0
  obtain ⟨y, rfl, ey⟩ := toInt_nI (x := b) (by omega)
  exact ⟨y - x, by omega, nI_sb (by omega)⟩
variable {rho : RH} {u : LM}
theorem tick_ok (hl : LI u rho) {r : Nat} (hr : r < iR rho) : ∃ n, n ≤ 200 ∧ fW_requestTicks 0 (nI r) u.1 = some (nI n, u.1, 0) := by
  obtain ⟨g1, g2, g3, g4, g5, g6, -⟩ := hl.2.1.2.2.2.2.1 r hr
  rw [q_requestTicks hl.1 hr]
  by_cases z : rho 56 r = 8
  · have := (g5 z).1
    rw [Int32.le_iff_toInt_le] at this
    obtain ⟨n, h1, h2⟩ := diff_nI g2 g3 (by omega)
    exact ⟨n, h1, by rw [if_pos z, h2]⟩
  · obtain ⟨h4, h5, -⟩ := g6 z
    rw [Int32.le_iff_toInt_le] at h5
    obtain ⟨n, h1, h2⟩ := diff_nI g2 h4 (by omega)
    exact ⟨n, h1, by rw [if_neg z, h2]⟩
theorem c174 (hl : LI u rho) {r : Nat} {x4 s0 : Int32} {K : Int32 → Int32 → Int32 → LM → LR} (hr : r < iR rho) : ∃ u', u'.1 = u.1 ∧ LI u' rho ∧ bL_areRequests_174 K x4 (nI r) (rho 56 r) s0 u = K s0 x4 (nI (r + 1)) u' := by
  obtain ⟨h1, h2, h3, h4, h5, h6, h7, h8⟩ := hl
  have hR := (INVX.rb9 h1).R
  refine ⟨sW u 7 r (rho 56 r), rfl, ⟨h1, h2, h3, h4, h5, h6, fun j hj => ?_, h8⟩, ?_⟩
  · have f7 : (sW u 7 r (rho 56 r)).2 7 j = if j = r then rho 56 r else u.2 7 j := rfl
    rw [f7]
    by_cases z : j = r
    · rw [if_pos z, z]
      by_cases y : rho 56 r = 8
      · exact Or.inr (Or.inl y)
      · exact Or.inr (Or.inr ⟨hr, rfl, y⟩)
    · rw [if_neg z]
      exact h7 j hj
  · unfold bL_areRequests_174
    rw [if_pos (vq_nI (by omega) (by omega)), nI_clamp (by omega), nI_1]
    rfl
theorem c146 (hl : LI u rho) {r : Nat} {x4 : Int32} {K : Int32 → Int32 → Int32 → LM → LR} (hr : r < iR rho) : ∃ u', u'.1 = u.1 ∧ LI u' rho ∧ bL_areRequests_146 K x4 (nI r) (rho 56 r) u = K 1 x4 (nI (r + 1)) u' := by
  obtain ⟨u', e1, e2, e3⟩ := c174 (K := K) (x4 := x4) (s0 := 1) hl hr
  refine ⟨u', e1, e2, ?_⟩
  unfold bL_areRequests_146
  by_cases z3 : rho 56 r = 3
  · rw [if_pos z3]
    exact e3
  · by_cases z8 : rho 56 r = 8
    · rw [if_neg z3, if_pos z8]
      exact e3
    · have h58 := (hl.2.1.2.2.2.2.1 r hr).2.2.2.2.2.2.2 z8 z3
      rw [if_neg z3, if_neg z8, lk_q (q_isKept hl.1 hr z8), h58, if_neg i10, if_pos rfl]
      exact e3
theorem c109 (hl : LI u rho) {r : Nat} {x4 : Int32} {K : Int32 → Int32 → Int32 → LM → LR} (hr : r < iR rho) : ∃ u', u'.1 = u.1 ∧ LI u' rho ∧ bL_areRequests_109 K x4 (nI r) (rho 56 r) (nI (cntR9 rho r)) u = K 1 x4 (nI (r + 1)) u' := by
  obtain ⟨u', e1, e2, e3⟩ := c146 (K := K) (x4 := x4) hl hr
  refine ⟨u', e1, e2, ?_⟩
  obtain ⟨n, hn, et⟩ := tick_ok hl hr
  have hb := INVX.rb9 hl.1
  have hC := hb.C
  have hc := cntR9_le (rho := rho) r
  unfold bL_areRequests_109
  rw [lk_q et, if_neg (fun y => ?_), lk_q et, if_neg (fun y => ?_), if_neg (fun y => ?_)]
  · by_cases z3 : rho 56 r = 3
    · obtain ⟨k, hk, ek⟩ := (hl.2.1.2.2.2.2.1 r hr).2.2.2.2.2.2.1 z3
      have hrk := hb.rk9 k hk
      have hR := hb.R
      have eO : iO rho k = 400 + r := by
        unfold iO
        rw [ek, nv_nI (by omega)]
      have e40 : rho 40 k = nI r := by
        rw [hrk.2.2.2.2.2.2.2.2.2.2.1, eO]
        unfold rqo
        rw [if_neg (by omega), if_pos (by omega), show 400 + r - 400 = r by omega]
      have hpos : 0 < cntR9 rho r := List.length_pos_of_mem (List.mem_filter.mpr ⟨List.mem_range.mpr hk, decide_eq_true e40⟩)
      rw [if_pos z3, if_neg (fun y => ?_)]
      · exact e3
      · rw [l0, nI_leI (by omega) (by omega)] at y
        omega
    · rw [if_neg z3]
      exact e3
  · rw [l0, Int32.lt_iff_toInt_lt, nI_toInt (by omega), nI_toInt (by omega)] at y
    omega
  · rw [l200, Int32.lt_iff_toInt_lt, nI_toInt (by omega), nI_toInt (by omega)] at y
    omega
  · rw [l0, Int32.lt_iff_toInt_lt, nI_toInt (by omega), nI_toInt (by omega)] at y
    omega
theorem c84 (hl : LI u rho) {r : Nat} {x4 : Int32} {K : Int32 → Int32 → Int32 → LM → LR} (hr : r < iR rho) : ∃ u', u'.1 = u.1 ∧ LI u' rho ∧ bL_areRequests_84 K x4 (nI r) (rho 56 r) (nI (cntR9 rho r)) u = K 1 x4 (nI (r + 1)) u' := by
  obtain ⟨u', e1, e2, e3⟩ := c109 (K := K) (x4 := x4) hl hr
  refine ⟨u', e1, e2, ?_⟩
  have hR := (INVX.rb9 hl.1).R
  have h7 := hl.2.2.2.2.2.2.1 r (by omega)
  unfold bL_areRequests_84
  rw [if_pos (vq_nI (by omega) (by omega)), nI_clamp (by omega)]
  by_cases z0 : gW u 7 r = 0
  · rw [if_pos z0]
    exact e3
  · rw [if_neg z0]
    by_cases z8 : gW u 7 r = 8
    · rw [if_pos z8]
      exact e3
    · have h9 : rho 56 r = gW u 7 r := ((h7.resolve_left z0).resolve_left z8).2.1
      rw [if_neg z8, if_pos h9]
      exact e3
theorem loop24 : ∀ (d k n : Nat) (u : LM), k + d = iR rho → d < n → LI u rho → ∃ u', u'.1 = u.1 ∧ LI u' rho ∧ lL_areRequests_24 n 1 (nI (sumR9 rho k)) (nI k) u = some (1, u', 0) := by
  intro d
  induction d with
  | zero =>
    intro k n u hk hn hl
    obtain ⟨n, rfl⟩ : ∃ n', n = n' + 1 := ⟨n - 1, by omega⟩
    have hb := INVX.rb9 hl.1
    have hR := hb.R
    have hC := hb.C
    have e01 : gW u 0 (1 : Int32).toNatClampNeg = nI (iR rho) := hl.2.2.1.2.1.trans hR.1
    have hs := sumR9_le (rho := rho) k
    refine ⟨u, rfl, hl, ?_⟩
    rw [lL_areRequests_24, e01, if_pos ((nI_leI (by omega) (by omega)).mpr (by omega))]
    unfold bL_areRequests_187
    rw [if_neg i10, lk_q (q_calls hl.1), if_neg (fun y => ?_)]
    rw [Int32.lt_iff_toInt_lt, nI_toInt (by omega), nI_toInt (by omega)] at y
    omega
  | succ d ih =>
    intro k n u hk hn hl
    obtain ⟨n, rfl⟩ : ∃ n', n = n' + 1 := ⟨n - 1, by omega⟩
    have hb := INVX.rb9 hl.1
    have hR := hb.R
    have e01 : gW u 0 (1 : Int32).toNatClampNeg = nI (iR rho) := hl.2.2.1.2.1.trans hR.1
    have hkR : k < iR rho := by omega
    obtain ⟨u1, e1, e2, e3⟩ := c84 (K := lL_areRequests_24 n) (x4 := nI (sumR9 rho k) + nI (cntR9 rho k)) hl hkR
    obtain ⟨u2, f1, f2, f3⟩ := ih (k + 1) n u1 (by omega) (by omega) e2
    refine ⟨u2, f1.trans e1, f2, ?_⟩
    have ec : fW_callsOf 0 (nI k) u.1 = some (nI (cntR9 rho k), u.1, 0) := q_callsOf hl.1 hkR
    rw [sumR9_add (by omega), ← nI_add] at f3
    rw [lL_areRequests_24, e01, if_neg (by rw [nI_leI (by omega) (by omega)]; omega), if_neg i10, lk_q (q_requestState hl.1 hkR), lk_q ec]
    rw [f3] at e3
    have h4 := (hl.2.1.2.2.2.2.1 k hkR).1
    by_cases z3 : rho 56 k = 3
    · rw [if_pos z3]
      exact e3
    · rw [if_neg z3]
      by_cases z4 : rho 56 k = 4
      · rw [if_pos z4]
        exact e3
      · rw [if_neg z4]
        by_cases z5 : rho 56 k = 5
        · rw [if_pos z5]
          exact e3
        · rw [if_neg z5, if_pos (((h4.resolve_left z3).resolve_left z4).resolve_left z5)]
          exact e3
theorem are_requests (hl : LI u rho) : ∃ u', u'.1 = u.1 ∧ LI u' rho ∧ fL_areRequests u = some (1, u', 1) := by
  have hb := INVX.rb9 hl.1
  have hR := hb.R
  have hF : FU = 1000 := rfl
  have e01 : gW u 0 (1 : Int32).toNatClampNeg = nI (iR rho) := hl.2.2.1.2.1.trans hR.1
  obtain ⟨u', e1, e2, e3⟩ := loop24 (iR rho) 0 FU u (by omega) (by omega) hl
  refine ⟨u', e1, e2, ?_⟩
  have s0 : sumR9 rho 0 = 0 := List.length_eq_zero_iff.mpr (List.filter_eq_nil_iff.mpr (fun x _ h => by cases h))
  rw [s0] at e3
  unfold fL_areRequests
  rw [e01]
  refine lk_g (g := 1) (n := 0) (u1 := u) (q_requestState_out hl.1) rfl ?_
  show (if (-1000001 : Int32) = -1000001 then bL_areRequests_17 1 u else bL_areRequests_17 0 u) = _
  rw [if_pos rfl]
  exact e3
end RQ9
