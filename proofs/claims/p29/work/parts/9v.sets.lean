/-! what the law sets -/
section ST9
variable {rho : RH} {u : LM}
def OK9 (rho : RH) (u : LM) (o : LR) (d : Nat) : Prop := ∃ u' rho' n, o = some (1, u', n) ∧ LI u' rho' ∧ n + pot u'.1 ≤ pot u.1 + 2 ∧ nv (rho' 0 0) ≤ nv (rho 0 0) + d
theorem lt0 {a : Nat} (h : a ≤ 1000000) : ¬ nI a < 0 := by
  rw [l0, Int32.lt_iff_toInt_lt, nI_toInt (by omega), nI_toInt (by omega)]
  omega
theorem fin9 {o : LR} {m9 : CM} {rho9 : RH} {n9 d : Nat} (h : o = some (1, (m9, u.2), n9 + 0)) (hl : LI (m9, u.2) rho9) (h0 : rho9 0 0 = rho 0 0) (hn : n9 + pot m9 ≤ pot u.1 + 2) : OK9 rho u o d := by
  refine ⟨(m9, u.2), rho9, n9 + 0, h, hl, by show n9 + 0 + pot m9 ≤ _; omega, by rw [h0]; omega⟩
theorem s_fault (hl : LI u rho) {i w v : Nat} (hi9 : i < 12) (hw : w < 4) (hv : v ≤ (if w = 0 then 50 else 1)) : OK9 rho u (bL_sets_63 (nI v) (nI w) (nI i) u) 0 := by
  have hb := INVX.rb9 hl.1
  obtain ⟨m9, n9, b, rho9, q, hl9, h0, hn, k0, k1⟩ := set_go (ce := fun j => if j = 0 then some (-1000001) else if j = 1 then some (-1000002) else none) hl (cmd3 u.1 rho (nI i) (nI w) (nI v) hl.1) (pc_fault hl.2.1 hi9 hw hv (fun i w h1 h2 h3 => (hb.ri9 i h1).2.2.2.2.2.2.2.2.1 w h2 h3)) (fun G hG => kf_f9_fault hG KF.rf)
  refine fin9 ?_ hl9 h0 hn
  unfold bL_sets_63
  rcases q with ⟨-, z, a, ha, rfl⟩ | ⟨-, z⟩
  · refine lk_s (k0 z) ?_
    show (if nI a < 0 then bL_sets_80 (nI a) (m9, u.2) else if nI a ≤ 50 then some (1, (m9, u.2), 0) else bL_sets_80 (nI a) (m9, u.2)) = _
    rw [if_neg (lt0 (by omega)), if_pos (show nI a ≤ 50 from nI_le (b := 50) (by omega) (by omega))]
  · obtain ⟨j, hj, e, hc⟩ := k1 (by rw [z]; decide)
    have j0 : j = 0 := by
      rcases hj with hj | hj
      · exact hj
      · rw [z, hj] at e
        exact absurd e (by decide)
    refine lk_s (hc (-1000001) (by rw [j0]; rfl)) ?_
    show (if (-1000001 : Int32) < 0 then bL_sets_80 (-1000001) (m9, u.2) else if (-1000001 : Int32) ≤ 50 then some (1, (m9, u.2), 0) else bL_sets_80 (-1000001) (m9, u.2)) = _
    rw [if_pos (by decide)]
    unfold bL_sets_80
    rw [if_pos rfl]
theorem s_policy (hl : LI u rho) {x1 x2 : Int32} {p v : Nat} (h1 : ¬ (x1 < -1 ∨ 6 < x1)) (h2 : ¬ (x2 < -1 ∨ 5 < x2)) (h3 : x1 = -1 ∨ x2 ≠ -1) (hp : p < 3) (hv : (p = 0 → 1 ≤ v ∧ v ≤ 100) ∧ (p = 1 → v ≤ 3) ∧ (p = 2 → v ≤ 50)) : OK9 rho u (bL_sets_187 (nI v) (nI p) x2 x1 u) 0 := by
  have hb := INVX.rb9 hl.1
  obtain ⟨m9, n9, b, rho9, ⟨z, q⟩, hl9, h0, hn, k0, -⟩ := set_go (ce := fun j => if j = 0 then some (-1000001) else if j = 1 then some (-1000002) else none) hl (cmd4 u.1 rho x1 x2 (nI p) (nI v) hl.1) (pc_policy hl.2.1 h1 h2 h3 hp hv (fun q hq => (hb.rp9 q hq).2) u.1) (fun G hG => kf_f9_policy hG KF.rf)
  refine fin9 ?_ hl9 h0 hn
  unfold bL_sets_187
  refine lk_s (k0 z) ?_
  show (if b < -1 then some (0, (m9, u.2), 0) else if 100 < b then some (0, (m9, u.2), 0) else some (1, (m9, u.2), 0)) = _
  rcases q with rfl | ⟨a, ha, rfl⟩
  · rw [if_neg (by decide), if_neg (by decide)]
  · rw [if_neg (fun y => ?_), if_neg (fun y => ?_)]
    · rw [l100, Int32.lt_iff_toInt_lt, nI_toInt (by omega), nI_toInt (by omega)] at y
      omega
    · rw [Int32.lt_iff_toInt_lt, nI_toInt (by omega), show (-1 : Int32).toInt = -1 by decide] at y
      omega
theorem s_part (hl : LI u rho) {x1 x2 x3 : Int32} {p : Nat} (h1 : ¬ (x1 < -1 ∨ 6 < x1)) (h2 : ¬ (x2 < -1 ∨ 5 < x2)) (h3 : x1 = -1 ∨ x2 ≠ -1) (hp : p < 3) : OK9 rho u (bL_sets_147 x3 (nI p) x2 x1 u) 0 := by
  unfold bL_sets_147
  obtain ⟨a, ha, ea⟩ := low_ix (x3 >>> (6 &&& 31)) (n := 30) (by omega) (by omega)
  obtain ⟨b, hb, eb⟩ := low_ix (x3 >>> (6 &&& 31)) (n := 4) (by omega) (by omega)
  obtain ⟨c, hc, ec⟩ := low_ix (x3 >>> (6 &&& 31)) (n := 8) (by omega) (by omega)
  have ea' : lowV (x3 >>> (6 &&& 31)) 30 = nI a := ea
  have eb' : lowV (x3 >>> (6 &&& 31)) 4 = nI b := eb
  have ec' : lowV (x3 >>> (6 &&& 31)) 8 = nI c := ec
  have hp3 : p = 0 ∨ p = 1 ∨ p = 2 := by omega
  rw [ea', eb', ec', l1, nI_add]
  rcases hp3 with rfl | rfl | rfl
  · rw [if_pos (show nI 0 = 0 from rfl)]
    exact s_policy hl h1 h2 h3 (by omega) ⟨fun _ => by omega, fun z => by omega, fun z => by omega⟩
  · rw [if_neg (show ¬ nI 1 = 0 by decide), if_pos rfl]
    exact s_policy hl h1 h2 h3 (by omega) ⟨fun z => by omega, fun _ => by omega, fun z => by omega⟩
  · rw [if_neg (show ¬ nI 2 = 0 by decide), if_neg (show ¬ nI 2 = nI 1 by decide)]
    exact s_policy hl h1 h2 h3 (by omega) ⟨fun z => by omega, fun z => by omega, fun _ => by omega⟩
theorem s_work (hl : LI u rho) {s v : Nat} (hs : s < 6) (hv : v ≤ 50) : OK9 rho u (lk (fW_work 0 (nI s) (nI v) u.1) u fun r5 u6 => if r5 < 0 then some (0, u6, 0) else some (1, u6, 0)) 0 := by
  obtain ⟨m9, n9, b, rho9, ⟨z, a, ha, rfl⟩, hl9, h0, hn, k0, -⟩ := set_go (ce := fun j => if j = 0 then some (-1000001) else if j = 1 then some (-1000002) else none) hl (cmd0 u.1 rho (nI s) (nI v) hl.1) (pc_work hl.2.1 hs hv) (fun G hG => kf_f9_work hG KF.rf)
  refine fin9 (lk_s (k0 z) ?_) hl9 h0 hn
  show (if nI a < 0 then some (0, (m9, u.2), 0) else some (1, (m9, u.2), 0)) = _
  rw [if_neg (lt0 (by omega))]
theorem s_share (hl : LI u rho) {s v : Nat} (hs : s < 7) (hv : v ≤ 100) : OK9 rho u (lk (fW_share 0 (nI s) (nI v) u.1) u fun r5 u6 => if r5 < 0 then some (0, u6, 0) else some (1, u6, 0)) 0 := by
  obtain ⟨m9, n9, b, rho9, ⟨z, a, ha, rfl⟩, hl9, h0, hn, k0, -⟩ := set_go (ce := fun j => if j = 0 then some (-1000001) else if j = 1 then some (-1000002) else none) hl (cmd5 u.1 rho (nI s) (nI v) hl.1) (pc_share hl.2.1 hs hv) (fun G hG => kf_f9_share hG KF.rf)
  refine fin9 (lk_s (k0 z) ?_) hl9 h0 hn
  show (if nI a < 0 then some (0, (m9, u.2), 0) else some (1, (m9, u.2), 0)) = _
  rw [if_neg (lt0 (by omega))]
theorem s_eyes (hl : LI u rho) {v : Nat} (h1 : 1 ≤ v) (hv : v ≤ 7) : OK9 rho u (lk (fW_eyes 0 (nI v) u.1) u fun r5 u6 => if r5 ≤ 0 then some (0, u6, 0) else some (1, u6, 0)) 0 := by
  obtain ⟨m9, n9, b, rho9, ⟨z, ⟨a, ha, rfl⟩, hz⟩, hl9, h0, hn, k0, -⟩ := set_go (ce := fun j => if j = 1 then some (-1000002) else none) hl (cmd6 u.1 rho (nI v) hl.1) (pc_eyes hl.2.1 h1 hv) (fun G hG => kf_f9_eyes hG KF.rf)
  refine fin9 (lk_s (k0 z) ?_) hl9 h0 hn
  show (if nI a ≤ 0 then some (0, (m9, u.2), 0) else some (1, (m9, u.2), 0)) = _
  rw [if_neg (fun y => ?_)]
  rw [l0, nI_leI (by omega) (by omega)] at y
  refine hz ?_
  rw [show a = 0 by omega]
  rfl
theorem s_canary (hl : LI u rho) {v : Nat} (hv : v ≤ 100) : OK9 rho u (lk (fW_canary 0 5 (nI v) u.1) u fun r14 u15 => if r14 < 0 then some (0, u15, 0) else lk (fW_canaryShare 0 5 u15.1) u15 fun r22 u23 => if r22 = nI v then some (1, u23, 0) else some (0, u23, 0)) 0 := by
  have hb := INVX.rb9 hl.1
  obtain ⟨m9, n9, b, rho9, ⟨z, rfl, e5⟩, hl9, h0, hn, k0, -⟩ := set_go (ce := fun j => if j = 0 then some (-1000001) else if j = 1 then some (-1000002) else none) hl (cmd7 u.1 rho (nI 5) (nI v) hl.1) (pc_canary hl.2.1 (by omega : 5 < 6) hv) (fun G hG => kf_f9_canary hG KF.rf)
  obtain ⟨a, ha, ea⟩ := (hb.rs9 5 (by omega)).2.1
  have hs : fW_canaryShare 0 5 m9 = some (nI v, m9, 0) := by
    rw [← e5]
    exact q_canaryShare hl9.1 (c := 5) (by omega)
  refine fin9 (lk_s (k0 z) ?_) hl9 h0 hn
  rw [ea]
  show (if nI a < 0 then some (0, (m9, u.2), 0) else lk (fW_canaryShare 0 5 m9) (m9, u.2) fun r22 u23 => if r22 = nI v then some (1, u23, 0) else some (0, u23, 0)) = _
  rw [if_neg (lt0 (by omega))]
  refine (lk_s (u := (m9, u.2)) (g := 0) (n := 0) hs ?_)
  show (if nI v = nI v then _ else _) = _
  rw [if_pos rfl]
theorem cl_pol {a : Nat} (h : a ≤ 7) : ¬ (nI a - 1 < -1 ∨ 6 < nI a - 1) := by
  have : a = 0 ∨ a = 1 ∨ a = 2 ∨ a = 3 ∨ a = 4 ∨ a = 5 ∨ a = 6 ∨ a = 7 := by omega
  rcases this with rfl | rfl | rfl | rfl | rfl | rfl | rfl | rfl <;> decide
theorem cl_pol2 {a : Nat} (h : a ≤ 6) : ¬ (nI a - 1 < -1 ∨ 5 < nI a - 1) := by
  have : a = 0 ∨ a = 1 ∨ a = 2 ∨ a = 3 ∨ a = 4 ∨ a = 5 ∨ a = 6 := by omega
  rcases this with rfl | rfl | rfl | rfl | rfl | rfl | rfl <;> decide
theorem cl_pol3 {a : Nat} (h : a ≤ 5) : ¬ (nI a < -1 ∨ 5 < nI a) ∧ nI a ≠ -1 := by
  have : a = 0 ∨ a = 1 ∨ a = 2 ∨ a = 3 ∨ a = 4 ∨ a = 5 := by omega
  rcases this with rfl | rfl | rfl | rfl | rfl | rfl <;> decide
theorem sets_ok (hl : LI u rho) (x2 x3 : Int32) : OK9 rho u (fL_sets x2 x3 u) 0 := by
  obtain ⟨kd, hkd, ekd⟩ := low_ix x2 (n := 8) (by omega) (by omega)
  have ekd' : lowV x2 8 = nI kd := ekd
  unfold fL_sets
  rw [ekd']
  by_cases z3 : kd < 3
  · rw [if_neg (show ¬ (3 : Int32) ≤ nI kd from cle (b := 3) (by omega) z3)]
    obtain ⟨w, hw, ew⟩ := low_ix (x2 >>> (3 &&& 31)) (n := 4) (by omega) (by omega)
    obtain ⟨i, hi, ei⟩ := low_ix (x2 >>> (5 &&& 31)) (n := 12) (by omega) (by omega)
    obtain ⟨v, hv, ev⟩ := low_ix (x3 >>> (2 &&& 31)) (n := 20) (by omega) (by omega)
    have ew' : lowV (x2 >>> (3 &&& 31)) 4 = nI w := ew
    have ei' : lowV (x2 >>> (5 &&& 31)) 12 = nI i := ei
    have ev' : lowV (x3 >>> (2 &&& 31)) 20 = nI v := ev
    rw [ew', ei', ev']
    by_cases c1 : lowV x3 3 ≤ 0
    · rw [if_pos c1]
      by_cases c2 : nI w = 0
      · rw [if_pos c2]
        have w0 : w = 0 := (nI_inj (by omega) (by omega)).mp (by rw [c2]; rfl)
        exact s_fault hl hi hw (by rw [if_pos w0]; omega)
      · rw [if_neg c2]
        have w0 : ¬ w = 0 := fun z => c2 (by rw [z]; rfl)
        exact s_fault (v := 1) hl hi hw (by rw [if_neg w0]; omega)
    · rw [if_neg c1]
      exact s_fault (v := 0) hl hi hw (Nat.zero_le _)
  · rw [if_pos (show (3 : Int32) ≤ nI kd from nI_le (a := 3) (by omega) (by omega))]
    by_cases k3 : kd = 3
    · rw [if_pos (by rw [k3]; rfl)]
      obtain ⟨c, hc, ec⟩ := low_ix x3 (n := 8) (by omega) (by omega)
      obtain ⟨p, hp, ep⟩ := low_ix (x2 >>> (3 &&& 31)) (n := 3) (by omega) (by omega)
      obtain ⟨a, ha, ea⟩ := low_ix (x3 >>> (3 &&& 31)) (n := 7) (by omega) (by omega)
      obtain ⟨b, hb, eb⟩ := low_ix (x3 >>> (3 &&& 31)) (n := 6) (by omega) (by omega)
      have ec' : lowV x3 8 = nI c := ec
      have ep' : lowV (x2 >>> (3 &&& 31)) 3 = nI p := ep
      have ea' : lowV (x3 >>> (3 &&& 31)) 7 = nI a := ea
      have eb' : lowV (x3 >>> (3 &&& 31)) 6 = nI b := eb
      rw [ec', ep', ea', eb']
      by_cases c0 : nI c = 0
      · rw [if_pos c0]
        exact s_part hl (cl_pol (by omega)) (cl_pol2 (by omega)) (Or.inl (by rw [c0]; rfl)) hp
      · rw [if_neg c0]
        exact s_part hl (cl_pol (by omega)) (cl_pol3 (by omega)).1 (Or.inr (cl_pol3 (by omega)).2) hp
    · rw [if_neg (show ¬ nI kd = 3 from fun y => k3 ((nI_inj (b := 3) (by omega) (by omega)).mp y))]
      by_cases k4 : kd = 4
      · rw [if_pos (by rw [k4]; rfl)]
        obtain ⟨a, ha, ea⟩ := low_ix (x2 >>> (3 &&& 31)) (n := 6) (by omega) (by omega)
        obtain ⟨b, hb, eb⟩ := low_ix x3 (n := 5) (by omega) (by omega)
        have ea' : lowV (x2 >>> (3 &&& 31)) 6 = nI a := ea
        have eb' : lowV x3 5 = nI b := eb
        rw [ea', eb']
        exact s_work hl ha (by omega)
      · rw [if_neg (show ¬ nI kd = 4 from fun y => k4 ((nI_inj (b := 4) (by omega) (by omega)).mp y))]
        by_cases k5 : kd = 5
        · rw [if_pos (by rw [k5]; rfl)]
          obtain ⟨b, hb, eb⟩ := low_ix x3 (n := 101) (by omega) (by omega)
          have eb' : lowV x3 101 = nI b := eb
          rw [eb']
          exact s_canary hl (by omega)
        · rw [if_neg (show ¬ nI kd = 5 from fun y => k5 ((nI_inj (b := 5) (by omega) (by omega)).mp y))]
          by_cases k6 : kd = 6
          · rw [if_pos (by rw [k6]; rfl)]
            obtain ⟨b, hb, eb⟩ := low_ix x3 (n := 4) (by omega) (by omega)
            have eb' : lowV x3 4 = nI b := eb
            rw [eb', l1, nI_add]
            exact s_eyes hl (by omega) (by omega)
          · rw [if_neg (show ¬ nI kd = 6 from fun y => k6 ((nI_inj (b := 6) (by omega) (by omega)).mp y))]
            obtain ⟨a, ha, ea⟩ := low_ix (x2 >>> (3 &&& 31)) (n := 7) (by omega) (by omega)
            obtain ⟨b, hb, eb⟩ := low_ix x3 (n := 60) (by omega) (by omega)
            have ea' : lowV (x2 >>> (3 &&& 31)) 7 = nI a := ea
            have eb' : lowV x3 60 = nI b := eb
            rw [ea', eb']
            exact s_share hl ha (by omega)
end ST9
