/-! a try: the choice and the new call, both sides together -/
section PX
variable {X Y : Nat → Prop} {m : CM} {rho : RH}
theorem stp (h : INVX X Y m rho) (hX : ∀ x, ¬ X x) {o n : Nat} (ho : OE rho o) (hn : n + 1 = sc rho o) (hgo : Go rho o) : gI m 911 (4 * o + n) = 8 := ((h.ax9.1 o n ho (by omega)).2 hn (hX o)).1 hgo
theorem fin_drop {o n : Nat} (h : INVX (fun x => X x ∨ x = o) (fun x => Y x ∨ x = o) m rho) (hn : n + 1 = sc rho o) (hgo : Go rho o) (h911 : gI m 911 (4 * o + n) = 8) (hs2 : ∀ q, q < iC rho → rho 37 q = 7 → iO rho q = o → gI m 911 (sid rho q) ≠ 8) (h1 : o < 440 → ∃ a, 1 ≤ a ∧ a ≤ 10 ∧ rho 48 o = nI a) (h2 : o < 440 → gI m 909 (4 * o + n) = rho 50 o ∨ (gI m 909 (4 * o + n) = -1 ∧ ∃ k, k ∈ TR rho o n ∧ rho 43 k = 0)) : INVX X Y m rho := by
  refine (INVX.drop h (fun n' _ hn' => ?_) hs2).dropY h1 (fun n' _ ho4 hn' => ?_)
  · have : n' = n := by omega
    subst this
    exact ⟨fun _ => h911, fun z => absurd hgo z⟩
  · have : n' = n := by omega
    subst this
    exact h2 ho4
theorem B_both {o n c s : Nat} (h : INVX X (fun x => Y x ∨ x = o) m rho) (hX : ∀ x, ¬ X x) (ho : OE rho o) (hn : n + 1 = sc rho o) (hc : cal rho o = nI c) (hs : cld rho o n = nI s) (hc7 : c < 7) (hs6 : s < 6) (hgo : Go rho o)
    (h1 : o < 440 → ∃ a, 1 ≤ a ∧ a ≤ 10 ∧ rho 48 o = nI a) (hj : o < 440 → gI m 909 (4 * o + n) = rho 50 o ∨ gI m 909 (4 * o + n) = -1) :
    ∃ m1 g1 rho1 fl, R8 0 (4 * o + n) m = some (0, m1, g1) ∧ INVX X Y m1 rho1 ∧ g1 + pot m1 ≤ pot m ∧ FrB rho rho1 ∧ R9 (nI o) (nI c) (nI s) rho = (if fl = true then LOOKT (iC rho) rho1 else some (0, rho1)) ∧ (fl = true → iC rho ∈ TR rho1 o n ∧ rho1 37 (iC rho) = 6 ∧ rho1 43 (iC rho) = 0) ∧ (fl = false → iC rho ∈ TR rho1 o n → knB rho1 (iC rho) = false) ∧ (∃ l, TR rho1 o n = TR rho o n ++ l ∧ ∀ x, x ∈ l → x = iC rho) := by
  have hE := h.rb9.E ho
  have ho5 : o < 540 := by omega
  have hC0 := h.rb9.C
  obtain ⟨b, v, m', r', k1, k2, k3, k4, k5, k6, k7, k8⟩ := choose_both h hX ho hn hc hs hc7 hs6
  have eC : iC r' = iC rho := by unfold iC; rw [k6 31 0 (by decide)]
  have eO : ∀ j, iO r' j = iO rho j := fun j => by unfold iO; rw [k6 32 j (by decide)]
  have eN : ∀ j, iN r' j = iN rho j := fun j => by unfold iN; rw [k6 33 j (by decide)]
  have eS : ∀ j, iS r' j = iS rho j := fun j => by unfold iS; rw [k6 34 j (by decide)]
  have eI : iI r' = iI rho := by unfold iI; rw [k6 6 0 (by decide)]
  have eT : TR r' o n = TR rho o n := by
    unfold TR
    rw [eC]
    apply List.filter_congr
    intro x _
    rw [eO, eN]
  have ho' : OE r' o := by
    unfold OE iR iP at ho ⊢
    rw [eC, k6 51 0 (by decide), k6 59 0 (by decide)]
    exact ho
  have hn' : n + 1 = sc r' o := by
    unfold sc at hn ⊢
    rw [k6 46 o (by decide)]
    exact hn
  have hc' : cal r' o = nI c := by
    rw [← hc]
    unfold cal
    rw [k6 34 o (by decide), k6 61 _ (by decide)]
  have hs' : cld r' o n = nI s := by
    rw [← hs]
    unfold cld
    rw [k6 3 _ (by decide), k6 52 _ (by decide), k6 62 _ (by decide), eS]
  have hgo' : Go r' o := (Go_fr (fun _ => k6 37 o (by decide)) (k6 56 _ (by decide)) (k6 63 _ (by decide))).mpr hgo
  have h1' : o < 440 → ∃ a, 1 ≤ a ∧ a ≤ 10 ∧ r' 48 o = nI a := fun z => by rw [k6 48 o (by decide)]; exact h1 z
  have h911 := stp k4 hX ho' hn' hgo'
  have hb' := k4.rb9
  have hC' := hb'.C
  have hal := k4.al9
  have ha := k4.a09
  have hlen : (gL m' 52 0).length = iC rho := by rw [hal.2.2.1, List.length_range, eC]
  have hnone : ∃ m1 g1 rho1 fl, (some ((0 : Int32), sI m' 909 (4 * o + n) 6, 0) : CR Int32) = some (0, m1, g1) ∧ INVX X Y m1 rho1 ∧ g1 + pot m1 ≤ pot m ∧ FrB rho rho1 ∧ some ((0 : Int32), up2 r' 50 o 6) = (if fl = true then LOOKT (iC rho) rho1 else some (0, rho1)) ∧ (fl = true → iC rho ∈ TR rho1 o n ∧ rho1 37 (iC rho) = 6 ∧ rho1 43 (iC rho) = 0) ∧ (fl = false → iC rho ∈ TR rho1 o n → knB rho1 (iC rho) = false) ∧ (∃ l, TR rho1 o n = TR rho o n ++ l ∧ ∀ x, x ∈ l → x = iC rho) := by
    have hT9 : TR (up2 r' 50 o 6) o n = TR rho o n := eT
    refine ⟨_, 0, up2 r' 50 o 6, false, rfl, s909_inv k4 ho' hn' h1', ?_, ⟨fun F j a1 a2 a3 a4 a5 a6 => ?_, fun F j a0 a1 a2 => ?_, fun j => ?_, ?_, ?_⟩, by rw [if_neg (by decide)], fun z => absurd z (by decide), fun _ z => ?_, ⟨[], by rw [List.append_nil]; exact hT9, fun x hx => by cases hx⟩⟩
    · show 0 + pot m' ≤ pot m
      omega
    · rw [up2_f _ _ _ _ a4]
      exact k6 F j a2
    · rw [up2_f _ _ _ _ (by omega)]
      exact k6 F j (by omega)
    · exact k6 43 j (by decide)
    · show iC rho ≤ iC r'
      omega
    · show iC r' ≤ iC rho + 1
      omega
    · rw [hT9] at z
      have := (TR_mem.mp z).1
      omega
  have e31 : r' 31 0 = nI (iC rho) := by rw [hC'.1, eC]
  cases b with
  | none =>
    have h8 : R8 0 (4 * o + n) m = some (0, sI m' 909 (4 * o + n) 6, 0) := by
      unfold R8
      rw [k1, cb_s0, if_pos rfl, wr_s]
    have h9 : R9 (nI o) (nI c) (nI s) rho = some (0, up2 r' 50 o 6) := by
      unfold R9
      rw [k2, ob_s, e31]
      by_cases hf : nI (iC rho) = (400 : Int32)
      · rw [if_pos hf, e9_b189n ho5]
      · rw [if_neg hf, k3, ob_s]
        exact e9_b189n ho5 _ _ _
    obtain ⟨m1, g1, rho1, fl, q⟩ := hnone
    exact ⟨m1, g1, rho1, fl, by rw [h8]; exact q.1, q.2.1, q.2.2.1, q.2.2.2.1, by rw [h9]; exact q.2.2.2.2.1, q.2.2.2.2.2⟩
  | some i =>
    have hi := (k7 i rfl).1
    by_cases hf : iC rho = 400
    · have h8 : R8 0 (4 * o + n) m = some (0, sI m' 909 (4 * o + n) 6, 0) := by
        unfold R8
        rw [k1, cb_s0, if_neg (by simp), ha.2.2.2.2.2.1, od_s, hlen, hf, if_neg (by decide), wr_s]
      have h9 : R9 (nI o) (nI c) (nI s) rho = some (0, up2 r' 50 o 6) := by
        unfold R9
        rw [k2, ob_s, e31, hf, if_pos (show nI 400 = (400 : Int32) from rfl), e9_b189n ho5]
      obtain ⟨m1, g1, rho1, fl, q⟩ := hnone
      exact ⟨m1, g1, rho1, fl, by rw [h8]; exact q.1, q.2.1, q.2.2.1, q.2.2.2.1, by rw [h9]; exact q.2.2.2.2.1, q.2.2.2.2.2⟩
    · -- a call is made
      have hlt : iC r' < 400 := by omega
      have hi' : i < iI r' := by omega
      have hai := k4.ai9 i hi'
      have haic := hai.2.2.2.2.2.2.2.2.2.2.2.2.2 c hc7
      have ht := k4.at9 o n ho' (by omega)
      obtain ⟨dl, d1, d2⟩ := e9_b189 (i := i) hb' ho' hn' hc7 hs6 hi' hlt
      have hv : gA m' 31 i c + 1 = r' 24 (12 * c + i) + 1 := by rw [haic.2.1]
      have hcr := cr_inv (s := s) (i := i) (rq := rqo r' o) (dl := dl) k4 ho' hn' hc' hs' hc7 hs6 hi' hlt rfl hv
      have gOk : iO (crR r' o n (iC r') s c i (rqo r' o) dl) (iC r') = o := by
        unfold iO
        rw [show crR r' o n (iC r') s c i (rqo r' o) dl 32 (iC r') = (if iC r' = iC r' then nI o else r' 32 (iC r')) from rfl, if_pos rfl, nv_nI (by omega)]
      have gNk : iN (crR r' o n (iC r') s c i (rqo r' o) dl) (iC r') = n := by
        have := hb'.sce ho'
        unfold iN
        rw [show crR r' o n (iC r') s c i (rqo r' o) dl 33 (iC r') = (if iC r' = iC r' then nI n else r' 33 (iC r')) from rfl, if_pos rfl, nv_nI (by omega)]
      have gXk : iX (crR r' o n (iC r') s c i (rqo r' o) dl) (iC r') = i := by
        have := hb'.I
        unfold iX
        rw [show crR r' o n (iC r') s c i (rqo r' o) dl 36 (iC r') = (if iC r' = iC r' then nI i else r' 36 (iC r')) from rfl, if_pos rfl, nv_nI (by omega)]
      have g37k : crR r' o n (iC r') s c i (rqo r' o) dl 37 (iC r') = 7 := by
        rw [show crR r' o n (iC r') s c i (rqo r' o) dl 37 (iC r') = (if iC r' = iC r' then 7 else r' 37 (iC r')) from rfl, if_pos rfl]
      have gsco : sc (crR r' o n (iC r') s c i (rqo r' o) dl) o = sc r' o := by
        have := hb'.E ho'
        unfold sc
        rw [show crR r' o n (iC r') s c i (rqo r' o) dl 46 o = (if o = iC r' then -1 else r' 46 o) from rfl, if_neg (by omega)]
      have gsck : sc (crR r' o n (iC r') s c i (rqo r' o) dl) (iC r') = 0 := by
        unfold sc
        rw [show crR r' o n (iC r') s c i (rqo r' o) dl 46 (iC r') = (if iC r' = iC r' then -1 else r' 46 (iC r')) from rfl, if_pos rfl]
        rfl
      have gCk : iC (crR r' o n (iC r') s c i (rqo r' o) dl) = iC r' + 1 := by
        have : crR r' o n (iC r') s c i (rqo r' o) dl 31 0 = nI (iC r' + 1) := rfl
        unfold iC at this ⊢
        rw [this, nv_nI (by have := hC'.2; unfold iC at this; omega)]
      have hfr : ∀ F j, F ≠ 24 → F ≠ 31 → (F < 32 ∨ 43 < F) → F ≠ 46 → crR r' o n (iC r') s c i (rqo r' o) dl F j = r' F j := fun F j a1 a2 a3 a4 => by
        unfold crR
        rw [up2_f _ _ _ _ (by omega), up2_f _ _ _ _ a1, up2_f _ _ _ _ (by omega), up2_f _ _ _ _ (by omega), up2_f _ _ _ _ a4, up2_f _ _ _ _ (by omega), up2_f _ _ _ _ (by omega), up2_f _ _ _ _ (by omega), up2_f _ _ _ _ (by omega), up2_f _ _ _ _ (by omega), up2_f _ _ _ _ a2]
      have hfr2 : ∀ F j, ((32 ≤ F ∧ F ≤ 43) ∨ F = 46) → j ≠ iC r' → crR r' o n (iC r') s c i (rqo r' o) dl F j = r' F j := fun F j a1 a2 => by
        unfold crR
        rw [up2_n _ _ (fun z => a2 z.2), up2_f _ _ _ _ (by omega), up2_n _ _ (fun z => a2 z.2), up2_n _ _ (fun z => a2 z.2), up2_n _ _ (fun z => a2 z.2), up2_n _ _ (fun z => a2 z.2), up2_n _ _ (fun z => a2 z.2), up2_n _ _ (fun z => a2 z.2), up2_n _ _ (fun z => a2 z.2), up2_n _ _ (fun z => a2 z.2), up2_f _ _ _ _ (by omega)]
      have hf43 : ∀ j, crR r' o n (iC r') s c i (rqo r' o) dl 43 j = r' 43 j := fun j => rfl
      have hTk : TR (crR r' o n (iC r') s c i (rqo r' o) dl) o n = TR r' o n ++ [iC r'] := by
        unfold TR
        rw [gCk, List.range_succ, List.filter_append]
        have q1 : (List.range (iC r')).filter (fun j => decide (iO (crR r' o n (iC r') s c i (rqo r' o) dl) j = o ∧ iN (crR r' o n (iC r') s c i (rqo r' o) dl) j = n)) = (List.range (iC r')).filter (fun j => decide (iO r' j = o ∧ iN r' j = n)) := by
          apply fl_same
          intro j hj
          unfold iO iN
          rw [hfr2 32 j (by omega) (by omega), hfr2 33 j (by omega) (by omega)]
        rw [q1, List.filter_cons_of_pos (by rw [gOk, gNk]; simp)]
        rfl
      have e911c : ∀ j, gI (crM m' (iC r') (4 * o + n) i c dl (gA m' 31 i c + 1)) 911 j = gI m' 911 j := fun j => cr_I (m := m') (k := iC r') (s := 4 * o + n) (i := i) (c := c) (dl := dl) (v := gA m' 31 i c + 1) (f := 911) (j := j) (by omega)
      have e909c : ∀ j, gI (crM m' (iC r') (4 * o + n) i c dl (gA m' 31 i c + 1)) 909 j = gI m' 909 j := fun j => cr_I (m := m') (k := iC r') (s := 4 * o + n) (i := i) (c := c) (dl := dl) (v := gA m' 31 i c + 1) (f := 909) (j := j) (by omega)
      have epot : 4 + 1 + pot (crM m' (iC r') (4 * o + n) i c dl (gA m' 31 i c + 1)) ≤ pot m' := by
        have l52 : gL (crM m' (iC r') (4 * o + n) i c dl (gA m' 31 i c + 1)) 52 0 = gL m' 52 0 ++ [iC r'] := cr_L52 (m := m') (k := iC r') (s := 4 * o + n) (i := i) (c := c) (dl := dl) (v := gA m' 31 i c + 1)
        have lL : ∀ c' j, ¬ (c' = 56 ∧ j = iC r') → ¬ (c' = 52 ∧ j = 0) → ¬ (c' = 55 ∧ j = 4 * o + n) → gL (crM m' (iC r') (4 * o + n) i c dl (gA m' 31 i c + 1)) c' j = gL m' c' j := fun c' j z1 z2 z3 => cr_L (m := m') (k := iC r') (s := 4 * o + n) (i := i) (c := c) (dl := dl) (v := gA m' 31 i c + 1) z1 z2 z3
        have e56 : ∀ k, k < iC r' → gL (crM m' (iC r') (4 * o + n) i c dl (gA m' 31 i c + 1)) 56 k = gL m' 56 k := fun k hk => lL 56 k (by omega) (by omega) (by omega)
        have e56k : gL (crM m' (iC r') (4 * o + n) i c dl (gA m' 31 i c + 1)) 56 (iC r') = [] := (cr_at (m := m') (k := iC r') (s := 4 * o + n) (i := i) (c := c) (dl := dl) (v := gA m' 31 i c + 1)).2.2.2.2
        have hl2 : (gL m' 52 0).length = iC r' := by rw [hlen, eC]
        unfold pot
        rw [l52, lL 51 0 (by omega) (by omega) (by omega), lL 53 0 (by omega) (by omega) (by omega), lL 50 0 (by omega) (by omega) (by omega), List.length_append, List.length_singleton, hl2, List.range_succ, List.map_append, List.sum_append]
        have es : (List.map (fun k => 4 - (gL (crM m' (iC r') (4 * o + n) i c dl (gA m' 31 i c + 1)) 56 k).length) (List.range (iC r'))) = List.map (fun k => 4 - (gL m' 56 k).length) (List.range (iC r')) := by
          apply List.map_congr_left
          intro k hk
          rw [e56 k (List.mem_range.mp hk)]
        rw [es]
        have ek : (List.map (fun k => 4 - (gL (crM m' (iC r') (4 * o + n) i c dl (gA m' 31 i c + 1)) 56 k).length) [iC r']).sum = 4 := by
          show 4 - (gL (crM m' (iC r') (4 * o + n) i c dl (gA m' 31 i c + 1)) 56 (iC r')).length + 0 = 4
          rw [e56k]
          rfl
        rw [ek]
        omega
      have hmb : sI (crM m' (iC r') (4 * o + n) i c dl (gA m' 31 i c + 1)) 133 (iC r') 7 = sI (crM m' (iC r') (4 * o + n) i c dl (gA m' 31 i c + 1)) 133 (iC r') 7 := rfl
      generalize hR : crR r' o n (iC r') s c i (rqo r' o) dl = R at *
      generalize hM : crM m' (iC r') (4 * o + n) i c dl (gA m' 31 i c + 1) = mb at *
      obtain ⟨m1, g, rho1, p1, p2, p3, p4, p5, p5b, p6, p7, p8, p8b, p8c, p9⟩ := place_both (mb := mb) (k := iC r') hcr gsck (by rw [gCk]) g37k (by rw [gNk, gOk, gsco]; exact hn')
      rw [gXk] at p9
      have hoC : o ≠ iC r' := by
        have := hb'.E ho'
        omega
      have eCk1 : iC rho1 = iC r' + 1 := by unfold iC at gCk ⊢; rw [p6 31 0 (by decide) (by decide) (by decide) (by decide)]; exact gCk
      have eTk1 : TR rho1 o n = TR r' o n ++ [iC r'] := by
        rw [← hTk]
        unfold TR
        rw [eCk1, gCk]
        apply List.filter_congr
        intro x _
        unfold iO iN
        rw [p6 32 x (by decide) (by decide) (by decide) (by decide), p6 33 x (by decide) (by decide) (by decide) (by decide)]
      have esc1 : sc rho1 o = sc r' o := by
        rw [← gsco]
        unfold sc
        rw [p6 46 o (by decide) (by decide) (by decide) (by decide)]
      have f1 : ∀ F j, F ≠ 24 → F ≠ 31 → (F < 32 ∨ 43 < F) → F ≠ 46 → rho1 F j = r' F j := fun F j a1 a2 a3 a4 => (p6 F j (by omega) (by omega) (by omega) (by omega)).trans (hfr F j a1 a2 a3 a4)
      have f2 : ∀ F j, F ≠ 39 → ((32 ≤ F ∧ F ≤ 43) ∨ F = 46) → j ≠ iC r' → rho1 F j = r' F j := fun F j z39 a1 a2 => by
        rw [← hfr2 F j a1 a2]
        by_cases z37 : F = 37
        · rw [z37]; exact (p7 j a2).1
        · by_cases z42 : F = 42
          · rw [z42]; exact (p7 j a2).2.1
          · by_cases z41 : F = 41
            · rw [z41]; exact (p7 j a2).2.2
            · exact p6 F j z37 z39 z41 z42
      have f43 : ∀ j, rho1 43 j = rho 43 j := fun j => (p6 43 j (by decide) (by decide) (by decide) (by decide)).trans ((hf43 j).trans (k6 43 j (by decide)))
      have g911 : ∀ j, gI m1 911 j = gI m' 911 j := fun j => (p5 j).trans (e911c j)
      have g909 : gI m1 909 (4 * o + n) = gI m 909 (4 * o + n) := (p5b _).trans ((e909c _).trans (k8 _ _ (by decide)))
      have hgo1 : Go rho1 o := (Go_fr (fun z => f2 37 o (by omega) (by omega) hoC) (f1 56 _ (by decide) (by decide) (by omega) (by decide)) (f1 63 _ (by decide) (by decide) (by omega) (by decide))).mpr hgo'
      have z43 : rho1 43 (iC rho) = 0 := by
        rw [f43]
        exact (h.rb9.rz9.1 (iC rho) (Nat.le_refl _) (by omega)).2
      have hinv : INVX X Y m1 rho1 := by
        refine fin_drop (n := n) p3 (by rw [esc1]; exact hn') hgo1 (by rw [g911]; exact h911) (fun q hq z1 z2 => ?_) (fun z => ?_) (fun z => ?_)
        · have hqC : q ≠ iC r' := fun z => p8 (z ▸ z1)
          have hq2 : q < iC r' := by omega
          rw [f2 37 q (by omega) (by omega) hqC] at z1
          have hh := (k4.ax9.2 q hq2 z1).resolve_left (hX _)
          rw [g911]
          unfold sid iO iN at hh ⊢
          rw [f2 32 q (by omega) (by omega) hqC, f2 33 q (by omega) (by omega) hqC]
          exact hh
        · rw [f1 48 o (by decide) (by decide) (by omega) (by decide)]
          exact h1' z
        · rw [g909, f1 50 o (by decide) (by decide) (by omega) (by decide), k6 50 o (by decide)]
          rcases hj z with y | y
          · exact Or.inl y
          · refine Or.inr ⟨y, iC r', ?_, ?_⟩
            · rw [eTk1]
              exact List.mem_append_right _ List.mem_cons_self
            · rw [eC]
              exact z43
      have h8 : R8 0 (4 * o + n) m = some (0, m1, g + 1 + 1 + 1 + 1) := by
        unfold R8
        have hT0 := k4.rb9.T
        have e911q : gV m' 1 (iC r') = false ∧ gV m' 56 (iC r') = false := k4.af9.1 (iC r') (Nat.le_refl _) hlt
        have epol : f8_X8_policyOf 0 (4 * o + n) 0 m' = some (pol r' c s 0, m', 0) := e8_policyOf (p := 0) k4 ho' (show n < sc r' o by omega) hc' hs' hc7 hs6 (by omega)
        rw [k1, cb_s0, if_neg (by simp), ha.2.2.2.2.2.1, od_s, hlen, if_pos (show nI (iC rho) < (400 : Int32) from nI_lt (b := 400) (by omega) (by omega)), epol, cb_s0, hlen, ← eC, if_pos e911q.1, wr_s]
        have a1 : gR (sN m' 1 (iC r')) 1033 0 = some 0 := by rw [gR_sN, if_neg (by omega)]; exact ha.2.2.2.2.2.1
        have a2 : gL (sN m' 1 (iC r')) 52 0 = gL m' 52 0 := rfl
        have a3 : gV (sN m' 1 (iC r')) 56 (iC r') = false := by rw [gV_sN, if_neg (by decide)]; exact e911q.2
        have a4 : (if gI m' 1024 0 + pol r' c s 0 < gI m' 901 (4 * o + n) then gI m' 1024 0 + pol r' c s 0 else gI m' 901 (4 * o + n)) = dl := by
          rw [k4.now, ht.2.2.2.2.2.1]
          exact (d1 _ rfl).symm
        rw [a1, od_s, od_s, a2, hlen, ← eC, a4, e8_X1init a3]
        refine cg_r (g2 := g + 1 + 1 + 1) ?_
        have hx1 : ∀ f j, ¬ (f / 128 = 1 ∧ j = iC r') → gR (x1M (sN m' 1 (iC r')) (iC r') (nI (iC r')) (4 * o + n) i dl) f j = gR m' f j := fun f j z => cr_Rf (m := m') (k := iC r') (s := 4 * o + n) (i := i) (c := c) (dl := dl) (v := 0) z
        have hx2 : gL (x1M (sN m' 1 (iC r')) (iC r') (nI (iC r')) (4 * o + n) i dl) 52 0 = gL m' 52 0 := rfl
        have hx3 : ∀ j, gL (x1M (sN m' 1 (iC r')) (iC r') (nI (iC r')) (4 * o + n) i dl) 55 j = gL m' 55 j := fun j => rfl
        have hx4 : gI (x1M (sN m' 1 (iC r')) (iC r') (nI (iC r')) (4 * o + n) i dl) 896 (4 * o + n) = nI c := by
          rw [← hc', ← ht.1]
          exact cr_I (m := m') (k := iC r') (s := 4 * o + n) (i := i) (c := c) (dl := dl) (v := 0) (f := 896) (j := 4 * o + n) (by omega)
        have hTl := TR_len hb' o n
        have h55 := (k4.ah9 o n ho' (by omega)).1
        refine (cb_r (g1 := 1) (g2 := g + 1 + 1) rfl ?_).trans (by rw [Nat.add_comm 1 (g + 1 + 1)])
        show (od (gR (x1M (sN m' 1 (iC r')) (iC r') (nI (iC r')) (4 * o + n) i dl) 1033 0) _) = _
        rw [hx1 1033 0 (by omega), ha.2.2.2.2.2.1, od_s, hx2, hlen, if_pos (by omega), wr_s]
        refine cg_r (g2 := g + 1) ?_
        rw [gR_sL, hx1 905 _ (by omega), ht.2.2.2.2.2.2.2.2.2, od_s, gL_sL, if_neg (show ¬ (55 : Nat) = 52 by decide), hx3, h55, if_pos (by omega), wr_s]
        refine cg_r (g2 := g) ?_
        rw [gR_sL, gR_sL, hx1 521 _ (by omega), hai.2.2.1, od_s, gI_sL, gI_sL, hx4, if_pos (vq_nI hc7 (by omega)), nI_clamp (by omega), wr_s]
        have emb : sA (sL (sL (x1M (sN m' 1 (iC r')) (iC r') (nI (iC r')) (4 * o + n) i dl) 52 0 (gL m' 52 0 ++ [iC r'])) 55 (4 * o + n) (TR r' o n ++ [iC r'])) 31 i c (gA (sL (sL (x1M (sN m' 1 (iC r')) (iC r') (nI (iC r')) (4 * o + n) i dl) 52 0 (gL m' 52 0 ++ [iC r'])) 55 (4 * o + n) (TR r' o n ++ [iC r'])) 31 i c + 1) = mb := by
          rw [← hM, ← h55]
          rfl
        rw [emb]
        exact cb_r (k := fun _ m56 => some (0, m56, 0)) p1 rfl
      have h9 : R9 (nI o) (nI c) (nI s) rho = if rho1 37 (iC rho) = 6 then LOOKT (iC rho) rho1 else some (0, rho1) := by
        unfold R9 LOOKT
        rw [k2, ob_s, e31, if_neg (show ¬ nI (iC rho) = (400 : Int32) from fun z => hf (by rw [l400, nI_eq (by omega) (by omega)] at z; exact z)), k3, ob_s]
        rw [show oi (some i) = nI i from rfl, d2, ← eC]
        exact p9 0
      have hTfin : TR rho1 o n = TR rho o n ++ [iC rho] := by rw [eTk1, eT, eC]
      refine ⟨m1, g + 1 + 1 + 1 + 1, rho1, decide (rho1 37 (iC rho) = 6), h8, hinv, by rw [p4]; omega, ⟨fun F j a1 a2 a3 a4 a5 a6 => ?_, fun F j a0 a1 a2 => ?_, f43, by omega, by omega⟩, ?_, fun z => ⟨?_, of_decide_eq_true z, z43⟩, fun z _ => ?_, [iC rho], hTfin, fun x hx => List.mem_singleton.mp hx⟩
      · rw [f1 F j a1 a3 a5 a6]
        exact k6 F j a2
      · rw [f2 F j a0 a1 (by rw [eC]; exact a2.resolve_right (by omega))]
        exact k6 F j (by omega)
      · rw [h9]
        by_cases z : rho1 37 (iC rho) = 6
        · rw [if_pos z, if_pos (decide_eq_true z)]
        · rw [if_neg z, if_neg (by simp [z])]
      · rw [hTfin]
        exact List.mem_append_right _ List.mem_cons_self
      · have z6 := of_decide_eq_false z
        rw [eC] at p8c
        unfold knB
        rcases p8c with y | y | y
        · rw [y]
          rfl
        · rw [y]
          rfl
        · exact absurd y z6
end PX
