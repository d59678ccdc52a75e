/-! choosing: the choice -/
section PE
variable {X Y : Nat → Prop} {m : CM} {rho : RH}
def rk (rho : RH) (o n : Nat) (v : Int32) (i : Nat) : Nat := (if trB rho o n i = true then 2 else 0) + (if v = -1 ∨ rho 12 i = v then 0 else 1)
def bN (rho : RH) (o c i : Nat) : Nat := nv (bur rho o c i)
def cst (rho : RH) (o n c : Nat) (v : Int32) (i : Nat) : Nat := bN rho o c i + 1000000 * rk rho o n v i
def elB (rho : RH) (c s i : Nat) : Bool := decide (rho 7 i = nI s) && cchB rho c i
def btr (rho : RH) (o n c : Nat) (v : Int32) (b : Option Nat) (i : Nat) : Option Nat := match b with
  | none => some i
  | some j => if cst rho o n c v i < cst rho o n c v j then some i else some j
theorem btr_s (rho : RH) (o n c : Nat) (v : Int32) (j i : Nat) : btr rho o n c v (some j) i = if cst rho o n c v i < cst rho o n c v j then some i else some j := rfl
def chs (rho : RH) (o n c s : Nat) (v : Int32) (b : Option Nat) (l : List Nat) : Option Nat := l.foldl (fun b i => if elB rho c s i = true then btr rho o n c v b i else b) b
theorem bN_e (hb : RB rho) {o c i : Nat} (hi : i < iI rho) (hc : c < 7) : bur rho o c i = nI (bN rho o c i) ∧ bN rho o c i < 1000000 := by
  obtain ⟨b, h1, h2⟩ := bur_e hb (o := o) hi hc
  unfold bN
  rw [h2, nv_nI (by omega)]
  exact ⟨rfl, h1⟩
theorem rk_le (rho : RH) (o n : Nat) (v : Int32) (i : Nat) : rk rho o n v i ≤ 3 := by
  unfold rk
  split <;> split <;> omega
theorem rg_cons {a N : Nat} (h : a < N) : (List.range N).drop a = a :: (List.range N).drop (a + 1) := by
  rw [List.drop_eq_getElem_cons (by rw [List.length_range]; exact h), List.getElem_range]
theorem e8_choose1 (h : INVX X Y m rho) (hX : ∀ o, ¬ X o) {o n c s : Nat} {v : Int32} (ho : OE rho o) (hn : n < sc rho o) (hc : cal rho o = nI c) (hs : cld rho o n = nI s) (hc7 : c < 7) :
    ∀ (d i q : Nat) (b : Option Nat) (x : Int32), i + d = iI rho → d < q → (∀ j, b = some j → j < iI rho ∧ x = nI (cst rho o n c v j)) → l8_X8_choose_24 q 0 (4 * o + n) v b x (nI i) m = some (chs rho o n c s v b ((List.range (iI rho)).drop i), m, 0) := by
  have hb := h.rb9
  have hI := hb.I
  have hl := h.al9.1
  have ha := h.a09
  have ht := h.at9 o n ho hn
  intro d
  induction d with
  | zero =>
    intro i q b x hi hq hx
    obtain ⟨q, rfl⟩ : ∃ q', q = q' + 1 := ⟨q - 1, by omega⟩
    rw [l8_X8_choose_24, ha.2.2.2.1, od_s, hl, List.length_range, if_pos (nI_le (by omega) (by omega)), List.drop_eq_nil_of_le (by rw [List.length_range]; omega)]
    rfl
  | succ d ih =>
    intro i q b x hi hq hx
    obtain ⟨q, rfl⟩ : ∃ q', q = q' + 1 := ⟨q - 1, by omega⟩
    have hi' : i < iI rho := by omega
    have hz := h.ai9 i hi'
    have hbn := bN_e hb (o := o) hi' hc7
    rw [l8_X8_choose_24, ha.2.2.2.1, od_s, hl, List.length_range, if_neg (cle (by omega) hi'), if_pos (nI_pos (by omega)), nI_clamp (by omega), rg_lt hi', od_s, hz.2.2.2.2.2.1, ht.2.1, hs, rg_cons hi', nI_1]
    have hgo : chs rho o n c s v b (i :: (List.range (iI rho)).drop (i + 1)) = chs rho o n c s v (if elB rho c s i = true then btr rho o n c v b i else b) ((List.range (iI rho)).drop (i + 1)) := rfl
    rw [hgo]
    unfold elB
    by_cases h1 : rho 7 i = nI s
    · rw [if_pos h1, ht.1, hc, e8_canChoose h hX hi' hc7, cb_s0]
      cases h2 : cchB rho c i with
      | false =>
        simp only [Bool.false_eq_true, if_false, if_true, Bool.and_false]
        exact ih (i + 1) q b x (by omega) (by omega) hx
      | true =>
        simp only [if_true, show ¬ (1 : Int32) = 0 by decide, if_false, h1, decide_true, Bool.and_self]
        rw [ht.1, hc, ht.2.2.2.2.1, e8_burden h hi' hc7, cb_s0, e8_hasTried h ho hn]
        simp only [cb_s0]
        rw [hz.2.2.2.2.2.2.2.2.2.2.1, hbn.1]
        have key : ∀ (K : Int32) (k : Nat), K = nI k → k = cst rho o n c v i → (if b = none then l8_X8_choose_24 q 0 (4 * o + n) v (some i) K (nI (i + 1)) m else if x ≤ K then l8_X8_choose_24 q 0 (4 * o + n) v b x (nI (i + 1)) m else l8_X8_choose_24 q 0 (4 * o + n) v (some i) K (nI (i + 1)) m) = some (chs rho o n c s v (btr rho o n c v b i) ((List.range (iI rho)).drop (i + 1)), m, 0) := fun K k hK hk => by
          cases b with
          | none =>
            rw [if_pos rfl]
            exact ih (i + 1) q (some i) K (by omega) (by omega) (fun j hj => by cases hj; exact ⟨hi', by rw [hK, hk]⟩)
          | some j =>
            obtain ⟨hj, hxj⟩ := hx j rfl
            have hbj := (bN_e hb (o := o) hj hc7).2
            have hrj := rk_le rho o n v j
            have hri := rk_le rho o n v i
            have hkk : k < 2 ^ 31 := by rw [hk]; unfold cst; omega
            have hjj : cst rho o n c v j < 2 ^ 31 := by unfold cst; omega
            rw [if_neg (by simp)]
            rw [btr_s]
            by_cases h3 : cst rho o n c v i < cst rho o n c v j
            · rw [if_pos h3, if_neg (by rw [hxj, hK, nI_leI hjj hkk]; omega)]
              exact ih (i + 1) q (some i) K (by omega) (by omega) (fun j hj => by cases hj; exact ⟨hi', by rw [hK, hk]⟩)
            · rw [if_neg h3, if_pos (by rw [hxj, hK, nI_leI hjj hkk]; omega)]
              exact ih (i + 1) q (some j) x (by omega) (by omega) hx
        by_cases h4 : v = -1
        · rw [if_pos h4]
          cases h5 : trB rho o n i with
          | false =>
            simp only [Bool.false_eq_true, if_false, if_true]
            have hr : rk rho o n v i = 0 := by unfold rk; rw [h5]; simp [h4]
            exact key _ _ rfl (by unfold cst; omega)
          | true =>
            simp only [if_true, show ¬ (1 : Int32) = 0 by decide, if_false, l2e6, nI_add]
            have hr : rk rho o n v i = 2 := by unfold rk; rw [h5]; simp [h4]
            exact key _ _ rfl (by unfold cst; omega)
        · rw [if_neg h4]
          by_cases h6 : rho 12 i = v
          · rw [if_pos h6]
            cases h5 : trB rho o n i with
            | false =>
              simp only [Bool.false_eq_true, if_false, if_true]
              have hr : rk rho o n v i = 0 := by unfold rk; rw [h5]; simp [h6]
              exact key _ _ rfl (by unfold cst; omega)
            | true =>
              simp only [if_true, show ¬ (1 : Int32) = 0 by decide, if_false, l2e6, nI_add]
              have hr : rk rho o n v i = 2 := by unfold rk; rw [h5]; simp [h6]
              exact key _ _ rfl (by unfold cst; omega)
          · rw [if_neg h6]
            cases h5 : trB rho o n i with
            | false =>
              simp only [Bool.false_eq_true, if_false, if_true, l1e6, nI_add]
              have hr : rk rho o n v i = 1 := by unfold rk; rw [h5]; simp [h4, h6]
              exact key _ _ rfl (by unfold cst; omega)
            | true =>
              simp only [if_true, show ¬ (1 : Int32) = 0 by decide, if_false, l2e6, l1e6, nI_add]
              have hr : rk rho o n v i = 3 := by unfold rk; rw [h5]; simp [h4, h6]
              exact key _ _ rfl (by unfold cst; omega)
    · rw [if_neg h1]
      simp only [h1, decide_false, Bool.false_and, Bool.false_eq_true, if_false]
      exact ih (i + 1) q b x (by omega) (by omega) hx
theorem e9_choose1 (hb : RB rho) {o n c s : Nat} {v : Int32} (ho : OE rho o) (hn : n + 1 = sc rho o) (hc7 : c < 7) :
    ∀ (d i q : Nat) (b : Option Nat) (y : Int32) (z : Int32), i + d = iI rho → d < q → (match b with | none => y = -1 | some j => j < iI rho ∧ y = nI j ∧ z = nI (rk rho o n v j)) → l9_chosen_9 q (nI o) (nI c) (nI s) v y z (nI i) rho = some (match chs rho o n c s v b ((List.range (iI rho)).drop i) with | none => -1 | some j => nI j, rho) := by
  have hI := hb.I
  intro d
  induction d with
  | zero =>
    intro i q b y z hi hq hx
    obtain ⟨q, rfl⟩ : ∃ q', q = q' + 1 := ⟨q - 1, by omega⟩
    rw [l9_chosen_9, hI.1, if_pos (nI_le (by omega) (by omega)), List.drop_eq_nil_of_le (by rw [List.length_range]; omega)]
    cases b with
    | none => rw [hx]; rfl
    | some j => rw [hx.2.1]; rfl
  | succ d ih =>
    intro i q b y z hi hq hx
    obtain ⟨q, rfl⟩ : ∃ q', q = q' + 1 := ⟨q - 1, by omega⟩
    have hi' : i < iI rho := by omega
    have hbn := bN_e hb (o := o) hi' hc7
    rw [l9_chosen_9, hI.1, if_neg (cle (by omega) hi'), rg_cons hi', nI_1]
    have hgo : chs rho o n c s v b (i :: (List.range (iI rho)).drop (i + 1)) = chs rho o n c s v (if elB rho c s i = true then btr rho o n c v b i else b) ((List.range (iI rho)).drop (i + 1)) := rfl
    rw [hgo]
    unfold elB
    by_cases h1 : rho 7 i = nI s
    · rw [e9_canChoose hb hi' hc7 h1, ob_s]
      cases h2 : cchB rho c i with
      | false =>
        simp only [Bool.false_eq_true, if_false, if_true, Bool.and_false]
        exact ih (i + 1) q b y z (by omega) (by omega) hx
      | true =>
        simp only [if_true, show ¬ (1 : Int32) = 0 by decide, if_false, h1, decide_true, Bool.and_self]
        have hv12 := vq_nI (k := i) (n := 12) (by omega) (by omega)
        have hcl := nI_clamp (n := i) (by omega)
        rw [e9_hasTried hb ho hn (by omega), ob_s]
        simp only [if_pos hv12]
        simp only [hcl]
        have key : ∀ (K : Int32) (k : Nat), K = nI k → k = rk rho o n v i → (if y = -1 then l9_chosen_9 q (nI o) (nI c) (nI s) v (nI i) K (nI (i + 1)) rho else if K < z then l9_chosen_9 q (nI o) (nI c) (nI s) v (nI i) K (nI (i + 1)) rho else if K = z then 
            (ob (f9_burden (nI o) (nI c) (nI i) rho) fun r14 rho15 => ob (f9_burden (nI o) (nI c) y rho15) fun r17 rho18 => if r17 ≤ r14 then l9_chosen_9 q (nI o) (nI c) (nI s) v y z (nI (i + 1)) rho18 else l9_chosen_9 q (nI o) (nI c) (nI s) v (nI i) K (nI (i + 1)) rho18)
            else l9_chosen_9 q (nI o) (nI c) (nI s) v y z (nI (i + 1)) rho) = some (match chs rho o n c s v (btr rho o n c v b i) ((List.range (iI rho)).drop (i + 1)) with | none => -1 | some j => nI j, rho) := fun K k hK hk => by
          cases b with
          | none =>
            rw [if_pos hx]
            exact ih (i + 1) q (some i) (nI i) K (by omega) (by omega) ⟨hi', rfl, by rw [hK, hk]⟩
          | some j =>
            obtain ⟨hj, hyj, hzj⟩ := hx
            have hbj := bN_e hb (o := o) hj hc7
            have hrj := rk_le rho o n v j
            have hri := rk_le rho o n v i
            rw [if_neg (by rw [hyj]; exact nI_ne1 (by omega))]
            have htake := ih (i + 1) q (some i) (nI i) K (by omega) (by omega) ⟨hi', rfl, by rw [hK, hk]⟩
            have hkeep := ih (i + 1) q (some j) y z (by omega) (by omega) ⟨hj, hyj, hzj⟩
            rw [btr_s]
            by_cases h3 : rk rho o n v i < rk rho o n v j
            · rw [if_pos (by rw [hK, hzj, hk]; exact nI_lt h3 (by omega)), if_pos (by unfold cst; omega)]
              exact htake
            · rw [if_neg (by rw [hK, hzj, hk]; exact nI_nlt (by omega) (by omega))]
              by_cases h4 : rk rho o n v i = rk rho o n v j
              · rw [if_pos (by rw [hK, hzj, hk, h4]), e9_burden hb hi' hc7 ho, ob_s, hyj, e9_burden hb hj hc7 ho, ob_s, hbn.1, hbj.1]
                by_cases h5 : bN rho o c i < bN rho o c j
                · rw [if_neg (cle (by omega) h5), if_pos (by unfold cst; omega)]
                  exact htake
                · rw [if_pos (nI_le (by omega) (by omega)), if_neg (by unfold cst; omega), ← hyj]
                  exact hkeep
              · rw [if_neg (by rw [hK, hzj, hk, nI_eq (by omega) (by omega)]; exact h4), if_neg (by unfold cst; omega)]
                exact hkeep
        by_cases h4 : v = -1
        · cases h5 : trB rho o n i with
          | false =>
            simp only [Bool.false_eq_true, if_false, if_true, if_pos h4]
            exact key (0 + 0) 0 rfl (by unfold rk; rw [h5]; simp [h4])
          | true =>
            simp only [if_true, show ¬ (1 : Int32) = 0 by decide, if_false, if_pos h4]
            exact key (2 + 0) 2 rfl (by unfold rk; rw [h5]; simp [h4])
        · by_cases h6 : rho 12 i = v
          · cases h5 : trB rho o n i with
            | false =>
              simp only [Bool.false_eq_true, if_false, if_true, if_neg h4, if_pos h6]
              exact key (0 + 0) 0 rfl (by unfold rk; rw [h5]; simp [h6])
            | true =>
              simp only [if_true, show ¬ (1 : Int32) = 0 by decide, if_false, if_neg h4, if_pos h6]
              exact key (2 + 0) 2 rfl (by unfold rk; rw [h5]; simp [h6])
          · cases h5 : trB rho o n i with
            | false =>
              simp only [Bool.false_eq_true, if_false, if_true, if_neg h4, if_neg h6]
              exact key (0 + 1) 1 rfl (by unfold rk; rw [h5]; simp [h4, h6])
            | true =>
              simp only [if_true, show ¬ (1 : Int32) = 0 by decide, if_false, if_neg h4, if_neg h6]
              exact key (2 + 1) 3 rfl (by unfold rk; rw [h5]; simp [h4, h6])
    · rw [e9_canChoose_no hb hi' hc7 h1, ob_s, if_pos rfl]
      simp only [h1, decide_false, Bool.false_and, Bool.false_eq_true, if_false]
      exact ih (i + 1) q b y z (by omega) (by omega) hx
theorem chs_mem (rho : RH) (o n c s : Nat) (v : Int32) : ∀ (l : List Nat) (b : Option Nat) (j : Nat), chs rho o n c s v b l = some j → b = some j ∨ (j ∈ l ∧ rho 7 j = nI s) := by
  intro l
  induction l with
  | nil => intro b j h; exact Or.inl h
  | cons i l ih =>
    intro b j h
    have h' := ih _ j (show chs rho o n c s v (if elB rho c s i = true then btr rho o n c v b i else b) l = some j from h)
    rcases h' with h' | h'
    · by_cases he : elB rho c s i = true
      · rw [if_pos he] at h'
        have he' : rho 7 i = nI s := by
          unfold elB at he
          simp only [Bool.and_eq_true, decide_eq_true_eq] at he
          exact he.1
        unfold btr at h'
        cases b with
        | none => cases h'; exact Or.inr ⟨List.mem_cons_self, he'⟩
        | some q =>
          simp only at h'
          split at h'
          · cases h'; exact Or.inr ⟨List.mem_cons_self, he'⟩
          · exact Or.inl h'
      · rw [if_neg he] at h'
        exact Or.inl h'
    · exact Or.inr ⟨List.mem_cons_of_mem _ h'.1, h'.2⟩
end PE
