/-! a call begins a step -/
section QD
variable {X Y : Nat → Prop} {m : CM} {rho : RH}
def bsM (m : CM) (k q : Nat) (c s sf u z rq dl : Int32) : CM := sL (sI (sI (sI (sR (sI (nsM (sN m 7 (4 * k + q)) (4 * k + q) c s sf) 899 (4 * k + q) u) 904 (4 * k + q) (some k)) 900 (4 * k + q) z) 902 (4 * k + q) rq) 901 (4 * k + q) dl) 56 k (gL m 56 k ++ [4 * k + q])
def bsR (rho : RH) (k : Nat) : RH := up2 (up2 (up2 rho 46 k (rho 46 k + 1)) 48 k 0) 49 k 0
theorem bs_out (m : CM) (k q : Nat) (c s sf u z rq dl : Int32) : OutS m (bsM m k q c s sf u z rq dl) (4 * k + q) := by
  have h0 := ns_out m (4 * k + q) c s sf
  refine ⟨fun f j h => ?_, fun f j h => ?_, h0.2.2.1, h0.2.2.2⟩
  · rw [← h0.1 f j h]
    unfold bsM
    rw [gI_sL, gI_sI, gI_sI, gI_sI, gI_sR, gI_sI]
    by_cases hj : j = 4 * k + q
    · have hf : ¬ f / 128 = 7 := fun y => h ⟨y, hj⟩
      rw [if_neg (show ¬ f = 901 from fun y => hf (by omega)), if_neg (show ¬ f = 902 from fun y => hf (by omega)), if_neg (show ¬ f = 900 from fun y => hf (by omega)), if_neg (show ¬ f = 899 from fun y => hf (by omega))]
    · simp [hj]
  · rw [← h0.2.1 f j h]
    unfold bsM
    rw [gR_sL, gR_sI, gR_sI, gR_sI, gR_sR, gR_sI]
    by_cases hj : j = 4 * k + q
    · have hf : ¬ f / 128 = 7 := fun y => h ⟨y, hj⟩
      rw [if_neg (show ¬ f = 904 from fun y => hf (by omega))]
    · simp [hj]
theorem bs_at (m : CM) (k q : Nat) (c s sf u z rq dl : Int32) : (gI (bsM m k q c s sf u z rq dl) 896 (4 * k + q) = c ∧ gI (bsM m k q c s sf u z rq dl) 897 (4 * k + q) = s ∧ gI (bsM m k q c s sf u z rq dl) 898 (4 * k + q) = sf ∧ gI (bsM m k q c s sf u z rq dl) 899 (4 * k + q) = u ∧ gI (bsM m k q c s sf u z rq dl) 900 (4 * k + q) = z ∧ gI (bsM m k q c s sf u z rq dl) 901 (4 * k + q) = dl ∧ gI (bsM m k q c s sf u z rq dl) 902 (4 * k + q) = rq ∧ gI (bsM m k q c s sf u z rq dl) 903 (4 * k + q) = -1 ∧ gI (bsM m k q c s sf u z rq dl) 906 (4 * k + q) = 0 ∧ gI (bsM m k q c s sf u z rq dl) 907 (4 * k + q) = 0 ∧ gI (bsM m k q c s sf u z rq dl) 910 (4 * k + q) = 0 ∧ gI (bsM m k q c s sf u z rq dl) 911 (4 * k + q) = 8 ∧ gI (bsM m k q c s sf u z rq dl) 909 (4 * k + q) = -1) ∧ gR (bsM m k q c s sf u z rq dl) 904 (4 * k + q) = some k ∧ gR (bsM m k q c s sf u z rq dl) 905 (4 * k + q) = some (4 * k + q) ∧ gL (bsM m k q c s sf u z rq dl) 55 (4 * k + q) = [] := by
  unfold bsM nsM
  simp only [gI_sL, gI_sI, gI_sR, gI_sNL, gI_sN, gR_sL, gR_sI, gR_sR, gR_sNL, gR_sN, gL_sL, gL_sI, gL_sR, gL_sNL, gL_sN]
  simp
theorem bs_L (m : CM) (k q : Nat) (c s sf u z rq dl : Int32) {c' j : Nat} (h1 : ¬ (c' = 55 ∧ j = 4 * k + q)) (h2 : ¬ (c' = 56 ∧ j = k)) : gL (bsM m k q c s sf u z rq dl) c' j = gL m c' j := by
  rw [← ns_L m (4 * k + q) c s sf h1]
  unfold bsM
  rw [gL_sL, gL_sI, gL_sI, gL_sI, gL_sR, gL_sI]
  by_cases hc : c' = 56
  · rw [if_pos hc, if_neg (fun y => h2 ⟨hc, y⟩)]
  · rw [if_neg hc]
theorem bs_L56 (m : CM) (k q : Nat) (c s sf u z rq dl : Int32) : gL (bsM m k q c s sf u z rq dl) 56 k = gL m 56 k ++ [4 * k + q] := by
  unfold bsM
  rw [gL_sL, if_pos rfl, if_pos rfl]
theorem bs_V (m : CM) (k q : Nat) (c s sf u z rq dl : Int32) {c' j : Nat} (h : ¬ ((c' = 55 ∨ c' = 7) ∧ j = 4 * k + q)) : gV (bsM m k q c s sf u z rq dl) c' j = gV m c' j := ns_V m (4 * k + q) c s sf h
theorem sum_dec {f g : Nat → Nat} {k : Nat} (h1 : ∀ j, j ≠ k → g j = f j) (h2 : f k = g k + 1) : ∀ N, ((List.range N).map f).sum = ((List.range N).map g).sum + (if k < N then 1 else 0) := by
  intro N
  induction N with
  | zero => rfl
  | succ N ih =>
    rw [List.range_succ, List.map_append, List.map_append, List.sum_append, List.sum_append, ih]
    by_cases h : N = k
    · subst h
      rw [if_neg (by omega), if_pos (by omega)]
      simp
      omega
    · have e : ([N].map f).sum = ([N].map g).sum := by simp [h1 N h]
      rw [e]
      by_cases h3 : k < N
      · rw [if_pos h3, if_pos (by omega)]; omega
      · rw [if_neg h3, if_neg (by omega)]; omega
theorem bs_inv {k : Nat} (h : INVX (fun x => X x ∨ x = k) Y m rho) (hk : k < iC rho) (h37 : rho 37 k = 2) (hq : sc rho k < nv (rho 2 (iS rho k))) (hlast : ∀ n, n + 1 = sc rho k → gI m 911 (4 * k + n) ≠ 8) (hdead : ∀ j, j < iC rho → iO rho j = k → ¬ rho 37 j ≤ 2) :
    INVX X (fun x => Y x ∨ x = k) (bsM m k (sc rho k) (rho 34 k) (rho 3 (4 * iS rho k + sc rho k)) (rho 4 (4 * iS rho k + sc rho k)) (rho 5 (4 * iS rho k + sc rho k)) (rho 8 (iX rho k)) (rho 40 k) (rho 38 k)) (bsR rho k) ∧ 3 + pot (bsM m k (sc rho k) (rho 34 k) (rho 3 (4 * iS rho k + sc rho k)) (rho 4 (4 * iS rho k + sc rho k)) (rho 5 (4 * iS rho k + sc rho k)) (rho 8 (iX rho k)) (rho 40 k) (rho 38 k)) = pot m ∧ sc (bsR rho k) k = sc rho k + 1 := by
  have hb := h.rb9
  have hC := hb.C
  have hS := hb.S hk
  have hk4 : k < 400 := by omega
  have hp4 := (hb.rs9 _ hS.2).1.lt (by omega)
  have hrk0 := hb.rk9 k hk
  have hok : OE rho k := Or.inl hk
  have hss := hb.sce hok
  have hout := bs_out m k (sc rho k) (rho 34 k) (rho 3 (4 * iS rho k + sc rho k)) (rho 4 (4 * iS rho k + sc rho k)) (rho 5 (4 * iS rho k + sc rho k)) (rho 8 (iX rho k)) (rho 40 k) (rho 38 k)
  have hat := bs_at m k (sc rho k) (rho 34 k) (rho 3 (4 * iS rho k + sc rho k)) (rho 4 (4 * iS rho k + sc rho k)) (rho 5 (4 * iS rho k + sc rho k)) (rho 8 (iX rho k)) (rho 40 k) (rho 38 k)
  have hL := fun c' j (z1 : ¬ (c' = 55 ∧ j = 4 * k + sc rho k)) (z2 : ¬ (c' = 56 ∧ j = k)) => bs_L m k (sc rho k) (rho 34 k) (rho 3 (4 * iS rho k + sc rho k)) (rho 4 (4 * iS rho k + sc rho k)) (rho 5 (4 * iS rho k + sc rho k)) (rho 8 (iX rho k)) (rho 40 k) (rho 38 k) z1 z2
  have hL56 := bs_L56 m k (sc rho k) (rho 34 k) (rho 3 (4 * iS rho k + sc rho k)) (rho 4 (4 * iS rho k + sc rho k)) (rho 5 (4 * iS rho k + sc rho k)) (rho 8 (iX rho k)) (rho 40 k) (rho 38 k)
  have hV := fun c' j (z : ¬ ((c' = 55 ∨ c' = 7) ∧ j = 4 * k + sc rho k)) => bs_V m k (sc rho k) (rho 34 k) (rho 3 (4 * iS rho k + sc rho k)) (rho 4 (4 * iS rho k + sc rho k)) (rho 5 (4 * iS rho k + sc rho k)) (rho 8 (iX rho k)) (rho 40 k) (rho 38 k) z
  generalize bsM m k (sc rho k) (rho 34 k) (rho 3 (4 * iS rho k + sc rho k)) (rho 4 (4 * iS rho k + sc rho k)) (rho 5 (4 * iS rho k + sc rho k)) (rho 8 (iX rho k)) (rho 40 k) (rho 38 k) = M at *
  have hak0 := h.ak9 k hk
  obtain ⟨b1, b2, b3, b4, b5, b6, b7, b8, b9, b10, b11, b12, b13, b14, b15, b16, c0, cs, ci, cp, cr, cq, ck, cw, cz⟩ := h
  obtain ⟨g1, g2, g3, g4, g5, g6, g8, g11⟩ := outs_basic (rho := rho) hout
  have f46 : ∀ j, bsR rho k 46 j = if j = k then rho 46 k + 1 else rho 46 j := fun _ => rfl
  have f48 : ∀ j, bsR rho k 48 j = if j = k then 0 else rho 48 j := fun _ => rfl
  have f49 : ∀ j, bsR rho k 49 j = if j = k then 0 else rho 49 j := fun _ => rfl
  have scn : sc (bsR rho k) k = sc rho k + 1 := by
    unfold sc
    rw [f46, if_pos rfl]
    have : rho 46 k + 1 = nI (sc rho k) := by rw [hss.1, Int32.sub_add_cancel]
    rw [this, nI_1, nv_nI (by omega), nv_nI (by omega)]
  have sco : ∀ o, o ≠ k → sc (bsR rho k) o = sc rho o := fun o z => by
    unfold sc
    rw [f46, if_neg z]
  have hOE : ∀ o, OE (bsR rho k) o ↔ OE rho o := fun o => Iff.rfl
  have hT : TR (bsR rho k) = TR rho := rfl
  have hcalS : ∀ o, cal (bsR rho k) o = cal rho o := fun o => rfl
  have hcldS : ∀ o n, cld (bsR rho k) o n = cld rho o n := fun o n => rfl
  have hidx : ∀ o n, OE rho o → n < sc rho o → 4 * o + n ≠ 4 * k + sc rho k := fun o n ho hn => by
    have := hb.sce ho
    by_cases z : o = k
    · subst z; omega
    · omega
  have hTk : TR rho k (sc rho k) = [] := by
    rw [List.eq_nil_iff_forall_not_mem]
    intro j hj
    have hj2 := TR_mem.mp hj
    have := (ck j hj2.1).2.2.2.2.1
    rw [hj2.2.1, hj2.2.2] at this
    omega
  have hgo : Go (bsR rho k) k := by
    unfold Go goB
    rw [if_pos hk4]
    exact decide_eq_true h37
  refine ⟨⟨g1 b1, g2 b2, g3 b3, g4 b4, g5 b5, g6 b6, fun i hi => ?_, g8 b8, ?_, fun j hj => ?_, g11 b11, fun o n ho hn => ?_, fun o n ho hn => ?_, ⟨fun o n ho hn => ?_, fun j hj z => ?_⟩, fun o n ho ho4 hn => ?_, ⟨fun j j1 j2 => ?_, fun r r1 r2 => ?_, fun i i1 i2 => ?_, fun o n h1 h2 h3 => ?_⟩, c0, cs, ci, cp, fun r hr => ?_, fun p hp => ?_, fun j hj => ?_, fun j hj => ?_, cz⟩, ?_, scn⟩
  · rw [hout.1 _ _ (by omega), hL _ _ (by omega) (by omega)]
    exact b7 i hi
  · unfold AL
    rw [hL 50 _ (by omega) (by omega), hL 51 _ (by omega) (by omega), hL 52 _ (by omega) (by omega), hL 53 _ (by omega) (by omega)]
    exact b9
  · have hj2 : j < iC rho := hj
    have hh := b10 j hj2
    rw [hout.1 _ _ (by omega), hout.1 _ _ (by omega), hout.2.1 _ _ (by omega), hout.2.1 _ _ (by omega), hout.2.1 _ _ (by omega)]
    refine ⟨hh.1, hh.2.1, hh.2.2.1, hh.2.2.2.1, hh.2.2.2.2.1, ?_⟩
    by_cases z : j = k
    · subst z
      rw [hL56, scn, List.range_succ, List.map_append, hh.2.2.2.2.2]
      rfl
    · rw [hL 56 _ (by omega) (fun y => z y.2), sco j z]
      exact hh.2.2.2.2.2
  · by_cases z : o = k
    · subst z
      rw [scn] at hn
      by_cases hnq : n = sc rho o
      · subst hnq
        rw [hat.1.1, hat.1.2.1, hat.1.2.2.1, hat.1.2.2.2.1, hat.1.2.2.2.2.1, hat.1.2.2.2.2.2.1, hat.1.2.2.2.2.2.2.1, hat.1.2.2.2.2.2.2.2.1, hat.2.1, hat.2.2.1]
        unfold cal cld saf und zon dlo rqo rpo owr
        rw [if_pos hk4, if_pos hk4, if_pos hk4, if_pos hk4, if_pos hk4, if_pos hk4, if_pos hk4, if_pos (show o < 440 by omega), if_pos hk4]
        exact ⟨rfl, rfl, rfl, rfl, rfl, rfl, rfl, rfl, rfl, rfl⟩
      · have hn2 : n < sc rho o := by omega
        have hid := hidx o n hok hn2
        rw [hout.1 896 _ (fun y => hid y.2), hout.1 897 _ (fun y => hid y.2), hout.1 898 _ (fun y => hid y.2), hout.1 899 _ (fun y => hid y.2), hout.1 900 _ (fun y => hid y.2), hout.1 901 _ (fun y => hid y.2), hout.1 902 _ (fun y => hid y.2), hout.1 903 _ (fun y => hid y.2), hout.2.1 904 _ (fun y => hid y.2), hout.2.1 905 _ (fun y => hid y.2)]
        exact b12 o n hok hn2
    · rw [sco o z] at hn
      have hid := hidx o n ho hn
      rw [hout.1 896 _ (fun y => hid y.2), hout.1 897 _ (fun y => hid y.2), hout.1 898 _ (fun y => hid y.2), hout.1 899 _ (fun y => hid y.2), hout.1 900 _ (fun y => hid y.2), hout.1 901 _ (fun y => hid y.2), hout.1 902 _ (fun y => hid y.2), hout.1 903 _ (fun y => hid y.2), hout.2.1 904 _ (fun y => hid y.2), hout.2.1 905 _ (fun y => hid y.2)]
      exact b12 o n ho hn
  · rw [hT]
    have hold : ∀ n, n < sc rho o → gL M 55 (4 * o + n) = TR rho o n ∧ gI M 910 (4 * o + n) = if (TR rho o n).any (fun q => decide (bsR rho k 41 q ≠ 0)) = true then 1 else 0 := fun n hn2 => by
      have hid := hidx o n ho hn2
      rw [hL _ _ (fun y => hid y.2) (by omega), hout.1 910 _ (fun y => hid y.2)]
      exact b13 o n ho hn2
    by_cases z : o = k
    · subst z
      rw [scn] at hn
      by_cases hnq : n = sc rho o
      · subst hnq
        rw [hTk, hat.2.2.2, hat.1.2.2.2.2.2.2.2.2.2.2.1]
        exact ⟨rfl, rfl⟩
      · exact hold n (by omega)
    · rw [sco o z] at hn
      exact hold n hn
  · by_cases z : o = k
    · subst z
      rw [scn] at hn ⊢
      by_cases hnq : n = sc rho o
      · subst hnq
        exact ⟨fun y => by omega, fun _ _ => ⟨fun _ => hat.1.2.2.2.2.2.2.2.2.2.2.2.1, fun y => absurd hgo y⟩⟩
      · have hn2 : n < sc rho o := by omega
        have hid := hidx o n hok hn2
        rw [hout.1 911 _ (fun y => hid y.2)]
        refine ⟨fun _ => ?_, fun y => by omega⟩
        by_cases hl : n + 1 = sc rho o
        · exact hlast n hl
        · exact (b14.1 o n hok hn2).1 (by omega)
    · rw [sco o z] at hn ⊢
      have hid := hidx o n ho hn
      have hh := b14.1 o n ho hn
      rw [hout.1 911 _ (fun y => hid y.2)]
      exact ⟨hh.1, fun y1 y2 => hh.2 y1 (fun y => y.elim y2 z)⟩
  · have hj2 : j < iC rho := hj
    have hrj := ck j hj2
    have hid := hidx _ _ hrj.2.1 hrj.2.2.2.2.1
    show X (iO rho j) ∨ gI M 911 (4 * iO rho j + iN rho j) ≠ 8
    rw [hout.1 911 _ (fun y => hid y.2)]
    by_cases hjk : iO rho j = k
    · right
      have hr := hrj.2.2.2.2.1
      rw [hjk] at hr ⊢
      by_cases hl : iN rho j + 1 = sc rho k
      · exact hlast _ hl
      · exact (b14.1 k _ hok hr).1 (by omega)
    · rcases b14.2 j hj2 z with (y | y) | y
      · exact Or.inl y
      · exact absurd y hjk
      · exact Or.inr y
  · by_cases z : o = k
    · subst z
      rw [scn] at hn
      have hnq : n = sc rho o := by omega
      subst hnq
      rw [f48, if_pos rfl, f49, if_pos rfl, hat.1.2.2.2.2.2.2.2.2.1, hat.1.2.2.2.2.2.2.2.2.2.1]
      exact ⟨rfl, rfl, ⟨0, 0, rfl, rfl, Or.inl (Or.inr rfl), by omega, by omega⟩, fun y => absurd rfl y⟩
    · rw [sco o z] at hn
      have hid := hidx o n ho (by omega)
      have hh := b15 o n ho ho4 hn
      rw [hout.1 906 _ (fun y => hid y.2), hout.1 907 _ (fun y => hid y.2), hout.1 908 _ (fun y => hid y.2), hout.1 909 _ (fun y => hid y.2), f48, if_neg z, f49, if_neg z]
      obtain ⟨a, b, y1, y2, y3, y4⟩ := hh.2.2.1
      exact ⟨hh.1, hh.2.1, ⟨a, b, y1, y2, y3.imp Or.inl id, y4⟩, fun y => ⟨(hh.2.2.2 y).1, (hh.2.2.2 y).2.imp Or.inl id⟩⟩
  · rw [hV _ _ (by omega), hV _ _ (by omega)]
    exact b16.1 j j1 j2
  · rw [hV _ _ (by omega)]
    exact b16.2.1 r r1 r2
  · have hh := b16.2.2.1 i i1 i2
    rw [hV _ _ (by omega), hV _ _ (by omega), hV _ _ (by omega), hV _ _ (by omega), hV _ _ (by omega)]
    refine ⟨hh.1, hh.2.1, hh.2.2.1, hh.2.2.2.1, hh.2.2.2.2.1, fun c' hc' => ?_⟩
    rw [hV _ _ (by omega)]
    exact hh.2.2.2.2.2 c' hc'
  · have hne : 4 * o + n ≠ 4 * k + sc rho k := fun y => by
      have e1 : o = k := by omega
      subst e1
      exact h3 ⟨hok, by rw [scn]; omega⟩
    rw [hV _ _ (fun y => hne y.2), hV _ _ (fun y => hne y.2)]
    refine b16.2.2.2 o n h1 h2 (fun y => h3 ⟨y.1, ?_⟩)
    by_cases z : o = k
    · subst z
      rw [scn]
      omega
    · rw [sco o z]
      exact y.2
  · refine ⟨(cr r hr).1, (cr r hr).2.1, ?_⟩
    rw [f46, if_neg (by omega)]
    exact (cr r hr).2.2
  · refine ⟨(cq p hp).1, (cq p hp).2.1, ?_, (cq p hp).2.2.2⟩
    rw [f46, if_neg (by omega)]
    exact (cq p hp).2.2.1
  · have hj2 : j < iC rho := hj
    have hh := ck j hj2
    refine ⟨hh.1, hh.2.1, hh.2.2.1, hh.2.2.2.1, ?_, hh.2.2.2.2.2.1, hh.2.2.2.2.2.2.1, hh.2.2.2.2.2.2.2.1, hh.2.2.2.2.2.2.2.2.1, hh.2.2.2.2.2.2.2.2.2.1, hh.2.2.2.2.2.2.2.2.2.2.1, ?_, ?_⟩
    · show iN rho j < sc (bsR rho k) (iO rho j)
      by_cases z : iO rho j = k
      · have := hh.2.2.2.2.1
        rw [z] at this ⊢
        rw [scn]
        omega
      · rw [sco _ z]
        exact hh.2.2.2.2.1
    · rw [f46]
      by_cases z : j = k
      · rw [if_pos z]
        have : rho 46 k + 1 = nI (sc rho k) := by rw [hss.1, Int32.sub_add_cancel]
        rw [this, nI_1]
        exact ⟨sc rho k + 1, by omega, rfl⟩
      · rw [if_neg z]
        exact hh.2.2.2.2.2.2.2.2.2.2.2.1
    · by_cases z : j = k
      · subst z
        rw [scn]
        exact hq
      · rw [sco j z]
        exact hh.2.2.2.2.2.2.2.2.2.2.2.2
  · have hj2 : j < iC rho := hj
    have hh := cw j hj2
    refine ⟨hh.1, fun y => ?_, hh.2.2.1, fun y => ?_⟩
    rotate_left
    · have hjk : j ≠ k := fun z => by
        rw [z] at y
        have y' : rho 37 k = 0 ∨ rho 37 k = 1 := y
        rw [h37] at y'
        exact absurd y' (by decide)
      rw [sco j hjk]
      exact hh.2.2.2 y
    show iN rho j + 1 = sc (bsR rho k) (iO rho j)
    by_cases z : iO rho j = k
    · exact absurd y (hdead j hj2 z)
    · rw [sco _ z]
      exact hh.2.1 y
  · have hl := b9.2.2.1
    unfold pot
    rw [hL 50 _ (by omega) (by omega), hL 51 _ (by omega) (by omega), hL 52 _ (by omega) (by omega), hL 53 _ (by omega) (by omega), hl, List.length_range]
    have hlen : (gL m 56 k).length = sc rho k := by rw [hak0.2.2.2.2.2, List.length_map, List.length_range]
    have e := sum_dec (f := fun j => 4 - (gL m 56 j).length) (g := fun j => 4 - (gL M 56 j).length) (k := k) (fun j hj => by rw [hL 56 _ (by omega) (fun y => hj y.2)]) (by rw [hL56, List.length_append, List.length_singleton, hlen]; omega) (iC rho)
    rw [if_pos hk] at e
    rw [e]
    omega
end QD
