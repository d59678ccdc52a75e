/-! one command of the law: what is said of a run stays -/
section CM9
theorem nI_dv {a b : Nat} (ha : a < 2 ^ 31) (hb : b < 2 ^ 31) : nI a / nI b = nI (a / b) := by
  have h1 := nI_toInt (show a < 2 ^ 31 from ha)
  have h2 := nI_toInt (show b < 2 ^ 31 from hb)
  have hab : a / b ≤ a := Nat.div_le_self a b
  have h3 : nI b ≠ -1 := fun z => by
    have := congrArg Int32.toInt z
    rw [h2, show (-1 : Int32).toInt = -1 by decide] at this
    omega
  rw [← Int32.toInt_inj, Int32.toInt_div_of_ne_right _ _ h3, h1, h2, nI_toInt (by omega)]
  rfl
theorem pos_and (v : Int32) : 0 ≤ (v &&& 2147483647).toInt := by
  have h : (v &&& 2147483647).toBitVec.msb = false := by
    rw [Int32.toBitVec_and, BitVec.msb_and, show (2147483647 : Int32).toBitVec.msb = false by decide, Bool.and_false]
  show 0 ≤ (v &&& 2147483647).toBitVec.toInt
  rw [BitVec.toInt_eq_msb_cond, h]
  simp
theorem low_ix (v : Int32) {n : Nat} (h0 : 0 < n) (hn : n ≤ 1000) : ∃ a, a < n ∧ lowV v (nI n) = nI a := by
  obtain ⟨a, ea, ha⟩ := toInt_nI (pos_and v)
  have ha2 := Int32.toInt_lt (v &&& 2147483647)
  have hm := Nat.div_add_mod a n
  have hmul : a / n * n ≤ a := Nat.div_mul_le_self a n
  refine ⟨a % n, Nat.mod_lt _ h0, ?_⟩
  unfold lowV
  rw [ea, nI_dv (by omega) (by omega), pk_mul, nI_sb hmul]
  congr 1
  rw [Nat.mul_comm] at hm
  omega
theorem i64_inj {a b : Int32} (h : a.toInt64 = b.toInt64) : a = b := by
  have h2 := congrArg Int64.toInt h
  rw [Int32.toInt_toInt64, Int32.toInt_toInt64] at h2
  exact Int32.toInt_inj.mp h2
theorem cmd_go {o : CR (Int32 ⊕ Nat)} {p : Option (Int32 × RH)} {cd : Nat → Int32} {ce : Nat → Option Int32} {m : CM} {Q : Int32 → RH → Prop} {D : Nat → Prop} (h : ∃ (r : Int32 ⊕ Nat) (m9 : CM) (n9 : Nat) (b : Int32) (rho9 : RH), o = some (r, m9, n9) ∧ p = some (b, rho9) ∧ (∀ j, r = .inr j → D j) ∧ AG r (fun x => x.toInt64) cd b.toInt64 (rho9 64 0) ∧ INV m9 rho9 ∧ n9 + pot m9 ≤ pot m + 2) (hp : PC p Q) :
    ∃ m9 n9 b rho9, Q b rho9 ∧ INV m9 rho9 ∧ n9 + pot m9 ≤ pot m + 2 ∧ (rho9 64 0 = 0 → ctc (fun x => x) ce o = some (b, m9, n9)) ∧ (rho9 64 0 ≠ 0 → ∃ j, D j ∧ rho9 64 0 = cd j ∧ ∀ v, ce j = some v → ctc (fun x => x) ce o = some (v, m9, n9)) := by
  obtain ⟨r, m9, n9, b, rho9, e1, e2, e3, e4, e5, e6⟩ := h
  refine ⟨m9, n9, b, rho9, hp _ _ e2, e5, e6, fun z => ?_, fun z => ?_⟩
  · rcases e4 with ⟨x, rfl, -, ex⟩ | ⟨j, -, ej, nj⟩
    · rw [e1, i64_inj ex]
      rfl
    · exact absurd (ej.symm.trans z) nj
  · rcases e4 with ⟨x, -, ex, -⟩ | ⟨j, rfl, ej, nj⟩
    · exact absurd ex z
    · refine ⟨j, e3 j rfl, ej, fun v hv => ?_⟩
      rw [e1]
      show (match ce j with | none => none | some v => some (v, m9, n9)) = _
      rw [hv]
def KW (w w' : RH) : Prop := w' 0 3 = w 0 3 ∧ w' 0 4 = w 0 4 ∧ w' 0 5 = w 0 5 ∧ w' 5 = w 5 ∧ w' 6 = w 6 ∧ w' 7 = w 7 ∧ w' 8 = w 8 ∧ w' 9 = w 9
variable {m m9 : CM} {rho rho9 w w' : RH} {u : LM}
theorem cnt_up {p q : Nat → Bool} {a : Nat} (h : ∀ x, p x = true → q x = true) : ∀ d, ((List.range a).filter p).length ≤ ((List.range (a + d)).filter q).length
  | 0 => cnt_mono (fun x _ => h x)
  | d + 1 => by
    have := cnt_up (a := a) h d
    have e : ((List.range (a + d + 1)).filter q).length = ((List.range (a + d)).filter q).length + if q (a + d) = true then 1 else 0 := flt_snoc
    rw [show a + (d + 1) = a + d + 1 by omega, e]
    omega
theorem made_up (hb : RB rho) (hb9 : RB rho9) (hT : TT0 rho rho9) : nv (rho 60 0) ≤ nv (rho9 60 0) := by
  have hP := hb.P
  have hP9 := hb9.P
  have hle := hT.2.2.2.1
  have c1 := List.length_filter_le (fun p => decide (rho 63 p ≠ 0)) (List.range (iP rho))
  have c2 := List.length_filter_le (fun p => decide (rho9 63 p ≠ 0)) (List.range (iP rho9))
  rw [List.length_range] at c1 c2
  rw [hb.r09.2.2.2.2.2.2.2.2, hb9.r09.2.2.2.2.2.2.2.2, nv_nI (by omega), nv_nI (by omega)]
  have := cnt_up (p := fun p => decide (rho 63 p ≠ 0)) (q := fun p => decide (rho9 63 p ≠ 0)) (a := iP rho) (fun x hx => decide_eq_true (hT.2.2.2.2.2.2.1 x (of_decide_eq_true hx))) (iP rho9 - iP rho)
  rw [show iP rho + (iP rho9 - iP rho) = iP rho9 by omega] at this
  exact this
theorem LI_go (hl : LI (m, w) rho) (hI : INV m9 rho9) (hJ : JA rho9) (hT : TT0 rho rho9) (hw : KW w w') (h0 : w' 0 0 = rho9 6 0) (h1 : w' 0 1 = rho9 51 0) (h2 : w' 0 2 = rho9 0 0) (hV : LV w' rho9) (hP : LPl w' rho9) : LI (m9, w') rho9 := by
  obtain ⟨l1, l2, l3, l4, l5, l6, l7, l8⟩ := hl
  obtain ⟨w3, w4, w5, x5, x6, x7, x8, x9⟩ := hw
  obtain ⟨t1, t2, t3, t4, t5, t6, t7, t8, t9⟩ := hT
  refine ⟨hI, hJ, ⟨h0, h1, h2, ?_, ?_, ?_⟩, hV, hP, fun k hk => ?_, fun r hr => ?_, fun c hc => ?_⟩
  · obtain ⟨a, e, h⟩ := l3.2.2.2.1
    exact ⟨a, w3.trans e, by omega⟩
  · obtain ⟨a, e, h⟩ := l3.2.2.2.2.1
    exact ⟨a, w4.trans e, by omega⟩
  · obtain ⟨a, e, h⟩ := l3.2.2.2.2.2
    exact ⟨a, w5.trans e, Nat.le_trans h (made_up (INVX.rb9 l1) (INVX.rb9 hI) ⟨t1, t2, t3, t4, t5, t6, t7, t8, t9⟩)⟩
  · show (w' 5 k < 4 ∨ (k < iC rho9 ∧ rho9 37 k = w' 5 k - 1 ∧ ¬ rho9 37 k ≤ 2)) ∧ (w' 6 k = 0 ∨ (k < iC rho9 ∧ rho9 38 k = w' 6 k))
    rw [x5, x6]
    obtain ⟨a, b⟩ := l6 k hk
    refine ⟨a.imp id (fun z => ?_), b.imp id (fun z => ?_)⟩
    · have h := (t5 k z.1).2.2.2.2.2 z.2.2
      exact ⟨by omega, h.trans z.2.1, by rw [h]; exact z.2.2⟩
    · exact ⟨by omega, ((t5 k z.1).2.2.2.1).trans z.2⟩
  · show w' 7 r = 0 ∨ w' 7 r = 8 ∨ (r < iR rho9 ∧ rho9 56 r = w' 7 r ∧ rho9 56 r ≠ 8)
    rw [x7]
    refine (l7 r hr).imp id (fun z => z.imp id (fun z => ?_))
    have h := t6 r z.1 z.2.2
    exact ⟨by omega, h.trans z.2.1, by rw [h]; exact z.2.2⟩
  · show (∃ a, w' 8 c = nI a ∧ a ≤ nv (rho9 18 c)) ∧ ∃ a, w' 9 c = nI a ∧ a ≤ nv (rho9 19 c)
    rw [x8, x9]
    obtain ⟨⟨a, ea, ha⟩, b, eb, hb⟩ := l8 c hc
    exact ⟨⟨a, ea, Nat.le_trans ha (t8 c hc).1⟩, b, eb, Nat.le_trans hb (t8 c hc).2⟩
theorem KW.rf : KW w w := ⟨rfl, rfl, rfl, rfl, rfl, rfl, rfl, rfl⟩
theorem LV_same (hl : LV w rho) (hT : TT0 rho rho9) (h6 : rho9 6 0 = rho 6 0) : LV w rho9 := by
  intro i hi
  have e : iI rho9 = iI rho := by unfold iI; rw [h6]
  rw [e] at hi
  obtain ⟨a, b, c⟩ := hT.2.2.2.2.2.2.2.2 i hi
  rw [a, b, c]
  exact hl i hi
theorem LI_same (hl : LI u rho) (hI : INV m9 rho9) (hJ : JA rho9) (hT : TT rho rho9) (h6 : rho9 6 0 = rho 6 0) (h51 : rho9 51 0 = rho 51 0) (h0 : rho9 0 0 = rho 0 0) : LI (m9, u.2) rho9 :=
  LI_go (m := u.1) (w := u.2) hl hI hJ hT.1 KW.rf (hl.2.2.1.1.trans h6.symm) (hl.2.2.1.2.1.trans h51.symm) (hl.2.2.1.2.2.1.trans h0.symm) (LV_same hl.2.2.2.1 hT.1 h6) (fun z s hs => by
    have e : iR rho9 = iR rho := by unfold iR; rw [h51]
    rw [hT.2 s]
    exact hl.2.2.2.2.1 (e.symm.trans z) s hs)
/-- one command that keeps all counts -/
theorem set_go {o : CR (Int32 ⊕ Nat)} {p : Option (Int32 × RH)} {cd : Nat → Int32} {ce : Nat → Option Int32} {Q : Int32 → RH → Prop} {D : Nat → Prop} (hl : LI u rho) (h : ∃ (r : Int32 ⊕ Nat) (m9 : CM) (n9 : Nat) (b : Int32) (rho9 : RH), o = some (r, m9, n9) ∧ p = some (b, rho9) ∧ (∀ j, r = .inr j → D j) ∧ AG r (fun x => x.toInt64) cd b.toInt64 (rho9 64 0) ∧ INV m9 rho9 ∧ n9 + pot m9 ≤ pot u.1 + 2) (hp : PC p (fun b m => JA m ∧ TT rho m ∧ Q b m)) (hk : ∀ G, HA9 G → PC p (fun _ m => KF G rho m)) :
    ∃ m9 n9 b rho9, Q b rho9 ∧ LI (m9, u.2) rho9 ∧ rho9 0 0 = rho 0 0 ∧ n9 + pot m9 ≤ pot u.1 + 2 ∧ (rho9 64 0 = 0 → ctc (fun x => x) ce o = some (b, m9, n9)) ∧ (rho9 64 0 ≠ 0 → ∃ j, D j ∧ rho9 64 0 = cd j ∧ ∀ v, ce j = some v → ctc (fun x => x) ce o = some (v, m9, n9)) := by
  have h6 := hk 6 (Or.inl rfl)
  have h51 := hk 51 (Or.inr (Or.inl rfl))
  have h0 := hk 0 (Or.inr (Or.inr rfl))
  obtain ⟨m9, n9, b, rho9, q, hI, hn, q1, q2⟩ := cmd_go (ce := ce) h (((hp.and h6).and h51).and h0)
  exact ⟨m9, n9, b, rho9, q.1.1.1.2.2, LI_same hl hI q.1.1.1.1 q.1.1.1.2.1 (q.1.1.2 0) (q.1.2 0) (q.2 0), q.2 0, hn, q1, q2⟩
theorem lk_s {o : CR Int32} {k : Int32 → LM → LR} {a r : Int32} {m9 : CM} {u9 : LM} {g n : Nat} (h : o = some (a, m9, g)) (h2 : k a (m9, u.2) = some (r, u9, n)) : lk o u k = some (r, u9, g + n) := by
  subst h
  show (k a (m9, u.2)).map _ = _
  rw [h2]
  rfl
end CM9
