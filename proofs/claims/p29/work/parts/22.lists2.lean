section JM
variable {l : Launch} {D : DD}
abbrev bO : String := "java/lang/Object"
/-- Math.max, min as the JDK's own classes call them -/
theorem jNewLength (o g w : Nat) (hg : 1 ≤ g) (hb9 : o + (if g < w then w else g) ≤ 65536) (ho : o ≤ 40000) (hg2 : g ≤ 40000) (hw : w ≤ 40000) : Met l yJ8_newLength_cabcc (Cond.code yJ8_newLength_cabcc cJ8_newLength_cabcc 4 (some .int) :: TW) { frames := 1, cells := 0, slots := 0, locals := 40 } (va_Pc [.int (nI o), .int (nI g), .int (nI w)] (fun U => True ∧ Kst D U)) (fun _ st oc t => oc = .returned (some (.int (nI (o + (if g < w then w else g))))) ∧ t.heap = st.heap) 0 0 (fun _ => False) := by
  refine jHead (by decide) (Nat.le_of_ble_eq_true rfl) ?_
  intro p e s m' below meth c ls hx hb hr hlk hml hown hT hnm hpre hl
  refine lv_iload_n hx hb dJ8_newLength_cabcc_0 rfl (lv_at hl 0 rfl) ?_
  refine lv_iload_n hx hb dJ8_newLength_cabcc_1 rfl (lv_at hl 1 rfl) ?_
  refine lv_iload_n hx hb dJ8_newLength_cabcc_2 rfl (lv_at hl 2 rfl) ?_
  refine va_mmax hx hb (hml.trans hl.1.symm) hown (hT _ ml_J8_194) (hT _ sm_J9_max_7cf53) (hT _ in_J9) (hT _ cd_J9_max_7cf53) (Nat.le_of_ble_eq_true rfl) (Nat.le_of_ble_eq_true rfl) (Nat.le_of_ble_eq_true rfl) (Nat.le_of_ble_eq_true rfl) dJ8_newLength_cabcc_3 ?_
  refine lv_iadd hx hb dJ8_newLength_cabcc_6 ?_
  have e : nI o + (if nI g < nI w then nI w else nI g) = nI (o + (if g < w then w else g)) := by
    by_cases h : g < w
    · rw [if_pos h, if_pos (nI_lt h (by omega)), nI_add]
    · rw [if_neg h, if_neg (nI_nlt (by omega) (by omega)), nI_add]
  rw [e]
  generalize hN : o + (if g < w then w else g) = N at hb9 ⊢
  have hN1 : 1 ≤ N := by rw [← hN]; split <;> omega
  refine lv_istore_n (lv' := [(3, .int (nI N)), (0, .int (nI o)), (1, .int (nI g)), (2, .int (nI w))]) hx hb dJ8_newLength_cabcc_7 rfl hl (by decide) rfl (fun ls hl => ?_)
  refine lv_iconst (v := 0) hx hb dJ8_newLength_cabcc_8 (by decide) ?_
  refine lv_iload_n hx hb dJ8_newLength_cabcc_9 rfl (lv_at hl 0 rfl) ?_
  refine lv_icmp_ge (tgt := 21) hx hb dJ8_newLength_cabcc_10 (by decide) (fun z => absurd z (nI_nle (by omega) (by omega))) (fun _ => ?_)
  refine lv_iload_n hx hb dJ8_newLength_cabcc_13 rfl (lv_at hl 0 rfl) ?_
  refine lv_ldc hx hb hown (hT _ ct_J8_200) dJ8_newLength_cabcc_14 ?_
  refine lv_icmp_gt (tgt := 21) hx hb dJ8_newLength_cabcc_16 (by decide) (fun z => absurd z (show ¬ nI 2147483639 < nI N from nI_nlt (by omega) (by decide))) (fun _ => ?_)
  refine lv_iload_n hx hb dJ8_newLength_cabcc_19 rfl (lv_at hl 0 rfl) ?_
  exact W.iret hx hb hr (fun t ht hW => ⟨rfl, ht⟩) (fun q h => by cases h) dJ8_newLength_cabcc_20 hlk
/-- what a growing member leaves: a new row, the rest as it was -/
def jNew (D : DD) (N : Nat) (f : Nat → Option Nat) (st t : State) (q : Nat) : Prop := t.heap[q]? = some (vp_cell (D.2.1 7) (N, .inr (.inr (.inr (.inr f))))) ∧ st.heap.size ≤ q ∧ st.heap.size ≤ t.heap.size ∧ ∀ x : Nat, x < st.heap.size → t.heap[x]? = st.heap[x]?
/-- Arrays.copyOf of Object rows, its class given -/
theorem jCopy3 (d n N mi sz : Nat) (f : Nat → Option Nat) (hn : n ≤ N) (hN : N ≤ 700) : Met l yJ7_copyOf_6403c (Cond.code yJ7_copyOf_6403c cJ7_copyOf_6403c 4 (some (.array (.object "java/lang/Object"))) :: TW) { frames := 1, cells := 1, slots := N, locals := 64 } (va_Pc [.ref d, .int (nI N), .ref mi] (fun U => (U.heap.size = sz ∧ va_P D.1 cls [lA D d n f] U.heap ∧ va_Mi "[Ljava/lang/Object;" mi U ∧ (∀ i, i < n → ∀ y, f i = some y → va_Any bO U U.heap y ∧ y < sz)) ∧ Kst D U)) (fun _ st oc t => ∃ q, oc = .returned (some (.ref q)) ∧ jNew D N (va_cpy f (fun _ => none) 0 0 n) st t q) 1 N (fun q => q = d ∨ sz ≤ q) := by
  refine jHead (by decide) (Nat.le_of_ble_eq_true rfl) ?_
  intro p e s m' below meth c ls hx hb hr hlk hml hown hT hnm hpre hl
  obtain ⟨⟨hsz, hP, hM, hAny⟩, hK⟩ := hpre
  subst hsz
  have hdl : d < s.heap.size := vx_lt hP (k := 0) rfl
  refine lv_aload_n hx hb dJ7_copyOf_6403c_0 rfl (lv_at hl 2 rfl) ?_
  refine va_ldcM hx hb hown (hT _ kl_J7_110) hM dJ7_copyOf_6403c_1 ?_
  refine lv_acmp_ne (rx := some mi) (ry := some mi) (tgt := 13) hx hb dJ7_copyOf_6403c_3 (by decide) (fun z => absurd rfl z) (fun _ => ?_)
  refine lv_iload_n hx hb dJ7_copyOf_6403c_6 rfl (lv_at hl 1 rfl) ?_
  have hc : (nI N).toNatClampNeg = N := nI_clamp (by omega)
  refine W.anew hx hb hown (hT _ kl_J7_2) (va_AO.use hK.2.2.2.2.1) rfl dJ7_copyOf_6403c_7 rfl (nI_pos (by omega)) (by rw [hc]; omega) (Nat.le_of_ble_eq_true rfl) (by rw [hc]; exact Nat.le_of_eq (Nat.zero_add N)) fun cA kA9 comp f1 f2 f3 f4 => ?_
  rw [hc]
  have hRA := (hK.1.2 7 _ (tys_at D (by decide))).2
  have hcA : cA = D.2.1 7 := by obtain ⟨a1, a2, a3, a4, a5, a6⟩ := hRA; exact Option.some.inj (f1.symm.trans a6)
  subst hcA
  generalize hH1 : s.heap.push ({ cls := D.2.1 7, slots := Array.replicate N .null, vm := .none } : Cell) = H1
  have z1 : H1.size = s.heap.size + 1 := by rw [← hH1, Array.size_push]
  have e1 : H1[s.heap.size]? = some (vp_cell (D.2.1 7) (N, .inr (.inr (.inr (.inr (fun _ => none)))))) := by rw [← hH1, Array.getElem?_push_size, vp_cell_q, arrV_new]; rfl
  have o1 : ∀ q : Nat, q < s.heap.size → H1[q]? = s.heap[q]? := fun q hq => by rw [← hH1, Array.getElem?_push, if_neg (Nat.ne_of_lt hq)]
  have hP1 : va_P D.1 cls [lA D d n f, lA D s.heap.size N (fun _ => none)] H1 := fun k q hk => by
    match k, hk with
    | 0, hk => simp at hk; subst hk; exact (o1 d hdl).trans (hP 0 _ rfl)
    | 1, hk => simp at hk; subst hk; exact e1
    | _ + 2, hk => simp at hk
  have hD1 : va_D (fun q => q = d ∨ s.heap.size ≤ q) [lA D d n f, lA D s.heap.size N (fun _ => none)] := D2 (by omega) (Or.inl rfl) (Or.inr (Nat.le_refl _))
  have hS1 : va_S (fun q => q = d ∨ s.heap.size ≤ q) s.heap H1 [] := ⟨by omega, fun q h1 _ => o1 q h1, fun _ h => by cases h⟩
  refine lv_goto (tgt := 24) hx hb dJ7_copyOf_6403c_10 rfl ?_
  refine lv_astore_n (lv' := [(3, .ref s.heap.size), (0, .ref d), (1, .int (nI N)), (2, .ref mi)]) hx hb dJ7_copyOf_6403c_24 rfl hl (by decide) rfl (fun ls hl => ?_)
  refine lv_aload_n hx hb dJ7_copyOf_6403c_25 rfl (lv_at hl 1 rfl) ?_
  refine lv_iconst (v := 0) hx hb dJ7_copyOf_6403c_26 (by decide) ?_
  refine lv_aload_n hx hb dJ7_copyOf_6403c_27 rfl (lv_at hl 0 rfl) ?_
  refine lv_iconst (v := 0) hx hb dJ7_copyOf_6403c_28 (by decide) ?_
  refine lv_aload_n hx hb dJ7_copyOf_6403c_29 rfl (lv_at hl 1 rfl) ?_
  refine va_alen hx hb hK.1 hP1 0 7 rfl (tys_at D (by decide)) (v := nI n) rfl dJ7_copyOf_6403c_30 ?_
  refine lv_iload_n hx hb dJ7_copyOf_6403c_31 rfl (lv_at hl 2 rfl) ?_
  refine va_mmin hx hb (hml.trans hl.1.symm) hown (hT _ ml_J7_304) (hT _ sm_J9_min_7cf53) (hT _ in_J9) (hT _ cd_J9_min_7cf53) (Nat.le_of_ble_eq_true rfl) (Nat.le_of_ble_eq_true rfl) (Nat.le_of_ble_eq_true rfl) (Nat.le_of_eq (Nat.zero_add N)) dJ7_copyOf_6403c_32 ?_
  rw [if_neg (nI_nlt hn (by omega))]
  have hcn : (nI n).toNatClampNeg = n := nI_clamp (by omega)
  refine va_copyM (A := fun q => q = d ∨ s.heap.size ≤ q) (H0 := s.heap) hx hb (hml.trans hl.1.symm) hown (hT _ ml_J7_150) (hT _ nt_arraycopy) (hT _ st_arraycopy) (hT _ in_J10) hK.1 hP1 hD1 (locs := []) hS1 0 1 7 7 (E0 := bO) (E1 := bO) rfl rfl (tys_at D (by decide)) (tys_at D (by decide)) (by decide) (by decide) (nI_pos (by omega)) (by rw [hcn]; simp [sb_cl0]) (by rw [hcn]; simp [sb_cl0]; exact hn) (fun i hi y hy => ?_) (Nat.le_of_ble_eq_true rfl) (Nat.le_of_ble_eq_true rfl) dJ7_copyOf_6403c_35 (fun H2 locs2 hP2 hD2 hS2 => ?_)
  · have hy0 := hAny i (by rw [hcn] at hi; exact hi) y (by simpa [sb_cl0] using hy)
    obtain ⟨cellV, g1, g2⟩ := hy0.1
    exact ⟨cellV, (o1 y hy0.2).trans g1, g2⟩
  · refine lv_aload_n hx hb dJ7_copyOf_6403c_38 rfl (lv_at hl 0 rfl) ?_
    rw [hcn] at hP2
    refine W.widen (k := 1) (n := N) (Nat.le_refl _) (by omega) ?_
    refine W.aret hx hb hr (Or.inr ⟨_, rfl⟩) (Or.inr ⟨_, rfl⟩) (fun t ht hW => ⟨s.heap.size, rfl, ?_, Nat.le_refl _, by rw [ht]; exact hS2.1, fun x hx9 => ?_⟩) hS2.2.2 dJ7_copyOf_6403c_39 hlk
    · rw [ht]
      exact hP2 1 _ rfl
    · rw [ht]
      by_cases hxd : x = d
      · rw [hxd]
        exact (hP2 0 _ rfl).trans (hP 0 _ rfl).symm
      · exact hS2.2.1 x hx9 (fun z => z.elim hxd (fun z => by omega))
section JS
variable {p : Program} {e : Env} {R : Room} {s : State} {m : MethodId} {args : Array Value} {below : List Frame} {meth : Method} {c : Code} {H H0 : Heap} {locs : List Loc} {cells slots pc mc ms : Nat} {Q : State → Prop} {ls : Array Slot} {rest st0 : List Value} {A0 : Nat → Prop} {free : Addr → Prop}
theorem jgo {Qa : State → Outcome → State → Prop} (hr : va_Run p l e R s m args below meth c H locs cells slots mc ms (F0 m pc ls st0) rest Qa free) (hS : va_S A0 H0 H locs) (hf : ∀ q, free q → A0 q) (hF : ∀ st v t, st.heap = H → Qa st (.returned v) t → va_F A0 st t)
    (kk : ∀ (v : Option Value) (st t : State) (H1 : Heap) (locs1 : List Loc), st.heap = H → t.heap = H1 → Qa st (.returned v) t → va_S A0 H0 H1 locs1 → W p l e R s m args below meth c H1 locs1 (cells + mc) (slots + ms) Q (F0 m (pc + 3) ls (v.toList ++ rest))) : W p l e R s m args below meth c H locs cells slots Q (F0 m pc ls st0) := by
  intro T hT X
  obtain ⟨v, st₀, t, T', L9, h0, X', hL, e1, e2, hv, stp⟩ := hr T hT X
  obtain ⟨f1, f2⟩ := hF st₀ v t h0 hv
  rw [h0] at f1 f2
  have hS' : va_S A0 H0 T'.heap (locs ++ L9) := ⟨Nat.le_trans hS.1 (by rw [e1]; exact f1), fun q h1 h2 => by rw [e1, f2 q (Nat.lt_of_lt_of_le h1 hS.1) h2]; exact hS.2.1 q h1 h2, fun q hq => by
    rcases List.mem_append.mp hq with h | h
    · exact hS.2.2 q h
    · exact hf _ (hL q h)⟩
  obtain ⟨t2, a1, b1⟩ := kk v st₀ t T'.heap _ h0 e1.symm hv hS' T' rfl X'
  exact ⟨t2, stp t2 a1, b1⟩
end JS
theorem jNew.F {N : Nat} {f : Nat → Option Nat} {st t : State} {q : Nat} {A : Nat → Prop} (h : jNew D N f st t q) : va_F A st t := ⟨h.2.2.1, fun x hx _ => h.2.2.2 x hx⟩
theorem va_Any.kept {E : String} {s U : State} {H H1 : Heap} {a : Nat} (h : va_Any E s H a) (hv : s.vm.Alike U.vm) (hq : H1[a]? = H[a]?) : va_Any E U H1 a := by
  obtain ⟨cellV, g1, g2, ⟨kC, g3⟩, g4⟩ := h
  obtain ⟨k', hk', -⟩ := hv.2.2 _ _ g3
  exact ⟨cellV, by rw [hq]; exact g1, g2, ⟨k', hk'⟩, fun comp hc => by rw [hv.findClass] at hc; rw [hv.assignable]; exact g4 comp hc⟩
theorem Any_same {E : String} {U : State} {g : JFrame} {mk : MethodId} {a : Array Value} {x : Nat} (h : va_Any E U U.heap x) : va_Any E (U.calling g mk a) (U.calling g mk a).heap x := h.kept (Vm.Alike.refl U.vm) rfl
theorem Any_warm {E : String} {s U : State} {H : Heap} {x : Nat} (hW : s.WarmedH U.vm) (hU : U.heap = H) (h : va_Any E s H x) : va_Any E U U.heap x := h.kept hW.alike (by rw [hU])
/-- the row's class, by its name -/
theorem rowCls {s : State} (hK : Kst D s) {H : Heap} {d n : Nat} {f : Nat → Option Nat} (h : va_at D.1 cls (lA D d n f) H) : ∃ cell : Cell, H[d]? = some cell ∧ cell.vm.isStatics = false ∧ s.vm.findClass "[Ljava/lang/Object;" = some cell.cls :=
  ⟨_, h, rfl, va_nmO (hK.1.2 7 _ (tys_at D (by decide))).2 (by decide)⟩
theorem jCopy2 (d n N sz : Nat) (f : Nat → Option Nat) (hn : n ≤ N) (hN : N ≤ 700) : Met l yJ7_copyOf_1904c (Cond.code yJ7_copyOf_1904c cJ7_copyOf_1904c 2 (some (.array (.object "java/lang/Object"))) :: TW) { frames := 2, cells := 1, slots := N, locals := 128 } (va_Pc [.ref d, .int (nI N)] (fun U => (U.heap.size = sz ∧ va_P D.1 cls [lA D d n f] U.heap ∧ (∀ i, i < n → ∀ y, f i = some y → va_Any bO U U.heap y ∧ y < sz)) ∧ Kst D U)) (fun _ st oc t => ∃ q, oc = .returned (some (.ref q)) ∧ jNew D N (va_cpy f (fun _ => none) 0 0 n) st t q) 1 N (fun q => q = d ∨ sz ≤ q) := by
  refine jHead (by decide) (Nat.le_of_ble_eq_true rfl) ?_
  intro p e s m' below meth c ls hx hb hr hlk hml hown hT hnm hpre hl
  obtain ⟨⟨hsz, hP, hAny⟩, hK⟩ := hpre
  obtain ⟨mi, hM⟩ := hK.2.2.2.2.2.2.2.2.2.2.2.2.2.1
  refine lv_aload_n hx hb dJ7_copyOf_1904c_0 rfl (lv_at hl 0 rfl) ?_
  refine lv_iload_n hx hb dJ7_copyOf_1904c_1 rfl (lv_at hl 1 rfl) ?_
  refine lv_aload_n hx hb dJ7_copyOf_1904c_2 rfl (lv_at hl 0 rfl) ?_
  refine va_getC hx hb (hml.trans hl.1.symm) hown (hT _ ml_J7_86) hK.2.2.2.2.2.2.2.2.2.2.2.2.1 (hT _ se_getClass) (hT _ im_getClass) (hT _ nt_getClass) hM (rowCls hK (hP 0 _ rfl)) (Nat.le_of_ble_eq_true rfl) (Nat.le_of_ble_eq_true rfl) dJ7_copyOf_1904c_3 ?_
  refine jgo (A0 := fun q => q = d ∨ sz ≤ q) (va_runS (As := [.ref d, .int (nI N), .ref mi]) (rest := []) ⟨hx, hb, hml, hown, hT⟩ (jCopy3 (D := D) d n N mi sz f hn hN) (va_cwS 3 hT (goodS9 ml_J7_300 sm_J7_copyOf_6403c in_J7 cd_J7_copyOf_6403c) rfl rfl rfl (by decide +kernel) ⟨Nat.le_of_ble_eq_true rfl, Nat.le_of_ble_eq_true rfl⟩) ⟨fun a U g mk q => ⟨q.1, ⟨q.2.1.1, q.2.1.2.1, q.2.1.2.2.1.moved (Vm.Alike.refl U.vm), fun i hi y hy => ⟨Any_same (q.2.1.2.2.2 i hi y hy).1, (q.2.1.2.2.2 i hi y hy).2⟩⟩, Kst.same (s := U) (U := U.calling g mk a) rfl q.2.2⟩, fun U hU hW => ⟨rfl, ⟨by rw [hU]; exact hsz, by rw [hU]; exact hP, hM.moved hW.alike, fun i hi y hy => ⟨Any_warm hW hU (hAny i hi y hy).1, (hAny i hi y hy).2⟩⟩, Kst.warm hW hK⟩⟩ rfl rfl hl.1 rfl (lv_room (Nat.le_of_ble_eq_true rfl)) dJ7_copyOf_1904c_6 ⟨Nat.le_refl _, Nat.le_of_eq (Nat.zero_add N)⟩) (va_S.rf) (fun q h => h) (fun st v t h0 hq => by obtain ⟨q, -, hn⟩ := hq; exact hn.F) (fun v st t H1 locs1 h0 ht hq hS1 => ?_)
  obtain ⟨q, hv, hnw⟩ := hq
  cases hv
  refine W.widen (k := 1) (n := N) (Nat.le_refl _) (by omega) ?_
  refine W.aret hx hb hr (Or.inr ⟨_, rfl⟩) (Or.inr ⟨_, rfl⟩) (fun t9 ht9 hW => ⟨q, rfl, ?_⟩) hS1.2.2 dJ7_copyOf_1904c_9 hlk
  obtain ⟨n1, n2, n3, n4⟩ := hnw
  rw [ht, h0] at *
  exact ⟨by rw [ht9]; exact n1, n2, by rw [ht9]; exact n3, fun x hx9 => by rw [ht9]; exact n4 x hx9⟩
end JM
