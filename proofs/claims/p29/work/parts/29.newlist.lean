/-! a new list -/
section NL
variable {mi : MI} {d k k2 pc x x2 mc ms : Nat} {L : List (Option sV)} {st rest : List sV} {S S' : OM} {Q Q1 : Option sV → OM → Prop} {QX : String → OM → Prop}
variable {p : Program} {l : Launch} {e : Env} {R : Room} {s : State} {m : MethodId} {args : Array Value} {below : List Frame} {meth : Method} {cc : Code} {D : DD} {A : Nat → Prop} {lv0 : Nat → Nat → Bool} {ad0 : Ad} {H H1 : Heap} {locs : List Loc} {cells slots cells1 slots1 : Nat} {ls : Array Slot} {ad ad' : Ad}
variable {lv : Nat → Nat → Bool} {fr : Nat → Nat → Option Nat} {fi : Nat → Nat → Int32} {ai : Nat → Nat → Nat → Int32} {ar : Nat → Nat → Nat → Option Nat} {li : Nat → Nat → List Nat} {out : Int64} {rho : Nat → Nat → Int32} {c i : Nat}
theorem jrunN {free : Addr → Prop} {Qa : State → Outcome → State → Prop} {stk restV : List Value} (hC : Ctx mi d p l R s m args meth cc D A) (hD : Dyn D A lv0 ad0 s R mi.2.2.1 k L st S H locs cells slots ls ad) (hS1 : va_S A s.heap H1 locs) (hb1 : cells1 + mc + k2 ≤ R.cells) (hb2 : slots1 + ms + 700 * k2 ≤ R.slots)
    (hr : va_Run p l e R s m args below meth cc H1 locs cells1 slots1 mc ms (F0 m pc ls stk) restV Qa free) (hf : ∀ q, free q → A q)
    (hq : ∀ v st t, st.heap = H1 → Qa st (.returned v) t → v = none ∧ MM D S' ad' t.heap ∧ va_F A st t) (hE : Ext D S.1 ad S'.1 ad') (hown : ∀ q, own D S'.1 ad' q → A q) (hst : restV = rest.map (tV ad')) (hlr : LvS S'.1 rest)
    (kk : WP mi d k2 (pc + 3) L rest S' Q QX) :
    W p l e R s m args below meth cc H1 locs cells1 slots1 (vx_MQ below (Qn Q D A lv0 ad0) (Xn QX D A lv0 ad0) args s R.cells R.slots A) (F0 m pc ls stk) := by
  intro T hT X
  obtain ⟨v, st₀, t, T', L9, h0, X', hL, e1, e2, hqa, stp⟩ := hr T hT X
  obtain ⟨hv, hM, hF⟩ := hq v st₀ t h0 hqa
  obtain ⟨k5, k6, k7⟩ := vx_keep h0 e1 hS1 (fun q _ z => z) (fun q z => hf q z) hL hF
  cases hv
  rw [← e1] at hM
  have hD' : Dyn D A lv0 ad0 s R mi.2.2.1 k2 L rest S' T'.heap (locs ++ L9) (cells1 + mc) (slots1 + ms) ls ad' := ⟨hM, hown, k7, hD.2.2.2.1.tr hE, hlr, hD.lh.ext hE hD.1 hM, hb1, hb2⟩
  obtain ⟨t2, a1, b1⟩ := kk p l e R s m args below meth cc D A lv0 ad0 hC _ _ _ _ ls ad' hD' T' rfl X'
  refine ⟨t2, stp t2 ?_, b1⟩
  rw [← hst] at a1
  exact a1
theorem map_same {ad ad' : Ad} {lv : Nat → Nat → Bool} (h1 : ∀ c i, lv c i = true → ad' c i = ad c i) (h2 : ∀ c, 71 ≤ c → c < 75 → ad' c 0 = ad c 0) : ∀ {st : List sV}, LvS lv st → st.map (tV ad') = st.map (tV ad)
  | [], _ => rfl
  | v :: r, h => by
    rw [List.map_cons, List.map_cons, map_same h1 h2 (st := r) h.2]
    refine congrArg (· :: _) ?_
    rcases v with x | o | x
    · rfl
    · cases o with
      | none => rfl
      | some q =>
        obtain ⟨c, i⟩ := q
        show Value.ref (ad' c i) = Value.ref (ad c i)
        rcases h.1 with h | ⟨a1, a2, a3⟩
        · rw [h1 c i h]
        · have e3 : i = 0 := a3
          rw [e3, h2 c a1 a2]
    · rfl
set_option maxRecDepth 4000 in
theorem wp_newlist (hk : kd c = 4) (hn : ¬ lv c i = true) (hdd : 8 ≤ d) (hw1 : Cond.classLink mi.1.cls x RJx4a65c ∈ TW) (hw : Cond.methodLink mi.1.cls x2 yJx4a65c_init_da8c8 ∈ TW) (hd : decode mi.2.1 pc = .ok (.new x, 3)) (hd2 : decode mi.2.1 (pc + 3) = .ok (.dup, 1)) (hd3 : decode mi.2.1 (pc + 4) = .ok (.invokespecial x2, 3)) (hr : st.length ≤ 3)
    (h : WP mi d k (pc + 7) L (vR c i :: st) (up2 lv c i true, fr, fi, ai, ar, up2 li c i [], out, rho) Q QX) : WP mi d (k + 1) pc L st (lv, fr, fi, ai, ar, li, out, rho) Q QX := by
  intro p l e R s m args below meth cc D A lv0 ad0 hC H locs cells slots ls ad hD
  have h4 := kd4 hk
  have hts := hC.2.2.2.2.2.2.1
  have hK := hC.2.2.2.2.2.2.2.1
  have hKn := hK.1.1 10 _ (show cls[10]? = some (RJx4a65c, TJx4a65c, 3) from rfl)
  have hb1 := hD.2.2.2.2.2.2.1
  have hb2 := hD.2.2.2.2.2.2.2
  have hf1 := hC.2.2.2.2.2.2.2.2.2.2.2.1
  have hf2 := hC.2.2.2.2.2.2.2.2.2.2.2.2.1
  have hRl : 8 + (1 + 11) + 128 ≤ R.locals := by omega
  refine W.newcK hC.1 hC.2.1 hC.2.2.2.2.2.1 (hts _ hw1) (hts _ it_Jx4a65c) (hts _ in_Jx4a65c) rfl hd (by omega) (by omega) hKn.2.1 rfl fun H1 kC hkC e1 z1 o1 => ?_
  have hob := u_born tyJx4a65c hts alW hKn hkC e1 tyJx4a65c_ok
  have hPB : va_P D.1 cls [lB H.size] H1 := fun j q hq => by
    match j, hq with
    | 0, hq =>
      simp at hq
      subst hq
      refine ⟨_, rfl, hob.to (fun y hy => ?_)⟩
      match y, hy with
      | 0, _ => rfl
      | 1, _ => rfl
      | 2, _ => rfl
    | _ + 1, hq => simp at hq
  refine lv_dup hC.1 hC.2.1 hd2 rfl ?_
  have hm := hD.1
  have hsA := hC.2.2.2.2.2.2.2.2.2.2.2.2.2.1
  have hS1 : va_S A s.heap H1 locs := ⟨Nat.le_trans hD.2.2.1.1 (by omega), fun q q1 q2 => (o1 q (Nat.lt_of_lt_of_le q1 hD.2.2.1.1)).trans (hD.2.2.1.2.1 q q1 q2), hD.2.2.1.2.2⟩
  have hAH : ∀ q, H.size ≤ q → A q := fun q z => hsA q (Nat.le_trans hD.2.2.1.1 z)
  have hoA : ∀ c' i', lv c' i' = true → up2 (up2 ad c i H.size) (c + 10) i D.2.2.1 c' i' = ad c' i' := fun c' i' h => by
    have k9 := (kd9 (live_kd hm h)).1
    rw [up2_n _ _ (fun z => k9 (by omega)), up2_n _ _ (fun z => hn (by rw [← z.1, ← z.2]; exact h))]
  have hoA2 : ∀ c' i', lv c' i' = true → kd c' = 4 → up2 (up2 ad c i H.size) (c + 10) i D.2.2.1 (c' + 10) i' = ad (c' + 10) i' := fun c' i' h hk' => by
    have := kd4 hk'
    rw [up2_n _ _ (fun z => hn (by rw [← z.2, ← show c' = c by omega]; exact h)), up2_n _ _ (fun z => by omega)]
  have hA4 : up2 (up2 ad c i H.size) (c + 10) i D.2.2.1 c i = H.size := by rw [up2_n _ _ (fun z => by omega), up2_s]
  have hZ : va_Z "java/util/ArrayList" "DEFAULTCAPACITY_EMPTY_ELEMENTDATA" "[Ljava/lang/Object;" (.ref D.2.2.1) (jA H.size H.size H1.size) s H1 :=
    ((Sta_now hC hD).2.2.2.1.1.kept (fun a a1 _ => o1 a a1)).narrow (fun q z => Or.inr (by rcases z with z | z | z <;> omega))
  refine jrunN (mc := 0) (ms := 0) (k2 := k) (S' := (up2 lv c i true, fr, fi, ai, ar, up2 li c i [], out, rho)) (ad' := up2 (up2 ad c i H.size) (c + 10) i D.2.2.1) (rest := vR c i :: st) (restV := .ref H.size :: st.map (tV ad)) hC hD hS1 (by omega) (by omega)
    (va_runI (As := []) (b := H.size) (own := mi.1.cls) ⟨hC.1, hC.2.1, hC.2.2.2.2.1, hC.2.2.2.2.2.1, hts⟩ (jInit (D := D) H.size H1.size)
      (cwI 0 hts (code_good cd_Jx4a65c_init_da8c8) rfl rfl rfl (hts _ in_Jx4a65c) (hts _ hw) (hts _ im_Jx4a65c_init_da8c8) rfl (by decide +kernel) ⟨by show 4 ≤ R.frames; omega, hRl⟩)
      ⟨fun a U g mk q => ⟨q.1, ⟨q.2.1.1, q.2.1.2.1, q.2.1.2.2.moved (Vm.Alike.refl _)⟩, Kst.same (s := U) (U := U.calling g mk a) rfl q.2.2⟩, fun U hU hW => ⟨rfl, ⟨by rw [hU], by rw [hU]; exact hPB, by rw [hU]; exact hZ.moved hW.alike⟩, Kst.warm hW hK⟩⟩ rfl rfl hD.lh.1 rfl (lv_room (by
        have := rest_cat ad (rest := st)
        simp only [List.map_cons, List.sum_cons]
        have e1 : (Value.ref H.size).category = 1 := rfl
        rw [e1]
        omega)) hd3 ⟨by omega, by omega⟩) (fun q z => by rcases z with z | z | z <;> exact hAH q (by omega))
    (fun v st9 t9 h0 hq => ?_) ?_ ?_ ?_ ?_ h
  · obtain ⟨hv, q1, q2⟩ := hq
    have q2' := q2
    obtain ⟨f1, f2⟩ := q2
    rw [h0] at f1 f2
    have hH : ∀ q : Nat, q < H.size → t9.heap[q]? = H[q]? := fun q hq => (f2 q (by omega) (fun z => by rcases z with z | z | z <;> omega)).trans (o1 q hq)
    refine ⟨Outcome.returned.inj hv, ?_, F_wk q2' (fun q z => by rcases z with z | z | z <;> exact hAH q (by omega))⟩
    refine hm.grow hn (by rw [hk]; decide) hH rfl hoA hoA2 (fun j hj => by rw [up2_n _ _ (fun z => by omega), up2_n _ _ (fun z => by omega)]) hA4 (fun _ => up2_s _ _ _ _) ?_ (fun c' i' hl' => ?_) (fun z => by omega) (fun c' i' y t j h1 h2 h3 h4' h5 => ?_) (fun c' i' y j h1 h2 h3 h4' => ?_) (fun c' i' j h1 h2 h3 => ?_)
    · unfold cOK
      rw [hk]
      show (∃ m : Int32, _) ∧ _
      rw [hA4, up2_s, show ((up2 lv c i true, fr, fi, ai, ar, up2 li c i [], out, rho) : OM).2.2.2.2.2.1 c i = [] from up2_s _ _ _ _]
      exact ⟨⟨0, P_ob q1⟩, Or.inl ⟨rfl, rfl⟩⟩
    · have hne : ¬ (c' = c ∧ i' = i) := fun z => hn (by rw [← z.1, ← z.2]; exact hl')
      exact cOK_move hm hl' hH hoA (hoA2 c' i' hl') (fun _ _ _ => ⟨rfl, fun _ => rfl, fun _ _ => rfl⟩) (fun _ => rfl) (fun _ => rfl) (fun _ => up2_n _ _ hne) (fun _ => rfl)
    · have h1' : up2 lv c i true c' i' = true := h1
      rw [up2_n _ _ (fun z => by rw [z.1, hk] at h2; cases h2)] at h1'
      exact hm.2.2.1 c' i' y t j h1' h2 h3 h4' h5
    · have h1' : up2 lv c i true c' i' = true := h1
      rw [up2_n _ _ (fun z => by rw [z.1, hk] at h2; cases h2)] at h1'
      exact hm.2.2.2.1 c' i' y j h1' h2 h3 h4'
    · by_cases z : c' = c ∧ i' = i
      · have h3' : j ∈ up2 li c i [] c' i' := h3
        rw [z.1, z.2, up2_s] at h3'
        cases h3'
      · have h1' : up2 lv c i true c' i' = true := h1
        have h3' : j ∈ up2 li c i [] c' i' := h3
        rw [up2_n _ _ z] at h1' h3'
        exact hm.2.2.2.2.1 c' i' j h1' h2 h3'
  · exact Ext_grow hoA
  · intro q hq
    rcases lvx_grow (D := D) hoA hoA2 hA4 (fun _ => up2_s _ _ _ _) q hq with z | z
    · exact hD.2.1 q z
    · exact hAH q z
  · show _ = Value.ref (up2 (up2 ad c i H.size) (c + 10) i D.2.2.1 c i) :: _
    rw [hA4, map_same hoA (fun c' a1 a2 => by rw [up2_n _ _ (fun z => by omega), up2_n _ _ (fun z => by omega)]) hD.lvs]
  · exact ⟨Or.inl (up2_s _ _ _ _), LvS_ext (D := D) (Ext_grow hoA) hD.lvs⟩
end NL
