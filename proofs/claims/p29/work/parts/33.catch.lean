/-! a call in a method that catches -/
section CT
def cIx (j : Nat) : Nat := match j with | 0 => 16 | 1 => 19 | _ => 26
theorem cIx_w {j : Nat} (h : j < 3) : Cond.classLink RL (cIx j) (eCl j) ∈ TW := by
  have : j = 0 ∨ j = 1 ∨ j = 2 := by omega
  rcases this with rfl | rfl | rfl
  · exact kl_L_16
  · exact kl_L_19
  · exact kl_L_26
theorem LH.drop {ad : Ad} {lv : Nat → Nat → Bool} {n i : Nat} {L : List (Option sV)} {ls ls' : Array Slot} {v : Value} (h : LH ad lv n L ls) (hl : lv_has ls' n ((i, v) :: (lhl ad L).filter (fun q => !(q.1 == i) && !(q.1 + 1 == i && q.2.category == 2)))) : LH ad lv n (L.set i none) ls' := by
  refine ⟨hl.1, hl.2.1, by rw [List.length_set]; exact h.2.2.1, fun j w hj => ?_⟩
  by_cases hji : j = i
  · subst hji
    rw [List.getElem?_set] at hj
    simp at hj
  · rw [List.getElem?_set_ne (Ne.symm hji)] at hj
    obtain ⟨h1, h2, h3⟩ := h.2.2.2 j w hj
    refine ⟨hl.2.2 (j, tV ad w) (List.mem_cons_of_mem _ (List.mem_filter.mpr ⟨lhl_mem hj, ?_⟩)), h2, h3⟩
    simp [hji, h2]
variable {mi mj : MI} {d d' k k1 k2 pc x : Nat} {L : List (Option sV)} {st : List sV} {S : OM} {As : List sV} {Q Q1 : Option sV → OM → Prop} {QX QX1 : String → OM → Prop}
theorem wp_callVH {c i : Nat} {rest : List sV} (hown : mi.1.cls = RL) (hsp : Spec mj d' k1 (vR c i :: As) S Q1 QX1) (hok : MIok mj As.length) (hv : MIv mj) (hcn : mj.1.cls = cn c) (hc : c < 10) (hl : Cond.methodLink mi.1.cls x mj.1 ∈ TW) (hd : decode mi.2.1 pc = .ok (.invokevirtual x, 3)) (hdd : d' + 1 ≤ d) (hk : k1 + k2 ≤ k) (hst : st = As.reverse ++ vR c i :: rest) (hr : rest.length ≤ 4)
    (kx : ∀ (E : String) (S' : OM), QX1 E S' → ∃ (j n9 : Nat) (pre suf : List (Nat × Nat × Nat × Nat)) (y : Nat × Nat × Nat × Nat), j < 3 ∧ E = eCl j ∧ mi.2.2.2.2.1 = pre ++ y :: suf ∧ (∀ z ∈ pre, ∃ j', j' < 3 ∧ j ≠ j' ∧ z.2.2.2 = cIx j') ∧ y.2.2.2 = cIx j ∧ y.1 ≤ pc ∧ pc < y.2.1 ∧ n9 < L.length ∧
      ((decode mi.2.1 y.2.2.1 = .ok (.astore n9, 2) ∧ WP mi d k2 (y.2.2.1 + 2) (L.set n9 none) [] S' Q QX) ∨ (∃ n : Fin 4, (n : Nat) = n9 ∧ decode mi.2.1 y.2.2.1 = .ok (.astore_n n, 1) ∧ WP mi d k2 (y.2.2.1 + 1) (L.set n9 none) [] S' Q QX)))
    (kk : ∀ (r : Option sV) (S' : OM), Q1 r S' → WP mi d k2 (pc + 3) L (conc r rest) S' Q QX) : WP mi d k pc L st S Q QX := by
  intro p l e R s m args below meth cc D A lv0 ad0 hC H locs cells slots ls ad hD
  subst hst
  have hV := LvS_app hD.lvs
  have hl1 := lv_of hV.2.1 (by omega)
  have hAs : LvS S.1 (vR c i :: As) := ⟨hV.2.1, LvS_rev hV.1⟩
  have hb1 := hD.2.2.2.2.2.2.1
  have hb2 := hD.2.2.2.2.2.2.2
  have hf1 := hC.2.2.2.2.2.2.2.2.2.2.2.1
  have hf2 := hC.2.2.2.2.2.2.2.2.2.2.2.2.1
  have hts := hC.2.2.2.2.2.2.1
  have hKN := hC.2.2.2.2.2.2.2.1.2
  refine run_go hC hD hk hV.2.2 (vx_runV (As := As.map (tV ad)) (own := mi.1.cls) (C := mj.1.cls) (b := ad c i) ⟨hC.1, hC.2.1, hC.2.2.2.2.1, hC.2.2.2.2.2.1, hC.2.2.2.2.2.2.1⟩ (hsp l hC.2.2.2.2.2.2.2.2.1 D ad H.size)
    (cwV As.length hC.2.2.2.2.2.2.1 (goodV hl hv.1 hv.2 hok.2.1 hok.1) rfl rfl rfl ⟨rfl, hok.2.2.1⟩ ⟨by show d' + 1 ≤ R.frames; omega, by show 8 + (mj.2.2.1 + 11) + 64 * d' ≤ R.locals; have := hok.2.2.2; omega⟩)
    ⟨PcS_blind, by rw [hcn]; exact recv9 hC.2.2.2.2.2.2.2.1 hD.1 hl1 hc, PcS_now hC hD hAs⟩ rfl (by rw [List.length_map]) hD.lh.1 (by rw [List.map_append, List.map_reverse]; rfl) (lv_room (Nat.le_trans (rest_cat ad) (by omega))) hd ⟨by omega, by omega⟩)
    (fun E ce q9 S' ad' H1 locs1 hq hD' _ hce hcv hcl => ?_) kk
  obtain ⟨j, n9, pre, suf, y, hj, rfl, htab, hpre, hy, hy1, hy2, hn9, hw⟩ := kx E S' hq
  have hT := hC.2.2.2.2.2.2.2.2.2.1
  rw [htab] at hT
  have hown' : s.vm.findClass RL = some m.cls := by rw [← hown]; exact hC.2.2.2.2.2.1
  have hL9 : n9 < mi.2.2.1 := by rw [← hD'.lh.2.2.1]; exact hn9
  refine vx_catch (own := RL) (name := eCl j) (E := eCl j) (ce := ce) hown' (tableOf pre) ⟨y.1, y.2.1, y.2.2.1, y.2.2.2⟩ (tableOf suf) (by rw [hT]; simp [tableOf]) (fun z hz => ?_) ?_ ?_ ?_ ?_ hce hcv hcl ?_
  · obtain ⟨z9, hz9, rfl⟩ := List.mem_map.mp hz
    obtain ⟨j', a1, a2, a3⟩ := hpre z9 hz9
    refine Or.inr ⟨?_, eCl j', ?_, hKN.2.2.2.2.2.2.2.2.2.2.1 j j' hj a1 a2⟩
    · show z9.2.2.2 ≠ 0
      rw [a3]
      unfold cIx
      split <;> decide
    · show (Cond.classLink RL z9.2.2.2 _).before args s = true
      rw [a3]
      exact hts _ (cIx_w a1)
  · show (decide (y.1 ≤ pc) && decide (pc < y.2.1)) = true
    simp [hy1, hy2]
  · show y.2.2.2 ≠ 0
    rw [hy]
    unfold cIx
    split <;> decide
  · show (Cond.classLink RL y.2.2.2 _).before args s = true
    rw [hy]
    exact hts _ (cIx_w hj)
  · exact va_Nw.use rfl (hKN.2.2.2.2.2.2.2.2.2.1 j hj)
  · rcases hw with ⟨hd1, h1⟩ | ⟨n, rfl, hd1, h1⟩
    · exact lv_astore hC.1 hC.2.1 hd1 hD'.lh.has hL9 rfl (fun ls' hl9 => h1 p l e R s m args below meth cc D A lv0 ad0 hC H1 locs1 _ _ ls' ad' (hD'.loc (hD'.lh.drop hl9) trivial))
    · exact lv_astore_n hC.1 hC.2.1 hd1 rfl hD'.lh.has hL9 rfl (fun ls' hl9 => h1 p l e R s m args below meth cc D A lv0 ad0 hC H1 locs1 _ _ ls' ad' (hD'.loc (hD'.lh.drop hl9) trivial))
end CT
