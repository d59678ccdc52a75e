section WPT
variable {mi mj : MI} {d d' k k1 k2 pc : Nat} {L L' : List (Option sV)} {st rest : List sV} {S : OM} {As : List sV} {Q Q1 : Option sV → OM → Prop} {QX QX1 : String → OM → Prop}
/-- throw new E("a text") -/
theorem wp_throw {E : String} {j ik ic : Nat} {names : List String} (hj : j < 3) (hcn : mi.1.cls = "BrambleMesh") (hfit : Bundle.fit E = true) (hnm : ∀ n ∈ names, Bundle.fit n = true) (hln : names.length ≤ 4) (hw1 : Cond.classLink mi.1.cls ik E ∈ TW) (hw2 : Cond.initialized E ∈ TW) (hE9 : E = eCl j) (hat : ∀ w ∈ vx_atS mi.1.cls ic E names, w = .castable E E ∨ (∃ j, j < 3 ∧ w = .declares (dM j)) ∨ w ∈ TW)
    (d0 : decode mi.2.1 pc = .ok (.new ik, 3)) (d3 : decode mi.2.1 (pc + 3) = .ok (.dup, 1)) (d4 : decode mi.2.1 (pc + 4) = .ok (.ldc_w (eIx j), 3)) (d7 : decode mi.2.1 (pc + 7) = .ok (.invokespecial ic, 3)) (d10 : decode mi.2.1 (pc + 10) = .ok (.athrow, 1)) (hh : mi.2.2.2.2.1 = []) (hdd : 8 ≤ d) (hr : st.length ≤ 4) (hQ : QX E S) : WP mi d (k + 1) pc L st S Q QX := by
  intro p l e R s m args below meth cc D A lv0 ad0 hC H locs cells slots ls ad hD
  have hts := hC.2.2.2.2.2.2.1
  have hf1 := hC.2.2.2.2.2.2.2.2.2.2.2.1
  have hf2 := hC.2.2.2.2.2.2.2.2.2.2.2.2.1
  have hb1 := hD.2.2.2.2.2.2.1
  have hb2 := hD.2.2.2.2.2.2.2
  have hSt := hC.2.2.2.2.2.2.2.2.2.2.2.2.2.2.1
  obtain ⟨sa, hsa⟩ := hSt.2.2.2.2 j hj
  have hrc := rest_cat ad (rest := st)
  have hgood : ∀ w ∈ TW, vx_ot w = true := fun w hw => by
    unfold vx_ot
    rw [(List.mem_filter.mp hw).2, Bool.or_true]
  refine vx_throwSW (A := A) hC.1 hC.2.1 hC.2.2.2.2.2.2.2.2.1 hC.2.2.2.2.2.1 hfit hnm (hts _ hw1) (hts _ hw2) (by rw [hcn]; exact hsa) (fun w hw => by
    rcases hat w hw with e | ⟨j9, hj9, e⟩ | h9
    · rw [e, hE9]
      exact va_Nw.use rfl (hC.2.2.2.2.2.2.2.1.2.2.2.2.2.2.2.2.2.2.1 j hj)
    · rw [e]
      exact va_Nw.use rfl (hC.2.2.2.2.2.2.2.1.2.2.2.2.2.2.2.2.2.2.2.2.2.2.2 j9 hj9)
    · exact hts w h9) (fun w hw => ?_) hSt.1 hSt.2.1 hD.2.2.1 (hD.lh.1.trans hC.2.2.2.2.1.symm) d0 d3 d4 d7 d10 (fun x hx => ?_) (by omega) (by omega) (by omega) (by omega) hC.2.2.2.1 (fun t hW hsz hkp => ?_) hD.2.2.1.2.2 (by omega) (by omega)
  · rcases List.mem_cons.mp hw with rfl | hw
    · exact hgood _ hw1
    · rcases List.mem_cons.mp hw with rfl | hw
      · exact hgood _ hw2
      · rcases hat w hw with e | ⟨j9, hj9, e⟩ | h9
        · rw [e]
          rfl
        · rw [e]
          rfl
        · exact hgood _ h9
  · rw [hC.2.2.2.2.2.2.2.2.2.1, hh] at hx
    cases hx
  · have hm : MM D S ad t.heap := ⟨fun c i hl => by
      have hq := cOK_lt (hD.1.1 c i hl)
      exact cOK_kept (hD.1.1 c i hl) (hkp _ hq.1) (fun hk hne => hkp _ (hq.2 hk hne)), hD.1.2⟩
    exact ⟨⟨S, ad, hQ, hm, hD.2.2.2.1, hD.2.1⟩, Nat.le_trans hD.2.2.1.1 hsz, fun q h1 h2 => (hkp q (Nat.lt_of_lt_of_le h1 hD.2.2.1.1)).trans (hD.2.2.1.2.1 q h1 h2)⟩
end WPT
