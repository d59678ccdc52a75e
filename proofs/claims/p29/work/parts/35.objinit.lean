/-! Object's constructor -/
section OI
variable {mi : MI} {d k pc x : Nat} {L : List (Option sV)} {st : List sV} {S : OM} {Q : Option sV → OM → Prop} {QX : String → OM → Prop} {c i : Nat}
theorem wp_objinit (hdd : 1 ≤ d) (hw : Cond.methodLink mi.1.cls x objectInit ∈ TW) (hd : decode mi.2.1 pc = .ok (.invokespecial x, 3)) (hr : st.length ≤ 4) (h : WP mi d k (pc + 3) L st S Q QX) : WP mi d k pc L (vR c i :: st) S Q QX := by
  intro p l e R s m args below meth cc D A lv0 ad0 hC H locs cells slots ls ad hD
  have hts := hC.2.2.2.2.2.2.1
  have hf1 := hC.2.2.2.2.2.2.2.2.2.2.2.1
  have hf2 := hC.2.2.2.2.2.2.2.2.2.2.2.2.1
  have hrc := rest_cat ad (rest := st)
  have hgo := h p l e R s m args below meth cc D A lv0 ad0 hC H locs cells slots ls ad (hD.stk hD.lvs.2)
  refine W.objInit hC.1 hC.2.1 hC.2.2.2.2.2.1 (hts _ hw) (hts _ im_objInit) (hts _ cd_objInit) rfl (hD.lh.1.trans hC.2.2.2.2.1.symm) (a := ad c i) (rest := st.map (tV ad)) rfl hd (by omega) ?_ hgo
  have : 2 * (F0 m pc ls ((vR c i :: st).map (tV ad))).monitorRoom ≤ 4 := by
    show 2 * _ ≤ 4
    exact Nat.le_of_ble_eq_true rfl
  omega
end OI
