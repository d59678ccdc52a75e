/-! the law's calls of its own methods, which catch -/
section WR
variable {mi mj : MI} {d d' k k1 k2 pc x : Nat} {L : List (Option sV)} {st rest : List sV} {S : OM} {As : List sV} {Q Q1 : Option sV → OM → Prop} {QX : String → OM → Prop}
/-- the words of a method that catches -/
def MIokW (mj : MI) (n : Nat) : Prop := Cond.codeWith mj.1 mj.2.1 mj.2.2.1 mj.2.2.2.1 mj.2.2.2.2.1 ∈ TW ∧ Cond.initialized mj.1.cls ∈ TW ∧ (mj.1.cls ≠ "java/lang/invoke/MethodHandle" ∧ mj.1.cls ≠ "java/lang/invoke/VarHandle" ∧ (parseMethodDescriptor mj.1.desc).map (fun q => q.parameters.length) = some n) ∧ mj.2.2.1 ≤ 40
theorem goodSW {own9 : String} {y : MethodName} {w0 : Cond} (h1 : Cond.methodLink own9 x y ∈ TW) (h2 : Cond.static y ∈ TW) (h4 : Cond.initialized y.cls ∈ TW) (h5 : w0 ∈ TW) : GoodIn TW (va_wsS own9 x y (w0 :: TW)) := by
  intro w hw
  unfold va_wsS at hw
  simp only [List.cons_append, List.nil_append, List.mem_cons] at hw
  rcases hw with rfl | rfl | rfl | rfl | hw
  · exact good_TW h1
  · exact good_TW h2
  · exact good_TW h4
  · exact good_TW h5
  · exact good_TW hw
theorem wp_callSW (hsp : SpecW mj d' k1 As S Q1 (fun _ _ => False)) (hok : MIokW mj As.length) (hv : Cond.static mj.1 ∈ TW) (hcn : mj.1.cls = mi.1.cls) (hl : Cond.methodLink mi.1.cls x mj.1 ∈ TW) (hd : decode mi.2.1 pc = .ok (.invokestatic x, 3)) (hdd : d' + 1 ≤ d) (hk : k1 + k2 ≤ k) (hst : st = As.reverse ++ rest) (hr : rest.length ≤ 4)
    (kk : ∀ (r : Option sV) (S' : OM), Q1 r S' → WP mi d k2 (pc + 3) L (conc r rest) S' Q QX) : WP mi d k pc L st S Q QX := by
  intro p l e R s m args below meth cc D A lv0 ad0 hC H locs cells slots ls ad hD
  subst hst
  have hV := LvS_app hD.lvs
  have hAs : LvS S.1 As := LvS_rev hV.1
  have hb1 := hD.2.2.2.2.2.2.1
  have hb2 := hD.2.2.2.2.2.2.2
  have hf1 := hC.2.2.2.2.2.2.2.2.2.2.2.1
  have hf2 := hC.2.2.2.2.2.2.2.2.2.2.2.2.1
  refine run_go (QX1 := fun _ _ => False) hC hD hk hV.2 (vx_runSX (As := As.map (tV ad)) (own := mi.1.cls) (hh := mj.2.2.2.2.1) ⟨hC.1, hC.2.1, hC.2.2.2.2.1, hC.2.2.2.2.2.1, hC.2.2.2.2.2.2.1⟩ (hsp l hC.2.2.2.2.2.2.2.2.1 D ad H.size)
    (vx_cwSW As.length hC.2.2.2.2.2.2.1 (goodSW hl hv hok.2.1 hok.1) rfl rfl rfl hok.2.2.1 ⟨by show d' + 1 ≤ R.frames; omega, by show 8 + (mj.2.2.1 + 11) + 64 * d' ≤ R.locals; have := hok.2.2.2; omega⟩)
    ⟨PcS_blind, PcS_now hC hD hAs⟩ rfl (by rw [List.length_map]) hD.lh.1 (by rw [List.map_append, List.map_reverse]) (lv_room (Nat.le_trans (rest_cat ad) (by omega))) hd ⟨by omega, by omega⟩)
    (fun E ce q9 S' ad' H1 locs1 hq hD' _ hce hcv hcl => hq.elim) kk
end WR
