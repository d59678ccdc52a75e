/-! what throws -/
section MU
theorem hat_of {own E : String} {ic : Nat} {names : List String} (h : (vx_atS own ic E names).all (fun w => decide (w = .castable E E) || (decide (w ∈ [Cond.declares (dM 0), .declares (dM 1), .declares (dM 2)]) || (decide (w ∈ lw_tbl) && goodWord w))) = true) : ∀ w ∈ vx_atS own ic E names, w = .castable E E ∨ (∃ j, j < 3 ∧ w = .declares (dM j)) ∨ w ∈ TW := fun w hw => by
  have h1 := List.all_eq_true.mp h w hw
  rcases Bool.or_eq_true _ _ |>.mp h1 with h2 | h2
  · exact Or.inl (of_decide_eq_true h2)
  · rcases Bool.or_eq_true _ _ |>.mp h2 with h3 | h3
    · have h4 := of_decide_eq_true h3
      rcases List.mem_cons.mp h4 with e | h4
      · exact Or.inr (Or.inl ⟨0, by decide, e⟩)
      · rcases List.mem_cons.mp h4 with e | h4
        · exact Or.inr (Or.inl ⟨1, by decide, e⟩)
        · exact Or.inr (Or.inl ⟨2, by decide, List.mem_singleton.mp h4⟩)
    · have h4 := Bool.and_eq_true _ _ |>.mp h3
      exact Or.inr (Or.inr (TW_of (of_decide_eq_true h4.1) h4.2))
theorem w8_mustExist1 {b : Int32} {S : OM} (hb : ¬ b = 0) : Spec mX8_mustExist 8 0 [vI b] S (fun r S' => r = none ∧ S' = S) NX := by
  refine spec_of (by decide) rfl (by simp [catS, cat1]) (Nat.le_of_ble_eq_true rfl) ?_
  show WP mX8_mustExist 8 0 0 [some (vI b)] [] S _ _
  refine wp_iload_n dX8_mustExist_0 rfl ?_
  refine wp_if_ne (tgt := 15) dX8_mustExist_1 (by decide) (fun _ => ?_) (fun z => absurd z hb)
  exact wp_return rfl dX8_mustExist_15 ⟨rfl, rfl⟩
theorem w8_mustExist0 {b : Int32} {S : OM} (hb : b = 0) : Spec mX8_mustExist 8 1 [vI b] S (fun _ _ => False) (fun E S' => E = eCl 0 ∧ S' = S) := by
  refine spec_of (by decide) rfl (by simp [catS, cat1]) (Nat.le_of_ble_eq_true rfl) ?_
  show WP mX8_mustExist 8 1 0 [some (vI b)] [] S _ _
  refine wp_iload_n dX8_mustExist_0 rfl ?_
  refine wp_if_ne (tgt := 15) dX8_mustExist_1 (by decide) (fun z => absurd hb z) (fun _ => ?_)
  exact wp_throw (E := "java/lang/IndexOutOfBoundsException") (j := 0) (names := ["java/lang/RuntimeException", "java/lang/Exception"]) (ik := 256) (ic := 260) (by decide) rfl (by decide +kernel) (by decide +kernel) (by decide) kl_X8_256 in_java_lang_IndexOutOfBoundsException rfl (hat_of (by decide +kernel)) dX8_mustExist_4 dX8_mustExist_7 dX8_mustExist_8 dX8_mustExist_11 dX8_mustExist_14 rfl (by decide) (by decide) ⟨rfl, rfl⟩
theorem w8_mustFit1 {b : Int32} {S : OM} (hb : ¬ b = 0) : Spec mX8_mustFit 8 0 [vI b] S (fun r S' => r = none ∧ S' = S) NX := by
  refine spec_of (by decide) rfl (by simp [catS, cat1]) (Nat.le_of_ble_eq_true rfl) ?_
  show WP mX8_mustFit 8 0 0 [some (vI b)] [] S _ _
  refine wp_iload_n dX8_mustFit_0 rfl ?_
  refine wp_if_ne (tgt := 15) dX8_mustFit_1 (by decide) (fun _ => ?_) (fun z => absurd z hb)
  exact wp_return rfl dX8_mustFit_15 ⟨rfl, rfl⟩
theorem w8_mustFit0 {b : Int32} {S : OM} (hb : b = 0) : Spec mX8_mustFit 8 1 [vI b] S (fun _ _ => False) (fun E S' => E = eCl 1 ∧ S' = S) := by
  refine spec_of (by decide) rfl (by simp [catS, cat1]) (Nat.le_of_ble_eq_true rfl) ?_
  show WP mX8_mustFit 8 1 0 [some (vI b)] [] S _ _
  refine wp_iload_n dX8_mustFit_0 rfl ?_
  refine wp_if_ne (tgt := 15) dX8_mustFit_1 (by decide) (fun z => absurd hb z) (fun _ => ?_)
  exact wp_throw (E := "java/lang/IllegalArgumentException") (j := 1) (names := ["java/lang/RuntimeException", "java/lang/Exception"]) (ik := 263) (ic := 267) (by decide) rfl (by decide +kernel) (by decide +kernel) (by decide) kl_X8_263 in_java_lang_IllegalArgumentException rfl (hat_of (by decide +kernel)) dX8_mustFit_4 dX8_mustFit_7 dX8_mustFit_8 dX8_mustFit_11 dX8_mustFit_14 rfl (by decide) (by decide) ⟨rfl, rfl⟩
theorem w8_mustBeAllowed1 {b : Int32} {S : OM} (hb : ¬ b = 0) : Spec mX8_mustBeAllowed 8 0 [vI b] S (fun r S' => r = none ∧ S' = S) NX := by
  refine spec_of (by decide) rfl (by simp [catS, cat1]) (Nat.le_of_ble_eq_true rfl) ?_
  show WP mX8_mustBeAllowed 8 0 0 [some (vI b)] [] S _ _
  refine wp_iload_n dX8_mustBeAllowed_0 rfl ?_
  refine wp_if_ne (tgt := 15) dX8_mustBeAllowed_1 (by decide) (fun _ => ?_) (fun z => absurd z hb)
  exact wp_return rfl dX8_mustBeAllowed_15 ⟨rfl, rfl⟩
theorem w8_mustBeAllowed0 {b : Int32} {S : OM} (hb : b = 0) : Spec mX8_mustBeAllowed 8 1 [vI b] S (fun _ _ => False) (fun E S' => E = eCl 2 ∧ S' = S) := by
  refine spec_of (by decide) rfl (by simp [catS, cat1]) (Nat.le_of_ble_eq_true rfl) ?_
  show WP mX8_mustBeAllowed 8 1 0 [some (vI b)] [] S _ _
  refine wp_iload_n dX8_mustBeAllowed_0 rfl ?_
  refine wp_if_ne (tgt := 15) dX8_mustBeAllowed_1 (by decide) (fun z => absurd hb z) (fun _ => ?_)
  exact wp_throw (E := "java/lang/IllegalStateException") (j := 2) (names := ["java/lang/RuntimeException", "java/lang/Exception"]) (ik := 268) (ic := 272) (by decide) rfl (by decide +kernel) (by decide +kernel) (by decide) kl_X8_268 in_java_lang_IllegalStateException rfl (hat_of (by decide +kernel)) dX8_mustBeAllowed_4 dX8_mustBeAllowed_7 dX8_mustBeAllowed_8 dX8_mustBeAllowed_11 dX8_mustBeAllowed_14 rfl (by decide) (by decide) ⟨rfl, rfl⟩
end MU
