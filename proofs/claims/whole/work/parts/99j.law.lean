/-! the law's walk, all commands in -/
section QX1
theorem law_all {N P : Nat} {xs : Nat → Int32} (hP : 7416 ≤ P) (hN : N ≤ 3584) {Q : Option sV → OM → Prop} {QX : String → OM → Prop} (hQ : ∀ S, Q (some (vI 1)) S) :
    WP (mLaw N xs) 60 (59 + (55 + (P + 2 * 512 + 1) + 1) + 1) 0 [some (vR 74 0), none, none, none, none, none, none] [] (cM cm0 0 rho0) Q QX := by
  refine law_main (P := P) (n9 := 59) hN cmd0 cmd1 cmd2 cmd3 cmd4 cmd5 cmd6 cmd7 cmd8 cmd9 cmd10 cmd11 cmd12 cmd13 cmd14 cmd15 cmd16 cmd17 cmd18 cmd19 cmd20 cmd21 cmd22 cmd23 cmd24 cmd25 init8 init9 (fun m' a b c => ?_) hQ
  have h := INV_al a b c INV_S
  refine ⟨h.1, ?_⟩
  rw [h.2, pot_S]
  exact hP
end QX1
