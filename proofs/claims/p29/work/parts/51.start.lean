/-! the memories at the start -/
section P9
def cm0 : CM := (fun _ _ => false, fun _ _ => none, fun _ _ => 0, fun _ _ _ => 0, fun _ _ _ => none, fun _ _ => [])
def rho0 : RH := fun _ _ => 0
def rhoI : RH := up2 (up2 (up2 rho0 20 0 3) 29 0 4) 30 0 30
def fill (rho : RH) (y a b : Nat) (v : Int32) : RH := fun y' j => if y' = y ∧ a ≤ j ∧ j < b then v else rho y' j
def rhoS : RH := fill (fill (fill (fill rhoI 15 0 147 (-1)) 1 0 6 1) 16 0 7 10) 17 0 7 1000
theorem vq_nI {k n : Nat} (h : k < n) (hn : n < 2 ^ 31) : vq (nI k) n := vp_in_nI h hn
end P9
