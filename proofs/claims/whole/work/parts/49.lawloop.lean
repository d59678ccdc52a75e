section LL9
variable {N : Nat} {xs : Nat → Int32}
theorem law_cmp {N t : Nat} (hN : N ≤ 4000) (ht : t ≤ 600) : nI N - 7 < nI (7 * t) ↔ N < 7 * t + 7 := by
  rw [Int32.lt_iff_toInt_lt, Int32.toInt_sub, nI_toInt (by omega), nI_toInt (by omega)]
  have e : (7 : Int32).toInt = 7 := by decide
  rw [e, Int.bmod_eq_of_le (by omega) (by omega)]
  omega
theorem nI_k {n : Nat} (k : Nat) : nI n + nI k = nI (n + k) := nI_add n k
/-- work -/
def CMD0 (INV : CM → RH → Prop) (pot : CM → Nat) : Prop := ∀ (m : CM) (rho : RH) (a1 a2 : Int32), INV m rho → ∃ (r : Int32 ⊕ Nat) (m9 : CM) (n9 : Nat) (b : Int32) (rho9 : RH), f8_X8_work 0 a1 a2 m = some (r, m9, n9) ∧ f9_work a1 a2 rho = some (b, rho9) ∧ (∀ j, r = .inr j → j = 0 ∨ j = 1) ∧ AG r (fun x => x.toInt64) (fun j => if j = 0 then 1 else 2) b.toInt64 (rho9 64 0) ∧ INV m9 rho9 ∧ n9 + pot m9 ≤ pot m + 2
/-- step -/
def CMD1 (INV : CM → RH → Prop) (pot : CM → Nat) : Prop := ∀ (m : CM) (rho : RH) (a1 a2 a3 a4 : Int32), INV m rho → (a3 = 0 ∨ a3 = 1) → ∃ (r : Int32 ⊕ Nat) (m9 : CM) (n9 : Nat) (b : Int32) (rho9 : RH), f8_X8_step 0 a1 a2 a3 a4 m = some (r, m9, n9) ∧ f9_step a1 a2 a3 a4 rho = some (b, rho9) ∧ (∀ j, r = .inr j → j = 0 ∨ j = 1 ∨ j = 2) ∧ AG r (fun x => x.toInt64) (fun j => if j = 0 then 1 else if j = 1 then 2 else 3) b.toInt64 (rho9 64 0) ∧ INV m9 rho9 ∧ n9 + pot m9 ≤ pot m + 2
/-- instance -/
def CMD2 (INV : CM → RH → Prop) (pot : CM → Nat) : Prop := ∀ (m : CM) (rho : RH) (a1 a2 a3 a4 a5 a6 : Int32), INV m rho → ∃ (r : Int32 ⊕ Nat) (m9 : CM) (n9 : Nat) (b : Int32) (rho9 : RH), f8_X8_instance 0 a1 a2 a3 a4 a5 a6 m = some (r, m9, n9) ∧ f9_instance a1 a2 a3 a4 a5 a6 rho = some (b, rho9) ∧ (∀ j, r = .inr j → j = 0 ∨ j = 1 ∨ j = 2) ∧ AG r (fun x => x.toInt64) (fun j => if j = 0 then 1 else if j = 1 then 2 else 3) b.toInt64 (rho9 64 0) ∧ INV m9 rho9 ∧ n9 + pot m9 ≤ pot m + 2
/-- fault -/
def CMD3 (INV : CM → RH → Prop) (pot : CM → Nat) : Prop := ∀ (m : CM) (rho : RH) (a1 a2 a3 : Int32), INV m rho → ∃ (r : Int32 ⊕ Nat) (m9 : CM) (n9 : Nat) (b : Int32) (rho9 : RH), f8_X8_fault 0 a1 a2 a3 m = some (r, m9, n9) ∧ f9_fault a1 a2 a3 rho = some (b, rho9) ∧ (∀ j, r = .inr j → j = 0 ∨ j = 1) ∧ AG r (fun x => x.toInt64) (fun j => if j = 0 then 1 else 2) b.toInt64 (rho9 64 0) ∧ INV m9 rho9 ∧ n9 + pot m9 ≤ pot m + 2
/-- policy -/
def CMD4 (INV : CM → RH → Prop) (pot : CM → Nat) : Prop := ∀ (m : CM) (rho : RH) (a1 a2 a3 a4 : Int32), INV m rho → ∃ (r : Int32 ⊕ Nat) (m9 : CM) (n9 : Nat) (b : Int32) (rho9 : RH), f8_X8_policy 0 a1 a2 a3 a4 m = some (r, m9, n9) ∧ f9_policy a1 a2 a3 a4 rho = some (b, rho9) ∧ (∀ j, r = .inr j → j = 0 ∨ j = 1) ∧ AG r (fun x => x.toInt64) (fun j => if j = 0 then 1 else 2) b.toInt64 (rho9 64 0) ∧ INV m9 rho9 ∧ n9 + pot m9 ≤ pot m + 2
/-- share -/
def CMD5 (INV : CM → RH → Prop) (pot : CM → Nat) : Prop := ∀ (m : CM) (rho : RH) (a1 a2 : Int32), INV m rho → ∃ (r : Int32 ⊕ Nat) (m9 : CM) (n9 : Nat) (b : Int32) (rho9 : RH), f8_X8_share 0 a1 a2 m = some (r, m9, n9) ∧ f9_share a1 a2 rho = some (b, rho9) ∧ (∀ j, r = .inr j → j = 0 ∨ j = 1) ∧ AG r (fun x => x.toInt64) (fun j => if j = 0 then 1 else 2) b.toInt64 (rho9 64 0) ∧ INV m9 rho9 ∧ n9 + pot m9 ≤ pot m + 2
/-- eyes -/
def CMD6 (INV : CM → RH → Prop) (pot : CM → Nat) : Prop := ∀ (m : CM) (rho : RH) (a1 : Int32), INV m rho → ∃ (r : Int32 ⊕ Nat) (m9 : CM) (n9 : Nat) (b : Int32) (rho9 : RH), f8_X8_eyes 0 a1 m = some (r, m9, n9) ∧ f9_eyes a1 rho = some (b, rho9) ∧ (∀ j, r = .inr j → j = 1) ∧ AG r (fun x => x.toInt64) (fun j => 1) b.toInt64 (rho9 64 0) ∧ INV m9 rho9 ∧ n9 + pot m9 ≤ pot m + 2
/-- canary -/
def CMD7 (INV : CM → RH → Prop) (pot : CM → Nat) : Prop := ∀ (m : CM) (rho : RH) (a1 a2 : Int32), INV m rho → ∃ (r : Int32 ⊕ Nat) (m9 : CM) (n9 : Nat) (b : Int32) (rho9 : RH), f8_X8_canary 0 a1 a2 m = some (r, m9, n9) ∧ f9_canary a1 a2 rho = some (b, rho9) ∧ (∀ j, r = .inr j → j = 0 ∨ j = 1) ∧ AG r (fun x => x.toInt64) (fun j => if j = 0 then 1 else 2) b.toInt64 (rho9 64 0) ∧ INV m9 rho9 ∧ n9 + pot m9 ≤ pot m + 2
/-- traces -/
def CMD8 (INV : CM → RH → Prop) (pot : CM → Nat) : Prop := ∀ (m : CM) (rho : RH) (a1 a2 : Int32), INV m rho → ∃ (r : Int32 ⊕ Nat) (m9 : CM) (n9 : Nat) (b : Int32) (rho9 : RH), f8_X8_traces 0 a1 a2 m = some (r, m9, n9) ∧ f9_traces a1 a2 rho = some (b, rho9) ∧ (∀ j, r = .inr j → j = 1) ∧ (∀ out : Int64, AG r (fun _ => out) (fun j => 1) out (rho9 64 0)) ∧ INV m9 rho9 ∧ n9 + pot m9 ≤ pot m + 2
/-- request -/
def CMD9 (INV : CM → RH → Prop) (pot : CM → Nat) : Prop := ∀ (m : CM) (rho : RH) (a1 a2 a3 : Int32), INV m rho → (a2 = 0 ∨ a2 = 1) → ∃ (r : Int32 ⊕ Nat) (m9 : CM) (n9 : Nat) (b : Int32) (rho9 : RH), f8_X8_request 0 a1 a2 a3 m = some (r, m9, n9) ∧ f9_request a1 a2 a3 rho = some (b, rho9) ∧ (∀ j, r = .inr j → j = 0 ∨ j = 1 ∨ j = 2) ∧ AG r (fun x => x.toInt64) (fun j => if j = 0 then 1 else if j = 1 then 2 else 3) b.toInt64 (rho9 64 0) ∧ INV m9 rho9 ∧ n9 + pot m9 ≤ pot m + 2
/-- pass -/
def CMD10 (INV : CM → RH → Prop) (pot : CM → Nat) : Prop := ∀ (m : CM) (rho : RH) (a1 : Int32), INV m rho → ∃ (r : Int32 ⊕ Nat) (m9 : CM) (n9 : Nat) (b : Int32) (rho9 : RH), f8_X8_pass 0 a1 m = some (r, m9, n9) ∧ f9_pass a1 rho = some (b, rho9) ∧ (∀ j, r = .inr j → j = 1 ∨ j = 2) ∧ AG r (fun x => x.toInt64) (fun j => if j = 1 then 1 else 2) b.toInt64 (rho9 64 0) ∧ INV m9 rho9 ∧ n9 + pot m9 ≤ pot m + 2
/-- tick -/
def CMD11 (INV : CM → RH → Prop) (pot : CM → Nat) : Prop := ∀ (m : CM) (rho : RH), INV m rho → ∃ (r : Int32) (m9 : CM) (n9 : Nat) (b : Int32) (rho9 : RH), f8_X8_tick 0  m = some (r, m9, n9) ∧ f9_tick  rho = some (b, rho9) ∧ r = b ∧ INV m9 rho9 ∧ n9 + pot m9 ≤ pot m + 2
/-- requestState -/
def CMD12 (INV : CM → RH → Prop) (pot : CM → Nat) : Prop := ∀ (m : CM) (rho : RH) (a1 : Int32), INV m rho → ∃ (r : Int32 ⊕ Nat) (m9 : CM) (n9 : Nat) (b : Int32) (rho9 : RH), f8_X8_requestState 0 a1 m = some (r, m9, n9) ∧ f9_requestState a1 rho = some (b, rho9) ∧ (∀ j, r = .inr j → j = 0) ∧ AG r (fun x => x.toInt64) (fun j => 1) b.toInt64 (rho9 64 0) ∧ INV m9 rho9 ∧ n9 + pot m9 ≤ pot m + 2
/-- requestTicks -/
def CMD13 (INV : CM → RH → Prop) (pot : CM → Nat) : Prop := ∀ (m : CM) (rho : RH) (a1 : Int32), INV m rho → ∃ (r : Int32 ⊕ Nat) (m9 : CM) (n9 : Nat) (b : Int32) (rho9 : RH), f8_X8_requestTicks 0 a1 m = some (r, m9, n9) ∧ f9_requestTicks a1 rho = some (b, rho9) ∧ (∀ j, r = .inr j → j = 0) ∧ AG r (fun x => x.toInt64) (fun j => 1) b.toInt64 (rho9 64 0) ∧ INV m9 rho9 ∧ n9 + pot m9 ≤ pot m + 2
/-- isKept -/
def CMD14 (INV : CM → RH → Prop) (pot : CM → Nat) : Prop := ∀ (m : CM) (rho : RH) (a1 : Int32), INV m rho → ∃ (r : Int32 ⊕ Nat) (m9 : CM) (n9 : Nat) (b : Int32) (rho9 : RH), f8_X8_isKept 0 a1 m = some (r, m9, n9) ∧ f9_isKept a1 rho = some (b, rho9) ∧ (∀ j, r = .inr j → j = 0) ∧ AG r (fun x => if x = 0 then 0 else 1) (fun j => 1) (if b = 0 then 0 else 1) (rho9 64 0) ∧ INV m9 rho9 ∧ n9 + pot m9 ≤ pot m + 2
/-- callsOf -/
def CMD15 (INV : CM → RH → Prop) (pot : CM → Nat) : Prop := ∀ (m : CM) (rho : RH) (a1 : Int32), INV m rho → ∃ (r : Int32 ⊕ Nat) (m9 : CM) (n9 : Nat) (b : Int32) (rho9 : RH), f8_X8_callsOf 0 a1 m = some (r, m9, n9) ∧ f9_callsOf a1 rho = some (b, rho9) ∧ (∀ j, r = .inr j → j = 0) ∧ AG r (fun x => x.toInt64) (fun j => 1) b.toInt64 (rho9 64 0) ∧ INV m9 rho9 ∧ n9 + pot m9 ≤ pot m + 2
/-- calls -/
def CMD16 (INV : CM → RH → Prop) (pot : CM → Nat) : Prop := ∀ (m : CM) (rho : RH), INV m rho → ∃ (r : Int32) (m9 : CM) (n9 : Nat) (b : Int32) (rho9 : RH), f8_X8_calls 0  m = some (r, m9, n9) ∧ f9_calls  rho = some (b, rho9) ∧ r = b ∧ INV m9 rho9 ∧ n9 + pot m9 ≤ pot m + 2
/-- call -/
def CMD17 (INV : CM → RH → Prop) (pot : CM → Nat) : Prop := ∀ (m : CM) (rho : RH) (a1 a2 : Int32), INV m rho → ∃ (r : Int32 ⊕ Nat) (m9 : CM) (n9 : Nat) (b : Int32) (rho9 : RH), f8_X8_call 0 a1 a2 m = some (r, m9, n9) ∧ f9_call a1 a2 rho = some (b, rho9) ∧ (∀ j, r = .inr j → j = 0 ∨ j = 1) ∧ AG r (fun x => x.toInt64) (fun j => if j = 0 then 1 else 2) b.toInt64 (rho9 64 0) ∧ INV m9 rho9 ∧ n9 + pot m9 ≤ pot m + 2
/-- budget -/
def CMD18 (INV : CM → RH → Prop) (pot : CM → Nat) : Prop := ∀ (m : CM) (rho : RH) (a1 : Int32), INV m rho → ∃ (r : Int32 ⊕ Nat) (m9 : CM) (n9 : Nat) (b : Int32) (rho9 : RH), f8_X8_budget 0 a1 m = some (r, m9, n9) ∧ f9_budget a1 rho = some (b, rho9) ∧ (∀ j, r = .inr j → j = 0) ∧ AG r (fun x => x.toInt64) (fun j => 1) b.toInt64 (rho9 64 0) ∧ INV m9 rho9 ∧ n9 + pot m9 ≤ pot m + 2
/-- breaker -/
def CMD19 (INV : CM → RH → Prop) (pot : CM → Nat) : Prop := ∀ (m : CM) (rho : RH) (a1 a2 : Int32), INV m rho → ∃ (r : Int32 ⊕ Nat) (m9 : CM) (n9 : Nat) (b : Int32) (rho9 : RH), f8_X8_breaker 0 a1 a2 m = some (r, m9, n9) ∧ f9_breaker a1 a2 rho = some (b, rho9) ∧ (∀ j, r = .inr j → j = 0) ∧ AG r (fun x => x.toInt64) (fun j => 1) b.toInt64 (rho9 64 0) ∧ INV m9 rho9 ∧ n9 + pot m9 ≤ pot m + 2
/-- isShunned -/
def CMD20 (INV : CM → RH → Prop) (pot : CM → Nat) : Prop := ∀ (m : CM) (rho : RH) (a1 : Int32), INV m rho → ∃ (r : Int32 ⊕ Nat) (m9 : CM) (n9 : Nat) (b : Int32) (rho9 : RH), f8_X8_isShunned 0 a1 m = some (r, m9, n9) ∧ f9_isShunned a1 rho = some (b, rho9) ∧ (∀ j, r = .inr j → j = 0) ∧ AG r (fun x => if x = 0 then 0 else 1) (fun j => 1) (if b = 0 then 0 else 1) (rho9 64 0) ∧ INV m9 rho9 ∧ n9 + pot m9 ≤ pot m + 2
/-- load -/
def CMD21 (INV : CM → RH → Prop) (pot : CM → Nat) : Prop := ∀ (m : CM) (rho : RH) (a1 a2 : Int32), INV m rho → (a2 = 0 ∨ a2 = 1) → ∃ (r : Int32 ⊕ Nat) (m9 : CM) (n9 : Nat) (b : Int32) (rho9 : RH), f8_X8_load 0 a1 a2 m = some (r, m9, n9) ∧ f9_load a1 a2 rho = some (b, rho9) ∧ (∀ j, r = .inr j → j = 0) ∧ AG r (fun x => x.toInt64) (fun j => 1) b.toInt64 (rho9 64 0) ∧ INV m9 rho9 ∧ n9 + pot m9 ≤ pot m + 2
/-- canaryShare -/
def CMD22 (INV : CM → RH → Prop) (pot : CM → Nat) : Prop := ∀ (m : CM) (rho : RH) (a1 : Int32), INV m rho → ∃ (r : Int32 ⊕ Nat) (m9 : CM) (n9 : Nat) (b : Int32) (rho9 : RH), f8_X8_canaryShare 0 a1 m = some (r, m9, n9) ∧ f9_canaryShare a1 rho = some (b, rho9) ∧ (∀ j, r = .inr j → j = 0) ∧ AG r (fun x => x.toInt64) (fun j => 1) b.toInt64 (rho9 64 0) ∧ INV m9 rho9 ∧ n9 + pot m9 ≤ pot m + 2
/-- repairs -/
def CMD23 (INV : CM → RH → Prop) (pot : CM → Nat) : Prop := ∀ (m : CM) (rho : RH) (a1 : Int32), INV m rho → (a1 = 0 ∨ a1 = 1) → ∃ (r : Int32) (m9 : CM) (n9 : Nat) (b : Int32) (rho9 : RH), f8_X8_repairs 0 a1 m = some (r, m9, n9) ∧ f9_repairs a1 rho = some (b, rho9) ∧ r = b ∧ INV m9 rho9 ∧ n9 + pot m9 ≤ pot m + 2
/-- extra -/
def CMD24 (INV : CM → RH → Prop) (pot : CM → Nat) : Prop := ∀ (m : CM) (rho : RH) (a1 : Int32), INV m rho → ∃ (r : Int32 ⊕ Nat) (m9 : CM) (n9 : Nat) (b : Int32) (rho9 : RH), f8_X8_extra 0 a1 m = some (r, m9, n9) ∧ f9_extra a1 rho = some (b, rho9) ∧ (∀ j, r = .inr j → j = 0) ∧ AG r (fun x => x.toInt64) (fun j => 1) b.toInt64 (rho9 64 0) ∧ INV m9 rho9 ∧ n9 + pot m9 ≤ pot m + 2
/-- first -/
def CMD25 (INV : CM → RH → Prop) (pot : CM → Nat) : Prop := ∀ (m : CM) (rho : RH) (a1 : Int32), INV m rho → ∃ (r : Int32 ⊕ Nat) (m9 : CM) (n9 : Nat) (b : Int32) (rho9 : RH), f8_X8_first 0 a1 m = some (r, m9, n9) ∧ f9_first a1 rho = some (b, rho9) ∧ (∀ j, r = .inr j → j = 0) ∧ AG r (fun x => x.toInt64) (fun j => 1) b.toInt64 (rho9 64 0) ∧ INV m9 rho9 ∧ n9 + pot m9 ≤ pot m + 2
theorem WP.gas {mi : MI} {d k k' pc : Nat} {L : List (Option sV)} {st : List sV} {S : OM} {Q : Option sV → OM → Prop} {QX : String → OM → Prop} (hk : k ≤ k') (h : WP mi d k pc L st S Q QX) : WP mi d k' pc L st S Q QX := by
  intro p l e R s m args below meth cc D A lv0 ad0 hC H locs cells slots ls ad hD
  have hb1 := hD.2.2.2.2.2.2.1
  have hb2 := hD.2.2.2.2.2.2.2
  exact h p l e R s m args below meth cc D A lv0 ad0 hC H locs cells slots ls ad ⟨hD.1, hD.2.1, hD.2.2.1, hD.2.2.2.1, hD.2.2.2.2.1, hD.2.2.2.2.2.1, by omega, by omega⟩
/-- the law's loop, from what the commands do -/
theorem law_loop {INV : CM → RH → Prop} {pot : CM → Nat} (hN : N ≤ 3584) (H0 : CMD0 INV pot) (H1 : CMD1 INV pot) (H2 : CMD2 INV pot) (H3 : CMD3 INV pot) (H4 : CMD4 INV pot) (H5 : CMD5 INV pot) (H6 : CMD6 INV pot) (H7 : CMD7 INV pot) (H8 : CMD8 INV pot) (H9 : CMD9 INV pot) (H10 : CMD10 INV pot) (H11 : CMD11 INV pot) (H12 : CMD12 INV pot) (H13 : CMD13 INV pot) (H14 : CMD14 INV pot) (H15 : CMD15 INV pot) (H16 : CMD16 INV pot) (H17 : CMD17 INV pot) (H18 : CMD18 INV pot) (H19 : CMD19 INV pot) (H20 : CMD20 INV pot) (H21 : CMD21 INV pot) (H22 : CMD22 INV pot) (H23 : CMD23 INV pot) (H24 : CMD24 INV pot) (H25 : CMD25 INV pot) {Q : Option sV → OM → Prop} {QX : String → OM → Prop} (hQ : ∀ S, Q (some (vI 1)) S) :
    ∀ (q t : Nat) (m : CM) (rho : RH) (out : Int64) (l5 l6 : Option sV), 7 * t ≤ N + 6 → N ≤ 7 * t + 7 * q + 6 → RA m.2.1 → INV m rho → WP (mLaw N xs) 60 (pot m + 2 * q) 23 [some (vR 74 0), some (vR 8 0), some (vR 9 0), some (vR 70 0), some (vI (nI (7 * t))), l5, l6] [] (cM m out rho) Q QX := by
  intro q
  induction q with
  | zero =>
    intro t m rho out l5 l6 h1 h2 hRA hinv
    refine wp_iload dL_law_23 rfl ?_
    refine wp_aload_n dL_law_25 rfl ?_
    refine wp_slen (N := N) (xs := xs) rfl dL_law_26 ?_
    refine wp_bipush (v := 7) dL_law_27 (by decide) ?_
    refine wp_isub dL_law_29 ?_
    refine wp_icmp_gt (tgt := 1829) dL_law_30 (by decide) (fun _ => ?_) (fun z => absurd ((law_cmp (by omega) (by omega)).mpr (by omega)) z)
    refine wp_iconst (v := 1) dL_law_1829 (by decide) ?_
    exact wp_zreturn rfl (by decide) dL_law_1830 (hQ _)
  | succ q ih =>
    intro t m rho out l5 l6 h1 h2 hRA hinv
    refine wp_iload dL_law_23 rfl ?_
    refine wp_aload_n dL_law_25 rfl ?_
    refine wp_slen (N := N) (xs := xs) rfl dL_law_26 ?_
    refine wp_bipush (v := 7) dL_law_27 (by decide) ?_
    refine wp_isub dL_law_29 ?_
    refine wp_icmp_gt (tgt := 1829) dL_law_30 (by decide) (fun _ => ?_) (fun z => ?_)
    · refine wp_iconst (v := 1) dL_law_1829 (by decide) ?_
      exact wp_zreturn rfl (by decide) dL_law_1830 (hQ _)
    have hlt : 7 * t + 7 ≤ N := by
      apply Nat.le_of_not_lt
      intro z9
      exact z ((law_cmp (by omega) (by omega)).mpr z9)
    have hb : ∀ k, k ≤ 6 → vp_in (nI (7 * t) + nI k) N := fun k hk => by
      rw [nI_k]
      exact vp_in_nI (by omega) (by omega)
    have back : ∀ (m9 : CM) (rho9 : RH) (out' : Int64) (l5 l6 : Option sV), RA m9.2.1 → INV m9 rho9 → WP (mLaw N xs) 60 (pot m9 + 2 * q) 1823 [some (vR 74 0), some (vR 8 0), some (vR 9 0), some (vR 70 0), some (vI (nI (7 * t))), l5, l6] [] (cM m9 out' rho9) Q QX := fun m9 rho9 out' l5 l6 hRA9 hI9 => by
      have e : nI (7 * t) + Int32.ofInt 7 = nI (7 * (t + 1)) := by
        rw [show (Int32.ofInt 7 : Int32) = nI 7 by decide, nI_k, Nat.mul_add]
      refine wp_iinc (v := nI (7 * (t + 1))) (L' := [some (vR 74 0), some (vR 8 0), some (vR 9 0), some (vR 70 0), some (vI (nI (7 * (t + 1)))), l5, l6]) dL_law_1823 rfl e rfl ?_
      refine wp_goto (tgt := 23) dL_law_1826 (by decide) ?_
      exact ih (t + 1) m9 rho9 out' l5 l6 (by omega) (by omega) hRA9 hI9
    refine wp_aload_n dL_law_33 rfl ?_
    refine wp_iload dL_law_34 rfl ?_
    refine cp_sld (N := N) (xs := xs) rfl (vp_in_nI (by omega) (by omega)) dL_law_36 ?_
    refine wp_bipush (v := 31) dL_law_37 (by decide) ?_
    refine wp_iand dL_law_39 ?_
    by_cases c0 : xs (nI (7 * t)).toNatClampNeg &&& 31 = nI 0
    · refine wp_tabAt (tgt := 160) c0 dL_law_40 (by decide) (by decide) rfl (by decide) ?_
      obtain ⟨r, m9, n9, b, rho9, h8, h9, hr, hag, hI, hg⟩ := H0 m rho (xs (nI (7 * t) + 1).toNatClampNeg) (xs (nI (7 * t) + 2).toNatClampNeg) hinv
      have hF : FR m m9 := (fr8_X8_work _ _ _ h8)
      refine WP.gas (k := n9 + (pot m9 + 2 * q)) (by omega) (law_c0 (i := nI (7 * t)) hr h8 h9 hag (hb 1 (by omega)) (hb 2 (by omega)) hRA hF (fun out' l5 l6 => back m9 rho9 out' l5 l6 (RA_fr hRA hF) hI))
    by_cases c1 : xs (nI (7 * t)).toNatClampNeg &&& 31 = nI 1
    · refine wp_tabAt (tgt := 228) c1 dL_law_40 (by decide) (by decide) rfl (by decide) ?_
      obtain ⟨r, m9, n9, b, rho9, h8, h9, hr, hag, hI, hg⟩ := H1 m rho (xs (nI (7 * t) + 1).toNatClampNeg) (xs (nI (7 * t) + 2).toNatClampNeg) (if xs (nI (7 * t) + 3).toNatClampNeg = 0 then 0 else 1) (xs (nI (7 * t) + 4).toNatClampNeg) hinv (by split <;> simp)
      have hF : FR m m9 := (fr8_X8_step _ _ _ h8)
      refine WP.gas (k := n9 + (pot m9 + 2 * q)) (by omega) (law_c1 (i := nI (7 * t)) hr h8 h9 hag (hb 1 (by omega)) (hb 2 (by omega)) (hb 3 (by omega)) (hb 4 (by omega)) hRA hF (fun out' l5 l6 => back m9 rho9 out' l5 l6 (RA_fr hRA hF) hI))
    by_cases c2 : xs (nI (7 * t)).toNatClampNeg &&& 31 = nI 2
    · refine wp_tabAt (tgt := 336) c2 dL_law_40 (by decide) (by decide) rfl (by decide) ?_
      obtain ⟨r, m9, n9, b, rho9, h8, h9, hr, hag, hI, hg⟩ := H2 m rho (xs (nI (7 * t) + 1).toNatClampNeg) (xs (nI (7 * t) + 2).toNatClampNeg) (xs (nI (7 * t) + 3).toNatClampNeg) (xs (nI (7 * t) + 4).toNatClampNeg) (xs (nI (7 * t) + 5).toNatClampNeg) (xs (nI (7 * t) + 6).toNatClampNeg) hinv
      have hF : FR m m9 := (fr8_X8_instance _ _ _ h8)
      refine WP.gas (k := n9 + (pot m9 + 2 * q)) (by omega) (law_c2 (i := nI (7 * t)) hr h8 h9 hag (hb 1 (by omega)) (hb 2 (by omega)) (hb 3 (by omega)) (hb 4 (by omega)) (hb 5 (by omega)) (hb 6 (by omega)) hRA hF (fun out' l5 l6 => back m9 rho9 out' l5 l6 (RA_fr hRA hF) hI))
    by_cases c3 : xs (nI (7 * t)).toNatClampNeg &&& 31 = nI 3
    · refine wp_tabAt (tgt := 454) c3 dL_law_40 (by decide) (by decide) rfl (by decide) ?_
      obtain ⟨r, m9, n9, b, rho9, h8, h9, hr, hag, hI, hg⟩ := H3 m rho (xs (nI (7 * t) + 1).toNatClampNeg) (xs (nI (7 * t) + 2).toNatClampNeg) (xs (nI (7 * t) + 3).toNatClampNeg) hinv
      have hF : FR m m9 := (fr8_X8_fault _ _ _ h8)
      refine WP.gas (k := n9 + (pot m9 + 2 * q)) (by omega) (law_c3 (i := nI (7 * t)) hr h8 h9 hag (hb 1 (by omega)) (hb 2 (by omega)) (hb 3 (by omega)) hRA hF (fun out' l5 l6 => back m9 rho9 out' l5 l6 (RA_fr hRA hF) hI))
    by_cases c4 : xs (nI (7 * t)).toNatClampNeg &&& 31 = nI 4
    · refine wp_tabAt (tgt := 534) c4 dL_law_40 (by decide) (by decide) rfl (by decide) ?_
      obtain ⟨r, m9, n9, b, rho9, h8, h9, hr, hag, hI, hg⟩ := H4 m rho (xs (nI (7 * t) + 1).toNatClampNeg) (xs (nI (7 * t) + 2).toNatClampNeg) (xs (nI (7 * t) + 3).toNatClampNeg) (xs (nI (7 * t) + 4).toNatClampNeg) hinv
      have hF : FR m m9 := (fr8_X8_policy _ _ _ h8)
      refine WP.gas (k := n9 + (pot m9 + 2 * q)) (by omega) (law_c4 (i := nI (7 * t)) hr h8 h9 hag (hb 1 (by omega)) (hb 2 (by omega)) (hb 3 (by omega)) (hb 4 (by omega)) hRA hF (fun out' l5 l6 => back m9 rho9 out' l5 l6 (RA_fr hRA hF) hI))
    by_cases c5 : xs (nI (7 * t)).toNatClampNeg &&& 31 = nI 5
    · refine wp_tabAt (tgt := 626) c5 dL_law_40 (by decide) (by decide) rfl (by decide) ?_
      obtain ⟨r, m9, n9, b, rho9, h8, h9, hr, hag, hI, hg⟩ := H5 m rho (xs (nI (7 * t) + 1).toNatClampNeg) (xs (nI (7 * t) + 2).toNatClampNeg) hinv
      have hF : FR m m9 := (fr8_X8_share _ _ _ h8)
      refine WP.gas (k := n9 + (pot m9 + 2 * q)) (by omega) (law_c5 (i := nI (7 * t)) hr h8 h9 hag (hb 1 (by omega)) (hb 2 (by omega)) hRA hF (fun out' l5 l6 => back m9 rho9 out' l5 l6 (RA_fr hRA hF) hI))
    by_cases c6 : xs (nI (7 * t)).toNatClampNeg &&& 31 = nI 6
    · refine wp_tabAt (tgt := 694) c6 dL_law_40 (by decide) (by decide) rfl (by decide) ?_
      obtain ⟨r, m9, n9, b, rho9, h8, h9, hr, hag, hI, hg⟩ := H6 m rho (xs (nI (7 * t) + 1).toNatClampNeg) hinv
      have hF : FR m m9 := (fr8_X8_eyes _ _ _ h8)
      refine WP.gas (k := n9 + (pot m9 + 2 * q)) (by omega) (law_c6 (i := nI (7 * t)) hr h8 h9 hag (hb 1 (by omega)) hRA hF (fun out' l5 l6 => back m9 rho9 out' l5 l6 (RA_fr hRA hF) hI))
    by_cases c7 : xs (nI (7 * t)).toNatClampNeg &&& 31 = nI 7
    · refine wp_tabAt (tgt := 750) c7 dL_law_40 (by decide) (by decide) rfl (by decide) ?_
      obtain ⟨r, m9, n9, b, rho9, h8, h9, hr, hag, hI, hg⟩ := H7 m rho (xs (nI (7 * t) + 1).toNatClampNeg) (xs (nI (7 * t) + 2).toNatClampNeg) hinv
      have hF : FR m m9 := (fr8_X8_canary _ _ _ h8)
      refine WP.gas (k := n9 + (pot m9 + 2 * q)) (by omega) (law_c7 (i := nI (7 * t)) hr h8 h9 hag (hb 1 (by omega)) (hb 2 (by omega)) hRA hF (fun out' l5 l6 => back m9 rho9 out' l5 l6 (RA_fr hRA hF) hI))
    by_cases c8 : xs (nI (7 * t)).toNatClampNeg &&& 31 = nI 8
    · refine wp_tabAt (tgt := 818) c8 dL_law_40 (by decide) (by decide) rfl (by decide) ?_
      obtain ⟨r, m9, n9, b, rho9, h8, h9, hr, hag, hI, hg⟩ := H8 m rho (xs (nI (7 * t) + 1).toNatClampNeg) (xs (nI (7 * t) + 2).toNatClampNeg) hinv
      have hF : FR m m9 := (fr8_X8_traces _ _ _ h8)
      refine WP.gas (k := n9 + (pot m9 + 2 * q)) (by omega) (law_c8 (i := nI (7 * t)) hr h8 h9 (hag _) (hb 1 (by omega)) (hb 2 (by omega)) hRA hF (fun out' l5 l6 => back m9 rho9 out' l5 l6 (RA_fr hRA hF) hI))
    by_cases c9 : xs (nI (7 * t)).toNatClampNeg &&& 31 = nI 9
    · refine wp_tabAt (tgt := 866) c9 dL_law_40 (by decide) (by decide) rfl (by decide) ?_
      obtain ⟨r, m9, n9, b, rho9, h8, h9, hr, hag, hI, hg⟩ := H9 m rho (xs (nI (7 * t) + 1).toNatClampNeg) (if xs (nI (7 * t) + 2).toNatClampNeg = 0 then 0 else 1) (xs (nI (7 * t) + 3).toNatClampNeg) hinv (by split <;> simp)
      have hF : FR m m9 := (fr8_X8_request _ _ _ h8)
      refine WP.gas (k := n9 + (pot m9 + 2 * q)) (by omega) (law_c9 (i := nI (7 * t)) hr h8 h9 hag (hb 1 (by omega)) (hb 2 (by omega)) (hb 3 (by omega)) hRA hF (fun out' l5 l6 => back m9 rho9 out' l5 l6 (RA_fr hRA hF) hI))
    by_cases c10 : xs (nI (7 * t)).toNatClampNeg &&& 31 = nI 10
    · refine wp_tabAt (tgt := 962) c10 dL_law_40 (by decide) (by decide) rfl (by decide) ?_
      obtain ⟨r, m9, n9, b, rho9, h8, h9, hr, hag, hI, hg⟩ := H10 m rho (xs (nI (7 * t) + 1).toNatClampNeg) hinv
      have hF : FR m m9 := (fr8_X8_pass _ _ _ h8)
      refine WP.gas (k := n9 + (pot m9 + 2 * q)) (by omega) (law_c10 (i := nI (7 * t)) hr h8 h9 hag (hb 1 (by omega)) hRA hF (fun out' l5 l6 => back m9 rho9 out' l5 l6 (RA_fr hRA hF) hI))
    by_cases c11 : xs (nI (7 * t)).toNatClampNeg &&& 31 = nI 11
    · refine wp_tabAt (tgt := 1018) c11 dL_law_40 (by decide) (by decide) rfl (by decide) ?_
      obtain ⟨r, m9, n9, b, rho9, h8, h9, hag, hI, hg⟩ := H11 m rho  hinv
      have hF : FR m m9 := (fr8_X8_tick _ _ _ h8)
      refine WP.gas (k := n9 + (pot m9 + 2 * q)) (by omega) (law_c11 (i := nI (7 * t)) h8 h9 hag  hRA hF (fun out' l5 l6 => back m9 rho9 out' l5 l6 (RA_fr hRA hF) hI))
    by_cases c12 : xs (nI (7 * t)).toNatClampNeg &&& 31 = nI 12
    · refine wp_tabAt (tgt := 1031) c12 dL_law_40 (by decide) (by decide) rfl (by decide) ?_
      obtain ⟨r, m9, n9, b, rho9, h8, h9, hr, hag, hI, hg⟩ := H12 m rho (xs (nI (7 * t) + 1).toNatClampNeg) hinv
      have hF : FR m m9 := (fr8_X8_requestState _ _ _ h8)
      refine WP.gas (k := n9 + (pot m9 + 2 * q)) (by omega) (law_c12 (i := nI (7 * t)) hr h8 h9 hag (hb 1 (by omega)) hRA hF (fun out' l5 l6 => back m9 rho9 out' l5 l6 (RA_fr hRA hF) hI))
    by_cases c13 : xs (nI (7 * t)).toNatClampNeg &&& 31 = nI 13
    · refine wp_tabAt (tgt := 1087) c13 dL_law_40 (by decide) (by decide) rfl (by decide) ?_
      obtain ⟨r, m9, n9, b, rho9, h8, h9, hr, hag, hI, hg⟩ := H13 m rho (xs (nI (7 * t) + 1).toNatClampNeg) hinv
      have hF : FR m m9 := (fr8_X8_requestTicks _ _ _ h8)
      refine WP.gas (k := n9 + (pot m9 + 2 * q)) (by omega) (law_c13 (i := nI (7 * t)) hr h8 h9 hag (hb 1 (by omega)) hRA hF (fun out' l5 l6 => back m9 rho9 out' l5 l6 (RA_fr hRA hF) hI))
    by_cases c14 : xs (nI (7 * t)).toNatClampNeg &&& 31 = nI 14
    · refine wp_tabAt (tgt := 1143) c14 dL_law_40 (by decide) (by decide) rfl (by decide) ?_
      obtain ⟨r, m9, n9, b, rho9, h8, h9, hr, hag, hI, hg⟩ := H14 m rho (xs (nI (7 * t) + 1).toNatClampNeg) hinv
      have hF : FR m m9 := (fr8_X8_isKept _ _ _ h8)
      refine WP.gas (k := n9 + (pot m9 + 2 * q)) (by omega) (law_c14 (i := nI (7 * t)) hr h8 h9 hag (hb 1 (by omega)) hRA hF (fun out' l5 l6 => back m9 rho9 out' l5 l6 (RA_fr hRA hF) hI))
    by_cases c15 : xs (nI (7 * t)).toNatClampNeg &&& 31 = nI 15
    · refine wp_tabAt (tgt := 1206) c15 dL_law_40 (by decide) (by decide) rfl (by decide) ?_
      obtain ⟨r, m9, n9, b, rho9, h8, h9, hr, hag, hI, hg⟩ := H15 m rho (xs (nI (7 * t) + 1).toNatClampNeg) hinv
      have hF : FR m m9 := (fr8_X8_callsOf _ _ _ h8)
      refine WP.gas (k := n9 + (pot m9 + 2 * q)) (by omega) (law_c15 (i := nI (7 * t)) hr h8 h9 hag (hb 1 (by omega)) hRA hF (fun out' l5 l6 => back m9 rho9 out' l5 l6 (RA_fr hRA hF) hI))
    by_cases c16 : xs (nI (7 * t)).toNatClampNeg &&& 31 = nI 16
    · refine wp_tabAt (tgt := 1262) c16 dL_law_40 (by decide) (by decide) rfl (by decide) ?_
      obtain ⟨r, m9, n9, b, rho9, h8, h9, hag, hI, hg⟩ := H16 m rho  hinv
      have hF : FR m m9 := (fr8_X8_calls _ _ _ h8)
      refine WP.gas (k := n9 + (pot m9 + 2 * q)) (by omega) (law_c16 (i := nI (7 * t)) h8 h9 hag  hRA hF (fun out' l5 l6 => back m9 rho9 out' l5 l6 (RA_fr hRA hF) hI))
    by_cases c17 : xs (nI (7 * t)).toNatClampNeg &&& 31 = nI 17
    · refine wp_tabAt (tgt := 1275) c17 dL_law_40 (by decide) (by decide) rfl (by decide) ?_
      obtain ⟨r, m9, n9, b, rho9, h8, h9, hr, hag, hI, hg⟩ := H17 m rho (xs (nI (7 * t) + 1).toNatClampNeg) (xs (nI (7 * t) + 2).toNatClampNeg) hinv
      have hF : FR m m9 := (fr8_X8_call _ _ _ h8)
      refine WP.gas (k := n9 + (pot m9 + 2 * q)) (by omega) (law_c17 (i := nI (7 * t)) hr h8 h9 hag (hb 1 (by omega)) (hb 2 (by omega)) hRA hF (fun out' l5 l6 => back m9 rho9 out' l5 l6 (RA_fr hRA hF) hI))
    by_cases c18 : xs (nI (7 * t)).toNatClampNeg &&& 31 = nI 18
    · refine wp_tabAt (tgt := 1343) c18 dL_law_40 (by decide) (by decide) rfl (by decide) ?_
      obtain ⟨r, m9, n9, b, rho9, h8, h9, hr, hag, hI, hg⟩ := H18 m rho (xs (nI (7 * t) + 1).toNatClampNeg) hinv
      have hF : FR m m9 := (fr8_X8_budget _ _ _ h8)
      refine WP.gas (k := n9 + (pot m9 + 2 * q)) (by omega) (law_c18 (i := nI (7 * t)) hr h8 h9 hag (hb 1 (by omega)) hRA hF (fun out' l5 l6 => back m9 rho9 out' l5 l6 (RA_fr hRA hF) hI))
    by_cases c19 : xs (nI (7 * t)).toNatClampNeg &&& 31 = nI 19
    · refine wp_tabAt (tgt := 1399) c19 dL_law_40 (by decide) (by decide) rfl (by decide) ?_
      obtain ⟨r, m9, n9, b, rho9, h8, h9, hr, hag, hI, hg⟩ := H19 m rho (xs (nI (7 * t) + 1).toNatClampNeg) (xs (nI (7 * t) + 2).toNatClampNeg) hinv
      have hF : FR m m9 := (fr8_X8_breaker _ _ _ h8)
      refine WP.gas (k := n9 + (pot m9 + 2 * q)) (by omega) (law_c19 (i := nI (7 * t)) hr h8 h9 hag (hb 1 (by omega)) (hb 2 (by omega)) hRA hF (fun out' l5 l6 => back m9 rho9 out' l5 l6 (RA_fr hRA hF) hI))
    by_cases c20 : xs (nI (7 * t)).toNatClampNeg &&& 31 = nI 20
    · refine wp_tabAt (tgt := 1467) c20 dL_law_40 (by decide) (by decide) rfl (by decide) ?_
      obtain ⟨r, m9, n9, b, rho9, h8, h9, hr, hag, hI, hg⟩ := H20 m rho (xs (nI (7 * t) + 1).toNatClampNeg) hinv
      have hF : FR m m9 := (fr8_X8_isShunned _ _ _ h8)
      refine WP.gas (k := n9 + (pot m9 + 2 * q)) (by omega) (law_c20 (i := nI (7 * t)) hr h8 h9 hag (hb 1 (by omega)) hRA hF (fun out' l5 l6 => back m9 rho9 out' l5 l6 (RA_fr hRA hF) hI))
    by_cases c21 : xs (nI (7 * t)).toNatClampNeg &&& 31 = nI 21
    · refine wp_tabAt (tgt := 1530) c21 dL_law_40 (by decide) (by decide) rfl (by decide) ?_
      obtain ⟨r, m9, n9, b, rho9, h8, h9, hr, hag, hI, hg⟩ := H21 m rho (xs (nI (7 * t) + 1).toNatClampNeg) (if xs (nI (7 * t) + 2).toNatClampNeg = 0 then 0 else 1) hinv (by split <;> simp)
      have hF : FR m m9 := (fr8_X8_load _ _ _ h8)
      refine WP.gas (k := n9 + (pot m9 + 2 * q)) (by omega) (law_c21 (i := nI (7 * t)) hr h8 h9 hag (hb 1 (by omega)) (hb 2 (by omega)) hRA hF (fun out' l5 l6 => back m9 rho9 out' l5 l6 (RA_fr hRA hF) hI))
    by_cases c22 : xs (nI (7 * t)).toNatClampNeg &&& 31 = nI 22
    · refine wp_tabAt (tgt := 1614) c22 dL_law_40 (by decide) (by decide) rfl (by decide) ?_
      obtain ⟨r, m9, n9, b, rho9, h8, h9, hr, hag, hI, hg⟩ := H22 m rho (xs (nI (7 * t) + 1).toNatClampNeg) hinv
      have hF : FR m m9 := (fr8_X8_canaryShare _ _ _ h8)
      refine WP.gas (k := n9 + (pot m9 + 2 * q)) (by omega) (law_c22 (i := nI (7 * t)) hr h8 h9 hag (hb 1 (by omega)) hRA hF (fun out' l5 l6 => back m9 rho9 out' l5 l6 (RA_fr hRA hF) hI))
    by_cases c23 : xs (nI (7 * t)).toNatClampNeg &&& 31 = nI 23
    · refine wp_tabAt (tgt := 1670) c23 dL_law_40 (by decide) (by decide) rfl (by decide) ?_
      obtain ⟨r, m9, n9, b, rho9, h8, h9, hag, hI, hg⟩ := H23 m rho (if xs (nI (7 * t) + 1).toNatClampNeg = 0 then 0 else 1) hinv (by split <;> simp)
      have hF : FR m m9 := (fr8_X8_repairs _ _ _ h8)
      refine WP.gas (k := n9 + (pot m9 + 2 * q)) (by omega) (law_c23 (i := nI (7 * t)) h8 h9 hag (hb 1 (by omega)) hRA hF (fun out' l5 l6 => back m9 rho9 out' l5 l6 (RA_fr hRA hF) hI))
    by_cases c24 : xs (nI (7 * t)).toNatClampNeg &&& 31 = nI 24
    · refine wp_tabAt (tgt := 1711) c24 dL_law_40 (by decide) (by decide) rfl (by decide) ?_
      obtain ⟨r, m9, n9, b, rho9, h8, h9, hr, hag, hI, hg⟩ := H24 m rho (xs (nI (7 * t) + 1).toNatClampNeg) hinv
      have hF : FR m m9 := (fr8_X8_extra _ _ _ h8)
      refine WP.gas (k := n9 + (pot m9 + 2 * q)) (by omega) (law_c24 (i := nI (7 * t)) hr h8 h9 hag (hb 1 (by omega)) hRA hF (fun out' l5 l6 => back m9 rho9 out' l5 l6 (RA_fr hRA hF) hI))
    by_cases c25 : xs (nI (7 * t)).toNatClampNeg &&& 31 = nI 25
    · refine wp_tabAt (tgt := 1767) c25 dL_law_40 (by decide) (by decide) rfl (by decide) ?_
      obtain ⟨r, m9, n9, b, rho9, h8, h9, hr, hag, hI, hg⟩ := H25 m rho (xs (nI (7 * t) + 1).toNatClampNeg) hinv
      have hF : FR m m9 := (fr8_X8_first _ _ _ h8)
      refine WP.gas (k := n9 + (pot m9 + 2 * q)) (by omega) (law_c25 (i := nI (7 * t)) hr h8 h9 hag (hb 1 (by omega)) hRA hF (fun out' l5 l6 => back m9 rho9 out' l5 l6 (RA_fr hRA hF) hI))
    refine wp_tableOut (tgt := 1823) dL_law_40 (tab_out (n := 26) (by decide) (fun i hi => ?_)) (by decide) ?_
    · have : i = 0 ∨ i = 1 ∨ i = 2 ∨ i = 3 ∨ i = 4 ∨ i = 5 ∨ i = 6 ∨ i = 7 ∨ i = 8 ∨ i = 9 ∨ i = 10 ∨ i = 11 ∨ i = 12 ∨ i = 13 ∨ i = 14 ∨ i = 15 ∨ i = 16 ∨ i = 17 ∨ i = 18 ∨ i = 19 ∨ i = 20 ∨ i = 21 ∨ i = 22 ∨ i = 23 ∨ i = 24 ∨ i = 25 := by omega
      rcases this with rfl | rfl | rfl | rfl | rfl | rfl | rfl | rfl | rfl | rfl | rfl | rfl | rfl | rfl | rfl | rfl | rfl | rfl | rfl | rfl | rfl | rfl | rfl | rfl | rfl | rfl
      all_goals assumption
    · exact WP.gas (by omega) (back m rho out l5 l6 hRA hinv)
end LL9
