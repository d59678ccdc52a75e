/-! the class's memory against the reference's ints -/
section PI
def iC (rho : RH) : Nat := nv (rho 31 0)
def iI (rho : RH) : Nat := nv (rho 6 0)
def iR (rho : RH) : Nat := nv (rho 51 0)
def iP (rho : RH) : Nat := nv (rho 59 0)
def iO (rho : RH) (k : Nat) : Nat := nv (rho 32 k)
def iN (rho : RH) (k : Nat) : Nat := nv (rho 33 k)
def iS (rho : RH) (k : Nat) : Nat := nv (rho 34 k)
def iX (rho : RH) (k : Nat) : Nat := nv (rho 36 k)
def sid (rho : RH) (k : Nat) : Nat := 4 * iO rho k + iN rho k
/-- how many steps an owner has begun -/
def sc (rho : RH) (o : Nat) : Nat := nv (rho 46 o + 1)
/-- an owner that is there: a call, 400 and a request, 440 and a repair -/
def OE (rho : RH) (o : Nat) : Prop := o < iC rho ∨ (400 ≤ o ∧ o < 400 + iR rho) ∨ (440 ≤ o ∧ o < 440 + iP rho)
def goB (rho : RH) (o : Nat) : Bool := if o < 400 then decide (rho 37 o = 2) else if o < 440 then decide (rho 56 (o - 400) = 8) else decide (rho 63 (o - 440) = 0)
def Go (rho : RH) (o : Nat) : Prop := goB rho o = true
/-- what a step is, by its owner and its place -/
def cal (rho : RH) (o : Nat) : Int32 := if o < 400 then rho 34 o else if o < 440 then 6 else rho 61 (o - 440)
def cld (rho : RH) (o n : Nat) : Int32 := if o < 400 then rho 3 (4 * iS rho o + n) else if o < 440 then rho 52 (o - 400) else rho 62 (o - 440)
def saf (rho : RH) (o n : Nat) : Int32 := if o < 400 then rho 4 (4 * iS rho o + n) else if o < 440 then rho 53 (o - 400) else 0
def und (rho : RH) (o n : Nat) : Int32 := if o < 400 then rho 5 (4 * iS rho o + n) else -1
def zon (rho : RH) (o : Nat) : Int32 := if o < 400 then rho 8 (iX rho o) else 0
def dlo (rho : RH) (o : Nat) : Int32 := if o < 400 then rho 38 o else if o < 440 then rho 54 (o - 400) else 1000000
def rqo (rho : RH) (o : Nat) : Int32 := if o < 400 then rho 40 o else if o < 440 then nI (o - 400) else -1
def rpo (o : Nat) : Int32 := if o < 440 then -1 else nI (o - 440)
def owr (o : Nat) : Option Nat := if o < 400 then some o else none
/-- the calls that are tries of a step -/
def TR (rho : RH) (o n : Nat) : List Nat := (List.range (iC rho)).filter fun k => decide (iO rho k = o ∧ iN rho k = n)
def A0 (m : CM) : Prop := gR m 1028 0 = some 0 ∧ gR m 1029 0 = some 0 ∧ gR m 1030 0 = some 0 ∧ gR m 1031 0 = some 0 ∧ gR m 1032 0 = some 0 ∧ gR m 1033 0 = some 0 ∧ gR m 1034 0 = some 0 ∧
  (∀ p, p < 3 → gO m 40 0 p = some p) ∧ (∀ c, c < 7 → gO m 42 0 c = some c) ∧
  ∀ s, s < 6 → gO m 41 0 s = some s ∧ gR m 770 s = some s ∧ gR m 771 s = some s ∧ gR m 772 s = some s ∧ gR m 773 s = some s ∧ gR m 386 s = some s ∧ gR m 387 s = some s
def AGl (m : CM) (rho : RH) : Prop := gI m 1024 0 = rho 0 0 ∧ gI m 1025 0 = rho 20 0 ∧ gI m 1026 0 = rho 29 0 ∧ gI m 1027 0 = rho 30 0
def AP (m : CM) (rho : RH) : Prop := ∀ p, p < 3 → gA m 37 p 0 = rho 15 (3 * 48 + p) ∧ (∀ s, s < 6 → gA m 37 p (1 + s) = rho 15 (3 * (42 + s) + p)) ∧ ∀ c, c < 7 → ∀ s, s < 6 → gA m 37 p (7 + c * 6 + s) = rho 15 (3 * (6 * c + s) + p)
def AS (m : CM) (rho : RH) : Prop := ∀ s, s < 6 → gI m 768 s = rho 1 s ∧ gI m 769 s = rho 2 s ∧ gI m 384 s = rho 25 s ∧ gI m 385 s = rho 26 s ∧
  (∀ v, v < 2 → gA m 35 s v = rho 27 (2 * s + v) ∧ gA m 36 s v = rho 28 (2 * s + v)) ∧ ∀ n, n < 4 → gA m 32 s n = rho 3 (4 * s + n) ∧ gA m 34 s n = rho 4 (4 * s + n) ∧ gA m 33 s n = rho 5 (4 * s + n)
def AC (m : CM) (rho : RH) : Prop := ∀ c, c < 7 → gI m 256 c = rho 17 c ∧ gI m 257 c = rho 16 c ∧ gI m 258 c = rho 18 c ∧ gI m 259 c = rho 19 c
def AI (m : CM) (rho : RH) : Prop := ∀ i, i < iI rho → gR m 519 i = some i ∧ gR m 520 i = some i ∧ gR m 521 i = some i ∧ gR m 522 i = some i ∧
  gI m 512 i = nI i ∧ gI m 513 i = rho 7 i ∧ gI m 514 i = rho 8 i ∧ gI m 515 i = rho 9 i ∧ gI m 516 i = rho 10 i ∧ gI m 517 i = rho 11 i ∧ gI m 518 i = rho 12 i ∧ gI m 524 i = rho 14 i ∧
  (∀ w, w < 4 → gA m 30 i w = rho 13 (4 * i + w)) ∧
  ∀ c, c < 7 → gO m 43 i c = some (7 * i + c) ∧ gA m 31 i c = rho 24 (12 * c + i) ∧ gI m 0 (7 * i + c) = rho 21 (12 * c + i) ∧ gI m 1 (7 * i + c) = rho 22 (12 * c + i) ∧ gI m 2 (7 * i + c) = rho 23 (12 * c + i)
/-- slots that are taken, and the queue -/
def AQ (m : CM) (rho : RH) : Prop := ∀ i, i < iI rho → gI m 523 i = nI ((List.range (iC rho)).filter fun k => decide (iX rho k = i ∧ (rho 37 k = 1 ∨ rho 37 k = 2))).length ∧
  gL m 54 i = (List.range (iC rho)).filter fun k => decide (iX rho k = i ∧ rho 37 k = 0)
def AR (m : CM) (rho : RH) : Prop := ∀ r, r < iR rho → gR m 640 r = some (4 * (400 + r)) ∧ gI m 641 r = rho 55 r ∧ gI m 642 r = rho 56 r ∧ (rho 56 r ≠ 8 → gI m 643 r = rho 57 r ∧ gI m 644 r = rho 58 r ∧ (rho 58 r = 0 ∨ rho 58 r = 1))
def AL (m : CM) (rho : RH) : Prop := gL m 50 0 = List.range (iI rho) ∧ gL m 51 0 = List.range (iR rho) ∧ gL m 52 0 = List.range (iC rho) ∧ gL m 53 0 = (List.range (iP rho)).map fun p => 4 * (440 + p)
/-- calls: what they are -/
def AK (m : CM) (rho : RH) : Prop := ∀ k, k < iC rho → gI m 128 k = nI k ∧ gR m 129 k = some (sid rho k) ∧ gR m 130 k = some (iX rho k) ∧ gI m 131 k = rho 38 k ∧ gR m 132 k = some k ∧
  gL m 56 k = (List.range (sc rho k)).map (fun n => 4 * k + n)
/-- calls: how they stand -/
def AW (m : CM) (rho : RH) : Prop := ∀ k, k < iC rho → gI m 133 k = rho 37 k ∧ (rho 37 k = 1 → gI m 134 k = rho 39 k) ∧ gI m 137 k = rho 43 k ∧
  (rho 37 k ≤ 2 ∨ rho 37 k = 7 → gI m 136 k = 1000000) ∧
  (¬ rho 37 k ≤ 2 → rho 37 k ≠ 7 → (rho 42 k = 0 → gI m 135 k = rho 37 k ∧ ∃ t, t ≤ nv (rho 0 0) ∧ gI m 136 k = nI t) ∧ (rho 42 k ≠ 0 → gI m 135 k = 5 ∧ gI m 136 k = rho 38 k))
/-- steps: what they are -/
def AT (m : CM) (rho : RH) : Prop := ∀ o n, OE rho o → n < sc rho o → gI m 896 (4 * o + n) = cal rho o ∧ gI m 897 (4 * o + n) = cld rho o n ∧ gI m 898 (4 * o + n) = saf rho o n ∧ gI m 899 (4 * o + n) = und rho o n ∧
  gI m 900 (4 * o + n) = zon rho o ∧ gI m 901 (4 * o + n) = dlo rho o ∧ gI m 902 (4 * o + n) = rqo rho o ∧ gI m 903 (4 * o + n) = rpo o ∧ gR m 904 (4 * o + n) = owr o ∧ gR m 905 (4 * o + n) = some (4 * o + n)
/-- steps: their tries -/
def AH (m : CM) (rho : RH) : Prop := ∀ o n, OE rho o → n < sc rho o → gL m 55 (4 * o + n) = TR rho o n ∧ gI m 910 (4 * o + n) = if (TR rho o n).any (fun k => decide (rho 41 k ≠ 0)) = true then 1 else 0
/-- steps: whether they go on; X: owners that are spared -/
def AX (X : Nat → Prop) (m : CM) (rho : RH) : Prop := (∀ o n, OE rho o → n < sc rho o → (n + 1 < sc rho o → gI m 911 (4 * o + n) ≠ 8) ∧
    (n + 1 = sc rho o → ¬ X o → (Go rho o → gI m 911 (4 * o + n) = 8) ∧ (¬ Go rho o → gI m 911 (4 * o + n) ≠ 8 ∧ (440 ≤ o → gI m 911 (4 * o + n) = 3)))) ∧
  ∀ k, k < iC rho → rho 37 k = 7 → X (iO rho k) ∨ gI m 911 (sid rho k) ≠ 8
/-- steps: the counters of the last one -/
def AE (Y : Nat → Prop) (m : CM) (rho : RH) : Prop := ∀ o n, OE rho o → o < 440 → n + 1 = sc rho o → gI m 906 (4 * o + n) = rho 48 o ∧ gI m 907 (4 * o + n) = rho 49 o ∧
  (∃ a b, rho 48 o = nI a ∧ rho 49 o = nI b ∧ (Y o ∨ 1 ≤ a) ∧ a ≤ b + 2 ∧ b ≤ 3) ∧
  (rho 48 o ≠ 0 → gI m 908 (4 * o + n) = rho 47 o ∧ (Y o ∨ gI m 909 (4 * o + n) = rho 50 o ∨ (gI m 909 (4 * o + n) = -1 ∧ ∃ k, k ∈ TR rho o n ∧ rho 43 k = 0)))
/-- what is not there yet -/
def AF (m : CM) (rho : RH) : Prop := (∀ k, iC rho ≤ k → k < 400 → gV m 1 k = false ∧ gV m 56 k = false) ∧ (∀ r, iR rho ≤ r → r < 40 → gV m 5 r = false) ∧
  (∀ i, iI rho ≤ i → i < 12 → gV m 4 i = false ∧ gV m 30 i = false ∧ gV m 31 i = false ∧ gV m 43 i = false ∧ gV m 54 i = false ∧ ∀ c, c < 7 → gV m 0 (7 * i + c) = false) ∧
  ∀ o n, o < 540 → n < 4 → ¬ (OE rho o ∧ n < sc rho o) → gV m 7 (4 * o + n) = false ∧ gV m 55 (4 * o + n) = false
def R0 (rho : RH) : Prop := Ix (rho 0 0) 601 ∧ Ix (rho 6 0) 13 ∧ Ix (rho 31 0) 401 ∧ Ix (rho 51 0) 41 ∧ Ix (rho 59 0) 101 ∧ (0 < iC rho ∨ 0 < iP rho → 0 < iR rho) ∧ Ix (rho 29 0) 11 ∧ 0 < nv (rho 29 0) ∧
  rho 60 0 = nI ((List.range (iP rho)).filter fun p => decide (rho 63 p ≠ 0)).length
def Rs (rho : RH) : Prop := ∀ s, s < 6 → Ix (rho 2 s) 5 ∧ Ix (rho 25 s) 101 ∧ ∀ n, n < nv (rho 2 s) → (∃ c, s < c ∧ c < 6 ∧ rho 3 (4 * s + n) = nI c) ∧ (rho 4 (4 * s + n) = 0 ∨ rho 4 (4 * s + n) = 1) ∧ (rho 5 (4 * s + n) = -1 ∨ Ix (rho 5 (4 * s + n)) 6)
def Ri (rho : RH) : Prop := ∀ i, i < iI rho → Ix (rho 7 i) 6 ∧ Ix (rho 8 i) 3 ∧ Ix (rho 9 i) 10 ∧ rho 9 i ≠ 0 ∧ Ix (rho 10 i) 10 ∧ Ix (rho 11 i) 10 ∧ Ix (rho 12 i) 2 ∧ Ix (rho 14 i) 401 ∧
  (∀ w, 1 ≤ w → w < 4 → Ix (rho 13 (4 * i + w)) 2) ∧ ∀ c, c < 7 → Ix (rho 21 (12 * c + i)) 3 ∧ Ix (rho 24 (12 * c + i)) (iC rho + 1)
def Rp (rho : RH) : Prop := ∀ p, p < 49 → (rho 15 (3 * p) = -1 ∨ Ix (rho 15 (3 * p)) 101) ∧ (rho 15 (3 * p + 1) = -1 ∨ Ix (rho 15 (3 * p + 1)) 4)
def Rr (rho : RH) : Prop := ∀ r, r < iR rho → Ix (rho 52 r) 6 ∧ (rho 53 r = 0 ∨ rho 53 r = 1) ∧ rho 46 (400 + r) = 0
def Rq (rho : RH) : Prop := ∀ p, p < iP rho → Ix (rho 61 p) 6 ∧ Ix (rho 62 p) 6 ∧ rho 46 (440 + p) = 0 ∧ (rho 63 p = 0 ∨ rho 63 p = 1)
/-- calls: their numbers -/
def Rk (rho : RH) : Prop := ∀ k, k < iC rho → Ix (rho 32 k) 540 ∧ OE rho (iO rho k) ∧ (iO rho k < 400 → iO rho k < k ∧ iS rho (iO rho k) < iS rho k) ∧ Ix (rho 33 k) 4 ∧ iN rho k < sc rho (iO rho k) ∧
  Ix (rho 34 k) 6 ∧ Ix (rho 35 k) 7 ∧ Ix (rho 36 k) (iI rho) ∧ rho 34 k = cld rho (iO rho k) (iN rho k) ∧ rho 35 k = cal rho (iO rho k) ∧ rho 40 k = rqo rho (iO rho k) ∧
  Ix (rho 46 k + 1) 5 ∧ sc rho k ≤ nv (rho 2 (iS rho k))
/-- calls: their states -/
def Rw (rho : RH) : Prop := ∀ k, k < iC rho → Ix (rho 37 k) 8 ∧ (rho 37 k ≤ 2 → iN rho k + 1 = sc rho (iO rho k)) ∧ (rho 37 k = 2 → 0 < nv (rho 2 (iS rho k))) ∧ (rho 37 k = 0 ∨ rho 37 k = 1 → sc rho k = 0)
def Rz (rho : RH) : Prop := (∀ k, iC rho ≤ k → k < 400 → rho 41 k = 0 ∧ rho 43 k = 0) ∧ (∀ p, iP rho ≤ p → p < 100 → rho 63 p = 0) ∧
  ∀ i, iI rho ≤ i → i < 12 → (∀ w, w < 4 → rho 13 (4 * i + w) = 0) ∧ rho 14 i = 0 ∧ ∀ c, c < 7 → rho 21 (12 * c + i) = 0 ∧ rho 22 (12 * c + i) = 0 ∧ rho 23 (12 * c + i) = 0 ∧ rho 24 (12 * c + i) = 0
def RB (rho : RH) : Prop := R0 rho ∧ Rs rho ∧ Ri rho ∧ Rp rho ∧ Rr rho ∧ Rq rho ∧ Rk rho ∧ Rw rho ∧ Rz rho
def INVX (X Y : Nat → Prop) (m : CM) (rho : RH) : Prop := A0 m ∧ AGl m rho ∧ AP m rho ∧ AS m rho ∧ AC m rho ∧ AI m rho ∧ AQ m rho ∧ AR m rho ∧ AL m rho ∧ AK m rho ∧ AW m rho ∧ AT m rho ∧ AH m rho ∧ AX X m rho ∧ AE Y m rho ∧ AF m rho ∧ RB rho
def INV (m : CM) (rho : RH) : Prop := INVX (fun _ => False) (fun _ => False) m rho
/-- gas that is still owed -/
def pot (m : CM) : Nat := 5 * (400 - (gL m 52 0).length) + 3 * (((List.range (gL m 52 0).length).map fun k => 4 - (gL m 56 k).length).sum + 4 * (400 - (gL m 52 0).length)) + 4 * (40 - (gL m 51 0).length) + 3 * (100 - (gL m 53 0).length) + 13 * (12 - (gL m 50 0).length)
end PI
