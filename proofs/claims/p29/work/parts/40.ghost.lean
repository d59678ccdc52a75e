/-! the document's model as pure functions over its ints (no machine runs it here): a memory beside the class's, against which its calls are held -/
section G9
def f9_thrown (rho : RH) : Option (Int32 × RH) :=
  some ((rho 64 0), rho)
def f9_in (x0 x1 x2 : Int32) (rho : RH) : Option (Int32 × RH) :=
  if x0 < x1 then
    some (0, rho)
  else
    if x2 < x0 then
      some (0, rho)
    else
      some (1, rho)
def f9_isService (x0 : Int32) (rho : RH) : Option (Int32 × RH) :=
  ob (f9_in (x0) (0) (5) rho) fun r1 rho2 =>
  if r1 = 0 ∨ r1 = 1 then
  some (r1, rho2)
  else none
def f9_goes (x1 x2 x3 : Int32) (rho : RH) : Option (Int32 × RH) :=
  if x1 = 0 then
    wr (up2 rho 64 0 (1)) fun rho2 =>
    if (rho2 64 0) = 0 then
      some (1, rho2)
    else
      some (0, rho2)
  else
    if x2 = 0 then
      wr (up2 rho 64 0 (2)) fun rho6 =>
      if (rho6 64 0) = 0 then
        some (1, rho6)
      else
        some (0, rho6)
    else
      if x3 = 0 then
        wr (up2 rho 64 0 (3)) fun rho10 =>
        if (rho10 64 0) = 0 then
          some (1, rho10)
        else
          some (0, rho10)
      else
        wr (up2 rho 64 0 (0)) fun rho13 =>
        if (rho13 64 0) = 0 then
          some (1, rho13)
        else
          some (0, rho13)
def f9_work (x1 x2 : Int32) (rho : RH) : Option (Int32 × RH) :=
  ob (f9_isService (x1) rho) fun r1 rho2 =>
  ob (f9_in (x2) (0) (50) rho2) fun r4 rho5 =>
  ob (f9_goes (r1) (r4) (1) rho5) fun r7 rho8 =>
  if r7 = 0 then
    some (0, rho8)
  else
    if vq (x1) 6 then
    wr (up2 rho8 1 (x1).toNatClampNeg (x2)) fun rho12 =>
    some ((rho8 1 (x1).toNatClampNeg), rho12)
    else none
def b9_step_87 (x1 x2 x3 x4 s1 s2 s3 : Int32) (rho : RH) : Option (Int32 × RH) :=
  ob (f9_goes (s1) (s2) (s3) rho) fun r1 rho2 =>
  if r1 = 0 then
    some (0, rho2)
  else
    if vq (x1) 6 then
    if vq (((4 * x1) + (rho2 2 (x1).toNatClampNeg))) 24 then
    wr (up2 rho2 3 (((4 * x1) + (rho2 2 (x1).toNatClampNeg))).toNatClampNeg (x2)) fun rho7 =>
    if (x3 = 0 ∨ x3 = 1) then
    wr (up2 rho7 4 (((4 * x1) + (rho2 2 (x1).toNatClampNeg))).toNatClampNeg (x3)) fun rho10 =>
    wr (up2 rho10 5 (((4 * x1) + (rho2 2 (x1).toNatClampNeg))).toNatClampNeg (x4)) fun rho12 =>
    wr (up2 rho12 2 (x1).toNatClampNeg (((rho12 2 (x1).toNatClampNeg) + 1))) fun rho14 =>
    some ((rho14 2 (x1).toNatClampNeg), rho14)
    else none
    else none
    else none
def b9_step_60 (x1 x2 x3 x4 x5 s1 s2 : Int32) (rho : RH) : Option (Int32 × RH) :=
  if x5 = 0 then
    b9_step_87 (x1) (x2) (x3) (x4) (s1) (s2) (0) rho
  else
    if vq (x1) 6 then
    if 4 ≤ (rho 2 (x1).toNatClampNeg) then
      b9_step_87 (x1) (x2) (x3) (x4) (s1) (s2) (0) rho
    else
      if (rho 51 0) = 0 then
        b9_step_87 (x1) (x2) (x3) (x4) (s1) (s2) (1) rho
      else
        b9_step_87 (x1) (x2) (x3) (x4) (s1) (s2) (0) rho
    else none
def b9_step_33 (x1 x2 x3 x4 s0 : Int32) (rho : RH) : Option (Int32 × RH) :=
  if x2 ≤ x1 then
    b9_step_60 (x1) (x2) (x3) (x4) (s0) (s0) (0) rho
  else
    if x4 = (-1) then
      b9_step_60 (x1) (x2) (x3) (x4) (s0) (s0) (1) rho
    else
      if x4 ≤ x1 then
        b9_step_60 (x1) (x2) (x3) (x4) (s0) (s0) (0) rho
      else
        b9_step_60 (x1) (x2) (x3) (x4) (s0) (s0) (1) rho
def f9_step (x1 x2 x3 x4 : Int32) (rho : RH) : Option (Int32 × RH) :=
  ob (f9_isService (x1) rho) fun r1 rho2 =>
  if r1 = 0 then
    b9_step_33 (x1) (x2) (x3) (x4) (0) rho2
  else
    ob (f9_isService (x2) rho2) fun r5 rho6 =>
    if r5 = 0 then
      b9_step_33 (x1) (x2) (x3) (x4) (0) rho6
    else
      if x4 = (-1) then
        b9_step_33 (x1) (x2) (x3) (x4) (1) rho6
      else
        ob (f9_isService (x4) rho6) fun r10 rho11 =>
        if r10 = 0 then
          b9_step_33 (x1) (x2) (x3) (x4) (0) rho11
        else
          b9_step_33 (x1) (x2) (x3) (x4) (1) rho11
def b9_instance_79 (x1 x2 x3 x4 x5 x6 s1 s2 s3 : Int32) (rho : RH) : Option (Int32 × RH) :=
  ob (f9_goes (s1) (s2) (s3) rho) fun r1 rho2 =>
  if r1 = 0 then
    some (0, rho2)
  else
    if vq ((rho2 6 0)) 12 then
    wr (up2 rho2 7 ((rho2 6 0)).toNatClampNeg (x1)) fun rho6 =>
    if vq ((rho6 6 0)) 12 then
    wr (up2 rho6 8 ((rho6 6 0)).toNatClampNeg (x2)) fun rho9 =>
    if vq ((rho9 6 0)) 12 then
    wr (up2 rho9 9 ((rho9 6 0)).toNatClampNeg (x3)) fun rho12 =>
    if vq ((rho12 6 0)) 12 then
    wr (up2 rho12 10 ((rho12 6 0)).toNatClampNeg (x4)) fun rho15 =>
    if vq ((rho15 6 0)) 12 then
    wr (up2 rho15 11 ((rho15 6 0)).toNatClampNeg (x5)) fun rho18 =>
    if vq ((rho18 6 0)) 12 then
    wr (up2 rho18 12 ((rho18 6 0)).toNatClampNeg (x6)) fun rho21 =>
    wr (up2 rho21 6 0 (((rho21 6 0) + 1))) fun rho23 =>
    some (((rho23 6 0) - 1), rho23)
    else none
    else none
    else none
    else none
    else none
    else none
def b9_instance_56 (x1 x2 x3 x4 x5 x6 s0 : Int32) (rho : RH) : Option (Int32 × RH) :=
  ob (f9_isService (x1) rho) fun r1 rho2 =>
  if 12 ≤ (rho2 6 0) then
    b9_instance_79 (x1) (x2) (x3) (x4) (x5) (x6) (r1) (s0) (0) rho2
  else
    b9_instance_79 (x1) (x2) (x3) (x4) (x5) (x6) (r1) (s0) (1) rho2
def f9_instance (x1 x2 x3 x4 x5 x6 : Int32) (rho : RH) : Option (Int32 × RH) :=
  ob (f9_in (x2) (0) (2) rho) fun r1 rho2 =>
  if r1 = 0 then
    b9_instance_56 (x1) (x2) (x3) (x4) (x5) (x6) (0) rho2
  else
    ob (f9_in (x3) (1) (9) rho2) fun r5 rho6 =>
    if r5 = 0 then
      b9_instance_56 (x1) (x2) (x3) (x4) (x5) (x6) (0) rho6
    else
      ob (f9_in (x4) (1) (9) rho6) fun r9 rho10 =>
      if r9 = 0 then
        b9_instance_56 (x1) (x2) (x3) (x4) (x5) (x6) (0) rho10
      else
        ob (f9_in (x5) (0) (9) rho10) fun r13 rho14 =>
        if r13 = 0 then
          b9_instance_56 (x1) (x2) (x3) (x4) (x5) (x6) (0) rho14
        else
          ob (f9_in (x6) (0) (1) rho14) fun r17 rho18 =>
          if r17 = 0 then
            b9_instance_56 (x1) (x2) (x3) (x4) (x5) (x6) (0) rho18
          else
            b9_instance_56 (x1) (x2) (x3) (x4) (x5) (x6) (1) rho18
def f9_isInstance (x1 : Int32) (rho : RH) : Option (Int32 × RH) :=
  ob (f9_in (x1) (0) (((rho 6 0) - 1)) rho) fun r1 rho2 =>
  if r1 = 0 ∨ r1 = 1 then
  some (r1, rho2)
  else none
def f9_fault (x1 x2 x3 : Int32) (rho : RH) : Option (Int32 × RH) :=
  ob (f9_isInstance (x1) rho) fun r1 rho2 =>
  ob (f9_in (x2) (0) (3) rho2) fun r4 rho5 =>
  if r4 = 0 then
    ob (f9_goes (r1) (0) (1) rho5) fun r8 rho9 =>
    if r8 = 0 then
      some (0, rho9)
    else
      if vq (((4 * x1) + x2)) 48 then
      wr (up2 rho9 13 (((4 * x1) + x2)).toNatClampNeg (x3)) fun rho13 =>
      some ((rho9 13 (((4 * x1) + x2)).toNatClampNeg), rho13)
      else none
  else
    if x2 = 0 then
      ob (f9_in (x3) (0) (50) rho5) fun r16 rho17 =>
      if r16 = 0 then
        ob (f9_goes (r1) (0) (1) rho17) fun r20 rho21 =>
        if r20 = 0 then
          some (0, rho21)
        else
          if vq (((4 * x1) + x2)) 48 then
          wr (up2 rho21 13 (((4 * x1) + x2)).toNatClampNeg (x3)) fun rho25 =>
          some ((rho21 13 (((4 * x1) + x2)).toNatClampNeg), rho25)
          else none
      else
        ob (f9_goes (r1) (1) (1) rho17) fun r27 rho28 =>
        if r27 = 0 then
          some (0, rho28)
        else
          if vq (((4 * x1) + x2)) 48 then
          wr (up2 rho28 13 (((4 * x1) + x2)).toNatClampNeg (x3)) fun rho32 =>
          some ((rho28 13 (((4 * x1) + x2)).toNatClampNeg), rho32)
          else none
    else
      ob (f9_in (x3) (0) (1) rho5) fun r34 rho35 =>
      if r34 = 0 then
        ob (f9_goes (r1) (0) (1) rho35) fun r38 rho39 =>
        if r38 = 0 then
          some (0, rho39)
        else
          if vq (((4 * x1) + x2)) 48 then
          wr (up2 rho39 13 (((4 * x1) + x2)).toNatClampNeg (x3)) fun rho43 =>
          some ((rho39 13 (((4 * x1) + x2)).toNatClampNeg), rho43)
          else none
      else
        ob (f9_goes (r1) (1) (1) rho35) fun r45 rho46 =>
        if r45 = 0 then
          some (0, rho46)
        else
          if vq (((4 * x1) + x2)) 48 then
          wr (up2 rho46 13 (((4 * x1) + x2)).toNatClampNeg (x3)) fun rho50 =>
          some ((rho46 13 (((4 * x1) + x2)).toNatClampNeg), rho50)
          else none
def f9_isCaller (x0 : Int32) (rho : RH) : Option (Int32 × RH) :=
  ob (f9_in (x0) (0) (6) rho) fun r1 rho2 =>
  if r1 = 0 ∨ r1 = 1 then
  some (r1, rho2)
  else none
def f9_policyPlace (x0 x1 : Int32) (rho : RH) : Option (Int32 × RH) :=
  if x0 = (-1) then
    if x1 = (-1) then
      some (48, rho)
    else
      some ((42 + x1), rho)
  else
    some (((6 * x0) + x1), rho)
def b9_policy_92 (x1 x2 x3 x4 x5 s0 : Int32) (rho : RH) : Option (Int32 × RH) :=
  ob (f9_goes (x5) (s0) (1) rho) fun r1 rho2 =>
  if r1 = 0 then
    some (0, rho2)
  else
    ob (f9_policyPlace (x1) (x2) rho2) fun r5 rho6 =>
    if vq (((3 * r5) + x3)) 147 then
    wr (up2 rho6 15 (((3 * r5) + x3)).toNatClampNeg (x4)) fun rho9 =>
    some ((rho6 15 (((3 * r5) + x3)).toNatClampNeg), rho9)
    else none
def b9_policy_61 (x1 x2 x3 x4 x5 s0 s1 : Int32) (rho : RH) : Option (Int32 × RH) :=
  if x3 = 0 then
    ob (f9_in (s0) (s1) (100) rho) fun r2 rho3 =>
    if r2 = 0 then
      b9_policy_92 (x1) (x2) (x3) (x4) (x5) (0) rho3
    else
      b9_policy_92 (x1) (x2) (x3) (x4) (x5) (1) rho3
  else
    if x3 = 1 then
      ob (f9_in (s0) (s1) (3) rho) fun r7 rho8 =>
      if r7 = 0 then
        b9_policy_92 (x1) (x2) (x3) (x4) (x5) (0) rho8
      else
        b9_policy_92 (x1) (x2) (x3) (x4) (x5) (1) rho8
    else
      ob (f9_in (s0) (s1) (50) rho) fun r11 rho12 =>
      if r11 = 0 then
        b9_policy_92 (x1) (x2) (x3) (x4) (x5) (0) rho12
      else
        b9_policy_92 (x1) (x2) (x3) (x4) (x5) (1) rho12
def b9_policy_41 (x1 x2 x3 x4 x5 : Int32) (rho : RH) : Option (Int32 × RH) :=
  ob (f9_in (x3) (0) (2) rho) fun r1 rho2 =>
  if r1 = 0 then
    b9_policy_92 (x1) (x2) (x3) (x4) (x5) (0) rho2
  else
    if x3 = 0 then
      b9_policy_61 (x1) (x2) (x3) (x4) (x5) (x4) (1) rho2
    else
      b9_policy_61 (x1) (x2) (x3) (x4) (x5) (x4) (0) rho2
def b9_policy_29 (x1 x2 x3 x4 s0 : Int32) (rho : RH) : Option (Int32 × RH) :=
  if x1 = (-1) then
    b9_policy_41 (x1) (x2) (x3) (x4) (s0) rho
  else
    if x2 = (-1) then
      b9_policy_92 (x1) (x2) (x3) (x4) (s0) (0) rho
    else
      b9_policy_41 (x1) (x2) (x3) (x4) (s0) rho
def b9_policy_12 (x1 x2 x3 x4 : Int32) (rho : RH) : Option (Int32 × RH) :=
  if x2 = (-1) then
    b9_policy_29 (x1) (x2) (x3) (x4) (1) rho
  else
    ob (f9_isService (x2) rho) fun r2 rho3 =>
    if r2 = 0 then
      b9_policy_29 (x1) (x2) (x3) (x4) (0) rho3
    else
      b9_policy_29 (x1) (x2) (x3) (x4) (1) rho3
def f9_policy (x1 x2 x3 x4 : Int32) (rho : RH) : Option (Int32 × RH) :=
  if x1 = (-1) then
    b9_policy_12 (x1) (x2) (x3) (x4) rho
  else
    ob (f9_isCaller (x1) rho) fun r2 rho3 =>
    if r2 = 0 then
      b9_policy_29 (x1) (x2) (x3) (x4) (0) rho3
    else
      b9_policy_12 (x1) (x2) (x3) (x4) rho3
def f9_share (x1 x2 : Int32) (rho : RH) : Option (Int32 × RH) :=
  ob (f9_isCaller (x1) rho) fun r1 rho2 =>
  ob (f9_in (x2) (0) (100) rho2) fun r4 rho5 =>
  ob (f9_goes (r1) (r4) (1) rho5) fun r7 rho8 =>
  if r7 = 0 then
    some (0, rho8)
  else
    if vq (x1) 7 then
    wr (up2 rho8 16 (x1).toNatClampNeg (x2)) fun rho12 =>
    some ((rho8 16 (x1).toNatClampNeg), rho12)
    else none
def f9_eyes (x1 : Int32) (rho : RH) : Option (Int32 × RH) :=
  ob (f9_in (x1) (1) (7) rho) fun r1 rho2 =>
  ob (f9_goes (r1) (1) (1) rho2) fun r4 rho5 =>
  if r4 = 0 then
    some (0, rho5)
  else
    wr (up2 rho5 20 0 (x1)) fun rho8 =>
    some ((rho5 20 0), rho8)
def l9_canary_47 : Nat → Int32 → Int32 → Int32 → RH → Option (Int32 × RH)
  | 0, _, _, _, _ => none
  | n + 1, x1, x3, x4, rho =>
  if ((2 * x1) + 2) ≤ x4 then
    some (x3, rho)
  else
    if vq (x4) 12 then
    wr (up2 rho 27 (x4).toNatClampNeg (0)) fun rho3 =>
    wr (up2 rho3 28 (x4).toNatClampNeg (0)) fun rho5 =>
    l9_canary_47 n (x1) (x3) (x4 + 1) rho5
    else none
def f9_canary (x1 x2 : Int32) (rho : RH) : Option (Int32 × RH) :=
  ob (f9_isService (x1) rho) fun r1 rho2 =>
  ob (f9_in (x2) (0) (100) rho2) fun r4 rho5 =>
  ob (f9_goes (r1) (r4) (1) rho5) fun r7 rho8 =>
  if r7 = 0 then
    some (0, rho8)
  else
    if vq (x1) 6 then
    wr (up2 rho8 25 (x1).toNatClampNeg (x2)) fun rho12 =>
    wr (up2 rho12 26 (x1).toNatClampNeg (0)) fun rho14 =>
    l9_canary_47 FU (x1) ((rho8 25 (x1).toNatClampNeg)) ((2 * x1)) rho14
    else none
def f9_traces (x1 x2 : Int32) (rho : RH) : Option (Int32 × RH) :=
  ob (f9_in (x1) (1) (10) rho) fun r1 rho2 =>
  if r1 = 0 then
    ob (f9_goes (0) (1) (1) rho2) fun r5 rho6 =>
    if r5 = 0 then
      some (0, rho6)
    else
      wr (up2 rho6 29 0 (x1)) fun rho9 =>
      wr (up2 rho9 30 0 (x2)) fun rho11 =>
      some (0, rho11)
  else
    ob (f9_in (x2) (1) (600) rho2) fun r13 rho14 =>
    if r13 = 0 then
      ob (f9_goes (0) (1) (1) rho14) fun r17 rho18 =>
      if r17 = 0 then
        some (0, rho18)
      else
        wr (up2 rho18 29 0 (x1)) fun rho21 =>
        wr (up2 rho21 30 0 (x2)) fun rho23 =>
        some (0, rho23)
    else
      ob (f9_goes (1) (1) (1) rho14) fun r25 rho26 =>
      if r25 = 0 then
        some (0, rho26)
      else
        wr (up2 rho26 29 0 (x1)) fun rho29 =>
        wr (up2 rho29 30 0 (x2)) fun rho31 =>
        some (0, rho31)
def f9_callerOf (x1 : Int32) (rho : RH) : Option (Int32 × RH) :=
  if 400 ≤ x1 then
    if 440 ≤ x1 then
      if vq (((x1 - 400) - 40)) 100 then
      some ((rho 61 (((x1 - 400) - 40)).toNatClampNeg), rho)
      else none
    else
      some (6, rho)
  else
    if vq (x1) 400 then
    some ((rho 34 (x1).toNatClampNeg), rho)
    else none
def f9_calledBy (x1 : Int32) (rho : RH) : Option (Int32 × RH) :=
  if 400 ≤ x1 then
    if 440 ≤ x1 then
      if vq (((x1 - 400) - 40)) 100 then
      some ((rho 62 (((x1 - 400) - 40)).toNatClampNeg), rho)
      else none
    else
      if vq ((x1 - 400)) 40 then
      some ((rho 52 ((x1 - 400)).toNatClampNeg), rho)
      else none
  else
    if vq (x1) 400 then
    if vq (x1) 540 then
    if vq (((4 * (rho 34 (x1).toNatClampNeg)) + (rho 46 (x1).toNatClampNeg))) 24 then
    some ((rho 3 (((4 * (rho 34 (x1).toNatClampNeg)) + (rho 46 (x1).toNatClampNeg))).toNatClampNeg), rho)
    else none
    else none
    else none
def f9_wantedVersion (x1 : Int32) (rho : RH) : Option (Int32 × RH) :=
  if vq (x1) 6 then
  if (rho 25 (x1).toNatClampNeg) = 0 then
    some ((-1), rho)
  else
    wr (up2 rho 26 (x1).toNatClampNeg (((rho 26 (x1).toNatClampNeg) + 1))) fun rho3 =>
    if (((rho3 26 (x1).toNatClampNeg) * (rho3 25 (x1).toNatClampNeg)) / 100) ≤ ((((rho3 26 (x1).toNatClampNeg) - 1) * (rho3 25 (x1).toNatClampNeg)) / 100) then
      some (0, rho3)
    else
      some (1, rho3)
  else none
def l9_isAvoided_4 : Nat → Int32 → Int32 → Int32 → RH → Option (Int32 × RH)
  | 0, _, _, _, _ => none
  | n + 1, x1, x2, x3, rho =>
  if 7 ≤ x3 then
    if x2 < (rho 20 0) then
      some (0, rho)
    else
      some (1, rho)
  else
    if vq (((12 * x3) + x1)) 84 then
    if (rho 21 (((12 * x3) + x1)).toNatClampNeg) = 1 then
      l9_isAvoided_4 n (x1) ((x2 + 1)) (x3 + 1) rho
    else
      l9_isAvoided_4 n (x1) ((x2 + 0)) (x3 + 1) rho
    else none
def f9_isAvoided (x1 : Int32) (rho : RH) : Option (Int32 × RH) :=
  l9_isAvoided_4 FU (x1) (0) (0) rho
def f9_hasEnded (x1 : Int32) (rho : RH) : Option (Int32 × RH) :=
  if vq (x1) 400 then
  if (rho 37 (x1).toNatClampNeg) ≤ 2 then
    some (0, rho)
  else
    some (1, rho)
  else none
def f9_isKnown (x1 : Int32) (rho : RH) : Option (Int32 × RH) :=
  ob (f9_hasEnded (x1) rho) fun r1 rho2 =>
  if r1 = 0 then
    some (0, rho2)
  else
    if vq (x1) 400 then
    if (rho2 37 (x1).toNatClampNeg) = 7 then
      some (0, rho2)
    else
      if (rho2 42 (x1).toNatClampNeg) = 0 then
        some (1, rho2)
      else
        if (rho2 0 0) < (rho2 38 (x1).toNatClampNeg) then
          some (0, rho2)
        else
          some (1, rho2)
    else none
def f9_goesOn (x1 : Int32) (rho : RH) : Option (Int32 × RH) :=
  if 400 ≤ x1 then
    if 440 ≤ x1 then
      if vq (((x1 - 400) - 40)) 100 then
      if (rho 63 (((x1 - 400) - 40)).toNatClampNeg) = 0 then
        some (1, rho)
      else
        some (0, rho)
      else none
    else
      if vq ((x1 - 400)) 40 then
      if (rho 56 ((x1 - 400)).toNatClampNeg) = 8 then
        some (1, rho)
      else
        some (0, rho)
      else none
  else
    if vq (x1) 400 then
    if (rho 37 (x1).toNatClampNeg) = 2 then
      some (1, rho)
    else
      some (0, rho)
    else none
def f9_isOut (x1 : Int32) (rho : RH) : Option (Int32 × RH) :=
  if vq (x1) 400 then
  if (rho 37 (x1).toNatClampNeg) = 7 then
    some (0, rho)
  else
    ob (f9_isKnown (x1) rho) fun r3 rho4 =>
    if r3 = 0 then
      ob (f9_goesOn ((rho4 32 (x1).toNatClampNeg)) rho4) fun r7 rho8 =>
      if r7 = 0 then
        some (0, rho8)
      else
        if vq ((rho8 32 (x1).toNatClampNeg)) 540 then
        if (rho8 46 ((rho8 32 (x1).toNatClampNeg)).toNatClampNeg) = (rho8 33 (x1).toNatClampNeg) then
          some (1, rho8)
        else
          some (0, rho8)
        else none
    else
      some (0, rho4)
  else none
def l9_hasOut_5 : Nat → Int32 → Int32 → Int32 → Int32 → RH → Option (Int32 × RH)
  | 0, _, _, _, _, _ => none
  | n + 1, x1, x2, x3, x4, rho =>
  if (rho 31 0) ≤ x4 then
    if x3 = 0 ∨ x3 = 1 then
    some (x3, rho)
    else none
  else
    if x3 = 0 then
      if vq (x4) 400 then
      if (rho 35 (x4).toNatClampNeg) = x1 then
        if (rho 36 (x4).toNatClampNeg) = x2 then
          ob (f9_isOut (x4) rho) fun r7 rho8 =>
          if r7 = 0 then
            l9_hasOut_5 n (x1) (x2) (0) (x4 + 1) rho8
          else
            l9_hasOut_5 n (x1) (x2) (1) (x4 + 1) rho8
        else
          l9_hasOut_5 n (x1) (x2) (0) (x4 + 1) rho
      else
        l9_hasOut_5 n (x1) (x2) (0) (x4 + 1) rho
      else none
    else
      l9_hasOut_5 n (x1) (x2) (1) (x4 + 1) rho
def f9_hasOut (x1 x2 : Int32) (rho : RH) : Option (Int32 × RH) :=
  l9_hasOut_5 FU (x1) (x2) (0) (0) rho
def f9_canChoose (x1 x2 x3 : Int32) (rho : RH) : Option (Int32 × RH) :=
  if vq (((12 * x1) + x3)) 84 then
  if vq (x3) 12 then
  if (rho 7 (x3).toNatClampNeg) = x2 then
    ob (f9_isAvoided (x3) rho) fun r4 rho5 =>
    if r4 = 0 then
      if (rho 21 (((12 * x1) + x3)).toNatClampNeg) = 0 then
        some (1, rho5)
      else
        if (rho 21 (((12 * x1) + x3)).toNatClampNeg) = 2 then
          ob (f9_hasOut (x1) (x3) rho5) fun r10 rho11 =>
          if r10 = 0 then
            some (1, rho11)
          else
            some (0, rho11)
        else
          some (0, rho5)
    else
      some (0, rho5)
  else
    some (0, rho)
  else none
  else none
def l9_hasTried_5 : Nat → Int32 → Int32 → Int32 → Int32 → RH → Option (Int32 × RH)
  | 0, _, _, _, _, _ => none
  | n + 1, x1, x2, x3, x4, rho =>
  if (rho 31 0) ≤ x4 then
    if x3 = 0 ∨ x3 = 1 then
    some (x3, rho)
    else none
  else
    if x3 = 0 then
      if vq (x4) 400 then
      if (rho 32 (x4).toNatClampNeg) = x1 then
        if vq (x1) 540 then
        if (rho 33 (x4).toNatClampNeg) = (rho 46 (x1).toNatClampNeg) then
          if (rho 36 (x4).toNatClampNeg) = x2 then
            l9_hasTried_5 n (x1) (x2) (1) (x4 + 1) rho
          else
            l9_hasTried_5 n (x1) (x2) (0) (x4 + 1) rho
        else
          l9_hasTried_5 n (x1) (x2) (0) (x4 + 1) rho
        else none
      else
        l9_hasTried_5 n (x1) (x2) (0) (x4 + 1) rho
      else none
    else
      l9_hasTried_5 n (x1) (x2) (1) (x4 + 1) rho
def f9_hasTried (x1 x2 : Int32) (rho : RH) : Option (Int32 × RH) :=
  l9_hasTried_5 FU (x1) (x2) (0) (0) rho
def f9_burden (x1 x2 x3 : Int32) (rho : RH) : Option (Int32 × RH) :=
  if 400 ≤ x1 then
    if vq (x3) 12 then
    if vq (((12 * x2) + x3)) 84 then
    if ¬ (rho 9 (x3).toNatClampNeg) = 0 then
    if 0 = (rho 8 (x3).toNatClampNeg) then
      some ((((100 * ((rho 14 (x3).toNatClampNeg) + (rho 24 (((12 * x2) + x3)).toNatClampNeg))) / (rho 9 (x3).toNatClampNeg)) + 0), rho)
    else
      some ((((100 * ((rho 14 (x3).toNatClampNeg) + (rho 24 (((12 * x2) + x3)).toNatClampNeg))) / (rho 9 (x3).toNatClampNeg)) + 150), rho)
    else none
    else none
    else none
  else
    if vq (x1) 400 then
    if vq ((rho 36 (x1).toNatClampNeg)) 12 then
    if vq (x3) 12 then
    if vq (((12 * x2) + x3)) 84 then
    if ¬ (rho 9 (x3).toNatClampNeg) = 0 then
    if (rho 8 ((rho 36 (x1).toNatClampNeg)).toNatClampNeg) = (rho 8 (x3).toNatClampNeg) then
      some ((((100 * ((rho 14 (x3).toNatClampNeg) + (rho 24 (((12 * x2) + x3)).toNatClampNeg))) / (rho 9 (x3).toNatClampNeg)) + 0), rho)
    else
      some ((((100 * ((rho 14 (x3).toNatClampNeg) + (rho 24 (((12 * x2) + x3)).toNatClampNeg))) / (rho 9 (x3).toNatClampNeg)) + 150), rho)
    else none
    else none
    else none
    else none
    else none
def l9_chosen_9 : Nat → Int32 → Int32 → Int32 → Int32 → Int32 → Int32 → Int32 → RH → Option (Int32 × RH)
  | 0, _, _, _, _, _, _, _, _ => none
  | n + 1, x1, x2, x3, x4, x5, x6, x7, rho =>
  if (rho 6 0) ≤ x7 then
    some (x5, rho)
  else
    ob (f9_canChoose (x2) (x3) (x7) rho) fun r2 rho3 =>
    if r2 = 0 then
      l9_chosen_9 n (x1) (x2) (x3) (x4) (x5) (x6) (x7 + 1) rho3
    else
      ob (f9_hasTried (x1) (x7) rho3) fun r6 rho7 =>
      if r6 = 0 then
        if x4 = (-1) then
          if x5 = (-1) then
            l9_chosen_9 n (x1) (x2) (x3) (x4) (x7) ((0 + 0)) (x7 + 1) rho7
          else
            if (0 + 0) < x6 then
              l9_chosen_9 n (x1) (x2) (x3) (x4) (x7) ((0 + 0)) (x7 + 1) rho7
            else
              if (0 + 0) = x6 then
                ob (f9_burden (x1) (x2) (x7) rho7) fun r14 rho15 =>
                ob (f9_burden (x1) (x2) (x5) rho15) fun r17 rho18 =>
                if r17 ≤ r14 then
                  l9_chosen_9 n (x1) (x2) (x3) (x4) (x5) (x6) (x7 + 1) rho18
                else
                  l9_chosen_9 n (x1) (x2) (x3) (x4) (x7) ((0 + 0)) (x7 + 1) rho18
              else
                l9_chosen_9 n (x1) (x2) (x3) (x4) (x5) (x6) (x7 + 1) rho7
        else
          if vq (x7) 12 then
          if (rho7 12 (x7).toNatClampNeg) = x4 then
            if x5 = (-1) then
              l9_chosen_9 n (x1) (x2) (x3) (x4) (x7) ((0 + 0)) (x7 + 1) rho7
            else
              if (0 + 0) < x6 then
                l9_chosen_9 n (x1) (x2) (x3) (x4) (x7) ((0 + 0)) (x7 + 1) rho7
              else
                if (0 + 0) = x6 then
                  ob (f9_burden (x1) (x2) (x7) rho7) fun r26 rho27 =>
                  ob (f9_burden (x1) (x2) (x5) rho27) fun r29 rho30 =>
                  if r29 ≤ r26 then
                    l9_chosen_9 n (x1) (x2) (x3) (x4) (x5) (x6) (x7 + 1) rho30
                  else
                    l9_chosen_9 n (x1) (x2) (x3) (x4) (x7) ((0 + 0)) (x7 + 1) rho30
                else
                  l9_chosen_9 n (x1) (x2) (x3) (x4) (x5) (x6) (x7 + 1) rho7
          else
            if x5 = (-1) then
              l9_chosen_9 n (x1) (x2) (x3) (x4) (x7) ((0 + 1)) (x7 + 1) rho7
            else
              if (0 + 1) < x6 then
                l9_chosen_9 n (x1) (x2) (x3) (x4) (x7) ((0 + 1)) (x7 + 1) rho7
              else
                if (0 + 1) = x6 then
                  ob (f9_burden (x1) (x2) (x7) rho7) fun r36 rho37 =>
                  ob (f9_burden (x1) (x2) (x5) rho37) fun r39 rho40 =>
                  if r39 ≤ r36 then
                    l9_chosen_9 n (x1) (x2) (x3) (x4) (x5) (x6) (x7 + 1) rho40
                  else
                    l9_chosen_9 n (x1) (x2) (x3) (x4) (x7) ((0 + 1)) (x7 + 1) rho40
                else
                  l9_chosen_9 n (x1) (x2) (x3) (x4) (x5) (x6) (x7 + 1) rho7
          else none
      else
        if x4 = (-1) then
          if x5 = (-1) then
            l9_chosen_9 n (x1) (x2) (x3) (x4) (x7) ((2 + 0)) (x7 + 1) rho7
          else
            if (2 + 0) < x6 then
              l9_chosen_9 n (x1) (x2) (x3) (x4) (x7) ((2 + 0)) (x7 + 1) rho7
            else
              if (2 + 0) = x6 then
                ob (f9_burden (x1) (x2) (x7) rho7) fun r47 rho48 =>
                ob (f9_burden (x1) (x2) (x5) rho48) fun r50 rho51 =>
                if r50 ≤ r47 then
                  l9_chosen_9 n (x1) (x2) (x3) (x4) (x5) (x6) (x7 + 1) rho51
                else
                  l9_chosen_9 n (x1) (x2) (x3) (x4) (x7) ((2 + 0)) (x7 + 1) rho51
              else
                l9_chosen_9 n (x1) (x2) (x3) (x4) (x5) (x6) (x7 + 1) rho7
        else
          if vq (x7) 12 then
          if (rho7 12 (x7).toNatClampNeg) = x4 then
            if x5 = (-1) then
              l9_chosen_9 n (x1) (x2) (x3) (x4) (x7) ((2 + 0)) (x7 + 1) rho7
            else
              if (2 + 0) < x6 then
                l9_chosen_9 n (x1) (x2) (x3) (x4) (x7) ((2 + 0)) (x7 + 1) rho7
              else
                if (2 + 0) = x6 then
                  ob (f9_burden (x1) (x2) (x7) rho7) fun r59 rho60 =>
                  ob (f9_burden (x1) (x2) (x5) rho60) fun r62 rho63 =>
                  if r62 ≤ r59 then
                    l9_chosen_9 n (x1) (x2) (x3) (x4) (x5) (x6) (x7 + 1) rho63
                  else
                    l9_chosen_9 n (x1) (x2) (x3) (x4) (x7) ((2 + 0)) (x7 + 1) rho63
                else
                  l9_chosen_9 n (x1) (x2) (x3) (x4) (x5) (x6) (x7 + 1) rho7
          else
            if x5 = (-1) then
              l9_chosen_9 n (x1) (x2) (x3) (x4) (x7) ((2 + 1)) (x7 + 1) rho7
            else
              if (2 + 1) < x6 then
                l9_chosen_9 n (x1) (x2) (x3) (x4) (x7) ((2 + 1)) (x7 + 1) rho7
              else
                if (2 + 1) = x6 then
                  ob (f9_burden (x1) (x2) (x7) rho7) fun r69 rho70 =>
                  ob (f9_burden (x1) (x2) (x5) rho70) fun r72 rho73 =>
                  if r72 ≤ r69 then
                    l9_chosen_9 n (x1) (x2) (x3) (x4) (x5) (x6) (x7 + 1) rho73
                  else
                    l9_chosen_9 n (x1) (x2) (x3) (x4) (x7) ((2 + 1)) (x7 + 1) rho73
                else
                  l9_chosen_9 n (x1) (x2) (x3) (x4) (x5) (x6) (x7 + 1) rho7
          else none
def f9_chosen (x1 x2 x3 x4 : Int32) (rho : RH) : Option (Int32 × RH) :=
  l9_chosen_9 FU (x1) (x2) (x3) (x4) ((-1)) (0) (0) rho
def f9_policyOf (x1 x2 x3 : Int32) (rho : RH) : Option (Int32 × RH) :=
  ob (f9_policyPlace (x1) (x2) rho) fun r1 rho2 =>
  if vq (((3 * r1) + x3)) 147 then
  ob (f9_policyPlace ((-1)) (x2) rho2) fun r5 rho6 =>
  if vq (((3 * r5) + x3)) 147 then
  ob (f9_policyPlace ((-1)) ((-1)) rho6) fun r9 rho10 =>
  if vq (((3 * r9) + x3)) 147 then
  if (rho2 15 (((3 * r1) + x3)).toNatClampNeg) = (-1) then
    if (rho6 15 (((3 * r5) + x3)).toNatClampNeg) = (-1) then
      if (rho10 15 (((3 * r9) + x3)).toNatClampNeg) = (-1) then
        if x3 = 0 then
          some (20, rho10)
        else
          if x3 = 1 then
            some (1, rho10)
          else
            some (0, rho10)
      else
        some ((rho10 15 (((3 * r9) + x3)).toNatClampNeg), rho10)
    else
      some ((rho6 15 (((3 * r5) + x3)).toNatClampNeg), rho10)
  else
    some ((rho2 15 (((3 * r1) + x3)).toNatClampNeg), rho10)
  else none
  else none
  else none
def l9_countOf_6 : Nat → Int32 → Int32 → Int32 → Int32 → Int32 → RH → Option (Int32 × RH)
  | 0, _, _, _, _, _, _ => none
  | n + 1, x1, x2, x3, x4, x5, rho =>
  if (rho 31 0) ≤ x5 then
    some (x4, rho)
  else
    if vq (x5) 400 then
    if (rho 36 (x5).toNatClampNeg) = x1 then
      ob (f9_in ((rho 37 (x5).toNatClampNeg)) (x2) (x3) rho) fun r4 rho5 =>
      if r4 = 0 then
        l9_countOf_6 n (x1) (x2) (x3) ((x4 + 0)) (x5 + 1) rho5
      else
        l9_countOf_6 n (x1) (x2) (x3) ((x4 + 1)) (x5 + 1) rho5
    else
      l9_countOf_6 n (x1) (x2) (x3) ((x4 + 0)) (x5 + 1) rho
    else none
def f9_countOf (x1 x2 x3 : Int32) (rho : RH) : Option (Int32 × RH) :=
  l9_countOf_6 FU (x1) (x2) (x3) (0) (0) rho
def f9_runs (x1 : Int32) (rho : RH) : Option (Int32 × RH) :=
  if vq (x1) 400 then
  wr (up2 rho 37 (x1).toNatClampNeg (1)) fun rho2 =>
  wr (up2 rho2 41 (x1).toNatClampNeg (1)) fun rho4 =>
  if vq ((rho4 34 (x1).toNatClampNeg)) 6 then
  if vq (((4 * (rho4 36 (x1).toNatClampNeg)) + 0)) 48 then
  if 1 ≤ ((rho4 1 ((rho4 34 (x1).toNatClampNeg)).toNatClampNeg) + (rho4 13 (((4 * (rho4 36 (x1).toNatClampNeg)) + 0)).toNatClampNeg)) then
    wr (up2 rho4 39 (x1).toNatClampNeg (((rho4 0 0) + ((rho4 1 ((rho4 34 (x1).toNatClampNeg)).toNatClampNeg) + (rho4 13 (((4 * (rho4 36 (x1).toNatClampNeg)) + 0)).toNatClampNeg))))) fun rho9 =>
    some (0, rho9)
  else
    wr (up2 rho4 39 (x1).toNatClampNeg (((rho4 0 0) + 1))) fun rho11 =>
    some (0, rho11)
  else none
  else none
  else none
def f9_setsEnd (x1 x2 : Int32) (rho : RH) : Option (Int32 × RH) :=
  if vq (x1) 400 then
  wr (up2 rho 37 (x1).toNatClampNeg (x2)) fun rho2 =>
  if vq (((4 * (rho2 36 (x1).toNatClampNeg)) + 2)) 48 then
  if (rho2 13 (((4 * (rho2 36 (x1).toNatClampNeg)) + 2)).toNatClampNeg) = 1 then
    if x2 = 3 then
      wr (up2 rho2 42 (x1).toNatClampNeg (1)) fun rho7 =>
      some (0, rho7)
    else
      if x2 = 4 then
        wr (up2 rho2 42 (x1).toNatClampNeg (1)) fun rho10 =>
        some (0, rho10)
      else
        if x2 = 6 then
          wr (up2 rho2 42 (x1).toNatClampNeg (1)) fun rho13 =>
          some (0, rho13)
        else
          wr (up2 rho2 42 (x1).toNatClampNeg (0)) fun rho15 =>
          some (0, rho15)
  else
    wr (up2 rho2 42 (x1).toNatClampNeg (0)) fun rho17 =>
    some (0, rho17)
  else none
  else none
def f9_judges (x1 x2 x3 : Int32) (rho : RH) : Option (Int32 × RH) :=
  if vq (x1) 6 then
  if (rho 25 (x1).toNatClampNeg) ≤ 0 then
    some (0, rho)
  else
    if vq (((2 * x1) + x2)) 12 then
    wr (up2 rho 27 (((2 * x1) + x2)).toNatClampNeg (((rho 27 (((2 * x1) + x2)).toNatClampNeg) + 1))) fun rho4 =>
    if x3 = 3 then
      wr (up2 rho4 28 (((2 * x1) + x2)).toNatClampNeg (((rho4 28 (((2 * x1) + x2)).toNatClampNeg) + 0))) fun rho7 =>
      if vq (((2 * x1) + 1)) 12 then
      if (rho7 27 (((2 * x1) + 1)).toNatClampNeg) < 5 then
        some (0, rho7)
      else
        if (rho7 28 (((2 * x1) + 1)).toNatClampNeg) < 2 then
          some (0, rho7)
        else
          if vq ((((2 * x1) + 1) - 1)) 12 then
          if ((rho7 28 (((2 * x1) + 1)).toNatClampNeg) * (rho7 27 ((((2 * x1) + 1) - 1)).toNatClampNeg)) ≤ ((2 * (rho7 28 ((((2 * x1) + 1) - 1)).toNatClampNeg)) * (rho7 27 (((2 * x1) + 1)).toNatClampNeg)) then
            some (0, rho7)
          else
            wr (up2 rho7 25 (x1).toNatClampNeg (0)) fun rho14 =>
            some (0, rho14)
          else none
      else none
    else
      wr (up2 rho4 28 (((2 * x1) + x2)).toNatClampNeg (((rho4 28 (((2 * x1) + x2)).toNatClampNeg) + 1))) fun rho16 =>
      if vq (((2 * x1) + 1)) 12 then
      if (rho16 27 (((2 * x1) + 1)).toNatClampNeg) < 5 then
        some (0, rho16)
      else
        if (rho16 28 (((2 * x1) + 1)).toNatClampNeg) < 2 then
          some (0, rho16)
        else
          if vq ((((2 * x1) + 1) - 1)) 12 then
          if ((rho16 28 (((2 * x1) + 1)).toNatClampNeg) * (rho16 27 ((((2 * x1) + 1) - 1)).toNatClampNeg)) ≤ ((2 * (rho16 28 ((((2 * x1) + 1) - 1)).toNatClampNeg)) * (rho16 27 (((2 * x1) + 1)).toNatClampNeg)) then
            some (0, rho16)
          else
            wr (up2 rho16 25 (x1).toNatClampNeg (0)) fun rho23 =>
            some (0, rho23)
          else none
      else none
    else none
  else none
def b9_looksAt_175 (x1 x2 : Int32) (rho : RH) : Option (Int32 × RH) :=
  if vq (x1) 400 then
  if vq ((rho 36 (x1).toNatClampNeg)) 12 then
  ob (f9_judges ((rho 34 (x1).toNatClampNeg)) ((rho 12 ((rho 36 (x1).toNatClampNeg)).toNatClampNeg)) (x2) rho) fun _ rho4 =>
  if x2 = 3 then
    some (1, rho4)
  else
    some (0, rho4)
  else none
  else none
def b9_looksAt_150 (x1 x2 x3 x4 s1 s2 : Int32) (rho : RH) : Option (Int32 × RH) :=
  if vq (s1) 84 then
  wr (up2 rho 21 (s1).toNatClampNeg (s2)) fun rho2 =>
  if x4 = 0 then
    if vq (x3) 84 then
    wr (up2 rho2 23 (x3).toNatClampNeg ((rho2 23 (x3).toNatClampNeg))) fun rho6 =>
    b9_looksAt_175 (x1) (x2) rho6
    else none
  else
    if vq (x3) 84 then
    wr (up2 rho2 23 (x3).toNatClampNeg ((rho2 0 0))) fun rho9 =>
    b9_looksAt_175 (x1) (x2) rho9
    else none
  else none
def b9_looksAt_119 (x1 x2 x3 s0 : Int32) (rho : RH) : Option (Int32 × RH) :=
  if s0 = 0 then
    if x2 = 3 then
      b9_looksAt_150 (x1) (x2) (x3) (s0) (x3) (0) rho
    else
      if vq (x3) 84 then
      b9_looksAt_150 (x1) (x2) (x3) (s0) (x3) ((rho 21 (x3).toNatClampNeg)) rho
      else none
  else
    b9_looksAt_150 (x1) (x2) (x3) (s0) (x3) (1) rho
def b9_looksAt_88 (x1 x2 x3 s1 s2 : Int32) (rho : RH) : Option (Int32 × RH) :=
  if vq (s1) 84 then
  wr (up2 rho 22 (s1).toNatClampNeg (s2)) fun rho2 =>
  if x2 = 3 then
    b9_looksAt_119 (x1) (x2) (x3) (0) rho2
  else
    if vq (x3) 84 then
    if (rho2 21 (x3).toNatClampNeg) = 2 then
      b9_looksAt_119 (x1) (x2) (x3) (1) rho2
    else
      if (rho2 22 (x3).toNatClampNeg) < 3 then
        b9_looksAt_119 (x1) (x2) (x3) (0) rho2
      else
        b9_looksAt_119 (x1) (x2) (x3) (1) rho2
    else none
  else none
def b9_looksAt_26 (x1 s0 : Int32) (rho : RH) : Option (Int32 × RH) :=
  if vq (x1) 400 then
  if vq ((rho 32 (x1).toNatClampNeg)) 540 then
  wr (up2 rho 50 ((rho 32 (x1).toNatClampNeg)).toNatClampNeg (s0)) fun rho3 =>
  if vq (((12 * (rho3 35 (x1).toNatClampNeg)) + (rho3 36 (x1).toNatClampNeg))) 84 then
  if (rho3 21 (((12 * (rho3 35 (x1).toNatClampNeg)) + (rho3 36 (x1).toNatClampNeg))).toNatClampNeg) = 1 then
    b9_looksAt_175 (x1) (s0) rho3
  else
    if s0 = 3 then
      b9_looksAt_88 (x1) (s0) (((12 * (rho3 35 (x1).toNatClampNeg)) + (rho3 36 (x1).toNatClampNeg))) (((12 * (rho3 35 (x1).toNatClampNeg)) + (rho3 36 (x1).toNatClampNeg))) (0) rho3
    else
      b9_looksAt_88 (x1) (s0) (((12 * (rho3 35 (x1).toNatClampNeg)) + (rho3 36 (x1).toNatClampNeg))) (((12 * (rho3 35 (x1).toNatClampNeg)) + (rho3 36 (x1).toNatClampNeg))) (((rho3 22 (((12 * (rho3 35 (x1).toNatClampNeg)) + (rho3 36 (x1).toNatClampNeg))).toNatClampNeg) + 1)) rho3
  else none
  else none
  else none
def f9_looksAt (x1 : Int32) (rho : RH) : Option (Int32 × RH) :=
  if vq (x1) 400 then
  wr (up2 rho 43 (x1).toNatClampNeg (1)) fun rho2 =>
  if (rho2 42 (x1).toNatClampNeg) = 0 then
    b9_looksAt_26 (x1) ((rho2 37 (x1).toNatClampNeg)) rho2
  else
    b9_looksAt_26 (x1) (5) rho2
  else none
def b9_tries_514 (x7 : Int32) (rho : RH) : Option (Int32 × RH) :=
  ob (f9_setsEnd (x7) (6) rho) fun _ rho2 =>
  ob (f9_isKnown (x7) rho2) fun r4 rho5 =>
  if r4 = 0 then
    some (0, rho5)
  else
    ob (f9_looksAt (x7) rho5) fun r8 rho9 =>
    some (0, rho9)
def b9_tries_477 (x6 x7 x11 : Int32) (rho : RH) : Option (Int32 × RH) :=
  if vq (((4 * x6) + 3)) 48 then
  if (rho 13 (((4 * x6) + 3)).toNatClampNeg) = 0 then
    if vq (x6) 12 then
    if (rho 11 (x6).toNatClampNeg) ≤ x11 then
      b9_tries_514 (x7) rho
    else
      if vq (x7) 400 then
      wr (up2 rho 37 (x7).toNatClampNeg (0)) fun rho6 =>
      some (0, rho6)
      else none
    else none
  else
    b9_tries_514 (x7) rho
  else none
def b9_tries_391 (x3 x6 x7 s1 s2 : Int32) (rho : RH) : Option (Int32 × RH) :=
  if vq (s1) 400 then
  wr (up2 rho 38 (s1).toNatClampNeg (s2)) fun rho2 =>
  if vq (((12 * x3) + x6)) 84 then
  wr (up2 rho2 24 (((12 * x3) + x6)).toNatClampNeg (((rho2 24 (((12 * x3) + x6)).toNatClampNeg) + 1))) fun rho5 =>
  if vq (x7) 400 then
  wr (up2 rho5 37 (x7).toNatClampNeg (7)) fun rho8 =>
  ob (f9_countOf (x6) (1) (2) rho8) fun r10 rho11 =>
  ob (f9_countOf (x6) (0) (0) rho11) fun r13 rho14 =>
  if vq (((4 * x6) + 3)) 48 then
  if (rho14 13 (((4 * x6) + 3)).toNatClampNeg) = 0 then
    if vq (x6) 12 then
    if (rho14 10 (x6).toNatClampNeg) ≤ r10 then
      b9_tries_477 (x6) (x7) (r13) rho14
    else
      if r13 = 0 then
        ob (f9_runs (x7) rho14) fun _ rho22 =>
        some (0, rho22)
      else
        b9_tries_477 (x6) (x7) (r13) rho14
    else none
  else
    b9_tries_477 (x6) (x7) (r13) rho14
  else none
  else none
  else none
  else none
def b9_tries_369 (x3 x6 x7 x8 s0 : Int32) (rho : RH) : Option (Int32 × RH) :=
  if s0 ≤ x8 then
    b9_tries_391 (x3) (x6) (x7) (x7) (s0) rho
  else
    b9_tries_391 (x3) (x6) (x7) (x7) (x8) rho
def b9_tries_315 (x1 x3 x4 x6 x7 s1 s2 : Int32) (rho : RH) : Option (Int32 × RH) :=
  if vq (s1) 400 then
  wr (up2 rho 40 (s1).toNatClampNeg (s2)) fun rho2 =>
  ob (f9_policyOf (x3) (x4) (0) rho2) fun r4 rho5 =>
  if 400 ≤ x1 then
    if 440 ≤ x1 then
      b9_tries_369 (x3) (x6) (x7) (((rho2 0 0) + r4)) (((rho2 0 0) + r4)) rho5
    else
      if vq ((x1 - 400)) 40 then
      b9_tries_369 (x3) (x6) (x7) (((rho2 0 0) + r4)) ((rho5 54 ((x1 - 400)).toNatClampNeg)) rho5
      else none
  else
    if vq (x1) 400 then
    b9_tries_369 (x3) (x6) (x7) (((rho2 0 0) + r4)) ((rho5 38 (x1).toNatClampNeg)) rho5
    else none
  else none
def b9_tries_189 (x1 x3 x4 s0 : Int32) (rho : RH) : Option (Int32 × RH) :=
  if s0 = (-1) then
    if vq (x1) 540 then
    wr (up2 rho 50 (x1).toNatClampNeg (6)) fun rho3 =>
    some (0, rho3)
    else none
  else
    wr (up2 rho 31 0 (((rho 31 0) + 1))) fun rho5 =>
    if vq ((rho 31 0)) 400 then
    wr (up2 rho5 32 ((rho 31 0)).toNatClampNeg (x1)) fun rho8 =>
    if vq (x1) 540 then
    wr (up2 rho8 33 ((rho 31 0)).toNatClampNeg ((rho8 46 (x1).toNatClampNeg))) fun rho11 =>
    wr (up2 rho11 34 ((rho 31 0)).toNatClampNeg (x4)) fun rho13 =>
    wr (up2 rho13 35 ((rho 31 0)).toNatClampNeg (x3)) fun rho15 =>
    wr (up2 rho15 36 ((rho 31 0)).toNatClampNeg (s0)) fun rho17 =>
    if vq ((rho 31 0)) 540 then
    wr (up2 rho17 46 ((rho 31 0)).toNatClampNeg ((-1))) fun rho20 =>
    if 400 ≤ x1 then
      if 440 ≤ x1 then
        b9_tries_315 (x1) (x3) (x4) (s0) ((rho 31 0)) ((rho 31 0)) ((-1)) rho20
      else
        b9_tries_315 (x1) (x3) (x4) (s0) ((rho 31 0)) ((rho 31 0)) ((x1 - 400)) rho20
    else
      if vq (x1) 400 then
      b9_tries_315 (x1) (x3) (x4) (s0) ((rho 31 0)) ((rho 31 0)) ((rho20 40 (x1).toNatClampNeg)) rho20
      else none
    else none
    else none
    else none
def b9_tries_155 (x1 x3 x4 s1 s2 s3 : Int32) (rho : RH) : Option (Int32 × RH) :=
  if vq (s1) 540 then
  wr (up2 rho 49 (s1).toNatClampNeg ((s2 + s3))) fun rho2 =>
  ob (f9_wantedVersion (x4) rho2) fun r4 rho5 =>
  if (rho5 31 0) = 400 then
    b9_tries_189 (x1) (x3) (x4) ((-1)) rho5
  else
    ob (f9_chosen (x1) (x3) (x4) (r4) rho5) fun r8 rho9 =>
    b9_tries_189 (x1) (x3) (x4) (r8) rho9
  else none
def b9_tries_127 (x1 x2 x3 x4 s1 s2 : Int32) (rho : RH) : Option (Int32 × RH) :=
  if vq (s1) 540 then
  wr (up2 rho 47 (s1).toNatClampNeg (s2)) fun rho2 =>
  if vq (x1) 540 then
  wr (up2 rho2 48 (x1).toNatClampNeg (((rho2 48 (x1).toNatClampNeg) + 1))) fun rho5 =>
  if x2 = 1 then
    b9_tries_155 (x1) (x3) (x4) (x1) ((rho5 49 (x1).toNatClampNeg)) (1) rho5
  else
    b9_tries_155 (x1) (x3) (x4) (x1) ((rho5 49 (x1).toNatClampNeg)) (0) rho5
  else none
  else none
def b9_tries_100 (x1 x2 x3 x4 : Int32) (rho : RH) : Option (Int32 × RH) :=
  if vq (x1) 540 then
  if (rho 48 (x1).toNatClampNeg) = 0 then
    b9_tries_127 (x1) (x2) (x3) (x4) (x1) ((rho 0 0)) rho
  else
    b9_tries_127 (x1) (x2) (x3) (x4) (x1) ((rho 47 (x1).toNatClampNeg)) rho
  else none
def b9_tries_60 (x1 x2 x3 x4 s1 s2 : Int32) (rho : RH) : Option (Int32 × RH) :=
  if vq (s1) 7 then
  wr (up2 rho 17 (s1).toNatClampNeg (s2)) fun rho2 =>
  if vq (x3) 7 then
  wr (up2 rho2 18 (x3).toNatClampNeg (((rho2 18 (x3).toNatClampNeg) + 1))) fun rho5 =>
  b9_tries_100 (x1) (x2) (x3) (x4) rho5
  else none
  else none
def f9_tries (x1 x2 : Int32) (rho : RH) : Option (Int32 × RH) :=
  ob (f9_callerOf (x1) rho) fun r1 rho2 =>
  ob (f9_calledBy (x1) rho2) fun r4 rho5 =>
  if x2 = 0 then
    if vq (r1) 7 then
    if ((rho5 17 (r1).toNatClampNeg) + (rho5 16 (r1).toNatClampNeg)) ≤ 1000 then
      b9_tries_60 (x1) (x2) (r1) (r4) (r1) (((rho5 17 (r1).toNatClampNeg) + (rho5 16 (r1).toNatClampNeg))) rho5
    else
      b9_tries_60 (x1) (x2) (r1) (r4) (r1) (1000) rho5
    else none
  else
    if x2 = 3 then
      b9_tries_100 (x1) (x2) (r1) (r4) rho5
    else
      if vq (r1) 7 then
      wr (up2 rho5 17 (r1).toNatClampNeg (((rho5 17 (r1).toNatClampNeg) - 100))) fun rho12 =>
      wr (up2 rho12 19 (r1).toNatClampNeg (((rho12 19 (r1).toNatClampNeg) + 1))) fun rho14 =>
      b9_tries_100 (x1) (x2) (r1) (r4) rho14
      else none
def f9_begins (x1 : Int32) (rho : RH) : Option (Int32 × RH) :=
  if vq (x1) 540 then
  wr (up2 rho 46 (x1).toNatClampNeg (((rho 46 (x1).toNatClampNeg) + 1))) fun rho2 =>
  wr (up2 rho2 48 (x1).toNatClampNeg (0)) fun rho4 =>
  wr (up2 rho4 49 (x1).toNatClampNeg (0)) fun rho6 =>
  ob (f9_tries (x1) (0) rho6) fun _ rho9 =>
  some (0, rho9)
  else none
def l9_looks_2 : Nat → Int32 → Int32 → RH → Option (Int32 × RH)
  | 0, _, _, _ => none
  | n + 1, x1, x2, rho =>
  if (rho 31 0) ≤ x2 then
    some (0, rho)
  else
    if vq (x2) 400 then
    if (rho 32 (x2).toNatClampNeg) = x1 then
      if vq (x1) 540 then
      if (rho 33 (x2).toNatClampNeg) = (rho 46 (x1).toNatClampNeg) then
        if (rho 43 (x2).toNatClampNeg) = 0 then
          ob (f9_isKnown (x2) rho) fun r7 rho8 =>
          if r7 = 0 then
            l9_looks_2 n (x1) (x2 + 1) rho8
          else
            ob (f9_looksAt (x2) rho8) fun r11 rho12 =>
            if r11 = 0 then
              l9_looks_2 n (x1) (x2 + 1) rho12
            else
              some (1, rho12)
        else
          l9_looks_2 n (x1) (x2 + 1) rho
      else
        l9_looks_2 n (x1) (x2 + 1) rho
      else none
    else
      l9_looks_2 n (x1) (x2 + 1) rho
    else none
def f9_looks (x1 : Int32) (rho : RH) : Option (Int32 × RH) :=
  l9_looks_2 FU (x1) (0) rho
def l9_liveOf_2 : Nat → Int32 → Int32 → Int32 → RH → Option (Int32 × RH)
  | 0, _, _, _, _ => none
  | n + 1, x1, x2, x3, rho =>
  if (rho 31 0) ≤ x3 then
    some ((-1), rho)
  else
    if vq (x3) 400 then
    if (rho 32 (x3).toNatClampNeg) = x1 then
      ob (f9_hasEnded (x3) rho) fun r4 rho5 =>
      if r4 = 0 then
        if x3 = x2 then
          l9_liveOf_2 n (x1) (x2) (x3 + 1) rho5
        else
          some (x3, rho5)
      else
        l9_liveOf_2 n (x1) (x2) (x3 + 1) rho5
    else
      l9_liveOf_2 n (x1) (x2) (x3 + 1) rho
    else none
def f9_liveOf (x1 x2 : Int32) (rho : RH) : Option (Int32 × RH) :=
  l9_liveOf_2 FU (x1) (x2) (0) rho
def l9_hasRunIn_5 : Nat → Int32 → Int32 → Int32 → Int32 → RH → Option (Int32 × RH)
  | 0, _, _, _, _, _ => none
  | n + 1, x1, x2, x3, x4, rho =>
  if (rho 31 0) ≤ x4 then
    if x3 = 0 ∨ x3 = 1 then
    some (x3, rho)
    else none
  else
    if x3 = 0 then
      if vq (x4) 400 then
      if (rho 32 (x4).toNatClampNeg) = x1 then
        if (rho 33 (x4).toNatClampNeg) = x2 then
          if (rho 41 (x4).toNatClampNeg) = 0 then
            l9_hasRunIn_5 n (x1) (x2) (0) (x4 + 1) rho
          else
            l9_hasRunIn_5 n (x1) (x2) (1) (x4 + 1) rho
        else
          l9_hasRunIn_5 n (x1) (x2) (0) (x4 + 1) rho
      else
        l9_hasRunIn_5 n (x1) (x2) (0) (x4 + 1) rho
      else none
    else
      l9_hasRunIn_5 n (x1) (x2) (1) (x4 + 1) rho
def f9_hasRunIn (x1 x2 : Int32) (rho : RH) : Option (Int32 × RH) :=
  l9_hasRunIn_5 FU (x1) (x2) (0) (0) rho
def l9_repairsFor_7 : Nat → Int32 → Int32 → RH → Option (Int32 × RH)
  | 0, _, _, _ => none
  | n + 1, x1, x2, rho =>
  if x2 < 0 then
    some (0, rho)
  else
    if vq (x1) 400 then
    if vq (((4 * (rho 34 (x1).toNatClampNeg)) + x2)) 24 then
    if (rho 5 (((4 * (rho 34 (x1).toNatClampNeg)) + x2)).toNatClampNeg) = (-1) then
      l9_repairsFor_7 n (x1) (x2 + (-1)) rho
    else
      ob (f9_hasRunIn (x1) (x2) rho) fun r5 rho6 =>
      if r5 = 0 then
        l9_repairsFor_7 n (x1) (x2 + (-1)) rho6
      else
        if 100 ≤ (rho6 59 0) then
          l9_repairsFor_7 n (x1) (x2 + (-1)) rho6
        else
          if vq ((rho6 59 0)) 100 then
          wr (up2 rho6 61 ((rho6 59 0)).toNatClampNeg ((rho6 34 (x1).toNatClampNeg))) fun rho11 =>
          if vq ((rho11 59 0)) 100 then
          wr (up2 rho11 62 ((rho11 59 0)).toNatClampNeg ((rho 5 (((4 * (rho 34 (x1).toNatClampNeg)) + x2)).toNatClampNeg))) fun rho14 =>
          if vq ((440 + (rho14 59 0))) 540 then
          wr (up2 rho14 46 ((440 + (rho14 59 0))).toNatClampNeg (0)) fun rho17 =>
          wr (up2 rho17 59 0 (((rho17 59 0) + 1))) fun rho19 =>
          l9_repairsFor_7 n (x1) (x2 + (-1)) rho19
          else none
          else none
          else none
    else none
    else none
def f9_repairsFor (x1 : Int32) (rho : RH) : Option (Int32 × RH) :=
  if vq (x1) 540 then
  l9_repairsFor_7 FU (x1) ((rho 46 (x1).toNatClampNeg)) rho
  else none
def l9_endsCall_15 : Nat → Int32 → RH → Option (Int32 × RH)
  | 0, _, _ => none
  | n + 1, x3, rho =>
  if x3 ≤ 0 then
    some (0, rho)
  else
    if vq ((x3 - 1)) 400 then
    ob (f9_liveOf ((rho 45 ((x3 - 1)).toNatClampNeg)) ((-1)) rho) fun r3 rho4 =>
    if r3 = (-1) then
      if vq (x3 + (-1)) 400 then
      if vq ((rho4 45 (x3 + (-1)).toNatClampNeg)) 400 then
      if (rho4 37 ((rho4 45 (x3 + (-1)).toNatClampNeg)).toNatClampNeg) = 3 then
        l9_endsCall_15 n (x3 + (-1)) rho4
      else
        ob (f9_repairsFor ((rho4 45 (x3 + (-1)).toNatClampNeg)) rho4) fun _ rho11 =>
        l9_endsCall_15 n (x3 + (-1)) rho11
      else none
      else none
    else
      ob (f9_setsEnd (r3) (7) rho4) fun _ rho14 =>
      if vq (x3) 400 then
      wr (up2 rho14 45 (x3).toNatClampNeg (r3)) fun rho17 =>
      l9_endsCall_15 n (x3 + 1) rho17
      else none
    else none
def f9_endsCall (x1 x2 : Int32) (rho : RH) : Option (Int32 × RH) :=
  wr (up2 rho 45 ((0 : Int32)).toNatClampNeg (x1)) fun rho1 =>
  ob (f9_setsEnd (x1) (x2) rho1) fun _ rho4 =>
  l9_endsCall_15 FU (1) rho4
def l9_turnsOff_7 : Nat → Int32 → Int32 → RH → Option (Int32 × RH)
  | 0, _, _, _ => none
  | n + 1, x1, x2, rho =>
  if x2 = (-1) then
    some (0, rho)
  else
    ob (f9_endsCall (x2) (7) rho) fun _ rho3 =>
    ob (f9_liveOf (x1) ((-1)) rho3) fun r5 rho6 =>
    l9_turnsOff_7 n (x1) (r5) rho6
def f9_turnsOff (x1 : Int32) (rho : RH) : Option (Int32 × RH) :=
  ob (f9_liveOf (x1) ((-1)) rho) fun r1 rho2 =>
  l9_turnsOff_7 FU (x1) (r1) rho2
def l9_hasOutOf_4 : Nat → Int32 → Int32 → Int32 → RH → Option (Int32 × RH)
  | 0, _, _, _, _ => none
  | n + 1, x1, x2, x3, rho =>
  if (rho 31 0) ≤ x3 then
    if x2 = 0 ∨ x2 = 1 then
    some (x2, rho)
    else none
  else
    if x2 = 0 then
      if vq (x3) 400 then
      if (rho 32 (x3).toNatClampNeg) = x1 then
        ob (f9_isOut (x3) rho) fun r6 rho7 =>
        if r6 = 0 then
          l9_hasOutOf_4 n (x1) (0) (x3 + 1) rho7
        else
          l9_hasOutOf_4 n (x1) (1) (x3 + 1) rho7
      else
        l9_hasOutOf_4 n (x1) (0) (x3 + 1) rho
      else none
    else
      l9_hasOutOf_4 n (x1) (1) (x3 + 1) rho
def f9_hasOutOf (x1 : Int32) (rho : RH) : Option (Int32 × RH) :=
  l9_hasOutOf_4 FU (x1) (0) (0) rho
def f9_isSafeOf (x1 : Int32) (rho : RH) : Option (Int32 × RH) :=
  if 400 ≤ x1 then
    if 440 ≤ x1 then
      some (0, rho)
    else
      if vq ((x1 - 400)) 40 then
      if (rho 53 ((x1 - 400)).toNatClampNeg) = 0 then
        some (0, rho)
      else
        some (1, rho)
      else none
  else
    if vq (x1) 400 then
    if vq (x1) 540 then
    if vq (((4 * (rho 34 (x1).toNatClampNeg)) + (rho 46 (x1).toNatClampNeg))) 24 then
    if (rho 4 (((4 * (rho 34 (x1).toNatClampNeg)) + (rho 46 (x1).toNatClampNeg))).toNatClampNeg) = 0 ∨ (rho 4 (((4 * (rho 34 (x1).toNatClampNeg)) + (rho 46 (x1).toNatClampNeg))).toNatClampNeg) = 1 then
    some ((rho 4 (((4 * (rho 34 (x1).toNatClampNeg)) + (rho 46 (x1).toNatClampNeg))).toNatClampNeg), rho)
    else none
    else none
    else none
    else none
def l9_goesStep_12 : Nat → Int32 → Int32 → Int32 → RH → Option (Int32 × RH)
  | 0, _, _, _, _ => none
  | n + 1, x1, x2, x3, rho =>
  ob (f9_looks (x1) rho) fun r1 rho2 =>
  if r1 = 0 then
    ob (f9_hasOutOf (x1) rho2) fun r5 rho6 =>
    if r5 = 0 then
      if vq (x1) 540 then
      ob (f9_policyOf (x2) (x3) (1) rho6) fun r10 rho11 =>
      if r10 ≤ (rho6 49 (x1).toNatClampNeg) then
        some (2, rho11)
      else
        if (rho11 50 (x1).toNatClampNeg) = 6 then
          if vq (x2) 7 then
          if (rho11 17 (x2).toNatClampNeg) < 100 then
            some (2, rho11)
          else
            ob (f9_tries (x1) (1) rho11) fun _ rho18 =>
            l9_goesStep_12 n (x1) (x2) (x3) rho18
          else none
        else
          ob (f9_isSafeOf (x1) rho11) fun r20 rho21 =>
          if r20 = 0 then
            some (2, rho21)
          else
            if vq (x2) 7 then
            if (rho21 17 (x2).toNatClampNeg) < 100 then
              some (2, rho21)
            else
              ob (f9_tries (x1) (1) rho21) fun _ rho27 =>
              l9_goesStep_12 n (x1) (x2) (x3) rho27
            else none
      else none
    else
      ob (f9_policyOf (x2) (x3) (2) rho6) fun r29 rho30 =>
      ob (f9_isSafeOf (x1) rho30) fun r32 rho33 =>
      if r32 = 0 then
        some (0, rho33)
      else
        if r29 ≤ 0 then
          some (0, rho33)
        else
          if vq (x1) 540 then
          if ((rho33 0 0) - (rho33 47 (x1).toNatClampNeg)) < r29 then
            some (0, rho33)
          else
            if (rho33 48 (x1).toNatClampNeg) = 1 then
              if vq (x2) 7 then
              if (rho33 17 (x2).toNatClampNeg) < 100 then
                some (0, rho33)
              else
                ob (f9_tries (x1) (2) rho33) fun _ rho43 =>
                some (0, rho43)
              else none
            else
              some (0, rho33)
          else none
  else
    ob (f9_turnsOff (x1) rho2) fun _ rho46 =>
    some (1, rho46)
def f9_goesStep (x1 : Int32) (rho : RH) : Option (Int32 × RH) :=
  ob (f9_callerOf (x1) rho) fun r1 rho2 =>
  ob (f9_calledBy (x1) rho2) fun r4 rho5 =>
  l9_goesStep_12 FU (x1) (r1) (r4) rho5
def f9_endsRequest (x1 x2 : Int32) (rho : RH) : Option (Int32 × RH) :=
  if vq (x1) 40 then
  wr (up2 rho 56 (x1).toNatClampNeg (x2)) fun rho2 =>
  wr (up2 rho2 57 (x1).toNatClampNeg ((rho2 0 0))) fun rho4 =>
  if ¬ (rho4 29 0) = 0 then
  if (x1 - x1 / (rho4 29 0) * (rho4 29 0)) = 0 then
    wr (up2 rho4 58 (x1).toNatClampNeg (1)) fun rho8 =>
    ob (f9_turnsOff ((400 + x1)) rho8) fun _ rho11 =>
    some (0, rho11)
  else
    if x2 = 3 then
      if ((rho4 0 0) - (rho4 55 (x1).toNatClampNeg)) ≤ (rho4 30 0) then
        wr (up2 rho4 58 (x1).toNatClampNeg (0)) fun rho15 =>
        ob (f9_turnsOff ((400 + x1)) rho15) fun _ rho18 =>
        some (0, rho18)
      else
        wr (up2 rho4 58 (x1).toNatClampNeg (1)) fun rho20 =>
        ob (f9_turnsOff ((400 + x1)) rho20) fun _ rho23 =>
        some (0, rho23)
    else
      wr (up2 rho4 58 (x1).toNatClampNeg (1)) fun rho25 =>
      ob (f9_turnsOff ((400 + x1)) rho25) fun _ rho28 =>
      some (0, rho28)
  else none
  else none
def f9_goesRequest (x1 : Int32) (rho : RH) : Option (Int32 × RH) :=
  ob (f9_goesStep ((400 + x1)) rho) fun r1 rho2 =>
  if r1 ≤ 0 then
    some (0, rho2)
  else
    if r1 = 1 then
      ob (f9_endsRequest (x1) (3) rho2) fun _ rho7 =>
      some (0, rho7)
    else
      ob (f9_endsRequest (x1) (4) rho2) fun _ rho10 =>
      some (0, rho10)
def f9_request (x1 x2 x3 : Int32) (rho : RH) : Option (Int32 × RH) :=
  ob (f9_isService (x1) rho) fun r1 rho2 =>
  ob (f9_in (x3) (1) (200) rho2) fun r4 rho5 =>
  if 40 ≤ (rho5 51 0) then
    ob (f9_goes (r1) (r4) (0) rho5) fun r8 rho9 =>
    if r8 = 0 then
      some (0, rho9)
    else
      wr (up2 rho9 51 0 (((rho9 51 0) + 1))) fun rho12 =>
      if vq ((rho9 51 0)) 40 then
      wr (up2 rho12 52 ((rho9 51 0)).toNatClampNeg (x1)) fun rho15 =>
      if (x2 = 0 ∨ x2 = 1) then
      wr (up2 rho15 53 ((rho9 51 0)).toNatClampNeg (x2)) fun rho18 =>
      wr (up2 rho18 54 ((rho9 51 0)).toNatClampNeg (((rho18 0 0) + x3))) fun rho20 =>
      wr (up2 rho20 55 ((rho9 51 0)).toNatClampNeg ((rho20 0 0))) fun rho22 =>
      wr (up2 rho22 56 ((rho9 51 0)).toNatClampNeg (8)) fun rho24 =>
      if vq ((400 + (rho9 51 0))) 540 then
      wr (up2 rho24 46 ((400 + (rho9 51 0))).toNatClampNeg ((-1))) fun rho27 =>
      ob (f9_begins ((400 + (rho9 51 0))) rho27) fun _ rho30 =>
      ob (f9_goesRequest ((rho9 51 0)) rho30) fun _ rho33 =>
      some ((rho9 51 0), rho33)
      else none
      else none
      else none
  else
    ob (f9_goes (r1) (r4) (1) rho5) fun r35 rho36 =>
    if r35 = 0 then
      some (0, rho36)
    else
      wr (up2 rho36 51 0 (((rho36 51 0) + 1))) fun rho39 =>
      if vq ((rho36 51 0)) 40 then
      wr (up2 rho39 52 ((rho36 51 0)).toNatClampNeg (x1)) fun rho42 =>
      if (x2 = 0 ∨ x2 = 1) then
      wr (up2 rho42 53 ((rho36 51 0)).toNatClampNeg (x2)) fun rho45 =>
      wr (up2 rho45 54 ((rho36 51 0)).toNatClampNeg (((rho45 0 0) + x3))) fun rho47 =>
      wr (up2 rho47 55 ((rho36 51 0)).toNatClampNeg ((rho47 0 0))) fun rho49 =>
      wr (up2 rho49 56 ((rho36 51 0)).toNatClampNeg (8)) fun rho51 =>
      if vq ((400 + (rho36 51 0))) 540 then
      wr (up2 rho51 46 ((400 + (rho36 51 0))).toNatClampNeg ((-1))) fun rho54 =>
      ob (f9_begins ((400 + (rho36 51 0))) rho54) fun _ rho57 =>
      ob (f9_goesRequest ((rho36 51 0)) rho57) fun _ rho60 =>
      some ((rho36 51 0), rho60)
      else none
      else none
      else none
def f9_finishesWork (x1 : Int32) (rho : RH) : Option (Int32 × RH) :=
  if vq (x1) 400 then
  if vq (((4 * (rho 36 (x1).toNatClampNeg)) + 1)) 48 then
  if (rho 13 (((4 * (rho 36 (x1).toNatClampNeg)) + 1)).toNatClampNeg) = 1 then
    ob (f9_endsCall (x1) (4) rho) fun _ rho5 =>
    some (0, rho5)
  else
    if vq ((rho 34 (x1).toNatClampNeg)) 6 then
    if (rho 2 ((rho 34 (x1).toNatClampNeg)).toNatClampNeg) = 0 then
      ob (f9_endsCall (x1) (3) rho) fun _ rho10 =>
      some (0, rho10)
    else
      wr (up2 rho 37 (x1).toNatClampNeg (2)) fun rho12 =>
      some (0, rho12)
    else none
  else none
  else none
def l9_goesCall_21 : Nat → Int32 → Int32 → RH → Option (Int32 × RH)
  | 0, _, _, _ => none
  | n + 1, x1, x2, rho =>
  if x2 = 1 then
    if vq (x1) 540 then
    if vq (x1) 400 then
    if vq ((rho 34 (x1).toNatClampNeg)) 6 then
    if ((rho 2 ((rho 34 (x1).toNatClampNeg)).toNatClampNeg) - 1) ≤ (rho 46 (x1).toNatClampNeg) then
      if x2 ≤ 0 then
        some (0, rho)
      else
        ob (f9_endsCall (x1) (3) rho) fun _ rho8 =>
        some (0, rho8)
    else
      ob (f9_begins (x1) rho) fun _ rho11 =>
      ob (f9_goesStep (x1) rho11) fun r13 rho14 =>
      l9_goesCall_21 n (x1) (r13) rho14
    else none
    else none
    else none
  else
    if x2 ≤ 0 then
      some (0, rho)
    else
      ob (f9_endsCall (x1) (4) rho) fun _ rho18 =>
      some (0, rho18)
def f9_goesCall (x1 : Int32) (rho : RH) : Option (Int32 × RH) :=
  if vq (x1) 540 then
  if (rho 46 (x1).toNatClampNeg) = (-1) then
    ob (f9_begins (x1) rho) fun _ rho4 =>
    ob (f9_goesStep (x1) rho4) fun r6 rho7 =>
    l9_goesCall_21 FU (x1) (r6) rho7
  else
    ob (f9_goesStep (x1) rho) fun r9 rho10 =>
    l9_goesCall_21 FU (x1) (r9) rho10
  else none
def f9_goesRepair (x1 : Int32) (rho : RH) : Option (Int32 × RH) :=
  ob (f9_looks ((440 + x1)) rho) fun r1 rho2 =>
  if r1 = 0 then
    ob (f9_hasOutOf ((440 + x1)) rho2) fun r5 rho6 =>
    if r5 = 0 then
      ob (f9_tries ((440 + x1)) (3) rho6) fun _ rho10 =>
      some (0, rho10)
    else
      some (0, rho6)
  else
    if vq (x1) 100 then
    wr (up2 rho2 63 (x1).toNatClampNeg (1)) fun rho13 =>
    wr (up2 rho13 60 0 (((rho13 60 0) + 1))) fun rho15 =>
    ob (f9_turnsOff ((440 + x1)) rho15) fun _ rho18 =>
    some (0, rho18)
    else none
def l9_dequeues_10 : Nat → Int32 → Int32 → Int32 → RH → Option (Int32 × RH)
  | 0, _, _, _, _ => none
  | n + 1, x1, x2, x3, rho =>
  if (rho 31 0) ≤ x3 then
    some (0, rho)
  else
    if vq (x1) 12 then
    if (rho 10 (x1).toNatClampNeg) ≤ x2 then
      some (0, rho)
    else
      if vq (x3) 400 then
      if (rho 36 (x3).toNatClampNeg) = x1 then
        if (rho 37 (x3).toNatClampNeg) = 0 then
          ob (f9_runs (x3) rho) fun _ rho8 =>
          l9_dequeues_10 n (x1) (x2 + 1) (x3 + 1) rho8
        else
          l9_dequeues_10 n (x1) (x2) (x3 + 1) rho
      else
        l9_dequeues_10 n (x1) (x2) (x3 + 1) rho
      else none
    else none
def f9_dequeues (x1 : Int32) (rho : RH) : Option (Int32 × RH) :=
  ob (f9_countOf (x1) (1) (2) rho) fun r1 rho2 =>
  l9_dequeues_10 FU (x1) (r1) (0) rho2
def l9_passes_380 (K348 : Int32 → RH → Option (Int32 × RH)) : Nat → Int32 → Int32 → RH → Option (Int32 × RH)
  | 0, _, _, _ => none
  | n + 1, x2, x3, rho =>
  if 7 ≤ x3 then
    K348 (x2 + 1) rho
  else
    if vq (((12 * x3) + x2)) 84 then
    wr (up2 rho 24 (((12 * x3) + x2)).toNatClampNeg (0)) fun rho3 =>
    l9_passes_380 K348 n (x2) (x3 + 1) rho3
    else none
def l9_passes_348 : Nat → Int32 → RH → Option (Int32 × RH)
  | 0, _, _ => none
  | n + 1, x2, rho =>
  if (rho 6 0) ≤ x2 then
    some (0, rho)
  else
    if ((rho 0 0) - (rho 0 0) / 5 * 5) = 0 then
      ob (f9_countOf (x2) (0) (2) rho) fun r3 rho4 =>
      if vq (x2) 12 then
      wr (up2 rho4 14 (x2).toNatClampNeg (r3)) fun rho7 =>
      l9_passes_380 (l9_passes_348 n) FU (x2) (0) rho7
      else none
    else
      some (0, rho)
def l9_passes_327 : Nat → Int32 → RH → Option (Int32 × RH)
  | 0, _, _ => none
  | n + 1, x2, rho =>
  if (rho 6 0) ≤ x2 then
    l9_passes_348 FU (0) rho
  else
    ob (f9_dequeues (x2) rho) fun _ rho3 =>
    l9_passes_327 n (x2 + 1) rho3
def l9_passes_297 : Nat → Int32 → RH → Option (Int32 × RH)
  | 0, _, _ => none
  | n + 1, x2, rho =>
  if (rho 59 0) ≤ x2 then
    l9_passes_327 FU (0) rho
  else
    if vq (x2) 100 then
    if (rho 63 (x2).toNatClampNeg) = 0 then
      ob (f9_goesRepair (x2) rho) fun _ rho5 =>
      l9_passes_297 n (x2 + 1) rho5
    else
      l9_passes_297 n (x2 + 1) rho
    else none
def l9_passes_232 : Nat → Int32 → RH → Option (Int32 × RH)
  | 0, _, _ => none
  | n + 1, x2, rho =>
  if (rho 51 0) ≤ x2 then
    l9_passes_297 FU (0) rho
  else
    if vq (x2) 40 then
    if (rho 56 (x2).toNatClampNeg) = 8 then
      if (rho 0 0) < (rho 54 (x2).toNatClampNeg) then
        ob (f9_goesRequest (x2) rho) fun _ rho6 =>
        l9_passes_232 n (x2 + 1) rho6
      else
        ob (f9_endsRequest (x2) (5) rho) fun _ rho9 =>
        l9_passes_232 n (x2 + 1) rho9
    else
      l9_passes_232 n (x2 + 1) rho
    else none
def l9_passes_196 : Nat → Int32 → RH → Option (Int32 × RH)
  | 0, _, _ => none
  | n + 1, x2, rho =>
  if x2 < 0 then
    l9_passes_232 FU (0) rho
  else
    if vq (x2) 400 then
    if (rho 44 (x2).toNatClampNeg) = 0 then
      l9_passes_196 n (x2 + (-1)) rho
    else
      if (rho 37 (x2).toNatClampNeg) = 2 then
        ob (f9_goesCall (x2) rho) fun _ rho6 =>
        l9_passes_196 n (x2 + (-1)) rho6
      else
        l9_passes_196 n (x2 + (-1)) rho
    else none
def l9_passes_160 : Nat → Int32 → Int32 → RH → Option (Int32 × RH)
  | 0, _, _, _ => none
  | n + 1, x1, x2, rho =>
  if x1 ≤ x2 then
    l9_passes_196 FU ((x1 - 1)) rho
  else
    if vq (x2) 400 then
    if (rho 37 (x2).toNatClampNeg) = 2 then
      wr (up2 rho 44 (x2).toNatClampNeg (1)) fun rho4 =>
      l9_passes_160 n (x1) (x2 + 1) rho4
    else
      wr (up2 rho 44 (x2).toNatClampNeg (0)) fun rho6 =>
      l9_passes_160 n (x1) (x2 + 1) rho6
    else none
def l9_passes_111 : Nat → Int32 → RH → Option (Int32 × RH)
  | 0, _, _ => none
  | n + 1, x1, rho =>
  if (rho 31 0) ≤ x1 then
    l9_passes_160 FU ((rho 31 0)) (0) rho
  else
    if vq (x1) 400 then
    if (rho 37 (x1).toNatClampNeg) = 1 then
      if (rho 0 0) < (rho 39 (x1).toNatClampNeg) then
        l9_passes_111 n (x1 + 1) rho
      else
        ob (f9_finishesWork (x1) rho) fun _ rho6 =>
        l9_passes_111 n (x1 + 1) rho6
    else
      l9_passes_111 n (x1 + 1) rho
    else none
def l9_passes_68 : Nat → Int32 → RH → Option (Int32 × RH)
  | 0, _, _ => none
  | n + 1, x1, rho =>
  if (rho 31 0) ≤ x1 then
    l9_passes_111 FU (0) rho
  else
    ob (f9_hasEnded (x1) rho) fun r2 rho3 =>
    if r2 = 0 then
      if vq (x1) 400 then
      if (rho3 0 0) < (rho3 38 (x1).toNatClampNeg) then
        l9_passes_68 n (x1 + 1) rho3
      else
        ob (f9_endsCall (x1) (5) rho3) fun _ rho9 =>
        l9_passes_68 n (x1 + 1) rho9
      else none
    else
      l9_passes_68 n (x1 + 1) rho3
def l9_passes_12 : Nat → Int32 → RH → Option (Int32 × RH)
  | 0, _, _ => none
  | n + 1, x1, rho =>
  if 84 ≤ x1 then
    l9_passes_68 FU (0) rho
  else
    if vq (x1) 84 then
    if (rho 21 (x1).toNatClampNeg) = 1 then
      if ((rho 0 0) - (rho 23 (x1).toNatClampNeg)) < 10 then
        wr (up2 rho 21 (x1).toNatClampNeg ((rho 21 (x1).toNatClampNeg))) fun rho5 =>
        l9_passes_12 n (x1 + 1) rho5
      else
        wr (up2 rho 21 (x1).toNatClampNeg (2)) fun rho7 =>
        l9_passes_12 n (x1 + 1) rho7
    else
      wr (up2 rho 21 (x1).toNatClampNeg ((rho 21 (x1).toNatClampNeg))) fun rho9 =>
      l9_passes_12 n (x1 + 1) rho9
    else none
def f9_passes (rho : RH) : Option (Int32 × RH) :=
  wr (up2 rho 0 0 (((rho 0 0) + 1))) fun rho1 =>
  l9_passes_12 FU (0) rho1
def l9_pass_36 : Nat → Int32 → Int32 → RH → Option (Int32 × RH)
  | 0, _, _, _ => none
  | n + 1, x1, x2, rho =>
  if x1 ≤ x2 then
    some ((rho 0 0), rho)
  else
    ob (f9_passes  rho) fun _ rho3 =>
    l9_pass_36 n (x1) (x2 + 1) rho3
def f9_pass (x1 : Int32) (rho : RH) : Option (Int32 × RH) :=
  ob (f9_in (x1) (1) (50) rho) fun r1 rho2 =>
  if 600 < ((rho2 0 0) + x1) then
    ob (f9_goes (r1) (0) (1) rho2) fun r5 rho6 =>
    if r5 = 0 then
      some (0, rho6)
    else
      l9_pass_36 FU (x1) (0) rho6
  else
    ob (f9_goes (r1) (1) (1) rho2) fun r9 rho10 =>
    if r9 = 0 then
      some (0, rho10)
    else
      l9_pass_36 FU (x1) (0) rho10
def f9_tick (rho : RH) : Option (Int32 × RH) :=
  wr (up2 rho 64 0 (0)) fun rho1 =>
  some ((rho1 0 0), rho1)
def f9_isRequest (x1 : Int32) (rho : RH) : Option (Int32 × RH) :=
  ob (f9_in (x1) (0) (((rho 51 0) - 1)) rho) fun r1 rho2 =>
  if r1 = 0 ∨ r1 = 1 then
  some (r1, rho2)
  else none
def f9_requestState (x1 : Int32) (rho : RH) : Option (Int32 × RH) :=
  ob (f9_isRequest (x1) rho) fun r1 rho2 =>
  ob (f9_goes (r1) (1) (1) rho2) fun r4 rho5 =>
  if r4 = 0 then
    some (0, rho5)
  else
    if vq (x1) 40 then
    some ((rho5 56 (x1).toNatClampNeg), rho5)
    else none
def f9_requestTicks (x1 : Int32) (rho : RH) : Option (Int32 × RH) :=
  ob (f9_isRequest (x1) rho) fun r1 rho2 =>
  ob (f9_goes (r1) (1) (1) rho2) fun r4 rho5 =>
  if r4 = 0 then
    some (0, rho5)
  else
    if vq (x1) 40 then
    if (rho5 56 (x1).toNatClampNeg) = 8 then
      some (((rho5 0 0) - (rho5 55 (x1).toNatClampNeg)), rho5)
    else
      some (((rho5 57 (x1).toNatClampNeg) - (rho5 55 (x1).toNatClampNeg)), rho5)
    else none
def f9_isKept (x1 : Int32) (rho : RH) : Option (Int32 × RH) :=
  ob (f9_isRequest (x1) rho) fun r1 rho2 =>
  ob (f9_goes (r1) (1) (1) rho2) fun r4 rho5 =>
  if r4 = 0 then
    some (0, rho5)
  else
    if vq (x1) 40 then
    if (rho5 56 (x1).toNatClampNeg) = 8 then
      if ¬ (rho5 29 0) = 0 then
      if (x1 - x1 / (rho5 29 0) * (rho5 29 0)) = 0 then
        some (1, rho5)
      else
        some (0, rho5)
      else none
    else
      if (rho5 58 (x1).toNatClampNeg) = 0 then
        some (0, rho5)
      else
        some (1, rho5)
    else none
def l9_callsOf_20 : Nat → Int32 → Int32 → Int32 → RH → Option (Int32 × RH)
  | 0, _, _, _, _ => none
  | n + 1, x1, x2, x3, rho =>
  if (rho 31 0) ≤ x3 then
    some (x2, rho)
  else
    if vq (x3) 400 then
    if (rho 40 (x3).toNatClampNeg) = x1 then
      l9_callsOf_20 n (x1) ((x2 + 1)) (x3 + 1) rho
    else
      l9_callsOf_20 n (x1) ((x2 + 0)) (x3 + 1) rho
    else none
def f9_callsOf (x1 : Int32) (rho : RH) : Option (Int32 × RH) :=
  ob (f9_isRequest (x1) rho) fun r1 rho2 =>
  ob (f9_goes (r1) (1) (1) rho2) fun r4 rho5 =>
  if r4 = 0 then
    some (0, rho5)
  else
    l9_callsOf_20 FU (x1) (0) (0) rho5
def f9_calls (rho : RH) : Option (Int32 × RH) :=
  wr (up2 rho 64 0 (0)) fun rho1 =>
  some ((rho1 31 0), rho1)
def f9_toldOf (x1 x2 : Int32) (rho : RH) : Option (Int32 × RH) :=
  if x2 = nI 0 then
    if vq (x1) 400 then
    some ((rho 34 (x1).toNatClampNeg), rho)
    else none
  else
  if x2 = nI 1 then
    if vq (x1) 400 then
    some ((rho 36 (x1).toNatClampNeg), rho)
    else none
  else
  if x2 = nI 2 then
    if vq (x1) 400 then
    some ((rho 37 (x1).toNatClampNeg), rho)
    else none
  else
  if x2 = nI 3 then
    if vq (x1) 400 then
    some ((rho 38 (x1).toNatClampNeg), rho)
    else none
  else
  if x2 = nI 4 then
    if vq (x1) 400 then
    if 400 ≤ (rho 32 (x1).toNatClampNeg) then
      some ((-1), rho)
    else
      some ((rho 32 (x1).toNatClampNeg), rho)
    else none
  else
  if x2 = nI 5 then
    if vq (x1) 400 then
    some ((rho 40 (x1).toNatClampNeg), rho)
    else none
  else
  if x2 = nI 6 then
    if vq (x1) 540 then
    some (((rho 46 (x1).toNatClampNeg) + 1), rho)
    else none
  else
  if vq (x1) 400 then
  if 440 ≤ (rho 32 (x1).toNatClampNeg) then
    some ((((rho 32 (x1).toNatClampNeg) - 400) - 40), rho)
  else
    some ((-1), rho)
  else none
def f9_call (x1 x2 : Int32) (rho : RH) : Option (Int32 × RH) :=
  ob (f9_in (x1) (0) (((rho 31 0) - 1)) rho) fun r1 rho2 =>
  ob (f9_in (x2) (0) (7) rho2) fun r4 rho5 =>
  ob (f9_goes (r1) (r4) (1) rho5) fun r7 rho8 =>
  if r7 = 0 then
    some (0, rho8)
  else
    ob (f9_toldOf (x1) (x2) rho8) fun r11 rho12 =>
    some (r11, rho12)
def f9_budget (x1 : Int32) (rho : RH) : Option (Int32 × RH) :=
  ob (f9_isCaller (x1) rho) fun r1 rho2 =>
  ob (f9_goes (r1) (1) (1) rho2) fun r4 rho5 =>
  if r4 = 0 then
    some (0, rho5)
  else
    if vq (x1) 7 then
    some ((rho5 17 (x1).toNatClampNeg), rho5)
    else none
def f9_breaker (x1 x2 : Int32) (rho : RH) : Option (Int32 × RH) :=
  ob (f9_isCaller (x1) rho) fun r1 rho2 =>
  if r1 = 0 then
    ob (f9_goes (0) (1) (1) rho2) fun r5 rho6 =>
    if r5 = 0 then
      some (0, rho6)
    else
      if vq (((12 * x1) + x2)) 84 then
      some ((rho6 21 (((12 * x1) + x2)).toNatClampNeg), rho6)
      else none
  else
    ob (f9_isInstance (x2) rho2) fun r10 rho11 =>
    if r10 = 0 then
      ob (f9_goes (0) (1) (1) rho11) fun r14 rho15 =>
      if r14 = 0 then
        some (0, rho15)
      else
        if vq (((12 * x1) + x2)) 84 then
        some ((rho15 21 (((12 * x1) + x2)).toNatClampNeg), rho15)
        else none
    else
      ob (f9_goes (1) (1) (1) rho11) fun r19 rho20 =>
      if r19 = 0 then
        some (0, rho20)
      else
        if vq (((12 * x1) + x2)) 84 then
        some ((rho20 21 (((12 * x1) + x2)).toNatClampNeg), rho20)
        else none
def f9_isShunned (x1 : Int32) (rho : RH) : Option (Int32 × RH) :=
  ob (f9_isInstance (x1) rho) fun r1 rho2 =>
  ob (f9_goes (r1) (1) (1) rho2) fun r4 rho5 =>
  if r4 = 0 then
    some (0, rho5)
  else
    ob (f9_isAvoided (x1) rho5) fun r8 rho9 =>
    if r8 = 0 then
      some (0, rho9)
    else
      some (1, rho9)
def f9_load (x1 x2 : Int32) (rho : RH) : Option (Int32 × RH) :=
  ob (f9_isInstance (x1) rho) fun r1 rho2 =>
  ob (f9_goes (r1) (1) (1) rho2) fun r4 rho5 =>
  if r4 = 0 then
    some (0, rho5)
  else
    if x2 = 0 then
      if vq (x1) 12 then
      some ((rho5 14 (x1).toNatClampNeg), rho5)
      else none
    else
      ob (f9_countOf (x1) (0) (2) rho5) fun r10 rho11 =>
      some (r10, rho11)
def f9_canaryShare (x1 : Int32) (rho : RH) : Option (Int32 × RH) :=
  ob (f9_isService (x1) rho) fun r1 rho2 =>
  ob (f9_goes (r1) (1) (1) rho2) fun r4 rho5 =>
  if r4 = 0 then
    some (0, rho5)
  else
    if vq (x1) 6 then
    some ((rho5 25 (x1).toNatClampNeg), rho5)
    else none
def f9_repairs (x1 : Int32) (rho : RH) : Option (Int32 × RH) :=
  wr (up2 rho 64 0 (0)) fun rho1 =>
  if x1 = 0 then
    some ((rho1 59 0), rho1)
  else
    some ((rho1 60 0), rho1)
def f9_extra (x1 : Int32) (rho : RH) : Option (Int32 × RH) :=
  ob (f9_isCaller (x1) rho) fun r1 rho2 =>
  ob (f9_goes (r1) (1) (1) rho2) fun r4 rho5 =>
  if r4 = 0 then
    some (0, rho5)
  else
    if vq (x1) 7 then
    some ((rho5 19 (x1).toNatClampNeg), rho5)
    else none
def f9_first (x1 : Int32) (rho : RH) : Option (Int32 × RH) :=
  ob (f9_isCaller (x1) rho) fun r1 rho2 =>
  ob (f9_goes (r1) (1) (1) rho2) fun r4 rho5 =>
  if r4 = 0 then
    some (0, rho5)
  else
    if vq (x1) 7 then
    some ((rho5 18 (x1).toNatClampNeg), rho5)
    else none
end G9
