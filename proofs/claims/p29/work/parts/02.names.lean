-- ===== PART A: goes FIRST, ahead of the names: the tables' words, and 'selects' of the private methods out of them =====
/-- a private method of a class that the tables say can be made, by its rows of tables_1 -/
def lw_okq (q : MethodName × Nat) : Prop := (q.1.cls ≠ "java/lang/invoke/MethodHandle" ∧ q.1.cls ≠ "java/lang/invoke/VarHandle") ∧ Cond.instantiable q.1.cls q.2 ∈ tables_1 ∧ Cond.privateMethod q.1 ∈ tables_1 ∧ Cond.instanceMethod q.1 ∈ tables_1
theorem lw_p0 : lw_okq (⟨"java/lang/Throwable", "fillInStackTrace", "(I)Ljava/lang/Throwable;"⟩, 6) := ⟨⟨by decide +kernel, by decide +kernel⟩, List.mem_of_getElem? (i := 247) (by decide +kernel), List.mem_of_getElem? (i := 245) (by decide +kernel), List.mem_of_getElem? (i := 246) (by decide +kernel)⟩
theorem lw_p1 : lw_okq (⟨"BrambleMesh", "isKeptByHead", "(LBrambleMesh$Request;)Z"⟩, 11) := ⟨⟨by decide +kernel, by decide +kernel⟩, List.mem_of_getElem? (i := 26) (by decide +kernel), List.mem_of_getElem? (i := 350) (by decide +kernel), List.mem_of_getElem? (i := 351) (by decide +kernel)⟩
theorem lw_p2 : lw_okq (⟨"java/util/ArrayList", "add", "(Ljava/lang/Object;[Ljava/lang/Object;I)V"⟩, 3) := ⟨⟨by decide +kernel, by decide +kernel⟩, List.mem_of_getElem? (i := 40) (by decide +kernel), List.mem_of_getElem? (i := 545) (by decide +kernel), List.mem_of_getElem? (i := 546) (by decide +kernel)⟩
theorem lw_p3 : lw_okq (⟨"java/util/ArrayList", "grow", "()[Ljava/lang/Object;"⟩, 3) := ⟨⟨by decide +kernel, by decide +kernel⟩, List.mem_of_getElem? (i := 40) (by decide +kernel), List.mem_of_getElem? (i := 549) (by decide +kernel), List.mem_of_getElem? (i := 550) (by decide +kernel)⟩
theorem lw_p4 : lw_okq (⟨"java/util/ArrayList", "grow", "(I)[Ljava/lang/Object;"⟩, 3) := ⟨⟨by decide +kernel, by decide +kernel⟩, List.mem_of_getElem? (i := 40) (by decide +kernel), List.mem_of_getElem? (i := 553) (by decide +kernel), List.mem_of_getElem? (i := 554) (by decide +kernel)⟩
theorem lw_p5 : lw_okq (⟨"BrambleMesh", "tryOnce", "(LBrambleMesh$Step;Z)V"⟩, 11) := ⟨⟨by decide +kernel, by decide +kernel⟩, List.mem_of_getElem? (i := 26) (by decide +kernel), List.mem_of_getElem? (i := 762) (by decide +kernel), List.mem_of_getElem? (i := 763) (by decide +kernel)⟩
theorem lw_p6 : lw_okq (⟨"BrambleMesh", "choose", "(LBrambleMesh$Step;)LBrambleMesh$Instance;"⟩, 11) := ⟨⟨by decide +kernel, by decide +kernel⟩, List.mem_of_getElem? (i := 26) (by decide +kernel), List.mem_of_getElem? (i := 771) (by decide +kernel), List.mem_of_getElem? (i := 772) (by decide +kernel)⟩
theorem lw_p7 : lw_okq (⟨"BrambleMesh", "canChoose", "(ILBrambleMesh$Instance;)Z"⟩, 11) := ⟨⟨by decide +kernel, by decide +kernel⟩, List.mem_of_getElem? (i := 26) (by decide +kernel), List.mem_of_getElem? (i := 779) (by decide +kernel), List.mem_of_getElem? (i := 780) (by decide +kernel)⟩
theorem lw_p8 : lw_okq (⟨"BrambleMesh", "hasTryOutAt", "(ILBrambleMesh$Instance;)Z"⟩, 11) := ⟨⟨by decide +kernel, by decide +kernel⟩, List.mem_of_getElem? (i := 26) (by decide +kernel), List.mem_of_getElem? (i := 783) (by decide +kernel), List.mem_of_getElem? (i := 784) (by decide +kernel)⟩
theorem lw_p9 : lw_okq (⟨"BrambleMesh", "policyOf", "(LBrambleMesh$Step;I)I"⟩, 11) := ⟨⟨by decide +kernel, by decide +kernel⟩, List.mem_of_getElem? (i := 26) (by decide +kernel), List.mem_of_getElem? (i := 800) (by decide +kernel), List.mem_of_getElem? (i := 801) (by decide +kernel)⟩
theorem lw_p10 : lw_okq (⟨"BrambleMesh", "place", "(LBrambleMesh$Call;)V"⟩, 11) := ⟨⟨by decide +kernel, by decide +kernel⟩, List.mem_of_getElem? (i := 26) (by decide +kernel), List.mem_of_getElem? (i := 857) (by decide +kernel), List.mem_of_getElem? (i := 858) (by decide +kernel)⟩
theorem lw_p11 : lw_okq (⟨"BrambleMesh", "run", "(LBrambleMesh$Call;)V"⟩, 11) := ⟨⟨by decide +kernel, by decide +kernel⟩, List.mem_of_getElem? (i := 26) (by decide +kernel), List.mem_of_getElem? (i := 861) (by decide +kernel), List.mem_of_getElem? (i := 862) (by decide +kernel)⟩
theorem lw_p12 : lw_okq (⟨"BrambleMesh", "goOn", "(LBrambleMesh$Step;)V"⟩, 11) := ⟨⟨by decide +kernel, by decide +kernel⟩, List.mem_of_getElem? (i := 26) (by decide +kernel), List.mem_of_getElem? (i := 870) (by decide +kernel), List.mem_of_getElem? (i := 871) (by decide +kernel)⟩
theorem lw_p13 : lw_okq (⟨"BrambleMesh", "lookAtEnds", "(LBrambleMesh$Step;)V"⟩, 11) := ⟨⟨by decide +kernel, by decide +kernel⟩, List.mem_of_getElem? (i := 26) (by decide +kernel), List.mem_of_getElem? (i := 874) (by decide +kernel), List.mem_of_getElem? (i := 875) (by decide +kernel)⟩
theorem lw_p14 : lw_okq (⟨"BrambleMesh", "close", "(LBrambleMesh$Step;I)V"⟩, 11) := ⟨⟨by decide +kernel, by decide +kernel⟩, List.mem_of_getElem? (i := 26) (by decide +kernel), List.mem_of_getElem? (i := 890) (by decide +kernel), List.mem_of_getElem? (i := 891) (by decide +kernel)⟩
theorem lw_p15 : lw_okq (⟨"BrambleMesh", "end", "(LBrambleMesh$Call;II)V"⟩, 11) := ⟨⟨by decide +kernel, by decide +kernel⟩, List.mem_of_getElem? (i := 26) (by decide +kernel), List.mem_of_getElem? (i := 898) (by decide +kernel), List.mem_of_getElem? (i := 899) (by decide +kernel)⟩
def lw_privs_1 : List (MethodName × Nat) := [(⟨"java/lang/Throwable", "fillInStackTrace", "(I)Ljava/lang/Throwable;"⟩, 6), (⟨"BrambleMesh", "isKeptByHead", "(LBrambleMesh$Request;)Z"⟩, 11), (⟨"java/util/ArrayList", "add", "(Ljava/lang/Object;[Ljava/lang/Object;I)V"⟩, 3), (⟨"java/util/ArrayList", "grow", "()[Ljava/lang/Object;"⟩, 3), (⟨"java/util/ArrayList", "grow", "(I)[Ljava/lang/Object;"⟩, 3), (⟨"BrambleMesh", "tryOnce", "(LBrambleMesh$Step;Z)V"⟩, 11), (⟨"BrambleMesh", "choose", "(LBrambleMesh$Step;)LBrambleMesh$Instance;"⟩, 11), (⟨"BrambleMesh", "canChoose", "(ILBrambleMesh$Instance;)Z"⟩, 11), (⟨"BrambleMesh", "hasTryOutAt", "(ILBrambleMesh$Instance;)Z"⟩, 11), (⟨"BrambleMesh", "policyOf", "(LBrambleMesh$Step;I)I"⟩, 11), (⟨"BrambleMesh", "place", "(LBrambleMesh$Call;)V"⟩, 11), (⟨"BrambleMesh", "run", "(LBrambleMesh$Call;)V"⟩, 11), (⟨"BrambleMesh", "goOn", "(LBrambleMesh$Step;)V"⟩, 11), (⟨"BrambleMesh", "lookAtEnds", "(LBrambleMesh$Step;)V"⟩, 11), (⟨"BrambleMesh", "close", "(LBrambleMesh$Step;I)V"⟩, 11), (⟨"BrambleMesh", "end", "(LBrambleMesh$Call;II)V"⟩, 11)]
theorem lw_r1 : ∀ q ∈ lw_privs_1, lw_okq q := List.forall_mem_cons.mpr ⟨lw_p0, List.forall_mem_cons.mpr ⟨lw_p1, List.forall_mem_cons.mpr ⟨lw_p2, List.forall_mem_cons.mpr ⟨lw_p3, List.forall_mem_cons.mpr ⟨lw_p4, List.forall_mem_cons.mpr ⟨lw_p5, List.forall_mem_cons.mpr ⟨lw_p6, List.forall_mem_cons.mpr ⟨lw_p7, List.forall_mem_cons.mpr ⟨lw_p8, List.forall_mem_cons.mpr ⟨lw_p9, List.forall_mem_cons.mpr ⟨lw_p10, List.forall_mem_cons.mpr ⟨lw_p11, List.forall_mem_cons.mpr ⟨lw_p12, List.forall_mem_cons.mpr ⟨lw_p13, List.forall_mem_cons.mpr ⟨lw_p14, List.forall_mem_cons.mpr ⟨lw_p15, fun _ h => absurd h List.not_mem_nil⟩⟩⟩⟩⟩⟩⟩⟩⟩⟩⟩⟩⟩⟩⟩⟩
theorem lw_p16 : lw_okq (⟨"java/util/ArrayList", "fastRemove", "([Ljava/lang/Object;I)V"⟩, 3) := ⟨⟨by decide +kernel, by decide +kernel⟩, List.mem_of_getElem? (i := 40) (by decide +kernel), List.mem_of_getElem? (i := 911) (by decide +kernel), List.mem_of_getElem? (i := 912) (by decide +kernel)⟩
theorem lw_p17 : lw_okq (⟨"BrambleMesh", "beginRepairs", "(LBrambleMesh$Call;)V"⟩, 11) := ⟨⟨by decide +kernel, by decide +kernel⟩, List.mem_of_getElem? (i := 26) (by decide +kernel), List.mem_of_getElem? (i := 924) (by decide +kernel), List.mem_of_getElem? (i := 925) (by decide +kernel)⟩
theorem lw_p18 : lw_okq (⟨"BrambleMesh", "canPay", "(LBrambleMesh$Step;)Z"⟩, 11) := ⟨⟨by decide +kernel, by decide +kernel⟩, List.mem_of_getElem? (i := 26) (by decide +kernel), List.mem_of_getElem? (i := 933) (by decide +kernel), List.mem_of_getElem? (i := 934) (by decide +kernel)⟩
theorem lw_p19 : lw_okq (⟨"BrambleMesh", "isHedgeDue", "(LBrambleMesh$Step;)Z"⟩, 11) := ⟨⟨by decide +kernel, by decide +kernel⟩, List.mem_of_getElem? (i := 26) (by decide +kernel), List.mem_of_getElem? (i := 937) (by decide +kernel), List.mem_of_getElem? (i := 938) (by decide +kernel)⟩
theorem lw_p20 : lw_okq (⟨"BrambleMesh", "endIfOver", "(LBrambleMesh$Request;)V"⟩, 11) := ⟨⟨by decide +kernel, by decide +kernel⟩, List.mem_of_getElem? (i := 26) (by decide +kernel), List.mem_of_getElem? (i := 941) (by decide +kernel), List.mem_of_getElem? (i := 942) (by decide +kernel)⟩
theorem lw_p21 : lw_okq (⟨"BrambleMesh", "endRequest", "(LBrambleMesh$Request;I)V"⟩, 11) := ⟨⟨by decide +kernel, by decide +kernel⟩, List.mem_of_getElem? (i := 26) (by decide +kernel), List.mem_of_getElem? (i := 945) (by decide +kernel), List.mem_of_getElem? (i := 946) (by decide +kernel)⟩
theorem lw_p22 : lw_okq (⟨"BrambleMesh", "halfOpenBreakers", "()V"⟩, 11) := ⟨⟨by decide +kernel, by decide +kernel⟩, List.mem_of_getElem? (i := 26) (by decide +kernel), List.mem_of_getElem? (i := 956) (by decide +kernel), List.mem_of_getElem? (i := 957) (by decide +kernel)⟩
theorem lw_p23 : lw_okq (⟨"BrambleMesh", "endLateCalls", "()V"⟩, 11) := ⟨⟨by decide +kernel, by decide +kernel⟩, List.mem_of_getElem? (i := 26) (by decide +kernel), List.mem_of_getElem? (i := 964) (by decide +kernel), List.mem_of_getElem? (i := 965) (by decide +kernel)⟩
theorem lw_p24 : lw_okq (⟨"BrambleMesh", "endWork", "()V"⟩, 11) := ⟨⟨by decide +kernel, by decide +kernel⟩, List.mem_of_getElem? (i := 26) (by decide +kernel), List.mem_of_getElem? (i := 968) (by decide +kernel), List.mem_of_getElem? (i := 969) (by decide +kernel)⟩
theorem lw_p25 : lw_okq (⟨"BrambleMesh", "goOnWithCalls", "()V"⟩, 11) := ⟨⟨by decide +kernel, by decide +kernel⟩, List.mem_of_getElem? (i := 26) (by decide +kernel), List.mem_of_getElem? (i := 972) (by decide +kernel), List.mem_of_getElem? (i := 973) (by decide +kernel)⟩
theorem lw_p26 : lw_okq (⟨"BrambleMesh", "beginStep", "(LBrambleMesh$Call;I)LBrambleMesh$Step;"⟩, 11) := ⟨⟨by decide +kernel, by decide +kernel⟩, List.mem_of_getElem? (i := 26) (by decide +kernel), List.mem_of_getElem? (i := 979) (by decide +kernel), List.mem_of_getElem? (i := 980) (by decide +kernel)⟩
theorem lw_p27 : lw_okq (⟨"BrambleMesh", "goOnWithRequests", "()V"⟩, 11) := ⟨⟨by decide +kernel, by decide +kernel⟩, List.mem_of_getElem? (i := 26) (by decide +kernel), List.mem_of_getElem? (i := 986) (by decide +kernel), List.mem_of_getElem? (i := 987) (by decide +kernel)⟩
theorem lw_p28 : lw_okq (⟨"BrambleMesh", "goOnWithRepairs", "()V"⟩, 11) := ⟨⟨by decide +kernel, by decide +kernel⟩, List.mem_of_getElem? (i := 26) (by decide +kernel), List.mem_of_getElem? (i := 990) (by decide +kernel), List.mem_of_getElem? (i := 991) (by decide +kernel)⟩
theorem lw_p29 : lw_okq (⟨"BrambleMesh", "runQueued", "()V"⟩, 11) := ⟨⟨by decide +kernel, by decide +kernel⟩, List.mem_of_getElem? (i := 26) (by decide +kernel), List.mem_of_getElem? (i := 994) (by decide +kernel), List.mem_of_getElem? (i := 995) (by decide +kernel)⟩
theorem lw_p30 : lw_okq (⟨"BrambleMesh", "tellLoads", "()V"⟩, 11) := ⟨⟨by decide +kernel, by decide +kernel⟩, List.mem_of_getElem? (i := 26) (by decide +kernel), List.mem_of_getElem? (i := 999) (by decide +kernel), List.mem_of_getElem? (i := 1000) (by decide +kernel)⟩
def lw_privs_2 : List (MethodName × Nat) := [(⟨"java/util/ArrayList", "fastRemove", "([Ljava/lang/Object;I)V"⟩, 3), (⟨"BrambleMesh", "beginRepairs", "(LBrambleMesh$Call;)V"⟩, 11), (⟨"BrambleMesh", "canPay", "(LBrambleMesh$Step;)Z"⟩, 11), (⟨"BrambleMesh", "isHedgeDue", "(LBrambleMesh$Step;)Z"⟩, 11), (⟨"BrambleMesh", "endIfOver", "(LBrambleMesh$Request;)V"⟩, 11), (⟨"BrambleMesh", "endRequest", "(LBrambleMesh$Request;I)V"⟩, 11), (⟨"BrambleMesh", "halfOpenBreakers", "()V"⟩, 11), (⟨"BrambleMesh", "endLateCalls", "()V"⟩, 11), (⟨"BrambleMesh", "endWork", "()V"⟩, 11), (⟨"BrambleMesh", "goOnWithCalls", "()V"⟩, 11), (⟨"BrambleMesh", "beginStep", "(LBrambleMesh$Call;I)LBrambleMesh$Step;"⟩, 11), (⟨"BrambleMesh", "goOnWithRequests", "()V"⟩, 11), (⟨"BrambleMesh", "goOnWithRepairs", "()V"⟩, 11), (⟨"BrambleMesh", "runQueued", "()V"⟩, 11), (⟨"BrambleMesh", "tellLoads", "()V"⟩, 11)]
theorem lw_r2 : ∀ q ∈ lw_privs_2, lw_okq q := List.forall_mem_cons.mpr ⟨lw_p16, List.forall_mem_cons.mpr ⟨lw_p17, List.forall_mem_cons.mpr ⟨lw_p18, List.forall_mem_cons.mpr ⟨lw_p19, List.forall_mem_cons.mpr ⟨lw_p20, List.forall_mem_cons.mpr ⟨lw_p21, List.forall_mem_cons.mpr ⟨lw_p22, List.forall_mem_cons.mpr ⟨lw_p23, List.forall_mem_cons.mpr ⟨lw_p24, List.forall_mem_cons.mpr ⟨lw_p25, List.forall_mem_cons.mpr ⟨lw_p26, List.forall_mem_cons.mpr ⟨lw_p27, List.forall_mem_cons.mpr ⟨lw_p28, List.forall_mem_cons.mpr ⟨lw_p29, List.forall_mem_cons.mpr ⟨lw_p30, fun _ h => absurd h List.not_mem_nil⟩⟩⟩⟩⟩⟩⟩⟩⟩⟩⟩⟩⟩⟩⟩
def lw_privs : List (MethodName × Nat) := lw_privs_1 ++ (lw_privs_2)
def lw_tbl : List Cond := k2_sels lw_privs ++ tables_1
theorem lw_privs_ok : ∀ q ∈ lw_privs, lw_okq q := by
  show ∀ q ∈ lw_privs_1 ++ (lw_privs_2), lw_okq q
  exact List.forall_mem_append.mpr ⟨lw_r1, lw_r2⟩
/-! ===== BEGIN printed: names, fields, word lists, decode rows ===== -/
def RX0 : String := "BrambleMesh$Breaker"
def TX0 : u_T := fun k => match k with
  | 0 => ("BrambleMesh$Breaker", "state", "I", false)
  | 1 => ("BrambleMesh$Breaker", "inRow", "I", false)
  | _ => ("BrambleMesh$Breaker", "openedAt", "I", false)
def tyX0 : Nat → FieldType := fun k => match k with
  | 0 => .int
  | 1 => .int
  | _ => .int
abbrev wsX00 : List Cond := u_ws RX0 TX0 3
theorem nmX0 : ∀ a, a < 3 → ∀ b, b < 3 → a ≠ b → (TX0 a).2.1 ≠ (TX0 b).2.1 := by decide +kernel
theorem tyX0_ok : ∀ k, k < 3 → parseFieldDescriptor (TX0 k).2.2.1 = some (tyX0 k) := by decide +kernel
abbrev cX0_init : ByteArray := prog_2_method_1_code
def yX0_init : MethodName := ⟨RX0, "<init>", "()V"⟩
abbrev cX0_count : ByteArray := prog_2_method_2_code
def yX0_count : MethodName := ⟨RX0, "count", "(ZI)V"⟩
abbrev cX0_rest : ByteArray := prog_2_method_3_code
def yX0_rest : MethodName := ⟨RX0, "rest", "(I)V"⟩
def RX1 : String := "BrambleMesh$Call"
def TX1 : u_T := fun k => match k with
  | 0 => ("BrambleMesh$Call", "number", "I", true)
  | 1 => ("BrambleMesh$Call", "of", "LBrambleMesh$Step;", true)
  | 2 => ("BrambleMesh$Call", "at", "LBrambleMesh$Instance;", true)
  | 3 => ("BrambleMesh$Call", "deadline", "I", true)
  | 4 => ("BrambleMesh$Call", "steps", "Ljava/util/ArrayList;", true)
  | 5 => ("BrambleMesh$Call", "state", "I", false)
  | 6 => ("BrambleMesh$Call", "doneAt", "I", false)
  | 7 => ("BrambleMesh$Call", "knownAs", "I", false)
  | 8 => ("BrambleMesh$Call", "knownAt", "I", false)
  | _ => ("BrambleMesh$Call", "isLookedAt", "Z", false)
def tyX1 : Nat → FieldType := fun k => match k with
  | 0 => .int
  | 1 => .object "BrambleMesh$Step"
  | 2 => .object "BrambleMesh$Instance"
  | 3 => .int
  | 4 => .object "java/util/ArrayList"
  | 5 => .int
  | 6 => .int
  | 7 => .int
  | 8 => .int
  | _ => .boolean
abbrev wsX10 : List Cond := u_ws RX1 TX1 10
theorem nmX1 : ∀ a, a < 10 → ∀ b, b < 10 → a ≠ b → (TX1 a).2.1 ≠ (TX1 b).2.1 := by decide +kernel
theorem tyX1_ok : ∀ k, k < 10 → parseFieldDescriptor (TX1 k).2.2.1 = some (tyX1 k) := by decide +kernel
abbrev cX1_init : ByteArray := prog_3_method_1_code
def yX1_init : MethodName := ⟨RX1, "<init>", "(ILBrambleMesh$Step;LBrambleMesh$Instance;I)V"⟩
abbrev cX1_hasEnded : ByteArray := prog_3_method_2_code
def yX1_hasEnded : MethodName := ⟨RX1, "hasEnded", "()Z"⟩
abbrev cX1_isKnown : ByteArray := prog_3_method_3_code
def yX1_isKnown : MethodName := ⟨RX1, "isKnown", "(I)Z"⟩
abbrev cX1_lastStep : ByteArray := prog_3_method_4_code
def yX1_lastStep : MethodName := ⟨RX1, "lastStep", "()LBrambleMesh$Step;"⟩
abbrev cX1_learnEnd : ByteArray := prog_3_method_5_code
def yX1_learnEnd : MethodName := ⟨RX1, "learnEnd", "(I)V"⟩
def RX2 : String := "BrambleMesh$Caller"
def TX2 : u_T := fun k => match k with
  | 0 => ("BrambleMesh$Caller", "money", "I", false)
  | 1 => ("BrambleMesh$Caller", "shareOfFirst", "I", false)
  | 2 => ("BrambleMesh$Caller", "firstTries", "I", false)
  | _ => ("BrambleMesh$Caller", "extraTries", "I", false)
def tyX2 : Nat → FieldType := fun k => match k with
  | 0 => .int
  | 1 => .int
  | 2 => .int
  | _ => .int
abbrev wsX20 : List Cond := u_ws RX2 TX2 4
theorem nmX2 : ∀ a, a < 4 → ∀ b, b < 4 → a ≠ b → (TX2 a).2.1 ≠ (TX2 b).2.1 := by decide +kernel
theorem tyX2_ok : ∀ k, k < 4 → parseFieldDescriptor (TX2 k).2.2.1 = some (tyX2 k) := by decide +kernel
abbrev cX2_init : ByteArray := prog_4_method_1_code
def yX2_init : MethodName := ⟨RX2, "<init>", "()V"⟩
abbrev cX2_account : ByteArray := prog_4_method_2_code
def yX2_account : MethodName := ⟨RX2, "account", "(Z)V"⟩
def RX3 : String := "BrambleMesh$Canary"
def TX3 : u_T := fun k => match k with
  | 0 => ("BrambleMesh$Canary", "percent", "I", false)
  | 1 => ("BrambleMesh$Canary", "tries", "I", false)
  | 2 => ("BrambleMesh$Canary", "ends", "[I", true)
  | _ => ("BrambleMesh$Canary", "badEnds", "[I", true)
def tyX3 : Nat → FieldType := fun k => match k with
  | 0 => .int
  | 1 => .int
  | 2 => .array .int
  | _ => .array .int
abbrev wsX30 : List Cond := u_ws RX3 TX3 4
theorem nmX3 : ∀ a, a < 4 → ∀ b, b < 4 → a ≠ b → (TX3 a).2.1 ≠ (TX3 b).2.1 := by decide +kernel
theorem tyX3_ok : ∀ k, k < 4 → parseFieldDescriptor (TX3 k).2.2.1 = some (tyX3 k) := by decide +kernel
abbrev cX3_init : ByteArray := prog_5_method_1_code
def yX3_init : MethodName := ⟨RX3, "<init>", "()V"⟩
abbrev cX3_restart : ByteArray := prog_5_method_2_code
def yX3_restart : MethodName := ⟨RX3, "restart", "(I)V"⟩
abbrev cX3_nextVersion : ByteArray := prog_5_method_3_code
def yX3_nextVersion : MethodName := ⟨RX3, "nextVersion", "()I"⟩
abbrev cX3_judge : ByteArray := prog_5_method_4_code
def yX3_judge : MethodName := ⟨RX3, "judge", "(IZ)V"⟩
def RX4 : String := "BrambleMesh$Instance"
def TX4 : u_T := fun k => match k with
  | 0 => ("BrambleMesh$Instance", "number", "I", true)
  | 1 => ("BrambleMesh$Instance", "service", "I", true)
  | 2 => ("BrambleMesh$Instance", "zone", "I", true)
  | 3 => ("BrambleMesh$Instance", "weight", "I", true)
  | 4 => ("BrambleMesh$Instance", "slots", "I", true)
  | 5 => ("BrambleMesh$Instance", "room", "I", true)
  | 6 => ("BrambleMesh$Instance", "version", "I", true)
  | 7 => ("BrambleMesh$Instance", "faults", "[I", true)
  | 8 => ("BrambleMesh$Instance", "breakers", "[LBrambleMesh$Breaker;", true)
  | 9 => ("BrambleMesh$Instance", "newTries", "[I", true)
  | 10 => ("BrambleMesh$Instance", "queue", "Ljava/util/ArrayList;", true)
  | 11 => ("BrambleMesh$Instance", "busy", "I", false)
  | _ => ("BrambleMesh$Instance", "toldLoad", "I", false)
def tyX4 : Nat → FieldType := fun k => match k with
  | 0 => .int
  | 1 => .int
  | 2 => .int
  | 3 => .int
  | 4 => .int
  | 5 => .int
  | 6 => .int
  | 7 => .array .int
  | 8 => .array (.object "BrambleMesh$Breaker")
  | 9 => .array .int
  | 10 => .object "java/util/ArrayList"
  | 11 => .int
  | _ => .int
abbrev wsX40 : List Cond := u_ws RX4 TX4 13
theorem nmX4 : ∀ a, a < 13 → ∀ b, b < 13 → a ≠ b → (TX4 a).2.1 ≠ (TX4 b).2.1 := by decide +kernel
theorem tyX4_ok : ∀ k, k < 13 → parseFieldDescriptor (TX4 k).2.2.1 = some (tyX4 k) := by decide +kernel
abbrev cX4_init : ByteArray := prog_6_method_1_code
def yX4_init : MethodName := ⟨RX4, "<init>", "(IIIIIII)V"⟩
abbrev cX4_openBreakers : ByteArray := prog_6_method_2_code
def yX4_openBreakers : MethodName := ⟨RX4, "openBreakers", "()I"⟩
abbrev cX4_loadNow : ByteArray := prog_6_method_3_code
def yX4_loadNow : MethodName := ⟨RX4, "loadNow", "()I"⟩
abbrev cX4_tellLoad : ByteArray := prog_6_method_4_code
def yX4_tellLoad : MethodName := ⟨RX4, "tellLoad", "()V"⟩
abbrev cX4_burdenFor : ByteArray := prog_6_method_5_code
def yX4_burdenFor : MethodName := ⟨RX4, "burdenFor", "(II)I"⟩
abbrev cX4_release : ByteArray := prog_6_method_6_code
def yX4_release : MethodName := ⟨RX4, "release", "(LBrambleMesh$Call;)V"⟩
def RX5 : String := "BrambleMesh$Request"
def TX5 : u_T := fun k => match k with
  | 0 => ("BrambleMesh$Request", "step", "LBrambleMesh$Step;", true)
  | 1 => ("BrambleMesh$Request", "madeAt", "I", true)
  | 2 => ("BrambleMesh$Request", "state", "I", false)
  | 3 => ("BrambleMesh$Request", "endedAt", "I", false)
  | _ => ("BrambleMesh$Request", "isKeptAtEnd", "Z", false)
def tyX5 : Nat → FieldType := fun k => match k with
  | 0 => .object "BrambleMesh$Step"
  | 1 => .int
  | 2 => .int
  | 3 => .int
  | _ => .boolean
abbrev wsX50 : List Cond := u_ws RX5 TX5 5
theorem nmX5 : ∀ a, a < 5 → ∀ b, b < 5 → a ≠ b → (TX5 a).2.1 ≠ (TX5 b).2.1 := by decide +kernel
theorem tyX5_ok : ∀ k, k < 5 → parseFieldDescriptor (TX5 k).2.2.1 = some (tyX5 k) := by decide +kernel
abbrev cX5_init : ByteArray := prog_7_method_1_code
def yX5_init : MethodName := ⟨RX5, "<init>", "(LBrambleMesh$Step;I)V"⟩
def RX6 : String := "BrambleMesh$Service"
def TX6 : u_T := fun k => match k with
  | 0 => ("BrambleMesh$Service", "workTicks", "I", false)
  | 1 => ("BrambleMesh$Service", "planned", "I", false)
  | 2 => ("BrambleMesh$Service", "called", "[I", true)
  | 3 => ("BrambleMesh$Service", "undo", "[I", true)
  | 4 => ("BrambleMesh$Service", "isSafe", "[Z", true)
  | _ => ("BrambleMesh$Service", "canaries", "LBrambleMesh$Canary;", true)
def tyX6 : Nat → FieldType := fun k => match k with
  | 0 => .int
  | 1 => .int
  | 2 => .array .int
  | 3 => .array .int
  | 4 => .array .boolean
  | _ => .object "BrambleMesh$Canary"
abbrev wsX60 : List Cond := u_ws RX6 TX6 6
theorem nmX6 : ∀ a, a < 6 → ∀ b, b < 6 → a ≠ b → (TX6 a).2.1 ≠ (TX6 b).2.1 := by decide +kernel
theorem tyX6_ok : ∀ k, k < 6 → parseFieldDescriptor (TX6 k).2.2.1 = some (tyX6 k) := by decide +kernel
abbrev cX6_init : ByteArray := prog_8_method_1_code
def yX6_init : MethodName := ⟨RX6, "<init>", "()V"⟩
abbrev cX6_plan : ByteArray := prog_8_method_2_code
def yX6_plan : MethodName := ⟨RX6, "plan", "(IZI)V"⟩
def RX7 : String := "BrambleMesh$Step"
def TX7 : u_T := fun k => match k with
  | 0 => ("BrambleMesh$Step", "caller", "I", true)
  | 1 => ("BrambleMesh$Step", "called", "I", true)
  | 2 => ("BrambleMesh$Step", "isSafe", "Z", true)
  | 3 => ("BrambleMesh$Step", "undo", "I", false)
  | 4 => ("BrambleMesh$Step", "zone", "I", false)
  | 5 => ("BrambleMesh$Step", "deadline", "I", false)
  | 6 => ("BrambleMesh$Step", "request", "I", false)
  | 7 => ("BrambleMesh$Step", "repair", "I", false)
  | 8 => ("BrambleMesh$Step", "call", "LBrambleMesh$Call;", false)
  | 9 => ("BrambleMesh$Step", "tries", "Ljava/util/ArrayList;", true)
  | 10 => ("BrambleMesh$Step", "tryCount", "I", false)
  | 11 => ("BrambleMesh$Step", "retries", "I", false)
  | 12 => ("BrambleMesh$Step", "firstTick", "I", false)
  | 13 => ("BrambleMesh$Step", "lastEnd", "I", false)
  | 14 => ("BrambleMesh$Step", "hasRun", "Z", false)
  | _ => ("BrambleMesh$Step", "state", "I", false)
def tyX7 : Nat → FieldType := fun k => match k with
  | 0 => .int
  | 1 => .int
  | 2 => .boolean
  | 3 => .int
  | 4 => .int
  | 5 => .int
  | 6 => .int
  | 7 => .int
  | 8 => .object "BrambleMesh$Call"
  | 9 => .object "java/util/ArrayList"
  | 10 => .int
  | 11 => .int
  | 12 => .int
  | 13 => .int
  | 14 => .boolean
  | _ => .int
abbrev wsX70 : List Cond := u_ws RX7 TX7 16
theorem nmX7 : ∀ a, a < 16 → ∀ b, b < 16 → a ≠ b → (TX7 a).2.1 ≠ (TX7 b).2.1 := by decide +kernel
theorem tyX7_ok : ∀ k, k < 16 → parseFieldDescriptor (TX7 k).2.2.1 = some (tyX7 k) := by decide +kernel
abbrev cX7_init : ByteArray := prog_9_method_1_code
def yX7_init : MethodName := ⟨RX7, "<init>", "(IIZ)V"⟩
abbrev cX7_hasTryOut : ByteArray := prog_9_method_2_code
def yX7_hasTryOut : MethodName := ⟨RX7, "hasTryOut", "(I)Z"⟩
abbrev cX7_hasTried : ByteArray := prog_9_method_3_code
def yX7_hasTried : MethodName := ⟨RX7, "hasTried", "(LBrambleMesh$Instance;)Z"⟩
def RX8 : String := "BrambleMesh"
def TX8 : u_T := fun k => match k with
  | 0 => ("BrambleMesh", "now", "I", false)
  | 1 => ("BrambleMesh", "eyesThatShun", "I", false)
  | 2 => ("BrambleMesh", "traceRate", "I", false)
  | 3 => ("BrambleMesh", "traceLimit", "I", false)
  | 4 => ("BrambleMesh", "policies", "[[I", true)
  | 5 => ("BrambleMesh", "allServices", "[LBrambleMesh$Service;", true)
  | 6 => ("BrambleMesh", "allCallers", "[LBrambleMesh$Caller;", true)
  | 7 => ("BrambleMesh", "allInstances", "Ljava/util/ArrayList;", true)
  | 8 => ("BrambleMesh", "allRequests", "Ljava/util/ArrayList;", true)
  | 9 => ("BrambleMesh", "allCalls", "Ljava/util/ArrayList;", true)
  | _ => ("BrambleMesh", "allRepairs", "Ljava/util/ArrayList;", true)
def tyX8 : Nat → FieldType := fun k => match k with
  | 0 => .int
  | 1 => .int
  | 2 => .int
  | 3 => .int
  | 4 => .array (.array .int)
  | 5 => .array (.object "BrambleMesh$Service")
  | 6 => .array (.object "BrambleMesh$Caller")
  | 7 => .object "java/util/ArrayList"
  | 8 => .object "java/util/ArrayList"
  | 9 => .object "java/util/ArrayList"
  | _ => .object "java/util/ArrayList"
abbrev wsX80 : List Cond := u_ws RX8 TX8 11
theorem nmX8 : ∀ a, a < 11 → ∀ b, b < 11 → a ≠ b → (TX8 a).2.1 ≠ (TX8 b).2.1 := by decide +kernel
theorem tyX8_ok : ∀ k, k < 11 → parseFieldDescriptor (TX8 k).2.2.1 = some (tyX8 k) := by decide +kernel
abbrev cX8_init : ByteArray := prog_1_method_1_code
def yX8_init : MethodName := ⟨RX8, "<init>", "()V"⟩
abbrev cX8_work : ByteArray := prog_1_method_2_code
def yX8_work : MethodName := ⟨RX8, "work", "(II)I"⟩
abbrev cX8_step : ByteArray := prog_1_method_3_code
def yX8_step : MethodName := ⟨RX8, "step", "(IIZI)I"⟩
abbrev cX8_instance : ByteArray := prog_1_method_4_code
def yX8_instance : MethodName := ⟨RX8, "instance", "(IIIIII)I"⟩
abbrev cX8_fault : ByteArray := prog_1_method_5_code
def yX8_fault : MethodName := ⟨RX8, "fault", "(III)I"⟩
abbrev cX8_policy : ByteArray := prog_1_method_6_code
def yX8_policy : MethodName := ⟨RX8, "policy", "(IIII)I"⟩
abbrev cX8_share : ByteArray := prog_1_method_7_code
def yX8_share : MethodName := ⟨RX8, "share", "(II)I"⟩
abbrev cX8_eyes : ByteArray := prog_1_method_8_code
def yX8_eyes : MethodName := ⟨RX8, "eyes", "(I)I"⟩
abbrev cX8_canary : ByteArray := prog_1_method_9_code
def yX8_canary : MethodName := ⟨RX8, "canary", "(II)I"⟩
abbrev cX8_request : ByteArray := prog_1_method_11_code
def yX8_request : MethodName := ⟨RX8, "request", "(IZI)I"⟩
abbrev cX8_pass : ByteArray := prog_1_method_12_code
def yX8_pass : MethodName := ⟨RX8, "pass", "(I)I"⟩
abbrev cX8_tick : ByteArray := prog_1_method_13_code
def yX8_tick : MethodName := ⟨RX8, "tick", "()I"⟩
abbrev cX8_requestState : ByteArray := prog_1_method_14_code
def yX8_requestState : MethodName := ⟨RX8, "requestState", "(I)I"⟩
abbrev cX8_requestTicks : ByteArray := prog_1_method_15_code
def yX8_requestTicks : MethodName := ⟨RX8, "requestTicks", "(I)I"⟩
abbrev cX8_isKept : ByteArray := prog_1_method_16_code
def yX8_isKept : MethodName := ⟨RX8, "isKept", "(I)Z"⟩
abbrev cX8_callsOf : ByteArray := prog_1_method_17_code
def yX8_callsOf : MethodName := ⟨RX8, "callsOf", "(I)I"⟩
abbrev cX8_calls : ByteArray := prog_1_method_18_code
def yX8_calls : MethodName := ⟨RX8, "calls", "()I"⟩
abbrev cX8_call : ByteArray := prog_1_method_19_code
def yX8_call : MethodName := ⟨RX8, "call", "(II)I"⟩
abbrev cX8_budget : ByteArray := prog_1_method_20_code
def yX8_budget : MethodName := ⟨RX8, "budget", "(I)I"⟩
abbrev cX8_breaker : ByteArray := prog_1_method_21_code
def yX8_breaker : MethodName := ⟨RX8, "breaker", "(II)I"⟩
abbrev cX8_isShunned : ByteArray := prog_1_method_22_code
def yX8_isShunned : MethodName := ⟨RX8, "isShunned", "(I)Z"⟩
abbrev cX8_load : ByteArray := prog_1_method_23_code
def yX8_load : MethodName := ⟨RX8, "load", "(IZ)I"⟩
abbrev cX8_canaryShare : ByteArray := prog_1_method_24_code
def yX8_canaryShare : MethodName := ⟨RX8, "canaryShare", "(I)I"⟩
abbrev cX8_repairs : ByteArray := prog_1_method_25_code
def yX8_repairs : MethodName := ⟨RX8, "repairs", "(Z)I"⟩
abbrev cX8_extra : ByteArray := prog_1_method_26_code
def yX8_extra : MethodName := ⟨RX8, "extra", "(I)I"⟩
abbrev cX8_first : ByteArray := prog_1_method_27_code
def yX8_first : MethodName := ⟨RX8, "first", "(I)I"⟩
abbrev cX8_isWithin : ByteArray := prog_1_method_28_code
def yX8_isWithin : MethodName := ⟨RX8, "isWithin", "(III)Z"⟩
abbrev cX8_mustExist : ByteArray := prog_1_method_29_code
def yX8_mustExist : MethodName := ⟨RX8, "mustExist", "(Z)V"⟩
abbrev cX8_mustFit : ByteArray := prog_1_method_30_code
def yX8_mustFit : MethodName := ⟨RX8, "mustFit", "(Z)V"⟩
abbrev cX8_mustBeAllowed : ByteArray := prog_1_method_31_code
def yX8_mustBeAllowed : MethodName := ⟨RX8, "mustBeAllowed", "(Z)V"⟩
abbrev cX8_policyPlace : ByteArray := prog_1_method_32_code
def yX8_policyPlace : MethodName := ⟨RX8, "policyPlace", "(II)I"⟩
abbrev cX8_policyOf : ByteArray := prog_1_method_33_code
def yX8_policyOf : MethodName := ⟨RX8, "policyOf", "(LBrambleMesh$Step;I)I"⟩
abbrev cX8_halfOpenBreakers : ByteArray := prog_1_method_34_code
def yX8_halfOpenBreakers : MethodName := ⟨RX8, "halfOpenBreakers", "()V"⟩
abbrev cX8_endLateCalls : ByteArray := prog_1_method_35_code
def yX8_endLateCalls : MethodName := ⟨RX8, "endLateCalls", "()V"⟩
abbrev cX8_endWork : ByteArray := prog_1_method_36_code
def yX8_endWork : MethodName := ⟨RX8, "endWork", "()V"⟩
abbrev cX8_goOnWithCalls : ByteArray := prog_1_method_37_code
def yX8_goOnWithCalls : MethodName := ⟨RX8, "goOnWithCalls", "()V"⟩
abbrev cX8_isDone : ByteArray := prog_1_method_38_code
def yX8_isDone : MethodName := ⟨RX8, "isDone", "(LBrambleMesh$Step;)Z"⟩
abbrev cX8_beginStep : ByteArray := prog_1_method_39_code
def yX8_beginStep : MethodName := ⟨RX8, "beginStep", "(LBrambleMesh$Call;I)LBrambleMesh$Step;"⟩
abbrev cX8_stepOf : ByteArray := prog_1_method_40_code
def yX8_stepOf : MethodName := ⟨RX8, "stepOf", "(LBrambleMesh$Call;LBrambleMesh$Service;I)LBrambleMesh$Step;"⟩
abbrev cX8_goOnWithRequests : ByteArray := prog_1_method_41_code
def yX8_goOnWithRequests : MethodName := ⟨RX8, "goOnWithRequests", "()V"⟩
abbrev cX8_goOnWithRepairs : ByteArray := prog_1_method_42_code
def yX8_goOnWithRepairs : MethodName := ⟨RX8, "goOnWithRepairs", "()V"⟩
abbrev cX8_runQueued : ByteArray := prog_1_method_43_code
def yX8_runQueued : MethodName := ⟨RX8, "runQueued", "()V"⟩
abbrev cX8_tellLoads : ByteArray := prog_1_method_44_code
def yX8_tellLoads : MethodName := ⟨RX8, "tellLoads", "()V"⟩
abbrev cX8_endIfOver : ByteArray := prog_1_method_45_code
def yX8_endIfOver : MethodName := ⟨RX8, "endIfOver", "(LBrambleMesh$Request;)V"⟩
abbrev cX8_endRequest : ByteArray := prog_1_method_46_code
def yX8_endRequest : MethodName := ⟨RX8, "endRequest", "(LBrambleMesh$Request;I)V"⟩
abbrev cX8_isKeptByHead : ByteArray := prog_1_method_47_code
def yX8_isKeptByHead : MethodName := ⟨RX8, "isKeptByHead", "(LBrambleMesh$Request;)Z"⟩
abbrev cX8_goOn : ByteArray := prog_1_method_48_code
def yX8_goOn : MethodName := ⟨RX8, "goOn", "(LBrambleMesh$Step;)V"⟩
abbrev cX8_lookAtEnds : ByteArray := prog_1_method_49_code
def yX8_lookAtEnds : MethodName := ⟨RX8, "lookAtEnds", "(LBrambleMesh$Step;)V"⟩
abbrev cX8_canPay : ByteArray := prog_1_method_50_code
def yX8_canPay : MethodName := ⟨RX8, "canPay", "(LBrambleMesh$Step;)Z"⟩
abbrev cX8_isHedgeDue : ByteArray := prog_1_method_51_code
def yX8_isHedgeDue : MethodName := ⟨RX8, "isHedgeDue", "(LBrambleMesh$Step;)Z"⟩
abbrev cX8_tryOnce : ByteArray := prog_1_method_52_code
def yX8_tryOnce : MethodName := ⟨RX8, "tryOnce", "(LBrambleMesh$Step;Z)V"⟩
abbrev cX8_choose : ByteArray := prog_1_method_53_code
def yX8_choose : MethodName := ⟨RX8, "choose", "(LBrambleMesh$Step;)LBrambleMesh$Instance;"⟩
abbrev cX8_canChoose : ByteArray := prog_1_method_54_code
def yX8_canChoose : MethodName := ⟨RX8, "canChoose", "(ILBrambleMesh$Instance;)Z"⟩
abbrev cX8_hasTryOutAt : ByteArray := prog_1_method_55_code
def yX8_hasTryOutAt : MethodName := ⟨RX8, "hasTryOutAt", "(ILBrambleMesh$Instance;)Z"⟩
abbrev cX8_place : ByteArray := prog_1_method_56_code
def yX8_place : MethodName := ⟨RX8, "place", "(LBrambleMesh$Call;)V"⟩
abbrev cX8_run : ByteArray := prog_1_method_57_code
def yX8_run : MethodName := ⟨RX8, "run", "(LBrambleMesh$Call;)V"⟩
abbrev cX8_end : ByteArray := prog_1_method_58_code
def yX8_end : MethodName := ⟨RX8, "end", "(LBrambleMesh$Call;II)V"⟩
abbrev cX8_close : ByteArray := prog_1_method_59_code
def yX8_close : MethodName := ⟨RX8, "close", "(LBrambleMesh$Step;I)V"⟩
abbrev cX8_beginRepairs : ByteArray := prog_1_method_60_code
def yX8_beginRepairs : MethodName := ⟨RX8, "beginRepairs", "(LBrambleMesh$Call;)V"⟩
def RX9 : String := "BrambleMeshModel"
def TX9 : u_T := fun k => match k with
  | _ => ("", "", "", false)
def tyX9 : Nat → FieldType := fun k => match k with
  | _ => .int
abbrev wsX90 : List Cond := u_ws RX9 TX9 0
theorem nmX9 : ∀ a, a < 0 → ∀ b, b < 0 → a ≠ b → (TX9 a).2.1 ≠ (TX9 b).2.1 := by decide +kernel
theorem tyX9_ok : ∀ k, k < 0 → parseFieldDescriptor (TX9 k).2.2.1 = some (tyX9 k) := by decide +kernel
def RJx145de : String := "java/io/Serializable"
def TJx145de : u_T := fun k => match k with
  | _ => ("", "", "", false)
def tyJx145de : Nat → FieldType := fun k => match k with
  | _ => .int
abbrev wsJx145de0 : List Cond := u_ws RJx145de TJx145de 0
theorem nmJx145de : ∀ a, a < 0 → ∀ b, b < 0 → a ≠ b → (TJx145de a).2.1 ≠ (TJx145de b).2.1 := by decide +kernel
theorem tyJx145de_ok : ∀ k, k < 0 → parseFieldDescriptor (TJx145de k).2.2.1 = some (tyJx145de k) := by decide +kernel
def RJx8e188 : String := "java/lang/Cloneable"
def TJx8e188 : u_T := fun k => match k with
  | _ => ("", "", "", false)
def tyJx8e188 : Nat → FieldType := fun k => match k with
  | _ => .int
abbrev wsJx8e1880 : List Cond := u_ws RJx8e188 TJx8e188 0
theorem nmJx8e188 : ∀ a, a < 0 → ∀ b, b < 0 → a ≠ b → (TJx8e188 a).2.1 ≠ (TJx8e188 b).2.1 := by decide +kernel
theorem tyJx8e188_ok : ∀ k, k < 0 → parseFieldDescriptor (TJx8e188 k).2.2.1 = some (tyJx8e188 k) := by decide +kernel
def RJxab1ab : String := "java/lang/Iterable"
def TJxab1ab : u_T := fun k => match k with
  | _ => ("", "", "", false)
def tyJxab1ab : Nat → FieldType := fun k => match k with
  | _ => .int
abbrev wsJxab1ab0 : List Cond := u_ws RJxab1ab TJxab1ab 0
theorem nmJxab1ab : ∀ a, a < 0 → ∀ b, b < 0 → a ≠ b → (TJxab1ab a).2.1 ≠ (TJxab1ab b).2.1 := by decide +kernel
theorem tyJxab1ab_ok : ∀ k, k < 0 → parseFieldDescriptor (TJxab1ab k).2.2.1 = some (tyJxab1ab k) := by decide +kernel
def RJ9 : String := "java/lang/Math"
def TJ9 : u_T := fun k => match k with
  | _ => ("", "", "", false)
def tyJ9 : Nat → FieldType := fun k => match k with
  | _ => .int
abbrev wsJ90 : List Cond := u_ws RJ9 TJ9 0
theorem nmJ9 : ∀ a, a < 0 → ∀ b, b < 0 → a ≠ b → (TJ9 a).2.1 ≠ (TJ9 b).2.1 := by decide +kernel
theorem tyJ9_ok : ∀ k, k < 0 → parseFieldDescriptor (TJ9 k).2.2.1 = some (tyJ9 k) := by decide +kernel
abbrev cJ9_max_7cf53 : ByteArray := prog_19_method_65_code
def yJ9_max_7cf53 : MethodName := ⟨RJ9, "max", "(II)I"⟩
abbrev cJ9_min_7cf53 : ByteArray := prog_19_method_69_code
def yJ9_min_7cf53 : MethodName := ⟨RJ9, "min", "(II)I"⟩
def RJ0 : String := "java/lang/String"
def TJ0 : u_T := fun k => match k with
  | _ => ("", "", "", false)
def tyJ0 : Nat → FieldType := fun k => match k with
  | _ => .int
abbrev wsJ00 : List Cond := u_ws RJ0 TJ0 0
theorem nmJ0 : ∀ a, a < 0 → ∀ b, b < 0 → a ≠ b → (TJ0 a).2.1 ≠ (TJ0 b).2.1 := by decide +kernel
theorem tyJ0_ok : ∀ k, k < 0 → parseFieldDescriptor (TJ0 k).2.2.1 = some (tyJ0 k) := by decide +kernel
def RJ10 : String := "java/lang/System"
def TJ10 : u_T := fun k => match k with
  | _ => ("", "", "", false)
def tyJ10 : Nat → FieldType := fun k => match k with
  | _ => .int
abbrev wsJ100 : List Cond := u_ws RJ10 TJ10 0
theorem nmJ10 : ∀ a, a < 0 → ∀ b, b < 0 → a ≠ b → (TJ10 a).2.1 ≠ (TJ10 b).2.1 := by decide +kernel
theorem tyJ10_ok : ∀ k, k < 0 → parseFieldDescriptor (TJ10 k).2.2.1 = some (tyJ10 k) := by decide +kernel
def RJxa1e45 : String := "java/util/AbstractCollection"
def TJxa1e45 : u_T := fun k => match k with
  | _ => ("", "", "", false)
def tyJxa1e45 : Nat → FieldType := fun k => match k with
  | _ => .int
abbrev wsJxa1e450 : List Cond := u_ws RJxa1e45 TJxa1e45 0
theorem nmJxa1e45 : ∀ a, a < 0 → ∀ b, b < 0 → a ≠ b → (TJxa1e45 a).2.1 ≠ (TJxa1e45 b).2.1 := by decide +kernel
theorem tyJxa1e45_ok : ∀ k, k < 0 → parseFieldDescriptor (TJxa1e45 k).2.2.1 = some (tyJxa1e45 k) := by decide +kernel
abbrev cJxa1e45_init_da8c8 : ByteArray := prog_24_method_1_code
def yJxa1e45_init_da8c8 : MethodName := ⟨RJxa1e45, "<init>", "()V"⟩
def RJxc12de : String := "java/util/AbstractList"
def TJxc12de : u_T := fun k => match k with
  | _ => ("", "", "", false)
def tyJxc12de : Nat → FieldType := fun k => match k with
  | _ => .int
abbrev wsJxc12de0 : List Cond := u_ws RJxc12de TJxc12de 0
theorem nmJxc12de : ∀ a, a < 0 → ∀ b, b < 0 → a ≠ b → (TJxc12de a).2.1 ≠ (TJxc12de b).2.1 := by decide +kernel
theorem tyJxc12de_ok : ∀ k, k < 0 → parseFieldDescriptor (TJxc12de k).2.2.1 = some (tyJxc12de k) := by decide +kernel
abbrev cJxc12de_init_da8c8 : ByteArray := prog_25_method_1_code
def yJxc12de_init_da8c8 : MethodName := ⟨RJxc12de, "<init>", "()V"⟩
def RJx4a65c : String := "java/util/ArrayList"
def TJx4a65c : u_T := fun k => match k with
  | 0 => ("java/util/AbstractList", "modCount", "I", false)
  | 1 => ("java/util/ArrayList", "elementData", "[Ljava/lang/Object;", false)
  | _ => ("java/util/ArrayList", "size", "I", false)
def tyJx4a65c : Nat → FieldType := fun k => match k with
  | 0 => .int
  | 1 => .array (.object "java/lang/Object")
  | _ => .int
abbrev wsJx4a65c0 : List Cond := u_ws RJx4a65c TJx4a65c 3
theorem nmJx4a65c : ∀ a, a < 3 → ∀ b, b < 3 → a ≠ b → (TJx4a65c a).2.1 ≠ (TJx4a65c b).2.1 := by decide +kernel
theorem tyJx4a65c_ok : ∀ k, k < 3 → parseFieldDescriptor (TJx4a65c k).2.2.1 = some (tyJx4a65c k) := by decide +kernel
abbrev cJx4a65c_init_da8c8 : ByteArray := prog_26_method_2_code
def yJx4a65c_init_da8c8 : MethodName := ⟨RJx4a65c, "<init>", "()V"⟩
abbrev cJx4a65c_grow_92f84 : ByteArray := prog_26_method_6_code
def yJx4a65c_grow_92f84 : MethodName := ⟨RJx4a65c, "grow", "(I)[Ljava/lang/Object;"⟩
abbrev cJx4a65c_grow_d5877 : ByteArray := prog_26_method_7_code
def yJx4a65c_grow_d5877 : MethodName := ⟨RJx4a65c, "grow", "()[Ljava/lang/Object;"⟩
abbrev cJx4a65c_size_8abf5 : ByteArray := prog_26_method_8_code
def yJx4a65c_size_8abf5 : MethodName := ⟨RJx4a65c, "size", "()I"⟩
abbrev cJx4a65c_isEmpty_aae02 : ByteArray := prog_26_method_9_code
def yJx4a65c_isEmpty_aae02 : MethodName := ⟨RJx4a65c, "isEmpty", "()Z"⟩
abbrev cJx4a65c_elementData_915e3 : ByteArray := prog_26_method_18_code
def yJx4a65c_elementData_915e3 : MethodName := ⟨RJx4a65c, "elementData", "(I)Ljava/lang/Object;"⟩
abbrev cJx4a65c_get_915e3 : ByteArray := prog_26_method_20_code
def yJx4a65c_get_915e3 : MethodName := ⟨RJx4a65c, "get", "(I)Ljava/lang/Object;"⟩
abbrev cJx4a65c_add_72be8 : ByteArray := prog_26_method_24_code
def yJx4a65c_add_72be8 : MethodName := ⟨RJx4a65c, "add", "(Ljava/lang/Object;[Ljava/lang/Object;I)V"⟩
abbrev cJx4a65c_add_9ea2d : ByteArray := prog_26_method_25_code
def yJx4a65c_add_9ea2d : MethodName := ⟨RJx4a65c, "add", "(Ljava/lang/Object;)Z"⟩
abbrev cJx4a65c_remove_915e3 : ByteArray := prog_26_method_29_code
def yJx4a65c_remove_915e3 : MethodName := ⟨RJx4a65c, "remove", "(I)Ljava/lang/Object;"⟩
abbrev cJx4a65c_fastRemove_b59b0 : ByteArray := prog_26_method_39_code
def yJx4a65c_fastRemove_b59b0 : MethodName := ⟨RJx4a65c, "fastRemove", "([Ljava/lang/Object;I)V"⟩
def RJ7 : String := "java/util/Arrays"
def TJ7 : u_T := fun k => match k with
  | _ => ("", "", "", false)
def tyJ7 : Nat → FieldType := fun k => match k with
  | _ => .int
abbrev wsJ70 : List Cond := u_ws RJ7 TJ7 0
theorem nmJ7 : ∀ a, a < 0 → ∀ b, b < 0 → a ≠ b → (TJ7 a).2.1 ≠ (TJ7 b).2.1 := by decide +kernel
theorem tyJ7_ok : ∀ k, k < 0 → parseFieldDescriptor (TJ7 k).2.2.1 = some (tyJ7 k) := by decide +kernel
abbrev cJ7_copyOf_1904c : ByteArray := prog_27_method_119_code
def yJ7_copyOf_1904c : MethodName := ⟨RJ7, "copyOf", "([Ljava/lang/Object;I)[Ljava/lang/Object;"⟩
abbrev cJ7_copyOf_6403c : ByteArray := prog_27_method_120_code
def yJ7_copyOf_6403c : MethodName := ⟨RJ7, "copyOf", "([Ljava/lang/Object;ILjava/lang/Class;)[Ljava/lang/Object;"⟩
def RJx5ef63 : String := "java/util/Collection"
def TJx5ef63 : u_T := fun k => match k with
  | _ => ("", "", "", false)
def tyJx5ef63 : Nat → FieldType := fun k => match k with
  | _ => .int
abbrev wsJx5ef630 : List Cond := u_ws RJx5ef63 TJx5ef63 0
theorem nmJx5ef63 : ∀ a, a < 0 → ∀ b, b < 0 → a ≠ b → (TJx5ef63 a).2.1 ≠ (TJx5ef63 b).2.1 := by decide +kernel
theorem tyJx5ef63_ok : ∀ k, k < 0 → parseFieldDescriptor (TJx5ef63 k).2.2.1 = some (tyJx5ef63 k) := by decide +kernel
def RJxbd725 : String := "java/util/List"
def TJxbd725 : u_T := fun k => match k with
  | _ => ("", "", "", false)
def tyJxbd725 : Nat → FieldType := fun k => match k with
  | _ => .int
abbrev wsJxbd7250 : List Cond := u_ws RJxbd725 TJxbd725 0
theorem nmJxbd725 : ∀ a, a < 0 → ∀ b, b < 0 → a ≠ b → (TJxbd725 a).2.1 ≠ (TJxbd725 b).2.1 := by decide +kernel
theorem tyJxbd725_ok : ∀ k, k < 0 → parseFieldDescriptor (TJxbd725 k).2.2.1 = some (tyJxbd725 k) := by decide +kernel
def RJ15 : String := "java/util/Objects"
def TJ15 : u_T := fun k => match k with
  | _ => ("", "", "", false)
def tyJ15 : Nat → FieldType := fun k => match k with
  | _ => .int
abbrev wsJ150 : List Cond := u_ws RJ15 TJ15 0
theorem nmJ15 : ∀ a, a < 0 → ∀ b, b < 0 → a ≠ b → (TJ15 a).2.1 ≠ (TJ15 b).2.1 := by decide +kernel
theorem tyJ15_ok : ∀ k, k < 0 → parseFieldDescriptor (TJ15 k).2.2.1 = some (tyJ15 k) := by decide +kernel
abbrev cJ15_checkIndex_7cf53 : ByteArray := prog_30_method_17_code
def yJ15_checkIndex_7cf53 : MethodName := ⟨RJ15, "checkIndex", "(II)I"⟩
def RJxf0a74 : String := "java/util/RandomAccess"
def TJxf0a74 : u_T := fun k => match k with
  | _ => ("", "", "", false)
def tyJxf0a74 : Nat → FieldType := fun k => match k with
  | _ => .int
abbrev wsJxf0a740 : List Cond := u_ws RJxf0a74 TJxf0a74 0
theorem nmJxf0a74 : ∀ a, a < 0 → ∀ b, b < 0 → a ≠ b → (TJxf0a74 a).2.1 ≠ (TJxf0a74 b).2.1 := by decide +kernel
theorem tyJxf0a74_ok : ∀ k, k < 0 → parseFieldDescriptor (TJxf0a74 k).2.2.1 = some (tyJxf0a74 k) := by decide +kernel
def RJxa66e6 : String := "java/util/SequencedCollection"
def TJxa66e6 : u_T := fun k => match k with
  | _ => ("", "", "", false)
def tyJxa66e6 : Nat → FieldType := fun k => match k with
  | _ => .int
abbrev wsJxa66e60 : List Cond := u_ws RJxa66e6 TJxa66e6 0
theorem nmJxa66e6 : ∀ a, a < 0 → ∀ b, b < 0 → a ≠ b → (TJxa66e6 a).2.1 ≠ (TJxa66e6 b).2.1 := by decide +kernel
theorem tyJxa66e6_ok : ∀ k, k < 0 → parseFieldDescriptor (TJxa66e6 k).2.2.1 = some (tyJxa66e6 k) := by decide +kernel
def RJ8 : String := "jdk/internal/util/ArraysSupport"
def TJ8 : u_T := fun k => match k with
  | _ => ("", "", "", false)
def tyJ8 : Nat → FieldType := fun k => match k with
  | _ => .int
abbrev wsJ80 : List Cond := u_ws RJ8 TJ8 0
theorem nmJ8 : ∀ a, a < 0 → ∀ b, b < 0 → a ≠ b → (TJ8 a).2.1 ≠ (TJ8 b).2.1 := by decide +kernel
theorem tyJ8_ok : ∀ k, k < 0 → parseFieldDescriptor (TJ8 k).2.2.1 = some (tyJ8 k) := by decide +kernel
abbrev cJ8_newLength_cabcc : ByteArray := prog_33_method_27_code
def yJ8_newLength_cabcc : MethodName := ⟨RJ8, "newLength", "(III)I"⟩
abbrev cJ8_hugeLength_7cf53 : ByteArray := prog_33_method_28_code
def yJ8_hugeLength_7cf53 : MethodName := ⟨RJ8, "hugeLength", "(II)I"⟩
def RJ3 : String := "jdk/internal/util/Preconditions"
def TJ3 : u_T := fun k => match k with
  | _ => ("", "", "", false)
def tyJ3 : Nat → FieldType := fun k => match k with
  | _ => .int
abbrev wsJ30 : List Cond := u_ws RJ3 TJ3 0
theorem nmJ3 : ∀ a, a < 0 → ∀ b, b < 0 → a ≠ b → (TJ3 a).2.1 ≠ (TJ3 b).2.1 := by decide +kernel
theorem tyJ3_ok : ∀ k, k < 0 → parseFieldDescriptor (TJ3 k).2.2.1 = some (tyJ3 k) := by decide +kernel
abbrev cJ3_checkIndex_8e157 : ByteArray := prog_34_method_11_code
def yJ3_checkIndex_8e157 : MethodName := ⟨RJ3, "checkIndex", "(IILjava/util/function/BiFunction;)I"⟩
def RL : String := "BrambleMeshLaw"
abbrev cL_at : ByteArray := method_2_code
def yL_at : MethodName := ⟨RL, "at", "([II)I"⟩
abbrev cL_low : ByteArray := method_3_code
def yL_low : MethodName := ⟨RL, "low", "(II)I"⟩
abbrev cL_work : ByteArray := method_4_code
def yL_work : MethodName := ⟨RL, "work", "(LBrambleMesh;II)I"⟩
abbrev cL_step : ByteArray := method_5_code
def yL_step : MethodName := ⟨RL, "step", "(LBrambleMesh;IIZI)I"⟩
abbrev cL_instance : ByteArray := method_6_code
def yL_instance : MethodName := ⟨RL, "instance", "(LBrambleMesh;IIIIII)I"⟩
abbrev cL_fault : ByteArray := method_7_code
def yL_fault : MethodName := ⟨RL, "fault", "(LBrambleMesh;III)I"⟩
abbrev cL_policy : ByteArray := method_8_code
def yL_policy : MethodName := ⟨RL, "policy", "(LBrambleMesh;IIII)I"⟩
abbrev cL_share : ByteArray := method_9_code
def yL_share : MethodName := ⟨RL, "share", "(LBrambleMesh;II)I"⟩
abbrev cL_eyes : ByteArray := method_10_code
def yL_eyes : MethodName := ⟨RL, "eyes", "(LBrambleMesh;I)I"⟩
abbrev cL_canary : ByteArray := method_11_code
def yL_canary : MethodName := ⟨RL, "canary", "(LBrambleMesh;II)I"⟩
abbrev cL_request : ByteArray := method_13_code
def yL_request : MethodName := ⟨RL, "request", "(LBrambleMesh;IZI)I"⟩
abbrev cL_pass : ByteArray := method_14_code
def yL_pass : MethodName := ⟨RL, "pass", "(LBrambleMesh;I)I"⟩
abbrev cL_requestState : ByteArray := method_15_code
def yL_requestState : MethodName := ⟨RL, "requestState", "(LBrambleMesh;I)I"⟩
abbrev cL_requestTicks : ByteArray := method_16_code
def yL_requestTicks : MethodName := ⟨RL, "requestTicks", "(LBrambleMesh;I)I"⟩
abbrev cL_isKept : ByteArray := method_17_code
def yL_isKept : MethodName := ⟨RL, "isKept", "(LBrambleMesh;I)I"⟩
abbrev cL_callsOf : ByteArray := method_18_code
def yL_callsOf : MethodName := ⟨RL, "callsOf", "(LBrambleMesh;I)I"⟩
abbrev cL_call : ByteArray := method_19_code
def yL_call : MethodName := ⟨RL, "call", "(LBrambleMesh;II)I"⟩
abbrev cL_budget : ByteArray := method_20_code
def yL_budget : MethodName := ⟨RL, "budget", "(LBrambleMesh;I)I"⟩
abbrev cL_breaker : ByteArray := method_21_code
def yL_breaker : MethodName := ⟨RL, "breaker", "(LBrambleMesh;II)I"⟩
abbrev cL_isShunned : ByteArray := method_22_code
def yL_isShunned : MethodName := ⟨RL, "isShunned", "(LBrambleMesh;I)I"⟩
abbrev cL_load : ByteArray := method_23_code
def yL_load : MethodName := ⟨RL, "load", "(LBrambleMesh;IZ)I"⟩
abbrev cL_canaryShare : ByteArray := method_24_code
def yL_canaryShare : MethodName := ⟨RL, "canaryShare", "(LBrambleMesh;I)I"⟩
abbrev cL_extra : ByteArray := method_25_code
def yL_extra : MethodName := ⟨RL, "extra", "(LBrambleMesh;I)I"⟩
abbrev cL_first : ByteArray := method_26_code
def yL_first : MethodName := ⟨RL, "first", "(LBrambleMesh;I)I"⟩
abbrev cL_makes : ByteArray := method_27_code
def yL_makes : MethodName := ⟨RL, "makes", "(LBrambleMesh;[I[I[I[I[III)Z"⟩
abbrev cL_sets : ByteArray := method_28_code
def yL_sets : MethodName := ⟨RL, "sets", "(LBrambleMesh;[III)Z"⟩
abbrev cL_areCalls : ByteArray := method_29_code
def yL_areCalls : MethodName := ⟨RL, "areCalls", "(LBrambleMesh;[I[I[I[I)Z"⟩
abbrev cL_areRequests : ByteArray := method_30_code
def yL_areRequests : MethodName := ⟨RL, "areRequests", "(LBrambleMesh;[I[I)Z"⟩
abbrev cL_areLoads : ByteArray := method_31_code
def yL_areLoads : MethodName := ⟨RL, "areLoads", "(LBrambleMesh;[I[I[I[I[I)Z"⟩
abbrev cL_acts : ByteArray := method_32_code
def yL_acts : MethodName := ⟨RL, "acts", "(LBrambleMesh;[I[I[I[I[I[I[I[I[I[III)Z"⟩
abbrev cL_law : ByteArray := code
def yL_law : MethodName := ⟨RL, "law", "([I)Z"⟩
