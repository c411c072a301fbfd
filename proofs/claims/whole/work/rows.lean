section
-- ===== PART A: goes FIRST, ahead of the names: the tables' words, and 'selects' of the private methods out of them =====
/-- a private method of a class that the tables say can be made, by its rows of tables_1 -/
def lw_okq (q : MethodName × Nat) : Prop := (q.1.cls ≠ "java/lang/invoke/MethodHandle" ∧ q.1.cls ≠ "java/lang/invoke/VarHandle") ∧ Cond.instantiable q.1.cls q.2 ∈ tables_1 ∧ Cond.privateMethod q.1 ∈ tables_1 ∧ Cond.instanceMethod q.1 ∈ tables_1
theorem lw_p0 : lw_okq (⟨"SpanRules", "endCounted", "()I"⟩, 14) := ⟨⟨by decide +kernel, by decide +kernel⟩, List.mem_of_getElem? (i := 17) (by decide +kernel), List.mem_of_getElem? (i := 320) (by decide +kernel), List.mem_of_getElem? (i := 321) (by decide +kernel)⟩
theorem lw_p1 : lw_okq (⟨"SpanRules", "numberRows", "()V"⟩, 14) := ⟨⟨by decide +kernel, by decide +kernel⟩, List.mem_of_getElem? (i := 17) (by decide +kernel), List.mem_of_getElem? (i := 324) (by decide +kernel), List.mem_of_getElem? (i := 325) (by decide +kernel)⟩
theorem lw_p2 : lw_okq (⟨"SpanRules", "isNumbered", "(I)Z"⟩, 14) := ⟨⟨by decide +kernel, by decide +kernel⟩, List.mem_of_getElem? (i := 17) (by decide +kernel), List.mem_of_getElem? (i := 328) (by decide +kernel), List.mem_of_getElem? (i := 329) (by decide +kernel)⟩
theorem lw_p3 : lw_okq (⟨"SpanRules", "fireCounted", "(I)I"⟩, 14) := ⟨⟨by decide +kernel, by decide +kernel⟩, List.mem_of_getElem? (i := 17) (by decide +kernel), List.mem_of_getElem? (i := 332) (by decide +kernel), List.mem_of_getElem? (i := 333) (by decide +kernel)⟩
theorem lw_p4 : lw_okq (⟨"SpanRules", "gatherCounted", "(IJ)V"⟩, 14) := ⟨⟨by decide +kernel, by decide +kernel⟩, List.mem_of_getElem? (i := 17) (by decide +kernel), List.mem_of_getElem? (i := 336) (by decide +kernel), List.mem_of_getElem? (i := 337) (by decide +kernel)⟩
theorem lw_p5 : lw_okq (⟨"SpanRules", "isWaitedFor", "(I)Z"⟩, 14) := ⟨⟨by decide +kernel, by decide +kernel⟩, List.mem_of_getElem? (i := 17) (by decide +kernel), List.mem_of_getElem? (i := 363) (by decide +kernel), List.mem_of_getElem? (i := 364) (by decide +kernel)⟩
theorem lw_p6 : lw_okq (⟨"SpanRules", "endSpans", "()I"⟩, 14) := ⟨⟨by decide +kernel, by decide +kernel⟩, List.mem_of_getElem? (i := 17) (by decide +kernel), List.mem_of_getElem? (i := 377) (by decide +kernel), List.mem_of_getElem? (i := 378) (by decide +kernel)⟩
theorem lw_p7 : lw_okq (⟨"SpanRules", "fire", "(II)V"⟩, 14) := ⟨⟨by decide +kernel, by decide +kernel⟩, List.mem_of_getElem? (i := 17) (by decide +kernel), List.mem_of_getElem? (i := 385) (by decide +kernel), List.mem_of_getElem? (i := 386) (by decide +kernel)⟩
theorem lw_p8 : lw_okq (⟨"SpanRules", "gather", "(I[J)V"⟩, 14) := ⟨⟨by decide +kernel, by decide +kernel⟩, List.mem_of_getElem? (i := 17) (by decide +kernel), List.mem_of_getElem? (i := 389) (by decide +kernel), List.mem_of_getElem? (i := 390) (by decide +kernel)⟩
theorem lw_p9 : lw_okq (⟨"SpanRules$SpanStore", "sweep", "()V"⟩, 12) := ⟨⟨by decide +kernel, by decide +kernel⟩, List.mem_of_getElem? (i := 76) (by decide +kernel), List.mem_of_getElem? (i := 404) (by decide +kernel), List.mem_of_getElem? (i := 405) (by decide +kernel)⟩
theorem lw_p10 : lw_okq (⟨"java/lang/Throwable", "fillInStackTrace", "(I)Ljava/lang/Throwable;"⟩, 6) := ⟨⟨by decide +kernel, by decide +kernel⟩, List.mem_of_getElem? (i := 527) (by decide +kernel), List.mem_of_getElem? (i := 525) (by decide +kernel), List.mem_of_getElem? (i := 526) (by decide +kernel)⟩
theorem lw_p11 : lw_okq (⟨"SpanRules", "putWaiting", "(IJJ)I"⟩, 14) := ⟨⟨by decide +kernel, by decide +kernel⟩, List.mem_of_getElem? (i := 17) (by decide +kernel), List.mem_of_getElem? (i := 557) (by decide +kernel), List.mem_of_getElem? (i := 558) (by decide +kernel)⟩
theorem lw_p12 : lw_okq (⟨"SpanRules", "dropLate", "()I"⟩, 14) := ⟨⟨by decide +kernel, by decide +kernel⟩, List.mem_of_getElem? (i := 17) (by decide +kernel), List.mem_of_getElem? (i := 561) (by decide +kernel), List.mem_of_getElem? (i := 562) (by decide +kernel)⟩
theorem lw_p13 : lw_okq (⟨"SpanRules", "putByGap", "(IJJ)I"⟩, 14) := ⟨⟨by decide +kernel, by decide +kernel⟩, List.mem_of_getElem? (i := 17) (by decide +kernel), List.mem_of_getElem? (i := 573) (by decide +kernel), List.mem_of_getElem? (i := 574) (by decide +kernel)⟩
theorem lw_p14 : lw_okq (⟨"SpanRules$SpanStore", "shares", "(IIJJ)Z"⟩, 12) := ⟨⟨by decide +kernel, by decide +kernel⟩, List.mem_of_getElem? (i := 76) (by decide +kernel), List.mem_of_getElem? (i := 581) (by decide +kernel), List.mem_of_getElem? (i := 582) (by decide +kernel)⟩
theorem lw_p15 : lw_okq (⟨"SpanRules", "isGone", "(J)Z"⟩, 14) := ⟨⟨by decide +kernel, by decide +kernel⟩, List.mem_of_getElem? (i := 17) (by decide +kernel), List.mem_of_getElem? (i := 586) (by decide +kernel), List.mem_of_getElem? (i := 587) (by decide +kernel)⟩
def lw_privs_1 : List (MethodName × Nat) := [(⟨"SpanRules", "endCounted", "()I"⟩, 14), (⟨"SpanRules", "numberRows", "()V"⟩, 14), (⟨"SpanRules", "isNumbered", "(I)Z"⟩, 14), (⟨"SpanRules", "fireCounted", "(I)I"⟩, 14), (⟨"SpanRules", "gatherCounted", "(IJ)V"⟩, 14), (⟨"SpanRules", "isWaitedFor", "(I)Z"⟩, 14), (⟨"SpanRules", "endSpans", "()I"⟩, 14), (⟨"SpanRules", "fire", "(II)V"⟩, 14), (⟨"SpanRules", "gather", "(I[J)V"⟩, 14), (⟨"SpanRules$SpanStore", "sweep", "()V"⟩, 12), (⟨"java/lang/Throwable", "fillInStackTrace", "(I)Ljava/lang/Throwable;"⟩, 6), (⟨"SpanRules", "putWaiting", "(IJJ)I"⟩, 14), (⟨"SpanRules", "dropLate", "()I"⟩, 14), (⟨"SpanRules", "putByGap", "(IJJ)I"⟩, 14), (⟨"SpanRules$SpanStore", "shares", "(IIJJ)Z"⟩, 12), (⟨"SpanRules", "isGone", "(J)Z"⟩, 14)]
theorem lw_r1 : ∀ q ∈ lw_privs_1, lw_okq q := List.forall_mem_cons.mpr ⟨lw_p0, List.forall_mem_cons.mpr ⟨lw_p1, List.forall_mem_cons.mpr ⟨lw_p2, List.forall_mem_cons.mpr ⟨lw_p3, List.forall_mem_cons.mpr ⟨lw_p4, List.forall_mem_cons.mpr ⟨lw_p5, List.forall_mem_cons.mpr ⟨lw_p6, List.forall_mem_cons.mpr ⟨lw_p7, List.forall_mem_cons.mpr ⟨lw_p8, List.forall_mem_cons.mpr ⟨lw_p9, List.forall_mem_cons.mpr ⟨lw_p10, List.forall_mem_cons.mpr ⟨lw_p11, List.forall_mem_cons.mpr ⟨lw_p12, List.forall_mem_cons.mpr ⟨lw_p13, List.forall_mem_cons.mpr ⟨lw_p14, List.forall_mem_cons.mpr ⟨lw_p15, fun _ h => absurd h List.not_mem_nil⟩⟩⟩⟩⟩⟩⟩⟩⟩⟩⟩⟩⟩⟩⟩⟩
theorem lw_p16 : lw_okq (⟨"SpanRules$SpanStore", "absorb", "(II)V"⟩, 12) := ⟨⟨by decide +kernel, by decide +kernel⟩, List.mem_of_getElem? (i := 76) (by decide +kernel), List.mem_of_getElem? (i := 598) (by decide +kernel), List.mem_of_getElem? (i := 599) (by decide +kernel)⟩
theorem lw_p17 : lw_okq (⟨"SpanRules$SpanStore", "isBehind", "(II)Z"⟩, 12) := ⟨⟨by decide +kernel, by decide +kernel⟩, List.mem_of_getElem? (i := 76) (by decide +kernel), List.mem_of_getElem? (i := 609) (by decide +kernel), List.mem_of_getElem? (i := 610) (by decide +kernel)⟩
theorem lw_p18 : lw_okq (⟨"SpanRules", "putAndFire", "(II)V"⟩, 14) := ⟨⟨by decide +kernel, by decide +kernel⟩, List.mem_of_getElem? (i := 17) (by decide +kernel), List.mem_of_getElem? (i := 614) (by decide +kernel), List.mem_of_getElem? (i := 615) (by decide +kernel)⟩
theorem lw_p19 : lw_okq (⟨"SpanRules", "putByLayout", "(IJJ)I"⟩, 14) := ⟨⟨by decide +kernel, by decide +kernel⟩, List.mem_of_getElem? (i := 17) (by decide +kernel), List.mem_of_getElem? (i := 622) (by decide +kernel), List.mem_of_getElem? (i := 623) (by decide +kernel)⟩
theorem lw_p20 : lw_okq (⟨"SpanRules$Layout", "slide", "(J)V"⟩, 8) := ⟨⟨by decide +kernel, by decide +kernel⟩, List.mem_of_getElem? (i := 194) (by decide +kernel), List.mem_of_getElem? (i := 630) (by decide +kernel), List.mem_of_getElem? (i := 631) (by decide +kernel)⟩
theorem lw_p21 : lw_okq (⟨"SpanRules$Layout", "add", "(JJ)V"⟩, 8) := ⟨⟨by decide +kernel, by decide +kernel⟩, List.mem_of_getElem? (i := 194) (by decide +kernel), List.mem_of_getElem? (i := 635) (by decide +kernel), List.mem_of_getElem? (i := 636) (by decide +kernel)⟩
theorem lw_p22 : lw_okq (⟨"SpanRules$Layout", "inMonths", "(J)V"⟩, 8) := ⟨⟨by decide +kernel, by decide +kernel⟩, List.mem_of_getElem? (i := 194) (by decide +kernel), List.mem_of_getElem? (i := 639) (by decide +kernel), List.mem_of_getElem? (i := 640) (by decide +kernel)⟩
theorem lw_p23 : lw_okq (⟨"SpanRules$Layout", "byOwnRule", "(JJ)V"⟩, 8) := ⟨⟨by decide +kernel, by decide +kernel⟩, List.mem_of_getElem? (i := 194) (by decide +kernel), List.mem_of_getElem? (i := 650) (by decide +kernel), List.mem_of_getElem? (i := 651) (by decide +kernel)⟩
theorem lw_p24 : lw_okq (⟨"SpanRules$Layout", "byTurns", "(J)V"⟩, 8) := ⟨⟨by decide +kernel, by decide +kernel⟩, List.mem_of_getElem? (i := 194) (by decide +kernel), List.mem_of_getElem? (i := 654) (by decide +kernel), List.mem_of_getElem? (i := 655) (by decide +kernel)⟩
theorem lw_p25 : lw_okq (⟨"SpanRules$Layout", "beside", "(JJ)V"⟩, 8) := ⟨⟨by decide +kernel, by decide +kernel⟩, List.mem_of_getElem? (i := 194) (by decide +kernel), List.mem_of_getElem? (i := 658) (by decide +kernel), List.mem_of_getElem? (i := 659) (by decide +kernel)⟩
theorem lw_p26 : lw_okq (⟨"SpanRules$Layout", "doubling", "(J)V"⟩, 8) := ⟨⟨by decide +kernel, by decide +kernel⟩, List.mem_of_getElem? (i := 194) (by decide +kernel), List.mem_of_getElem? (i := 662) (by decide +kernel), List.mem_of_getElem? (i := 663) (by decide +kernel)⟩
theorem lw_p27 : lw_okq (⟨"SpanRules", "newOnes", "(I)I"⟩, 14) := ⟨⟨by decide +kernel, by decide +kernel⟩, List.mem_of_getElem? (i := 17) (by decide +kernel), List.mem_of_getElem? (i := 672) (by decide +kernel), List.mem_of_getElem? (i := 673) (by decide +kernel)⟩
theorem lw_p28 : lw_okq (⟨"SpanRulesModel", "isForbidden", "(IJ)Z"⟩, 42) := ⟨⟨by decide +kernel, by decide +kernel⟩, List.mem_of_getElem? (i := 681) (by decide +kernel), List.mem_of_getElem? (i := 855) (by decide +kernel), List.mem_of_getElem? (i := 856) (by decide +kernel)⟩
theorem lw_p29 : lw_okq (⟨"SpanRulesModel", "counted", "(IJJ)I"⟩, 42) := ⟨⟨by decide +kernel, by decide +kernel⟩, List.mem_of_getElem? (i := 681) (by decide +kernel), List.mem_of_getElem? (i := 896) (by decide +kernel), List.mem_of_getElem? (i := 897) (by decide +kernel)⟩
theorem lw_p30 : lw_okq (⟨"SpanRulesModel", "drop", "()I"⟩, 42) := ⟨⟨by decide +kernel, by decide +kernel⟩, List.mem_of_getElem? (i := 681) (by decide +kernel), List.mem_of_getElem? (i := 900) (by decide +kernel), List.mem_of_getElem? (i := 901) (by decide +kernel)⟩
theorem lw_p31 : lw_okq (⟨"SpanRulesModel", "newRow", "(IJJ)I"⟩, 42) := ⟨⟨by decide +kernel, by decide +kernel⟩, List.mem_of_getElem? (i := 681) (by decide +kernel), List.mem_of_getElem? (i := 904) (by decide +kernel), List.mem_of_getElem? (i := 905) (by decide +kernel)⟩
def lw_privs_2 : List (MethodName × Nat) := [(⟨"SpanRules$SpanStore", "absorb", "(II)V"⟩, 12), (⟨"SpanRules$SpanStore", "isBehind", "(II)Z"⟩, 12), (⟨"SpanRules", "putAndFire", "(II)V"⟩, 14), (⟨"SpanRules", "putByLayout", "(IJJ)I"⟩, 14), (⟨"SpanRules$Layout", "slide", "(J)V"⟩, 8), (⟨"SpanRules$Layout", "add", "(JJ)V"⟩, 8), (⟨"SpanRules$Layout", "inMonths", "(J)V"⟩, 8), (⟨"SpanRules$Layout", "byOwnRule", "(JJ)V"⟩, 8), (⟨"SpanRules$Layout", "byTurns", "(J)V"⟩, 8), (⟨"SpanRules$Layout", "beside", "(JJ)V"⟩, 8), (⟨"SpanRules$Layout", "doubling", "(J)V"⟩, 8), (⟨"SpanRules", "newOnes", "(I)I"⟩, 14), (⟨"SpanRulesModel", "isForbidden", "(IJ)Z"⟩, 42), (⟨"SpanRulesModel", "counted", "(IJJ)I"⟩, 42), (⟨"SpanRulesModel", "drop", "()I"⟩, 42), (⟨"SpanRulesModel", "newRow", "(IJJ)I"⟩, 42)]
theorem lw_r2 : ∀ q ∈ lw_privs_2, lw_okq q := List.forall_mem_cons.mpr ⟨lw_p16, List.forall_mem_cons.mpr ⟨lw_p17, List.forall_mem_cons.mpr ⟨lw_p18, List.forall_mem_cons.mpr ⟨lw_p19, List.forall_mem_cons.mpr ⟨lw_p20, List.forall_mem_cons.mpr ⟨lw_p21, List.forall_mem_cons.mpr ⟨lw_p22, List.forall_mem_cons.mpr ⟨lw_p23, List.forall_mem_cons.mpr ⟨lw_p24, List.forall_mem_cons.mpr ⟨lw_p25, List.forall_mem_cons.mpr ⟨lw_p26, List.forall_mem_cons.mpr ⟨lw_p27, List.forall_mem_cons.mpr ⟨lw_p28, List.forall_mem_cons.mpr ⟨lw_p29, List.forall_mem_cons.mpr ⟨lw_p30, List.forall_mem_cons.mpr ⟨lw_p31, fun _ h => absurd h List.not_mem_nil⟩⟩⟩⟩⟩⟩⟩⟩⟩⟩⟩⟩⟩⟩⟩⟩
theorem lw_p32 : lw_okq (⟨"SpanRulesModel", "wantFor", "(JJ)V"⟩, 42) := ⟨⟨by decide +kernel, by decide +kernel⟩, List.mem_of_getElem? (i := 681) (by decide +kernel), List.mem_of_getElem? (i := 908) (by decide +kernel), List.mem_of_getElem? (i := 909) (by decide +kernel)⟩
theorem lw_p33 : lw_okq (⟨"SpanRulesModel", "beside", "(JJ)V"⟩, 42) := ⟨⟨by decide +kernel, by decide +kernel⟩, List.mem_of_getElem? (i := 681) (by decide +kernel), List.mem_of_getElem? (i := 912) (by decide +kernel), List.mem_of_getElem? (i := 913) (by decide +kernel)⟩
theorem lw_p34 : lw_okq (⟨"SpanRulesModel", "want", "(JJ)V"⟩, 42) := ⟨⟨by decide +kernel, by decide +kernel⟩, List.mem_of_getElem? (i := 681) (by decide +kernel), List.mem_of_getElem? (i := 916) (by decide +kernel), List.mem_of_getElem? (i := 917) (by decide +kernel)⟩
theorem lw_p35 : lw_okq (⟨"SpanRulesModel", "double0", "(J)V"⟩, 42) := ⟨⟨by decide +kernel, by decide +kernel⟩, List.mem_of_getElem? (i := 681) (by decide +kernel), List.mem_of_getElem? (i := 924) (by decide +kernel), List.mem_of_getElem? (i := 925) (by decide +kernel)⟩
theorem lw_p36 : lw_okq (⟨"SpanRulesModel", "gap", "(IJJ)I"⟩, 42) := ⟨⟨by decide +kernel, by decide +kernel⟩, List.mem_of_getElem? (i := 681) (by decide +kernel), List.mem_of_getElem? (i := 928) (by decide +kernel), List.mem_of_getElem? (i := 929) (by decide +kernel)⟩
theorem lw_p37 : lw_okq (⟨"SpanRulesModel", "join", "(II)V"⟩, 42) := ⟨⟨by decide +kernel, by decide +kernel⟩, List.mem_of_getElem? (i := 681) (by decide +kernel), List.mem_of_getElem? (i := 932) (by decide +kernel), List.mem_of_getElem? (i := 933) (by decide +kernel)⟩
theorem lw_p38 : lw_okq (⟨"SpanRulesModel", "newSpan", "(IJJ)I"⟩, 42) := ⟨⟨by decide +kernel, by decide +kernel⟩, List.mem_of_getElem? (i := 681) (by decide +kernel), List.mem_of_getElem? (i := 936) (by decide +kernel), List.mem_of_getElem? (i := 937) (by decide +kernel)⟩
theorem lw_p39 : lw_okq (⟨"SpanRulesModel", "putInto", "(II)V"⟩, 42) := ⟨⟨by decide +kernel, by decide +kernel⟩, List.mem_of_getElem? (i := 681) (by decide +kernel), List.mem_of_getElem? (i := 940) (by decide +kernel), List.mem_of_getElem? (i := 941) (by decide +kernel)⟩
theorem lw_p40 : lw_okq (⟨"SpanRulesModel", "fire", "(II)V"⟩, 42) := ⟨⟨by decide +kernel, by decide +kernel⟩, List.mem_of_getElem? (i := 681) (by decide +kernel), List.mem_of_getElem? (i := 944) (by decide +kernel), List.mem_of_getElem? (i := 945) (by decide +kernel)⟩
theorem lw_p41 : lw_okq (⟨"SpanRulesModel", "contents", "()V"⟩, 42) := ⟨⟨by decide +kernel, by decide +kernel⟩, List.mem_of_getElem? (i := 681) (by decide +kernel), List.mem_of_getElem? (i := 948) (by decide +kernel), List.mem_of_getElem? (i := 949) (by decide +kernel)⟩
theorem lw_p42 : lw_okq (⟨"SpanRulesModel", "isBefore", "(II)Z"⟩, 42) := ⟨⟨by decide +kernel, by decide +kernel⟩, List.mem_of_getElem? (i := 681) (by decide +kernel), List.mem_of_getElem? (i := 952) (by decide +kernel), List.mem_of_getElem? (i := 953) (by decide +kernel)⟩
theorem lw_p43 : lw_okq (⟨"SpanRulesModel", "tell", "(IJJII)V"⟩, 42) := ⟨⟨by decide +kernel, by decide +kernel⟩, List.mem_of_getElem? (i := 681) (by decide +kernel), List.mem_of_getElem? (i := 957) (by decide +kernel), List.mem_of_getElem? (i := 958) (by decide +kernel)⟩
theorem lw_p44 : lw_okq (⟨"SpanRulesModel", "plain", "(IJJ)I"⟩, 42) := ⟨⟨by decide +kernel, by decide +kernel⟩, List.mem_of_getElem? (i := 681) (by decide +kernel), List.mem_of_getElem? (i := 961) (by decide +kernel), List.mem_of_getElem? (i := 962) (by decide +kernel)⟩
theorem lw_p45 : lw_okq (⟨"SpanRulesModel", "spanAt", "(IJJ)I"⟩, 42) := ⟨⟨by decide +kernel, by decide +kernel⟩, List.mem_of_getElem? (i := 681) (by decide +kernel), List.mem_of_getElem? (i := 965) (by decide +kernel), List.mem_of_getElem? (i := 966) (by decide +kernel)⟩
theorem lw_p46 : lw_okq (⟨"SpanRulesModel", "countedMark", "()I"⟩, 42) := ⟨⟨by decide +kernel, by decide +kernel⟩, List.mem_of_getElem? (i := 681) (by decide +kernel), List.mem_of_getElem? (i := 974) (by decide +kernel), List.mem_of_getElem? (i := 975) (by decide +kernel)⟩
theorem lw_p47 : lw_okq (⟨"SpanRulesModel", "isWanted", "(II)Z"⟩, 42) := ⟨⟨by decide +kernel, by decide +kernel⟩, List.mem_of_getElem? (i := 681) (by decide +kernel), List.mem_of_getElem? (i := 978) (by decide +kernel), List.mem_of_getElem? (i := 979) (by decide +kernel)⟩
def lw_privs_3 : List (MethodName × Nat) := [(⟨"SpanRulesModel", "wantFor", "(JJ)V"⟩, 42), (⟨"SpanRulesModel", "beside", "(JJ)V"⟩, 42), (⟨"SpanRulesModel", "want", "(JJ)V"⟩, 42), (⟨"SpanRulesModel", "double0", "(J)V"⟩, 42), (⟨"SpanRulesModel", "gap", "(IJJ)I"⟩, 42), (⟨"SpanRulesModel", "join", "(II)V"⟩, 42), (⟨"SpanRulesModel", "newSpan", "(IJJ)I"⟩, 42), (⟨"SpanRulesModel", "putInto", "(II)V"⟩, 42), (⟨"SpanRulesModel", "fire", "(II)V"⟩, 42), (⟨"SpanRulesModel", "contents", "()V"⟩, 42), (⟨"SpanRulesModel", "isBefore", "(II)Z"⟩, 42), (⟨"SpanRulesModel", "tell", "(IJJII)V"⟩, 42), (⟨"SpanRulesModel", "plain", "(IJJ)I"⟩, 42), (⟨"SpanRulesModel", "spanAt", "(IJJ)I"⟩, 42), (⟨"SpanRulesModel", "countedMark", "()I"⟩, 42), (⟨"SpanRulesModel", "isWanted", "(II)Z"⟩, 42)]
theorem lw_r3 : ∀ q ∈ lw_privs_3, lw_okq q := List.forall_mem_cons.mpr ⟨lw_p32, List.forall_mem_cons.mpr ⟨lw_p33, List.forall_mem_cons.mpr ⟨lw_p34, List.forall_mem_cons.mpr ⟨lw_p35, List.forall_mem_cons.mpr ⟨lw_p36, List.forall_mem_cons.mpr ⟨lw_p37, List.forall_mem_cons.mpr ⟨lw_p38, List.forall_mem_cons.mpr ⟨lw_p39, List.forall_mem_cons.mpr ⟨lw_p40, List.forall_mem_cons.mpr ⟨lw_p41, List.forall_mem_cons.mpr ⟨lw_p42, List.forall_mem_cons.mpr ⟨lw_p43, List.forall_mem_cons.mpr ⟨lw_p44, List.forall_mem_cons.mpr ⟨lw_p45, List.forall_mem_cons.mpr ⟨lw_p46, List.forall_mem_cons.mpr ⟨lw_p47, fun _ h => absurd h List.not_mem_nil⟩⟩⟩⟩⟩⟩⟩⟩⟩⟩⟩⟩⟩⟩⟩⟩
theorem lw_p48 : lw_okq (⟨"SpanRulesModel", "isFirst", "(II)Z"⟩, 42) := ⟨⟨by decide +kernel, by decide +kernel⟩, List.mem_of_getElem? (i := 681) (by decide +kernel), List.mem_of_getElem? (i := 982) (by decide +kernel), List.mem_of_getElem? (i := 983) (by decide +kernel)⟩
def lw_privs_4 : List (MethodName × Nat) := [(⟨"SpanRulesModel", "isFirst", "(II)Z"⟩, 42)]
theorem lw_r4 : ∀ q ∈ lw_privs_4, lw_okq q := List.forall_mem_cons.mpr ⟨lw_p48, fun _ h => absurd h List.not_mem_nil⟩
def lw_privs : List (MethodName × Nat) := lw_privs_1 ++ (lw_privs_2 ++ (lw_privs_3 ++ (lw_privs_4)))
def lw_tbl : List Cond := k2_sels lw_privs ++ tables_1
theorem lw_privs_ok : ∀ q ∈ lw_privs, lw_okq q := by
  show ∀ q ∈ lw_privs_1 ++ (lw_privs_2 ++ (lw_privs_3 ++ (lw_privs_4))), lw_okq q
  exact List.forall_mem_append.mpr ⟨lw_r1, List.forall_mem_append.mpr ⟨lw_r2, List.forall_mem_append.mpr ⟨lw_r3, lw_r4⟩⟩⟩
end
section
/-! MY ROWS: one form of contract for a method that makes nothing (cx_M), the way into it (cx_of), out of it (cx_iret ..), a call of it (cx_callV ..), all with the caller's world kept in its order -/
/-- a pure function's steps -/
def gl_let {α β : Type} (e : α) (f : α → β) : β := f e
theorem g_let {α β : Type} {e : α} {f : α → β} {r : β} (h : gl_let e f = r) {x : α} (hx : x = e) : f x = r := by subst hx; exact h
theorem g_ck {c : Prop} [Decidable c] {α : Type} {x : Option α} {r : α} (h : (if c then none else x) = some r) : ¬ c ∧ x = some r := by
  by_cases hc : c
  · rw [if_pos hc] at h; cases h
  · rw [if_neg hc] at h; exact ⟨hc, h⟩
theorem g_t {c : Prop} [Decidable c] {α : Type} {x y r : α} (h : (if c then x else y) = r) (hc : c) : x = r := by rw [if_pos hc] at h; exact h
theorem g_f {c : Prop} [Decidable c] {α : Type} {x y r : α} (h : (if c then x else y) = r) (hc : ¬ c) : y = r := by rw [if_neg hc] at h; exact h
theorem g_bind {α β : Type} {o : Option α} {f : α → Option β} {r : β} (h : o.bind f = some r) : ∃ v, o = some v ∧ f v = some r := by
  cases o with
  | none => cases h
  | some v => exact ⟨v, rfl, h⟩
theorem g_some {α : Type} {a b : α} (h : some a = some b) : a = b := Option.some.inj h
/-- cells put into a world, place by place -/
def cx_up : va_W → List Nat → va_W → va_W
  | ws, [], _ => ws
  | ws, _ :: _, [] => ws
  | ws, i :: is, q :: w1 => cx_up (ws.set i q) is w1
theorem cx_up_at : ∀ (is : List Nat) (ws w1 : va_W) (k : Nat) (q : Nat × va_E), is.length = w1.length → (cx_up ws is w1)[k]? = some q → (∃ j : Nat, w1[j]? = some q ∧ is[j]? = some k) ∨ (ws[k]? = some q ∧ k ∉ is) := by
  intro is
  induction is with
  | nil =>
    intro ws w1 k q _ h
    rw [show cx_up ws [] w1 = ws from by cases w1 <;> rfl] at h
    exact Or.inr ⟨h, by simp⟩
  | cons i is ih =>
    intro ws w1 k q hl h
    cases w1 with
    | nil => simp at hl
    | cons q0 w1 =>
      rcases ih (ws.set i q0) w1 k q (by simpa using hl) h with ⟨j, h1, h2⟩ | ⟨h1, h2⟩
      · exact Or.inl ⟨j + 1, by simpa using h1, by simpa using h2⟩
      · by_cases hk : k = i
        · subst hk
          rw [List.getElem?_set] at h1
          by_cases hlt : k < ws.length
          · rw [if_pos rfl, if_pos hlt] at h1
            exact Or.inl ⟨0, by simpa using h1, by simp⟩
          · rw [if_pos rfl, if_neg hlt] at h1
            cases h1
        · rw [List.getElem?_set, if_neg (fun e => hk e.symm)] at h1
          exact Or.inr ⟨h1, by simp [hk, h2]⟩
theorem cx_back {A0 : Nat → Prop} {D : va_G} {cl : List vw_C} {ws wc w1 : va_W} {H H1 : Heap} (hP : va_P D cl ws H) (hD : va_D A0 ws) (is : List Nat) (hC : is.map (fun i => ws[i]?) = wc.map some) (hw : w1.map Prod.fst = wc.map Prod.fst)
    (hk : ∀ q : Nat, q < H.size → ¬ va_A wc H.size q → H1[q]? = H[q]?) (hP1 : va_P D cl w1 H1) : va_P D cl (cx_up ws is w1) H1 ∧ va_D A0 (cx_up ws is w1) := by
  have hlen : is.length = w1.length := by
    have a := congrArg List.length hC
    have b := congrArg List.length hw
    simp at a b
    omega
  have at' : ∀ (k : Nat) (q : Nat × va_E), wc[k]? = some q → ∃ i, is[k]? = some i ∧ ws[i]? = some q := by
    intro k q hq
    have h1 : (is.map (fun i => ws[i]?))[k]? = some (some q) := by rw [hC, List.getElem?_map, hq]; rfl
    rw [List.getElem?_map] at h1
    cases hi : is[k]? with
    | none => rw [hi] at h1; cases h1
    | some i => rw [hi] at h1; exact ⟨i, rfl, Option.some.inj h1⟩
  have adr : ∀ (k : Nat) (q : Nat × va_E), (cx_up ws is w1)[k]? = some q → ∃ e, ws[k]? = some (q.1, e) := by
    intro k q hq
    rcases cx_up_at is ws w1 k q hlen hq with ⟨j, h1, h2⟩ | ⟨h1, _⟩
    · have h3 : (wc.map Prod.fst)[j]? = some q.1 := by rw [← hw, List.getElem?_map, h1]; rfl
      rw [List.getElem?_map] at h3
      cases hc : wc[j]? with
      | none => rw [hc] at h3; cases h3
      | some qc =>
        rw [hc] at h3
        obtain ⟨i, h4, h5⟩ := at' j qc hc
        have e1 : i = k := Option.some.inj (h4.symm.trans h2)
        have e2 : qc.1 = q.1 := Option.some.inj h3
        subst e1
        exact ⟨qc.2, by rw [h5, ← e2]⟩
    · exact ⟨q.2, h1⟩
  refine ⟨fun k q hq => ?_, fun i j p q hi hj hpq => ?_, fun k q hq => ?_⟩
  · rcases cx_up_at is ws w1 k q hlen hq with ⟨j, h1, _⟩ | ⟨h1, h2⟩
    · exact hP1 j q h1
    · have hl := (hP k q h1).lt
      refine (hP k q h1).kept (hk q.1 hl (fun h => ?_))
      rcases h with ⟨k2, e, h⟩ | h
      · obtain ⟨i, h3, h4⟩ := at' k2 (q.1, e) h
        have hij := hD.1 k i q (q.1, e) h1 h4 rfl
        subst hij
        exact h2 (List.mem_of_getElem? h3)
      · exact absurd hl (Nat.not_lt.mpr h)
  · obtain ⟨e1, h1⟩ := adr i p hi
    obtain ⟨e2, h2⟩ := adr j q hj
    exact hD.1 i j _ _ h1 h2 hpq
  · obtain ⟨e1, h1⟩ := adr k q hq
    exact hD.2 k (q.1, e1) h1
/-- the links to a nest mate's private members: no word of a list, so they go along with the state -/
def cx_W (U : State) : Prop := va_Nw (Jvm.Cond.methodLinkNest "SpanRules" (9 : Nat) ({ cls := "SpanRules$Forbidden", name := "<init>", desc := "()V" } : Jvm.MethodName) "SpanRules") U ∧ va_Nw (Jvm.Cond.methodLinkNest "SpanRules" (32 : Nat) ({ cls := "SpanRules$Numbering", name := "<init>", desc := "()V" } : Jvm.MethodName) "SpanRules") U ∧ va_Nw (Jvm.Cond.methodLinkNest "SpanRules" (39 : Nat) ({ cls := "SpanRules$FiringStore", name := "<init>", desc := "()V" } : Jvm.MethodName) "SpanRules") U ∧ va_Nw (Jvm.Cond.methodLinkNest "SpanRules" (46 : Nat) ({ cls := "SpanRules$Contents", name := "<init>", desc := "()V" } : Jvm.MethodName) "SpanRules") U ∧ va_Nw (Jvm.Cond.methodLinkNest "SpanRules$Layout" (52 : Nat) ({ cls := "SpanRules", name := "by", desc := "(JJ)J" } : Jvm.MethodName) "SpanRules") U
theorem cx_W.warm {s U : State} (hW : s.WarmedH U.vm) (h : cx_W s) : cx_W U := ⟨va_Nw.warmM hW h.1, va_Nw.warmM hW h.2.1, va_Nw.warmM hW h.2.2.1, va_Nw.warmM hW h.2.2.2.1, va_Nw.warmM hW h.2.2.2.2⟩
theorem cx_W.same {s U : State} (hv : s.vm = U.vm) (h : cx_W s) : cx_W U := ⟨va_Nw.same rfl hv h.1, va_Nw.same rfl hv h.2.1, va_Nw.same rfl hv h.2.2.1, va_Nw.same rfl hv h.2.2.2.1, va_Nw.same rfl hv h.2.2.2.2⟩
/-- the contract: called with av in the world wc, y returns rv and leaves the world w1, the addresses as they were, and nothing else changed -/
def cx_Q (D : va_G) (cl : List vw_C) (w1 : va_W) (rv : Option Value) (A : Nat → Prop) : Array Value → State → Outcome → State → Prop := fun _ st oc t => (oc = .returned rv ∧ va_P D cl w1 t.heap) ∧ va_F A st t
def cx_M (l : Launch) (y : MethodName) (ws : List Cond) (rm : Room) (D : va_G) (cl : List vw_C) (tys : List (ClassId × FieldType)) (av : List Value) (wc w1 : va_W) (rv : Option Value) : Prop :=
  ∀ sz : Nat, Met l y ws rm (va_Pc av (fun U => U.heap.size = sz ∧ va_P D cl wc U.heap ∧ va_K D cl tys U ∧ va_D (fun _ => True) wc ∧ cx_W U)) (cx_Q D cl w1 rv (va_A wc sz)) 0 0 (va_A wc sz)
def cx_Z (D : va_G) (cl : List vw_C) (below : List Frame) (av : List Value) (s : State) (w1 : va_W) (rv : Option Value) (A : Nat → Prop) : State → Prop := MQ below (cx_Q D cl w1 rv A) av.toArray s 0 0 A
/-- as Met.ofW, of a method that no native row stands for, whatever its class's name -/
theorem cx_ofW {l : Launch} {y : MethodName} {ws ws' : List Cond} {rm : Room} {Pc : Array Value → State → Prop} {Qc : Array Value → State → Outcome → State → Prop} {mc ms : Nat} {free : Addr → Prop} {cc : ByteArray} {maxL : Nat} {ret : Option FieldType}
    (hy : plainFor y = true) (hw : ws = Cond.code y cc maxL ret :: ws')
    (body : ∀ p e s m args below meth c s₁, BodyLoose p l y (headSpec ws rm) cc maxL ret e s m args below meth c s₁ → c.maxLocals = maxL → Pc args s →
      W p l e (headSpec ws rm).room s m args below meth c s.heap [] 0 0 (MQ below Qc args s mc ms free) (entryFrame m args maxL)) : Met l y ws rm Pc Qc mc ms free := by
  refine MetFree.of_bodySF (code := cc) (maxLocals := maxL) (ret := ret) hy ?_ ?_
  · intro args s m h hn
    obtain ⟨meth, c, h1, h2, h3, h4, h5, h6, -, -⟩ := Cond.code_spec hn (atoms_spec (ws := ws) h _ (by rw [hw]; exact List.mem_cons_self))
    exact ⟨meth, c, h1, h2, h3, h4, h5, h6⟩
  · intro p e s m args below meth c s₁ B hml hP _
    have hh0 : s₁.heap = s.heap := by rw [B.state]; rfl
    obtain ⟨t, a1, o, b1, b2, b3⟩ := body p e s m args below meth c s₁ B hml hP s₁ hh0 (Stand.of_body B)
    exact ⟨t, o, a1, b1, b2, ⟨b3.1, b3.2⟩⟩
theorem cx_of {l : Launch} {y : MethodName} {ws ws' : List Cond} {rm : Room} {D : va_G} {cl : List vw_C} {tys : List (ClassId × FieldType)} {av : List Value} {wc w1 : va_W} {rv : Option Value} {cc : ByteArray} {maxL : Nat} {ret : Option FieldType}
    (hy : plainFor y = true) (hw : ws = Cond.code y cc maxL ret :: ws') (hlen : (lg_sl av).length ≤ maxL)
    (body : ∀ (p : Program) (e : Env) (s : State) (m : MethodId) (below : List Frame) (meth : Method) (c : Code), p.tables.exec = Jvm.exec → c.code = cc → meth.sig.returnType = ret → c.maxLocals = maxL → s.vm.findClass y.cls = some m.cls → (∀ w ∈ ws, w.before av.toArray s = true) → meth.locks = false →
      ∀ (A : Nat → Prop), (∀ q : Nat, s.heap.size ≤ q → A q) → ∀ (H : Heap) (locs : List Loc) (ls : Array Slot), va_K D cl tys s → cx_W s → va_P D cl wc H → va_D A wc → va_S A s.heap H locs → lv_has ls maxL (lv_args 0 av) → W p l e rm s m av.toArray below meth c H locs 0 0 (cx_Z D cl below av s w1 rv A) (F0 m 0 ls [])) :
    cx_M l y ws rm D cl tys av wc w1 rv := by
  intro sz
  refine cx_ofW (cc := cc) (maxL := maxL) (ret := ret) hy hw ?_
  intro p e s m args below meth c s₁ B hml hv
  obtain ⟨rfl, hsz, hP, hK, hD0, hN⟩ := hv
  subst hsz
  have hD := hD0.self (sz := s.heap.size)
  have hl := lv_entry av (n := maxL) hlen
  rw [lg_entry_eq]
  exact body p e s m below meth c B.exec B.bytes B.returns hml (findClass_of_methodNamed B.named) (atoms_spec (ws := ws) B.pre) B.notSynchronized _ (fun q h => Or.inr h) s.heap [] _ hK hN hP hD va_S.rf hl
section CX
variable {p : Program} {l : Launch} {e : Env} {R : Room} {s : State} {m : MethodId} {below : List Frame} {meth : Method} {c : Code} {H : Heap} {locs : List Loc} {D : va_G} {cl : List vw_C} {av : List Value} {w1 : va_W} {A : Nat → Prop} {cc : ByteArray} {pc : Nat} {ls : Array Slot}
theorem cx_iret {v : Int32} (hx : p.tables.exec = Jvm.exec) (hb : c.code = cc) (hr : meth.sig.returnType = some .int) (hlocks : meth.locks = false) (hP : va_P D cl w1 H) (hS : va_S A s.heap H locs) (hdg : decode cc pc = .ok (.ireturn, 1)) :
    W p l e R s m av.toArray below meth c H locs 0 0 (cx_Z D cl below av s w1 (some (.int v)) A) (F0 m pc ls [.int v]) :=
  W.iret hx hb hr (fun t ht _ => ⟨⟨rfl, by rw [ht]; exact hP⟩, hS.F ht⟩) hS.2.2 hdg hlocks
theorem cx_zret {v : Int32} (hx : p.tables.exec = Jvm.exec) (hb : c.code = cc) (hr : meth.sig.returnType = some .boolean) (hlocks : meth.locks = false) (hn : narrow .boolean (.int v) = .int v) (hP : va_P D cl w1 H) (hS : va_S A s.heap H locs) (hdg : decode cc pc = .ok (.ireturn, 1)) :
    W p l e R s m av.toArray below meth c H locs 0 0 (cx_Z D cl below av s w1 (some (.int v)) A) (F0 m pc ls [.int v]) :=
  W.zret hx hb hr hn (fun t ht _ => ⟨⟨rfl, by rw [ht]; exact hP⟩, hS.F ht⟩) hS.2.2 hdg hlocks
theorem cx_lret {v : Int64} (hx : p.tables.exec = Jvm.exec) (hb : c.code = cc) (hr : meth.sig.returnType = some .long) (hlocks : meth.locks = false) (hP : va_P D cl w1 H) (hS : va_S A s.heap H locs) (hdg : decode cc pc = .ok (.lreturn, 1)) :
    W p l e R s m av.toArray below meth c H locs 0 0 (cx_Z D cl below av s w1 (some (.long v)) A) (F0 m pc ls [.long v]) :=
  W.lret hx hb hr (fun t ht _ => ⟨⟨rfl, by rw [ht]; exact hP⟩, hS.F ht⟩) hS.2.2 hdg hlocks
theorem cx_vret (hx : p.tables.exec = Jvm.exec) (hb : c.code = cc) (hr : meth.sig.returnType = none) (hlocks : meth.locks = false) (hP : va_P D cl w1 H) (hS : va_S A s.heap H locs) (hdg : decode cc pc = .ok (.return_, 1)) :
    W p l e R s m av.toArray below meth c H locs 0 0 (cx_Z D cl below av s w1 none A) (F0 m pc ls []) :=
  W.vret hx hb hr (fun t ht _ => ⟨⟨rfl, by rw [ht]; exact hP⟩, hS.F ht⟩) hS.2.2 hdg hlocks
end CX
section CXC
variable {p : Program} {l : Launch} {e : Env} {R : Room} {s : State} {m : MethodId} {args : Array Value} {below : List Frame} {meth : Method} {c : Code} {H : Heap} {locs : List Loc} {cells slots : Nat} {Q : State → Prop}
variable {cc bytes : ByteArray} {pc nL maxL n index : Nat} {ls : Array Slot} {rest st0 As : List Value} {D : va_G} {cl : List vw_C} {tys : List (ClassId × FieldType)} {ws wc w1 : va_W} {A : Nat → Prop} {H0 : Heap} {y : MethodName} {wy Ts : List Cond} {rm : Room} {rv : Option Value} {ret : Option FieldType} {own C host : String} {b : Addr}
theorem cx_run {aa : Array Value} (hr : va_Run p l e R s m args below meth c H locs cells slots 0 0 (F0 m pc ls st0) rest (cx_Q D cl w1 rv (va_A wc H.size) aa) (va_A wc H.size)) (hP : va_P D cl ws H) (hD : va_D A ws) (hS : va_S A H0 H locs) (hA : ∀ q, H0.size ≤ q → A q) (is : List Nat) (hC : is.map (fun i => ws[i]?) = wc.map some) (hw : w1.map Prod.fst = wc.map Prod.fst)
    (kk : ∀ (H1 : Heap) (locs1 : List Loc), va_P D cl (cx_up ws is w1) H1 → va_D A (cx_up ws is w1) → va_S A H0 H1 locs1 → W p l e R s m args below meth c H1 locs1 cells slots Q (F0 m (pc + 3) ls (rv.toList ++ rest))) : W p l e R s m args below meth c H locs cells slots Q (F0 m pc ls st0) := by
  have hF := va_free (wc := wc) hD hS hA is hC
  intro T hT X
  obtain ⟨v, st₀, t, T', L, h0, X', hL, e1, e2, ⟨⟨hv, hP1⟩, hz, hk⟩, st⟩ := hr T hT X
  cases hv
  rw [h0] at hz hk
  rw [← e1] at hP1
  obtain ⟨hP2, hD2⟩ := cx_back hP hD is hC hw (fun q h1 h2 => by rw [e1]; exact hk q h1 h2) hP1
  obtain ⟨t2, a1, b1⟩ := kk T'.heap (locs ++ L) hP2 hD2
    ⟨Nat.le_trans hS.1 (by rw [e1]; exact hz), fun q h1 h2 => by rw [e1, hk q (Nat.lt_of_lt_of_le h1 hS.1) (fun z => h2 (hF q z))]; exact hS.2.1 q h1 h2, fun q hq => by
      rcases List.mem_append.mp hq with h | h
      · exact hS.2.2 q h
      · exact hF _ (hL q h)⟩ T' rfl X'
  exact ⟨t2, st t2 a1, b1⟩
theorem cx_blind {av : List Value} {sz : Nat} : FrameBlind (va_Pc av (fun U => U.heap.size = sz ∧ va_P D cl wc U.heap ∧ va_K D cl tys U ∧ va_D (fun _ => True) wc ∧ cx_W U)) := fun a U g mk q => by
  obtain ⟨q0, q1, qP, qK, qD, qN⟩ := q
  exact ⟨q0, q1, qP, va_K.moved (u := U) (U := U.calling g mk a) (Vm.Alike.refl U.vm) qK, qD, cx_W.same (s := U) (U := U.calling g mk a) rfl qN⟩
theorem cx_D {is : List Nat} (hD : va_D A ws) (hn : va_nd is = true) (hC : is.map (fun i => ws[i]?) = wc.map some) : va_D (fun _ => True) wc := (hD.sub is hn hC).weaken (fun _ _ _ _ => trivial)
theorem cx_P {is : List Nat} (hP : va_P D cl ws H) (hC : is.map (fun i => ws[i]?) = wc.map some) : va_P D cl wc H := fun k q hq => by
  have h1 : (is.map (fun i => ws[i]?))[k]? = some (some q) := by rw [hC, List.getElem?_map, hq]; rfl
  rw [List.getElem?_map] at h1
  cases hi : is[k]? with
  | none => rw [hi] at h1; cases h1
  | some i => rw [hi] at h1; exact hP i q (Option.some.inj h1)
theorem cx_callV (S : CallFix p m c cc nL s args Ts own) (hM : cx_M l y wy rm D cl tys (.ref b :: As) wc w1 rv) (cw : CallW R s args own C index y bytes maxL ret wy rm 0 0 n) (hsize : ls.size = nL) (hP : va_P D cl ws H) (hD : va_D A ws) (hS : va_S A H0 H locs) (hA : ∀ q, H0.size ≤ q → A q) (hK : va_K D cl tys s) (hN : cx_W s)
    (is : List Nat) (q0 ci : Nat) {q : vw_C} {fs : List Value} (hc : cl[ci]? = some q) (he : ws[q0]? = some (b, .inr (ci, fs))) (hq : q.1 = C) (hC : is.map (fun i => ws[i]?) = wc.map some) (hnd : va_nd is = true) (hw : w1.map Prod.fst = wc.map Prod.fst) (hn : As.length = n) (hst : st0 = As.reverse ++ .ref b :: rest) (hW : (rest.map fun v => v.category).sum ≤ 8) (hdg : decode cc pc = .ok (.invokevirtual index, 3)) (hf : cells ≤ R.cells ∧ slots ≤ R.slots)
    (kk : ∀ (H1 : Heap) (locs1 : List Loc), va_P D cl (cx_up ws is w1) H1 → va_D A (cx_up ws is w1) → va_S A H0 H1 locs1 → W p l e R s m args below meth c H1 locs1 cells slots Q (F0 m (pc + 3) ls (rv.toList ++ rest))) : W p l e R s m args below meth c H locs cells slots Q (F0 m pc ls st0) := by
  subst hq
  refine cx_run (aa := (Value.ref b :: As).toArray) (wc := wc) (rest := rest) ?_ hP hD hS hA is hC hw kk
  exact va_runV (g := F0 m pc ls st0) S (hM H.size) cw ⟨cx_blind, va_recv hK hP hc he, fun U hU hW => ⟨rfl, by rw [hU], by rw [hU]; exact cx_P hP hC, va_K.moved hW.alike hK, cx_D hD hnd hC, cx_W.warm hW hN⟩⟩ rfl hn hsize hst (lv_room hW) hdg hf
theorem cx_callVN (S : CallFix p m c cc nL s args Ts own) (hM : cx_M l y wy rm D cl tys (.ref b :: As) wc w1 rv) (cw : va_CN R s args own index y host bytes maxL ret wy rm 0 0 n ∧ (Cond.instanceMethod y).before args s = true ∧ (Cond.selects C y y).before args s = true) (hsize : ls.size = nL) (hP : va_P D cl ws H) (hD : va_D A ws) (hS : va_S A H0 H locs) (hA : ∀ q, H0.size ≤ q → A q) (hK : va_K D cl tys s) (hN : cx_W s)
    (is : List Nat) (q0 ci : Nat) {q : vw_C} {fs : List Value} (hc : cl[ci]? = some q) (he : ws[q0]? = some (b, .inr (ci, fs))) (hq : q.1 = C) (hC : is.map (fun i => ws[i]?) = wc.map some) (hnd : va_nd is = true) (hw : w1.map Prod.fst = wc.map Prod.fst) (hn : As.length = n) (hst : st0 = As.reverse ++ .ref b :: rest) (hW : (rest.map fun v => v.category).sum ≤ 8) (hdg : decode cc pc = .ok (.invokevirtual index, 3)) (hf : cells ≤ R.cells ∧ slots ≤ R.slots)
    (kk : ∀ (H1 : Heap) (locs1 : List Loc), va_P D cl (cx_up ws is w1) H1 → va_D A (cx_up ws is w1) → va_S A H0 H1 locs1 → W p l e R s m args below meth c H1 locs1 cells slots Q (F0 m (pc + 3) ls (rv.toList ++ rest))) : W p l e R s m args below meth c H locs cells slots Q (F0 m pc ls st0) := by
  subst hq
  refine cx_run (aa := (Value.ref b :: As).toArray) (wc := wc) (rest := rest) ?_ hP hD hS hA is hC hw kk
  exact va_runVN (g := F0 m pc ls st0) S (hM H.size) cw ⟨cx_blind, va_recv hK hP hc he, fun U hU hW => ⟨rfl, by rw [hU], by rw [hU]; exact cx_P hP hC, va_K.moved hW.alike hK, cx_D hD hnd hC, cx_W.warm hW hN⟩⟩ rfl hn hsize hst (lv_room hW) hdg hf
theorem cx_callS (S : CallFix p m c cc nL s args Ts own) (hM : cx_M l y wy rm D cl tys As wc w1 rv) (cw : CallB R s args own index y bytes maxL ret wy rm 0 0 n ∧ (Cond.static y).before args s = true) (hsize : ls.size = nL) (hP : va_P D cl ws H) (hD : va_D A ws) (hS : va_S A H0 H locs) (hA : ∀ q, H0.size ≤ q → A q) (hK : va_K D cl tys s) (hN : cx_W s)
    (is : List Nat) (hC : is.map (fun i => ws[i]?) = wc.map some) (hnd : va_nd is = true) (hw : w1.map Prod.fst = wc.map Prod.fst) (hn : As.length = n) (hst : st0 = As.reverse ++ rest) (hW : (rest.map fun v => v.category).sum ≤ 8) (hdg : decode cc pc = .ok (.invokestatic index, 3)) (hf : cells ≤ R.cells ∧ slots ≤ R.slots)
    (kk : ∀ (H1 : Heap) (locs1 : List Loc), va_P D cl (cx_up ws is w1) H1 → va_D A (cx_up ws is w1) → va_S A H0 H1 locs1 → W p l e R s m args below meth c H1 locs1 cells slots Q (F0 m (pc + 3) ls (rv.toList ++ rest))) : W p l e R s m args below meth c H locs cells slots Q (F0 m pc ls st0) := by
  refine cx_run (aa := As.toArray) (wc := wc) (rest := rest) ?_ hP hD hS hA is hC hw kk
  exact va_runS (g := F0 m pc ls st0) S (hM H.size) cw ⟨cx_blind, fun U hU hW => ⟨rfl, by rw [hU], by rw [hU]; exact cx_P hP hC, va_K.moved hW.alike hK, cx_D hD hnd hC, cx_W.warm hW hN⟩⟩ rfl hn hsize hst (lv_room hW) hdg hf
theorem cx_callSN (S : CallFix p m c cc nL s args Ts own) (hM : cx_M l y wy rm D cl tys As wc w1 rv) (cw : va_CN R s args own index y host bytes maxL ret wy rm 0 0 n ∧ (Cond.static y).before args s = true ∧ True) (hsize : ls.size = nL) (hP : va_P D cl ws H) (hD : va_D A ws) (hS : va_S A H0 H locs) (hA : ∀ q, H0.size ≤ q → A q) (hK : va_K D cl tys s) (hN : cx_W s)
    (is : List Nat) (hC : is.map (fun i => ws[i]?) = wc.map some) (hnd : va_nd is = true) (hw : w1.map Prod.fst = wc.map Prod.fst) (hn : As.length = n) (hst : st0 = As.reverse ++ rest) (hW : (rest.map fun v => v.category).sum ≤ 8) (hdg : decode cc pc = .ok (.invokestatic index, 3)) (hf : cells ≤ R.cells ∧ slots ≤ R.slots)
    (kk : ∀ (H1 : Heap) (locs1 : List Loc), va_P D cl (cx_up ws is w1) H1 → va_D A (cx_up ws is w1) → va_S A H0 H1 locs1 → W p l e R s m args below meth c H1 locs1 cells slots Q (F0 m (pc + 3) ls (rv.toList ++ rest))) : W p l e R s m args below meth c H locs cells slots Q (F0 m pc ls st0) := by
  refine cx_run (aa := As.toArray) (wc := wc) (rest := rest) ?_ hP hD hS hA is hC hw kk
  exact va_runSN (g := F0 m pc ls st0) S (hM H.size) cw ⟨cx_blind, fun U hU hW => ⟨rfl, by rw [hU], by rw [hU]; exact cx_P hP hC, va_K.moved hW.alike hK, cx_D hD hnd hC, cx_W.warm hW hN⟩⟩ rfl hn hsize hst (lv_room hW) hdg hf
/-- a compare of two longs and the branch behind it -/
theorem cq_lt (hx : p.tables.exec = Jvm.exec) (hb : c.code = cc) {x y : Int64} {off : Int} {tgt : Nat} (h1 : decode cc pc = .ok (.lcmp, 1)) (h2 : decode cc (pc + 1) = .ok (.ifCond .lt off, 3)) (ht : ((pc + 1 : Nat) : Int) + off = (tgt : Int))
    (kt : x < y → W p l e R s m args below meth c H locs cells slots Q (F0 m tgt ls rest)) (kf : ¬ x < y → W p l e R s m args below meth c H locs cells slots Q (F0 m (pc + 1 + 3) ls rest)) : W p l e R s m args below meth c H locs cells slots Q (F0 m pc ls (.long y :: .long x :: rest)) :=
  W.lcmp hx hb h1 (lv_if_lt hx hb h2 ht (fun h => kt ((lg_cmp_lt x y).mp h)) (fun h => kf (fun z => h ((lg_cmp_lt x y).mpr z))))
theorem cq_ge (hx : p.tables.exec = Jvm.exec) (hb : c.code = cc) {x y : Int64} {off : Int} {tgt : Nat} (h1 : decode cc pc = .ok (.lcmp, 1)) (h2 : decode cc (pc + 1) = .ok (.ifCond .ge off, 3)) (ht : ((pc + 1 : Nat) : Int) + off = (tgt : Int))
    (kt : y ≤ x → W p l e R s m args below meth c H locs cells slots Q (F0 m tgt ls rest)) (kf : ¬ y ≤ x → W p l e R s m args below meth c H locs cells slots Q (F0 m (pc + 1 + 3) ls rest)) : W p l e R s m args below meth c H locs cells slots Q (F0 m pc ls (.long y :: .long x :: rest)) :=
  W.lcmp hx hb h1 (lv_if_ge hx hb h2 ht (fun h => kt ((lg_cmp_ge x y).mp h)) (fun h => kf (fun z => h ((lg_cmp_ge x y).mpr z))))
theorem cq_gt (hx : p.tables.exec = Jvm.exec) (hb : c.code = cc) {x y : Int64} {off : Int} {tgt : Nat} (h1 : decode cc pc = .ok (.lcmp, 1)) (h2 : decode cc (pc + 1) = .ok (.ifCond .gt off, 3)) (ht : ((pc + 1 : Nat) : Int) + off = (tgt : Int))
    (kt : y < x → W p l e R s m args below meth c H locs cells slots Q (F0 m tgt ls rest)) (kf : ¬ y < x → W p l e R s m args below meth c H locs cells slots Q (F0 m (pc + 1 + 3) ls rest)) : W p l e R s m args below meth c H locs cells slots Q (F0 m pc ls (.long y :: .long x :: rest)) :=
  W.lcmp hx hb h1 (lv_if_gt hx hb h2 ht (fun h => kt ((lg_cmp_gt x y).mp h)) (fun h => kf (fun z => h ((lg_cmp_gt x y).mpr z))))
theorem cq_le (hx : p.tables.exec = Jvm.exec) (hb : c.code = cc) {x y : Int64} {off : Int} {tgt : Nat} (h1 : decode cc pc = .ok (.lcmp, 1)) (h2 : decode cc (pc + 1) = .ok (.ifCond .le off, 3)) (ht : ((pc + 1 : Nat) : Int) + off = (tgt : Int))
    (kt : x ≤ y → W p l e R s m args below meth c H locs cells slots Q (F0 m tgt ls rest)) (kf : ¬ x ≤ y → W p l e R s m args below meth c H locs cells slots Q (F0 m (pc + 1 + 3) ls rest)) : W p l e R s m args below meth c H locs cells slots Q (F0 m pc ls (.long y :: .long x :: rest)) :=
  W.lcmp hx hb h1 (lv_if_le hx hb h2 ht (fun h => kt ((lg_cmp_le x y).mp h)) (fun h => kf (fun z => h ((lg_cmp_le x y).mpr z))))
theorem cq_eq (hx : p.tables.exec = Jvm.exec) (hb : c.code = cc) {x y : Int64} {off : Int} {tgt : Nat} (h1 : decode cc pc = .ok (.lcmp, 1)) (h2 : decode cc (pc + 1) = .ok (.ifCond .eq off, 3)) (ht : ((pc + 1 : Nat) : Int) + off = (tgt : Int))
    (kt : x = y → W p l e R s m args below meth c H locs cells slots Q (F0 m tgt ls rest)) (kf : ¬ x = y → W p l e R s m args below meth c H locs cells slots Q (F0 m (pc + 1 + 3) ls rest)) : W p l e R s m args below meth c H locs cells slots Q (F0 m pc ls (.long y :: .long x :: rest)) :=
  W.lcmp hx hb h1 (lv_if_eq hx hb h2 ht (fun h => kt ((lg_cmp_eq x y).mp h)) (fun h => kf (fun z => h ((lg_cmp_eq x y).mpr z))))
theorem cq_ne (hx : p.tables.exec = Jvm.exec) (hb : c.code = cc) {x y : Int64} {off : Int} {tgt : Nat} (h1 : decode cc pc = .ok (.lcmp, 1)) (h2 : decode cc (pc + 1) = .ok (.ifCond .ne off, 3)) (ht : ((pc + 1 : Nat) : Int) + off = (tgt : Int))
    (kt : ¬ x = y → W p l e R s m args below meth c H locs cells slots Q (F0 m tgt ls rest)) (kf : x = y → W p l e R s m args below meth c H locs cells slots Q (F0 m (pc + 1 + 3) ls rest)) : W p l e R s m args below meth c H locs cells slots Q (F0 m pc ls (.long y :: .long x :: rest)) :=
  W.lcmp hx hb h1 (lv_if_ne hx hb h2 ht (fun h => kt (fun z => h ((lg_cmp_eq x y).mpr z))) (fun h => kf ((lg_cmp_eq x y).mp h)))
end CXC
end
section
/-- the words that every method of the system is given: the good ones of the table -/
def ww : List Cond := lw_tbl.filter goodWord
theorem ww_mem {w : Cond} (h : w ∈ lw_tbl) (g : goodWord w = true) : w ∈ ww := List.mem_filter.mpr ⟨h, g⟩
theorem ww_hts {args : Array Value} {s : State} (h : ∀ w ∈ lw_tbl, w.before args s = true) : ∀ w ∈ ww, w.before args s = true := fun w hw => h w (List.mem_filter.mp hw).1
theorem gi_W {cd : Cond} {ws : List Cond} (h : ∀ w ∈ ws, w ∈ ww) : GoodIn (cd :: ww) ws := fun w hw => ⟨List.mem_cons_of_mem _ (h w hw), good_of_word (List.mem_filter.mp (h w hw)).2⟩
theorem gi_C {cd c2 : Cond} (h : c2 ∈ ww) : GoodIn (cd :: ww) (c2 :: ww) := gi_W (fun w hw => (List.mem_cons.mp hw).elim (fun e => e ▸ h) id)
theorem gi_V {cd c2 : Cond} {own C : String} {i : Nat} {y : MethodName} (h1 : Cond.methodLink own i y ∈ ww) (h2 : Cond.instanceMethod y ∈ ww) (h3 : Cond.selects C y y ∈ ww) (h4 : Cond.initialized C ∈ ww) (h : c2 ∈ ww) : GoodIn (cd :: ww) (wsV own i C y (c2 :: ww)) := gi_W (fun w hw => by
  simp only [wsV, List.cons_append, List.nil_append, List.mem_cons] at hw
  rcases hw with rfl | rfl | rfl | rfl | rfl | hw
  · exact h1
  · exact h2
  · exact h3
  · exact h4
  · exact h
  · exact hw)
theorem gi_S {cd c2 : Cond} {own : String} {i : Nat} {y : MethodName} (h1 : Cond.methodLink own i y ∈ ww) (h2 : Cond.static y ∈ ww) (h4 : Cond.initialized y.cls ∈ ww) (h : c2 ∈ ww) : GoodIn (cd :: ww) (va_wsS own i y (c2 :: ww)) := gi_W (fun w hw => by
  simp only [va_wsS, List.cons_append, List.nil_append, List.mem_cons] at hw
  rcases hw with rfl | rfl | rfl | rfl | hw
  · exact h1
  · exact h2
  · exact h4
  · exact h
  · exact hw)
theorem cx_ne {x v : Int32} {n : Int} (hv : v.toInt = n) (h : ¬ x = v) : ¬ x.toInt = n := fun z => h (Int32.toInt_inj.mp (z.trans hv.symm))
theorem cx_nz {x : Int32} (h : ¬ ¬ (x = 0 ∨ x = 1)) : narrow .boolean (.int x) = .int x := by
  rcases Classical.not_not.mp h with rfl | rfl <;> rfl
def R_SR : String := "SpanRules"
def R_LA : String := "SpanRules$Layout"
def R_FB : String := "SpanRules$Forbidden"
def R_RS : String := "SpanRules$RowStore"
def R_SS : String := "SpanRules$SpanStore"
def R_NU : String := "SpanRules$Numbering"
def R_FS : String := "SpanRules$FiringStore"
def R_CO : String := "SpanRules$Contents"
def R_MO : String := "SpanRulesModel"
def R_CA : String := "SpanRules$Calendar"
def R_MA : String := "java/lang/Math"
def R_LW : String := "SpanRulesLaw"
def F_SR : u_T := fun k => match k with
  | 0 => ("SpanRules", "layout", "LSpanRules$Layout;", true)
  | 1 => ("SpanRules", "forbidden", "LSpanRules$Forbidden;", true)
  | 2 => ("SpanRules", "rows", "LSpanRules$RowStore;", true)
  | 3 => ("SpanRules", "open", "LSpanRules$SpanStore;", true)
  | 4 => ("SpanRules", "numbering", "LSpanRules$Numbering;", true)
  | 5 => ("SpanRules", "firings", "LSpanRules$FiringStore;", true)
  | 6 => ("SpanRules", "contents", "LSpanRules$Contents;", true)
  | 7 => ("SpanRules", "lateBy", "J", false)
  | 8 => ("SpanRules", "theMark", "J", false)
  | 9 => ("SpanRules", "every", "I", false)
  | 10 => ("SpanRules", "latelyOn", "Z", false)
  | 11 => ("SpanRules", "clearsOn", "Z", false)
  | 12 => ("SpanRules", "came", "I", false)
  | _ => ("SpanRules", "dropped", "I", false)
def t_SR : Nat → FieldType := fun k => match k with
  | 0 => .object "SpanRules$Layout"
  | 1 => .object "SpanRules$Forbidden"
  | 2 => .object "SpanRules$RowStore"
  | 3 => .object "SpanRules$SpanStore"
  | 4 => .object "SpanRules$Numbering"
  | 5 => .object "SpanRules$FiringStore"
  | 6 => .object "SpanRules$Contents"
  | 7 => .long
  | 8 => .long
  | 9 => .int
  | 10 => .boolean
  | 11 => .boolean
  | 12 => .int
  | _ => .int
theorem n_SR : ∀ a, a < 14 → ∀ b, b < 14 → a ≠ b → (F_SR a).2.1 ≠ (F_SR b).2.1 := by decide +kernel
theorem t_SR_ok : ∀ k, k < 14 → parseFieldDescriptor (F_SR k).2.2.1 = some (t_SR k) := by decide +kernel
def F_LA : u_T := fun k => match k with
  | 0 => ("SpanRules$Layout", "kind", "I", true)
  | 1 => ("SpanRules$Layout", "size", "J", true)
  | 2 => ("SpanRules$Layout", "step", "J", true)
  | 3 => ("SpanRules$Layout", "begins", "[J", true)
  | 4 => ("SpanRules$Layout", "ends", "[J", true)
  | 5 => ("SpanRules$Layout", "shift", "J", false)
  | 6 => ("SpanRules$Layout", "ownRule", "I", false)
  | _ => ("SpanRules$Layout", "found", "I", false)
def t_LA : Nat → FieldType := fun k => match k with
  | 0 => .int
  | 1 => .long
  | 2 => .long
  | 3 => .array .long
  | 4 => .array .long
  | 5 => .long
  | 6 => .int
  | _ => .int
theorem n_LA : ∀ a, a < 8 → ∀ b, b < 8 → a ≠ b → (F_LA a).2.1 ≠ (F_LA b).2.1 := by decide +kernel
theorem t_LA_ok : ∀ k, k < 8 → parseFieldDescriptor (F_LA k).2.2.1 = some (t_LA k) := by decide +kernel
def F_FB : u_T := fun k => match k with
  | 0 => ("SpanRules$Forbidden", "values", "[J", true)
  | _ => ("SpanRules$Forbidden", "known", "[I", true)
def t_FB : Nat → FieldType := fun k => match k with
  | 0 => .array .long
  | _ => .array .int
theorem n_FB : ∀ a, a < 2 → ∀ b, b < 2 → a ≠ b → (F_FB a).2.1 ≠ (F_FB b).2.1 := by decide +kernel
theorem t_FB_ok : ∀ k, k < 2 → parseFieldDescriptor (F_FB k).2.2.1 = some (t_FB k) := by decide +kernel
def F_RS : u_T := fun k => match k with
  | 0 => ("SpanRules$RowStore", "keys", "[I", true)
  | 1 => ("SpanRules$RowStore", "times", "[J", true)
  | 2 => ("SpanRules$RowStore", "values", "[J", true)
  | 3 => ("SpanRules$RowStore", "numbers", "[I", true)
  | 4 => ("SpanRules$RowStore", "leaves", "[Z", true)
  | 5 => ("SpanRules$RowStore", "order", "[I", true)
  | _ => ("SpanRules$RowStore", "kept", "I", false)
def t_RS : Nat → FieldType := fun k => match k with
  | 0 => .array .int
  | 1 => .array .long
  | 2 => .array .long
  | 3 => .array .int
  | 4 => .array .boolean
  | 5 => .array .int
  | _ => .int
theorem n_RS : ∀ a, a < 7 → ∀ b, b < 7 → a ≠ b → (F_RS a).2.1 ≠ (F_RS b).2.1 := by decide +kernel
theorem t_RS_ok : ∀ k, k < 7 → parseFieldDescriptor (F_RS k).2.2.1 = some (t_RS k) := by decide +kernel
def F_SS : u_T := fun k => match k with
  | 0 => ("SpanRules$SpanStore", "keys", "[I", true)
  | 1 => ("SpanRules$SpanStore", "begins", "[J", true)
  | 2 => ("SpanRules$SpanStore", "ends", "[J", true)
  | 3 => ("SpanRules$SpanStore", "fires", "[I", true)
  | 4 => ("SpanRules$SpanStore", "since", "[I", true)
  | 5 => ("SpanRules$SpanStore", "ended", "[Z", true)
  | 6 => ("SpanRules$SpanStore", "had", "[J", true)
  | 7 => ("SpanRules$SpanStore", "untold", "[J", true)
  | 8 => ("SpanRules$SpanStore", "united", "[J", true)
  | 9 => ("SpanRules$SpanStore", "due", "[I", true)
  | 10 => ("SpanRules$SpanStore", "order", "[I", true)
  | _ => ("SpanRules$SpanStore", "kept", "I", false)
def t_SS : Nat → FieldType := fun k => match k with
  | 0 => .array .int
  | 1 => .array .long
  | 2 => .array .long
  | 3 => .array .int
  | 4 => .array .int
  | 5 => .array .boolean
  | 6 => .array .long
  | 7 => .array .long
  | 8 => .array .long
  | 9 => .array .int
  | 10 => .array .int
  | _ => .int
theorem n_SS : ∀ a, a < 12 → ∀ b, b < 12 → a ≠ b → (F_SS a).2.1 ≠ (F_SS b).2.1 := by decide +kernel
theorem t_SS_ok : ∀ k, k < 12 → parseFieldDescriptor (F_SS k).2.2.1 = some (t_SS k) := by decide +kernel
def F_NU : u_T := fun k => match k with
  | 0 => ("SpanRules$Numbering", "numbered", "[I", true)
  | _ => ("SpanRules$Numbering", "begins", "[J", true)
def t_NU : Nat → FieldType := fun k => match k with
  | 0 => .array .int
  | _ => .array .long
theorem n_NU : ∀ a, a < 2 → ∀ b, b < 2 → a ≠ b → (F_NU a).2.1 ≠ (F_NU b).2.1 := by decide +kernel
theorem t_NU_ok : ∀ k, k < 2 → parseFieldDescriptor (F_NU k).2.2.1 = some (t_NU k) := by decide +kernel
def F_FS : u_T := fun k => match k with
  | 0 => ("SpanRules$FiringStore", "cells", "[J", true)
  | 1 => ("SpanRules$FiringStore", "total", "I", false)
  | 2 => ("SpanRules$FiringStore", "early", "I", false)
  | _ => ("SpanRules$FiringStore", "lately", "I", false)
def t_FS : Nat → FieldType := fun k => match k with
  | 0 => .array .long
  | 1 => .int
  | 2 => .int
  | _ => .int
theorem n_FS : ∀ a, a < 4 → ∀ b, b < 4 → a ≠ b → (F_FS a).2.1 ≠ (F_FS b).2.1 := by decide +kernel
theorem t_FS_ok : ∀ k, k < 4 → parseFieldDescriptor (F_FS k).2.2.1 = some (t_FS k) := by decide +kernel
def F_CO : u_T := fun k => match k with
  | 0 => ("SpanRules$Contents", "rows", "I", false)
  | 1 => ("SpanRules$Contents", "sum", "J", false)
  | 2 => ("SpanRules$Contents", "least", "J", false)
  | 3 => ("SpanRules$Contents", "greatest", "J", false)
  | _ => ("SpanRules$Contents", "mix", "J", false)
def t_CO : Nat → FieldType := fun k => match k with
  | 0 => .int
  | 1 => .long
  | 2 => .long
  | 3 => .long
  | _ => .long
theorem n_CO : ∀ a, a < 5 → ∀ b, b < 5 → a ≠ b → (F_CO a).2.1 ≠ (F_CO b).2.1 := by decide +kernel
theorem t_CO_ok : ∀ k, k < 5 → parseFieldDescriptor (F_CO k).2.2.1 = some (t_CO k) := by decide +kernel
def F_MO : u_T := fun k => match k with
  | 0 => ("SpanRulesModel", "kind", "I", false)
  | 1 => ("SpanRulesModel", "size", "I", false)
  | 2 => ("SpanRulesModel", "step", "I", false)
  | 3 => ("SpanRulesModel", "offset", "J", false)
  | 4 => ("SpanRulesModel", "lateness", "J", false)
  | 5 => ("SpanRulesModel", "every", "I", false)
  | 6 => ("SpanRulesModel", "fires", "Z", false)
  | 7 => ("SpanRulesModel", "clears", "Z", false)
  | 8 => ("SpanRulesModel", "rule", "I", false)
  | 9 => ("SpanRulesModel", "forbidden", "[I", false)
  | 10 => ("SpanRulesModel", "bad", "[J", false)
  | 11 => ("SpanRulesModel", "now", "J", false)
  | 12 => ("SpanRulesModel", "thrown", "I", false)
  | 13 => ("SpanRulesModel", "rKey", "[I", false)
  | 14 => ("SpanRulesModel", "rTime", "[J", false)
  | 15 => ("SpanRulesModel", "rValue", "[J", false)
  | 16 => ("SpanRulesModel", "rCame", "[I", false)
  | 17 => ("SpanRulesModel", "rNumber", "[I", false)
  | 18 => ("SpanRulesModel", "rows", "I", false)
  | 19 => ("SpanRulesModel", "came", "I", false)
  | 20 => ("SpanRulesModel", "late", "I", false)
  | 21 => ("SpanRulesModel", "sKey", "[I", false)
  | 22 => ("SpanRulesModel", "sBegin", "[J", false)
  | 23 => ("SpanRulesModel", "sEnd", "[J", false)
  | 24 => ("SpanRulesModel", "sFired", "[I", false)
  | 25 => ("SpanRulesModel", "sPut", "[I", false)
  | 26 => ("SpanRulesModel", "sEnded", "[Z", false)
  | 27 => ("SpanRulesModel", "has", "[Z", false)
  | 28 => ("SpanRulesModel", "toldOf", "[Z", false)
  | 29 => ("SpanRulesModel", "spans", "I", false)
  | 30 => ("SpanRulesModel", "numbered", "[I", false)
  | 31 => ("SpanRulesModel", "nextSpan", "[I", false)
  | 32 => ("SpanRulesModel", "told", "[J", false)
  | 33 => ("SpanRulesModel", "kept", "I", false)
  | 34 => ("SpanRulesModel", "firings", "I", false)
  | 35 => ("SpanRulesModel", "early", "I", false)
  | 36 => ("SpanRulesModel", "lately", "I", false)
  | 37 => ("SpanRulesModel", "wanted", "I", false)
  | 38 => ("SpanRulesModel", "wBegin", "[J", false)
  | 39 => ("SpanRulesModel", "wEnd", "[J", false)
  | 40 => ("SpanRulesModel", "got", "[J", false)
  | _ => ("SpanRulesModel", "isIn", "[Z", false)
def t_MO : Nat → FieldType := fun k => match k with
  | 0 => .int
  | 1 => .int
  | 2 => .int
  | 3 => .long
  | 4 => .long
  | 5 => .int
  | 6 => .boolean
  | 7 => .boolean
  | 8 => .int
  | 9 => .array .int
  | 10 => .array .long
  | 11 => .long
  | 12 => .int
  | 13 => .array .int
  | 14 => .array .long
  | 15 => .array .long
  | 16 => .array .int
  | 17 => .array .int
  | 18 => .int
  | 19 => .int
  | 20 => .int
  | 21 => .array .int
  | 22 => .array .long
  | 23 => .array .long
  | 24 => .array .int
  | 25 => .array .int
  | 26 => .array .boolean
  | 27 => .array .boolean
  | 28 => .array .boolean
  | 29 => .int
  | 30 => .array .int
  | 31 => .array .int
  | 32 => .array .long
  | 33 => .int
  | 34 => .int
  | 35 => .int
  | 36 => .int
  | 37 => .int
  | 38 => .array .long
  | 39 => .array .long
  | 40 => .array .long
  | _ => .array .boolean
theorem n_MO : ∀ a, a < 42 → ∀ b, b < 42 → a ≠ b → (F_MO a).2.1 ≠ (F_MO b).2.1 := by decide +kernel
theorem t_MO_ok : ∀ k, k < 42 → parseFieldDescriptor (F_MO k).2.2.1 = some (t_MO k) := by decide +kernel
abbrev classes : List vw_C := [(R_SR, F_SR, 14), (R_LA, F_LA, 8), (R_FB, F_FB, 2), (R_RS, F_RS, 7), (R_SS, F_SS, 12), (R_NU, F_NU, 2), (R_FS, F_FS, 4), (R_CO, F_CO, 5), (R_MO, F_MO, 42)]
abbrev tyS (tC : Nat → ClassId) : List (ClassId × FieldType) := [(tC 0, .int), (tC 1, .long), (tC 2, .boolean)]
abbrev SRt : Type := Int64 × Int64 × Int32 × Int32 × Int32 × Int32 × Int32
abbrev SR_lateBy (x : SRt) : Int64 := x.1
abbrev SR_theMark (x : SRt) : Int64 := x.2.1
abbrev SR_every (x : SRt) : Int32 := x.2.2.1
abbrev SR_latelyOn (x : SRt) : Int32 := x.2.2.2.1
abbrev SR_clearsOn (x : SRt) : Int32 := x.2.2.2.2.1
abbrev SR_came (x : SRt) : Int32 := x.2.2.2.2.2.1
abbrev SR_dropped (x : SRt) : Int32 := x.2.2.2.2.2.2
abbrev sSR_lateBy (x : SRt) (v : Int64) : SRt := (v, x.2.1, x.2.2.1, x.2.2.2.1, x.2.2.2.2.1, x.2.2.2.2.2.1, x.2.2.2.2.2.2)
abbrev sSR_theMark (x : SRt) (v : Int64) : SRt := (x.1, v, x.2.2.1, x.2.2.2.1, x.2.2.2.2.1, x.2.2.2.2.2.1, x.2.2.2.2.2.2)
abbrev sSR_every (x : SRt) (v : Int32) : SRt := (x.1, x.2.1, v, x.2.2.2.1, x.2.2.2.2.1, x.2.2.2.2.2.1, x.2.2.2.2.2.2)
abbrev sSR_latelyOn (x : SRt) (v : Int32) : SRt := (x.1, x.2.1, x.2.2.1, v, x.2.2.2.2.1, x.2.2.2.2.2.1, x.2.2.2.2.2.2)
abbrev sSR_clearsOn (x : SRt) (v : Int32) : SRt := (x.1, x.2.1, x.2.2.1, x.2.2.2.1, v, x.2.2.2.2.2.1, x.2.2.2.2.2.2)
abbrev sSR_came (x : SRt) (v : Int32) : SRt := (x.1, x.2.1, x.2.2.1, x.2.2.2.1, x.2.2.2.2.1, v, x.2.2.2.2.2.2)
abbrev sSR_dropped (x : SRt) (v : Int32) : SRt := (x.1, x.2.1, x.2.2.1, x.2.2.2.1, x.2.2.2.2.1, x.2.2.2.2.2.1, v)
abbrev wSR (tC : Nat → ClassId) (ad : Nat → Nat → Nat) (x : SRt) : va_W := [(ad 0 0, .inr (0, [.ref (ad 1 0), .ref (ad 2 0), .ref (ad 3 0), .ref (ad 4 0), .ref (ad 5 0), .ref (ad 6 0), .ref (ad 7 0), .long (SR_lateBy x), .long (SR_theMark x), .int (SR_every x), .int (SR_latelyOn x), .int (SR_clearsOn x), .int (SR_came x), .int (SR_dropped x)]))]
abbrev LAt : Type := Int32 × Int64 × Int64 × (Nat → Int64) × (Nat → Int64) × Int64 × Int32 × Int32
abbrev LA_kind (x : LAt) : Int32 := x.1
abbrev LA_size (x : LAt) : Int64 := x.2.1
abbrev LA_step (x : LAt) : Int64 := x.2.2.1
abbrev LA_begins (x : LAt) : (Nat → Int64) := x.2.2.2.1
abbrev LA_ends (x : LAt) : (Nat → Int64) := x.2.2.2.2.1
abbrev LA_shift (x : LAt) : Int64 := x.2.2.2.2.2.1
abbrev LA_ownRule (x : LAt) : Int32 := x.2.2.2.2.2.2.1
abbrev LA_found (x : LAt) : Int32 := x.2.2.2.2.2.2.2
abbrev sLA_kind (x : LAt) (v : Int32) : LAt := (v, x.2.1, x.2.2.1, x.2.2.2.1, x.2.2.2.2.1, x.2.2.2.2.2.1, x.2.2.2.2.2.2.1, x.2.2.2.2.2.2.2)
abbrev sLA_size (x : LAt) (v : Int64) : LAt := (x.1, v, x.2.2.1, x.2.2.2.1, x.2.2.2.2.1, x.2.2.2.2.2.1, x.2.2.2.2.2.2.1, x.2.2.2.2.2.2.2)
abbrev sLA_step (x : LAt) (v : Int64) : LAt := (x.1, x.2.1, v, x.2.2.2.1, x.2.2.2.2.1, x.2.2.2.2.2.1, x.2.2.2.2.2.2.1, x.2.2.2.2.2.2.2)
abbrev sLA_begins (x : LAt) (v : (Nat → Int64)) : LAt := (x.1, x.2.1, x.2.2.1, v, x.2.2.2.2.1, x.2.2.2.2.2.1, x.2.2.2.2.2.2.1, x.2.2.2.2.2.2.2)
abbrev sLA_ends (x : LAt) (v : (Nat → Int64)) : LAt := (x.1, x.2.1, x.2.2.1, x.2.2.2.1, v, x.2.2.2.2.2.1, x.2.2.2.2.2.2.1, x.2.2.2.2.2.2.2)
abbrev sLA_shift (x : LAt) (v : Int64) : LAt := (x.1, x.2.1, x.2.2.1, x.2.2.2.1, x.2.2.2.2.1, v, x.2.2.2.2.2.2.1, x.2.2.2.2.2.2.2)
abbrev sLA_ownRule (x : LAt) (v : Int32) : LAt := (x.1, x.2.1, x.2.2.1, x.2.2.2.1, x.2.2.2.2.1, x.2.2.2.2.2.1, v, x.2.2.2.2.2.2.2)
abbrev sLA_found (x : LAt) (v : Int32) : LAt := (x.1, x.2.1, x.2.2.1, x.2.2.2.1, x.2.2.2.2.1, x.2.2.2.2.2.1, x.2.2.2.2.2.2.1, v)
abbrev wLA (tC : Nat → ClassId) (a : Nat → Nat) (x : LAt) : va_W := [(a 0, .inr (1, [.int (LA_kind x), .long (LA_size x), .long (LA_step x), .ref (a 1), .ref (a 2), .long (LA_shift x), .int (LA_ownRule x), .int (LA_found x)])), (a 1, .inl (tC 1, 16, .inr (.inl (LA_begins x)))), (a 2, .inl (tC 1, 16, .inr (.inl (LA_ends x))))]
abbrev FBt : Type := (Nat → Int64) × (Nat → Int32)
abbrev FB_values (x : FBt) : (Nat → Int64) := x.1
abbrev FB_known (x : FBt) : (Nat → Int32) := x.2
abbrev sFB_values (x : FBt) (v : (Nat → Int64)) : FBt := (v, x.2)
abbrev sFB_known (x : FBt) (v : (Nat → Int32)) : FBt := (x.1, v)
abbrev wFB (tC : Nat → ClassId) (a : Nat → Nat) (x : FBt) : va_W := [(a 0, .inr (2, [.ref (a 1), .ref (a 2)])), (a 1, .inl (tC 1, 24, .inr (.inl (FB_values x)))), (a 2, .inl (tC 0, 3, .inl (FB_known x)))]
abbrev RSt : Type := (Nat → Int32) × (Nat → Int64) × (Nat → Int64) × (Nat → Int32) × (Nat → Int32) × (Nat → Int32) × Int32
abbrev RS_keys (x : RSt) : (Nat → Int32) := x.1
abbrev RS_times (x : RSt) : (Nat → Int64) := x.2.1
abbrev RS_values (x : RSt) : (Nat → Int64) := x.2.2.1
abbrev RS_numbers (x : RSt) : (Nat → Int32) := x.2.2.2.1
abbrev RS_leaves (x : RSt) : (Nat → Int32) := x.2.2.2.2.1
abbrev RS_order (x : RSt) : (Nat → Int32) := x.2.2.2.2.2.1
abbrev RS_kept (x : RSt) : Int32 := x.2.2.2.2.2.2
abbrev sRS_keys (x : RSt) (v : (Nat → Int32)) : RSt := (v, x.2.1, x.2.2.1, x.2.2.2.1, x.2.2.2.2.1, x.2.2.2.2.2.1, x.2.2.2.2.2.2)
abbrev sRS_times (x : RSt) (v : (Nat → Int64)) : RSt := (x.1, v, x.2.2.1, x.2.2.2.1, x.2.2.2.2.1, x.2.2.2.2.2.1, x.2.2.2.2.2.2)
abbrev sRS_values (x : RSt) (v : (Nat → Int64)) : RSt := (x.1, x.2.1, v, x.2.2.2.1, x.2.2.2.2.1, x.2.2.2.2.2.1, x.2.2.2.2.2.2)
abbrev sRS_numbers (x : RSt) (v : (Nat → Int32)) : RSt := (x.1, x.2.1, x.2.2.1, v, x.2.2.2.2.1, x.2.2.2.2.2.1, x.2.2.2.2.2.2)
abbrev sRS_leaves (x : RSt) (v : (Nat → Int32)) : RSt := (x.1, x.2.1, x.2.2.1, x.2.2.2.1, v, x.2.2.2.2.2.1, x.2.2.2.2.2.2)
abbrev sRS_order (x : RSt) (v : (Nat → Int32)) : RSt := (x.1, x.2.1, x.2.2.1, x.2.2.2.1, x.2.2.2.2.1, v, x.2.2.2.2.2.2)
abbrev sRS_kept (x : RSt) (v : Int32) : RSt := (x.1, x.2.1, x.2.2.1, x.2.2.2.1, x.2.2.2.2.1, x.2.2.2.2.2.1, v)
abbrev wRS (tC : Nat → ClassId) (a : Nat → Nat) (x : RSt) : va_W := [(a 0, .inr (3, [.ref (a 1), .ref (a 2), .ref (a 3), .ref (a 4), .ref (a 5), .ref (a 6), .int (RS_kept x)])), (a 1, .inl (tC 0, 300, .inl (RS_keys x))), (a 2, .inl (tC 1, 300, .inr (.inl (RS_times x)))), (a 3, .inl (tC 1, 300, .inr (.inl (RS_values x)))), (a 4, .inl (tC 0, 300, .inl (RS_numbers x))), (a 5, .inl (tC 2, 300, .inl (RS_leaves x))), (a 6, .inl (tC 0, 300, .inl (RS_order x)))]
abbrev SSt : Type := (Nat → Int32) × (Nat → Int64) × (Nat → Int64) × (Nat → Int32) × (Nat → Int32) × (Nat → Int32) × (Nat → Int64) × (Nat → Int64) × (Nat → Int64) × (Nat → Int32) × (Nat → Int32) × Int32
abbrev SS_keys (x : SSt) : (Nat → Int32) := x.1
abbrev SS_begins (x : SSt) : (Nat → Int64) := x.2.1
abbrev SS_ends (x : SSt) : (Nat → Int64) := x.2.2.1
abbrev SS_fires (x : SSt) : (Nat → Int32) := x.2.2.2.1
abbrev SS_since (x : SSt) : (Nat → Int32) := x.2.2.2.2.1
abbrev SS_ended (x : SSt) : (Nat → Int32) := x.2.2.2.2.2.1
abbrev SS_had (x : SSt) : (Nat → Int64) := x.2.2.2.2.2.2.1
abbrev SS_untold (x : SSt) : (Nat → Int64) := x.2.2.2.2.2.2.2.1
abbrev SS_united (x : SSt) : (Nat → Int64) := x.2.2.2.2.2.2.2.2.1
abbrev SS_due (x : SSt) : (Nat → Int32) := x.2.2.2.2.2.2.2.2.2.1
abbrev SS_order (x : SSt) : (Nat → Int32) := x.2.2.2.2.2.2.2.2.2.2.1
abbrev SS_kept (x : SSt) : Int32 := x.2.2.2.2.2.2.2.2.2.2.2
abbrev sSS_keys (x : SSt) (v : (Nat → Int32)) : SSt := (v, x.2.1, x.2.2.1, x.2.2.2.1, x.2.2.2.2.1, x.2.2.2.2.2.1, x.2.2.2.2.2.2.1, x.2.2.2.2.2.2.2.1, x.2.2.2.2.2.2.2.2.1, x.2.2.2.2.2.2.2.2.2.1, x.2.2.2.2.2.2.2.2.2.2.1, x.2.2.2.2.2.2.2.2.2.2.2)
abbrev sSS_begins (x : SSt) (v : (Nat → Int64)) : SSt := (x.1, v, x.2.2.1, x.2.2.2.1, x.2.2.2.2.1, x.2.2.2.2.2.1, x.2.2.2.2.2.2.1, x.2.2.2.2.2.2.2.1, x.2.2.2.2.2.2.2.2.1, x.2.2.2.2.2.2.2.2.2.1, x.2.2.2.2.2.2.2.2.2.2.1, x.2.2.2.2.2.2.2.2.2.2.2)
abbrev sSS_ends (x : SSt) (v : (Nat → Int64)) : SSt := (x.1, x.2.1, v, x.2.2.2.1, x.2.2.2.2.1, x.2.2.2.2.2.1, x.2.2.2.2.2.2.1, x.2.2.2.2.2.2.2.1, x.2.2.2.2.2.2.2.2.1, x.2.2.2.2.2.2.2.2.2.1, x.2.2.2.2.2.2.2.2.2.2.1, x.2.2.2.2.2.2.2.2.2.2.2)
abbrev sSS_fires (x : SSt) (v : (Nat → Int32)) : SSt := (x.1, x.2.1, x.2.2.1, v, x.2.2.2.2.1, x.2.2.2.2.2.1, x.2.2.2.2.2.2.1, x.2.2.2.2.2.2.2.1, x.2.2.2.2.2.2.2.2.1, x.2.2.2.2.2.2.2.2.2.1, x.2.2.2.2.2.2.2.2.2.2.1, x.2.2.2.2.2.2.2.2.2.2.2)
abbrev sSS_since (x : SSt) (v : (Nat → Int32)) : SSt := (x.1, x.2.1, x.2.2.1, x.2.2.2.1, v, x.2.2.2.2.2.1, x.2.2.2.2.2.2.1, x.2.2.2.2.2.2.2.1, x.2.2.2.2.2.2.2.2.1, x.2.2.2.2.2.2.2.2.2.1, x.2.2.2.2.2.2.2.2.2.2.1, x.2.2.2.2.2.2.2.2.2.2.2)
abbrev sSS_ended (x : SSt) (v : (Nat → Int32)) : SSt := (x.1, x.2.1, x.2.2.1, x.2.2.2.1, x.2.2.2.2.1, v, x.2.2.2.2.2.2.1, x.2.2.2.2.2.2.2.1, x.2.2.2.2.2.2.2.2.1, x.2.2.2.2.2.2.2.2.2.1, x.2.2.2.2.2.2.2.2.2.2.1, x.2.2.2.2.2.2.2.2.2.2.2)
abbrev sSS_had (x : SSt) (v : (Nat → Int64)) : SSt := (x.1, x.2.1, x.2.2.1, x.2.2.2.1, x.2.2.2.2.1, x.2.2.2.2.2.1, v, x.2.2.2.2.2.2.2.1, x.2.2.2.2.2.2.2.2.1, x.2.2.2.2.2.2.2.2.2.1, x.2.2.2.2.2.2.2.2.2.2.1, x.2.2.2.2.2.2.2.2.2.2.2)
abbrev sSS_untold (x : SSt) (v : (Nat → Int64)) : SSt := (x.1, x.2.1, x.2.2.1, x.2.2.2.1, x.2.2.2.2.1, x.2.2.2.2.2.1, x.2.2.2.2.2.2.1, v, x.2.2.2.2.2.2.2.2.1, x.2.2.2.2.2.2.2.2.2.1, x.2.2.2.2.2.2.2.2.2.2.1, x.2.2.2.2.2.2.2.2.2.2.2)
abbrev sSS_united (x : SSt) (v : (Nat → Int64)) : SSt := (x.1, x.2.1, x.2.2.1, x.2.2.2.1, x.2.2.2.2.1, x.2.2.2.2.2.1, x.2.2.2.2.2.2.1, x.2.2.2.2.2.2.2.1, v, x.2.2.2.2.2.2.2.2.2.1, x.2.2.2.2.2.2.2.2.2.2.1, x.2.2.2.2.2.2.2.2.2.2.2)
abbrev sSS_due (x : SSt) (v : (Nat → Int32)) : SSt := (x.1, x.2.1, x.2.2.1, x.2.2.2.1, x.2.2.2.2.1, x.2.2.2.2.2.1, x.2.2.2.2.2.2.1, x.2.2.2.2.2.2.2.1, x.2.2.2.2.2.2.2.2.1, v, x.2.2.2.2.2.2.2.2.2.2.1, x.2.2.2.2.2.2.2.2.2.2.2)
abbrev sSS_order (x : SSt) (v : (Nat → Int32)) : SSt := (x.1, x.2.1, x.2.2.1, x.2.2.2.1, x.2.2.2.2.1, x.2.2.2.2.2.1, x.2.2.2.2.2.2.1, x.2.2.2.2.2.2.2.1, x.2.2.2.2.2.2.2.2.1, x.2.2.2.2.2.2.2.2.2.1, v, x.2.2.2.2.2.2.2.2.2.2.2)
abbrev sSS_kept (x : SSt) (v : Int32) : SSt := (x.1, x.2.1, x.2.2.1, x.2.2.2.1, x.2.2.2.2.1, x.2.2.2.2.2.1, x.2.2.2.2.2.2.1, x.2.2.2.2.2.2.2.1, x.2.2.2.2.2.2.2.2.1, x.2.2.2.2.2.2.2.2.2.1, x.2.2.2.2.2.2.2.2.2.2.1, v)
abbrev wSS (tC : Nat → ClassId) (a : Nat → Nat) (x : SSt) : va_W := [(a 0, .inr (4, [.ref (a 1), .ref (a 2), .ref (a 3), .ref (a 4), .ref (a 5), .ref (a 6), .ref (a 7), .ref (a 8), .ref (a 9), .ref (a 10), .ref (a 11), .int (SS_kept x)])), (a 1, .inl (tC 0, 200, .inl (SS_keys x))), (a 2, .inl (tC 1, 200, .inr (.inl (SS_begins x)))), (a 3, .inl (tC 1, 200, .inr (.inl (SS_ends x)))), (a 4, .inl (tC 0, 200, .inl (SS_fires x))), (a 5, .inl (tC 0, 200, .inl (SS_since x))), (a 6, .inl (tC 2, 200, .inl (SS_ended x))), (a 7, .inl (tC 1, 1000, .inr (.inl (SS_had x)))), (a 8, .inl (tC 1, 1000, .inr (.inl (SS_untold x)))), (a 9, .inl (tC 1, 5, .inr (.inl (SS_united x)))), (a 10, .inl (tC 0, 200, .inl (SS_due x))), (a 11, .inl (tC 0, 200, .inl (SS_order x)))]
abbrev NUt : Type := (Nat → Int32) × (Nat → Int64)
abbrev NU_numbered (x : NUt) : (Nat → Int32) := x.1
abbrev NU_begins (x : NUt) : (Nat → Int64) := x.2
abbrev sNU_numbered (x : NUt) (v : (Nat → Int32)) : NUt := (v, x.2)
abbrev sNU_begins (x : NUt) (v : (Nat → Int64)) : NUt := (x.1, v)
abbrev wNU (tC : Nat → ClassId) (a : Nat → Nat) (x : NUt) : va_W := [(a 0, .inr (5, [.ref (a 1), .ref (a 2)])), (a 1, .inl (tC 0, 8, .inl (NU_numbered x))), (a 2, .inl (tC 1, 8, .inr (.inl (NU_begins x))))]
abbrev FSt : Type := (Nat → Int64) × Int32 × Int32 × Int32
abbrev FS_cells (x : FSt) : (Nat → Int64) := x.1
abbrev FS_total (x : FSt) : Int32 := x.2.1
abbrev FS_early (x : FSt) : Int32 := x.2.2.1
abbrev FS_lately (x : FSt) : Int32 := x.2.2.2
abbrev sFS_cells (x : FSt) (v : (Nat → Int64)) : FSt := (v, x.2.1, x.2.2.1, x.2.2.2)
abbrev sFS_total (x : FSt) (v : Int32) : FSt := (x.1, v, x.2.2.1, x.2.2.2)
abbrev sFS_early (x : FSt) (v : Int32) : FSt := (x.1, x.2.1, v, x.2.2.2)
abbrev sFS_lately (x : FSt) (v : Int32) : FSt := (x.1, x.2.1, x.2.2.1, v)
abbrev wFS (tC : Nat → ClassId) (a : Nat → Nat) (x : FSt) : va_W := [(a 0, .inr (6, [.ref (a 1), .int (FS_total x), .int (FS_early x), .int (FS_lately x)])), (a 1, .inl (tC 1, 4000, .inr (.inl (FS_cells x))))]
abbrev COt : Type := Int32 × Int64 × Int64 × Int64 × Int64
abbrev CO_rows (x : COt) : Int32 := x.1
abbrev CO_sum (x : COt) : Int64 := x.2.1
abbrev CO_least (x : COt) : Int64 := x.2.2.1
abbrev CO_greatest (x : COt) : Int64 := x.2.2.2.1
abbrev CO_mix (x : COt) : Int64 := x.2.2.2.2
abbrev sCO_rows (x : COt) (v : Int32) : COt := (v, x.2.1, x.2.2.1, x.2.2.2.1, x.2.2.2.2)
abbrev sCO_sum (x : COt) (v : Int64) : COt := (x.1, v, x.2.2.1, x.2.2.2.1, x.2.2.2.2)
abbrev sCO_least (x : COt) (v : Int64) : COt := (x.1, x.2.1, v, x.2.2.2.1, x.2.2.2.2)
abbrev sCO_greatest (x : COt) (v : Int64) : COt := (x.1, x.2.1, x.2.2.1, v, x.2.2.2.2)
abbrev sCO_mix (x : COt) (v : Int64) : COt := (x.1, x.2.1, x.2.2.1, x.2.2.2.1, v)
abbrev wCO (tC : Nat → ClassId) (a : Nat → Nat) (x : COt) : va_W := [(a 0, .inr (7, [.int (CO_rows x), .long (CO_sum x), .long (CO_least x), .long (CO_greatest x), .long (CO_mix x)]))]
abbrev MOt : Type := Int32 × Int32 × Int32 × Int64 × Int64 × Int32 × Int32 × Int32 × Int32 × (Nat → Int32) × (Nat → Int64) × Int64 × Int32 × (Nat → Int32) × (Nat → Int64) × (Nat → Int64) × (Nat → Int32) × (Nat → Int32) × Int32 × Int32 × Int32 × (Nat → Int32) × (Nat → Int64) × (Nat → Int64) × (Nat → Int32) × (Nat → Int32) × (Nat → Int32) × (Nat → Int32) × (Nat → Int32) × Int32 × (Nat → Int32) × (Nat → Int32) × (Nat → Int64) × Int32 × Int32 × Int32 × Int32 × Int32 × (Nat → Int64) × (Nat → Int64) × (Nat → Int64) × (Nat → Int32)
abbrev MO_kind (x : MOt) : Int32 := x.1
abbrev MO_size (x : MOt) : Int32 := x.2.1
abbrev MO_step (x : MOt) : Int32 := x.2.2.1
abbrev MO_offset (x : MOt) : Int64 := x.2.2.2.1
abbrev MO_lateness (x : MOt) : Int64 := x.2.2.2.2.1
abbrev MO_every (x : MOt) : Int32 := x.2.2.2.2.2.1
abbrev MO_fires (x : MOt) : Int32 := x.2.2.2.2.2.2.1
abbrev MO_clears (x : MOt) : Int32 := x.2.2.2.2.2.2.2.1
abbrev MO_rule (x : MOt) : Int32 := x.2.2.2.2.2.2.2.2.1
abbrev MO_forbidden (x : MOt) : (Nat → Int32) := x.2.2.2.2.2.2.2.2.2.1
abbrev MO_bad (x : MOt) : (Nat → Int64) := x.2.2.2.2.2.2.2.2.2.2.1
abbrev MO_now (x : MOt) : Int64 := x.2.2.2.2.2.2.2.2.2.2.2.1
abbrev MO_thrown (x : MOt) : Int32 := x.2.2.2.2.2.2.2.2.2.2.2.2.1
abbrev MO_rKey (x : MOt) : (Nat → Int32) := x.2.2.2.2.2.2.2.2.2.2.2.2.2.1
abbrev MO_rTime (x : MOt) : (Nat → Int64) := x.2.2.2.2.2.2.2.2.2.2.2.2.2.2.1
abbrev MO_rValue (x : MOt) : (Nat → Int64) := x.2.2.2.2.2.2.2.2.2.2.2.2.2.2.2.1
abbrev MO_rCame (x : MOt) : (Nat → Int32) := x.2.2.2.2.2.2.2.2.2.2.2.2.2.2.2.2.1
abbrev MO_rNumber (x : MOt) : (Nat → Int32) := x.2.2.2.2.2.2.2.2.2.2.2.2.2.2.2.2.2.1
abbrev MO_rows (x : MOt) : Int32 := x.2.2.2.2.2.2.2.2.2.2.2.2.2.2.2.2.2.2.1
abbrev MO_came (x : MOt) : Int32 := x.2.2.2.2.2.2.2.2.2.2.2.2.2.2.2.2.2.2.2.1
abbrev MO_late (x : MOt) : Int32 := x.2.2.2.2.2.2.2.2.2.2.2.2.2.2.2.2.2.2.2.2.1
abbrev MO_sKey (x : MOt) : (Nat → Int32) := x.2.2.2.2.2.2.2.2.2.2.2.2.2.2.2.2.2.2.2.2.2.1
abbrev MO_sBegin (x : MOt) : (Nat → Int64) := x.2.2.2.2.2.2.2.2.2.2.2.2.2.2.2.2.2.2.2.2.2.2.1
abbrev MO_sEnd (x : MOt) : (Nat → Int64) := x.2.2.2.2.2.2.2.2.2.2.2.2.2.2.2.2.2.2.2.2.2.2.2.1
abbrev MO_sFired (x : MOt) : (Nat → Int32) := x.2.2.2.2.2.2.2.2.2.2.2.2.2.2.2.2.2.2.2.2.2.2.2.2.1
abbrev MO_sPut (x : MOt) : (Nat → Int32) := x.2.2.2.2.2.2.2.2.2.2.2.2.2.2.2.2.2.2.2.2.2.2.2.2.2.1
abbrev MO_sEnded (x : MOt) : (Nat → Int32) := x.2.2.2.2.2.2.2.2.2.2.2.2.2.2.2.2.2.2.2.2.2.2.2.2.2.2.1
abbrev MO_has (x : MOt) : (Nat → Int32) := x.2.2.2.2.2.2.2.2.2.2.2.2.2.2.2.2.2.2.2.2.2.2.2.2.2.2.2.1
abbrev MO_toldOf (x : MOt) : (Nat → Int32) := x.2.2.2.2.2.2.2.2.2.2.2.2.2.2.2.2.2.2.2.2.2.2.2.2.2.2.2.2.1
abbrev MO_spans (x : MOt) : Int32 := x.2.2.2.2.2.2.2.2.2.2.2.2.2.2.2.2.2.2.2.2.2.2.2.2.2.2.2.2.2.1
abbrev MO_numbered (x : MOt) : (Nat → Int32) := x.2.2.2.2.2.2.2.2.2.2.2.2.2.2.2.2.2.2.2.2.2.2.2.2.2.2.2.2.2.2.1
abbrev MO_nextSpan (x : MOt) : (Nat → Int32) := x.2.2.2.2.2.2.2.2.2.2.2.2.2.2.2.2.2.2.2.2.2.2.2.2.2.2.2.2.2.2.2.1
abbrev MO_told (x : MOt) : (Nat → Int64) := x.2.2.2.2.2.2.2.2.2.2.2.2.2.2.2.2.2.2.2.2.2.2.2.2.2.2.2.2.2.2.2.2.1
abbrev MO_kept (x : MOt) : Int32 := x.2.2.2.2.2.2.2.2.2.2.2.2.2.2.2.2.2.2.2.2.2.2.2.2.2.2.2.2.2.2.2.2.2.1
abbrev MO_firings (x : MOt) : Int32 := x.2.2.2.2.2.2.2.2.2.2.2.2.2.2.2.2.2.2.2.2.2.2.2.2.2.2.2.2.2.2.2.2.2.2.1
abbrev MO_early (x : MOt) : Int32 := x.2.2.2.2.2.2.2.2.2.2.2.2.2.2.2.2.2.2.2.2.2.2.2.2.2.2.2.2.2.2.2.2.2.2.2.1
abbrev MO_lately (x : MOt) : Int32 := x.2.2.2.2.2.2.2.2.2.2.2.2.2.2.2.2.2.2.2.2.2.2.2.2.2.2.2.2.2.2.2.2.2.2.2.2.1
abbrev MO_wanted (x : MOt) : Int32 := x.2.2.2.2.2.2.2.2.2.2.2.2.2.2.2.2.2.2.2.2.2.2.2.2.2.2.2.2.2.2.2.2.2.2.2.2.2.1
abbrev MO_wBegin (x : MOt) : (Nat → Int64) := x.2.2.2.2.2.2.2.2.2.2.2.2.2.2.2.2.2.2.2.2.2.2.2.2.2.2.2.2.2.2.2.2.2.2.2.2.2.2.1
abbrev MO_wEnd (x : MOt) : (Nat → Int64) := x.2.2.2.2.2.2.2.2.2.2.2.2.2.2.2.2.2.2.2.2.2.2.2.2.2.2.2.2.2.2.2.2.2.2.2.2.2.2.2.1
abbrev MO_got (x : MOt) : (Nat → Int64) := x.2.2.2.2.2.2.2.2.2.2.2.2.2.2.2.2.2.2.2.2.2.2.2.2.2.2.2.2.2.2.2.2.2.2.2.2.2.2.2.2.1
abbrev MO_isIn (x : MOt) : (Nat → Int32) := x.2.2.2.2.2.2.2.2.2.2.2.2.2.2.2.2.2.2.2.2.2.2.2.2.2.2.2.2.2.2.2.2.2.2.2.2.2.2.2.2.2
abbrev sMO_kind (x : MOt) (v : Int32) : MOt := (v, x.2.1, x.2.2.1, x.2.2.2.1, x.2.2.2.2.1, x.2.2.2.2.2.1, x.2.2.2.2.2.2.1, x.2.2.2.2.2.2.2.1, x.2.2.2.2.2.2.2.2.1, x.2.2.2.2.2.2.2.2.2.1, x.2.2.2.2.2.2.2.2.2.2.1, x.2.2.2.2.2.2.2.2.2.2.2.1, x.2.2.2.2.2.2.2.2.2.2.2.2.1, x.2.2.2.2.2.2.2.2.2.2.2.2.2.1, x.2.2.2.2.2.2.2.2.2.2.2.2.2.2.1, x.2.2.2.2.2.2.2.2.2.2.2.2.2.2.2.1, x.2.2.2.2.2.2.2.2.2.2.2.2.2.2.2.2.1, x.2.2.2.2.2.2.2.2.2.2.2.2.2.2.2.2.2.1, x.2.2.2.2.2.2.2.2.2.2.2.2.2.2.2.2.2.2.1, x.2.2.2.2.2.2.2.2.2.2.2.2.2.2.2.2.2.2.2.1, x.2.2.2.2.2.2.2.2.2.2.2.2.2.2.2.2.2.2.2.2.1, x.2.2.2.2.2.2.2.2.2.2.2.2.2.2.2.2.2.2.2.2.2.1, x.2.2.2.2.2.2.2.2.2.2.2.2.2.2.2.2.2.2.2.2.2.2.1, x.2.2.2.2.2.2.2.2.2.2.2.2.2.2.2.2.2.2.2.2.2.2.2.1, x.2.2.2.2.2.2.2.2.2.2.2.2.2.2.2.2.2.2.2.2.2.2.2.2.1, x.2.2.2.2.2.2.2.2.2.2.2.2.2.2.2.2.2.2.2.2.2.2.2.2.2.1, x.2.2.2.2.2.2.2.2.2.2.2.2.2.2.2.2.2.2.2.2.2.2.2.2.2.2.1, x.2.2.2.2.2.2.2.2.2.2.2.2.2.2.2.2.2.2.2.2.2.2.2.2.2.2.2.1, x.2.2.2.2.2.2.2.2.2.2.2.2.2.2.2.2.2.2.2.2.2.2.2.2.2.2.2.2.1, x.2.2.2.2.2.2.2.2.2.2.2.2.2.2.2.2.2.2.2.2.2.2.2.2.2.2.2.2.2.1, x.2.2.2.2.2.2.2.2.2.2.2.2.2.2.2.2.2.2.2.2.2.2.2.2.2.2.2.2.2.2.1, x.2.2.2.2.2.2.2.2.2.2.2.2.2.2.2.2.2.2.2.2.2.2.2.2.2.2.2.2.2.2.2.1, x.2.2.2.2.2.2.2.2.2.2.2.2.2.2.2.2.2.2.2.2.2.2.2.2.2.2.2.2.2.2.2.2.1, x.2.2.2.2.2.2.2.2.2.2.2.2.2.2.2.2.2.2.2.2.2.2.2.2.2.2.2.2.2.2.2.2.2.1, x.2.2.2.2.2.2.2.2.2.2.2.2.2.2.2.2.2.2.2.2.2.2.2.2.2.2.2.2.2.2.2.2.2.2.1, x.2.2.2.2.2.2.2.2.2.2.2.2.2.2.2.2.2.2.2.2.2.2.2.2.2.2.2.2.2.2.2.2.2.2.2.1, x.2.2.2.2.2.2.2.2.2.2.2.2.2.2.2.2.2.2.2.2.2.2.2.2.2.2.2.2.2.2.2.2.2.2.2.2.1, x.2.2.2.2.2.2.2.2.2.2.2.2.2.2.2.2.2.2.2.2.2.2.2.2.2.2.2.2.2.2.2.2.2.2.2.2.2.1, x.2.2.2.2.2.2.2.2.2.2.2.2.2.2.2.2.2.2.2.2.2.2.2.2.2.2.2.2.2.2.2.2.2.2.2.2.2.2.1, x.2.2.2.2.2.2.2.2.2.2.2.2.2.2.2.2.2.2.2.2.2.2.2.2.2.2.2.2.2.2.2.2.2.2.2.2.2.2.2.1, x.2.2.2.2.2.2.2.2.2.2.2.2.2.2.2.2.2.2.2.2.2.2.2.2.2.2.2.2.2.2.2.2.2.2.2.2.2.2.2.2.1, x.2.2.2.2.2.2.2.2.2.2.2.2.2.2.2.2.2.2.2.2.2.2.2.2.2.2.2.2.2.2.2.2.2.2.2.2.2.2.2.2.2)
abbrev sMO_size (x : MOt) (v : Int32) : MOt := (x.1, v, x.2.2.1, x.2.2.2.1, x.2.2.2.2.1, x.2.2.2.2.2.1, x.2.2.2.2.2.2.1, x.2.2.2.2.2.2.2.1, x.2.2.2.2.2.2.2.2.1, x.2.2.2.2.2.2.2.2.2.1, x.2.2.2.2.2.2.2.2.2.2.1, x.2.2.2.2.2.2.2.2.2.2.2.1, x.2.2.2.2.2.2.2.2.2.2.2.2.1, x.2.2.2.2.2.2.2.2.2.2.2.2.2.1, x.2.2.2.2.2.2.2.2.2.2.2.2.2.2.1, x.2.2.2.2.2.2.2.2.2.2.2.2.2.2.2.1, x.2.2.2.2.2.2.2.2.2.2.2.2.2.2.2.2.1, x.2.2.2.2.2.2.2.2.2.2.2.2.2.2.2.2.2.1, x.2.2.2.2.2.2.2.2.2.2.2.2.2.2.2.2.2.2.1, x.2.2.2.2.2.2.2.2.2.2.2.2.2.2.2.2.2.2.2.1, x.2.2.2.2.2.2.2.2.2.2.2.2.2.2.2.2.2.2.2.2.1, x.2.2.2.2.2.2.2.2.2.2.2.2.2.2.2.2.2.2.2.2.2.1, x.2.2.2.2.2.2.2.2.2.2.2.2.2.2.2.2.2.2.2.2.2.2.1, x.2.2.2.2.2.2.2.2.2.2.2.2.2.2.2.2.2.2.2.2.2.2.2.1, x.2.2.2.2.2.2.2.2.2.2.2.2.2.2.2.2.2.2.2.2.2.2.2.2.1, x.2.2.2.2.2.2.2.2.2.2.2.2.2.2.2.2.2.2.2.2.2.2.2.2.2.1, x.2.2.2.2.2.2.2.2.2.2.2.2.2.2.2.2.2.2.2.2.2.2.2.2.2.2.1, x.2.2.2.2.2.2.2.2.2.2.2.2.2.2.2.2.2.2.2.2.2.2.2.2.2.2.2.1, x.2.2.2.2.2.2.2.2.2.2.2.2.2.2.2.2.2.2.2.2.2.2.2.2.2.2.2.2.1, x.2.2.2.2.2.2.2.2.2.2.2.2.2.2.2.2.2.2.2.2.2.2.2.2.2.2.2.2.2.1, x.2.2.2.2.2.2.2.2.2.2.2.2.2.2.2.2.2.2.2.2.2.2.2.2.2.2.2.2.2.2.1, x.2.2.2.2.2.2.2.2.2.2.2.2.2.2.2.2.2.2.2.2.2.2.2.2.2.2.2.2.2.2.2.1, x.2.2.2.2.2.2.2.2.2.2.2.2.2.2.2.2.2.2.2.2.2.2.2.2.2.2.2.2.2.2.2.2.1, x.2.2.2.2.2.2.2.2.2.2.2.2.2.2.2.2.2.2.2.2.2.2.2.2.2.2.2.2.2.2.2.2.2.1, x.2.2.2.2.2.2.2.2.2.2.2.2.2.2.2.2.2.2.2.2.2.2.2.2.2.2.2.2.2.2.2.2.2.2.1, x.2.2.2.2.2.2.2.2.2.2.2.2.2.2.2.2.2.2.2.2.2.2.2.2.2.2.2.2.2.2.2.2.2.2.2.1, x.2.2.2.2.2.2.2.2.2.2.2.2.2.2.2.2.2.2.2.2.2.2.2.2.2.2.2.2.2.2.2.2.2.2.2.2.1, x.2.2.2.2.2.2.2.2.2.2.2.2.2.2.2.2.2.2.2.2.2.2.2.2.2.2.2.2.2.2.2.2.2.2.2.2.2.1, x.2.2.2.2.2.2.2.2.2.2.2.2.2.2.2.2.2.2.2.2.2.2.2.2.2.2.2.2.2.2.2.2.2.2.2.2.2.2.1, x.2.2.2.2.2.2.2.2.2.2.2.2.2.2.2.2.2.2.2.2.2.2.2.2.2.2.2.2.2.2.2.2.2.2.2.2.2.2.2.1, x.2.2.2.2.2.2.2.2.2.2.2.2.2.2.2.2.2.2.2.2.2.2.2.2.2.2.2.2.2.2.2.2.2.2.2.2.2.2.2.2.1, x.2.2.2.2.2.2.2.2.2.2.2.2.2.2.2.2.2.2.2.2.2.2.2.2.2.2.2.2.2.2.2.2.2.2.2.2.2.2.2.2.2)
abbrev sMO_step (x : MOt) (v : Int32) : MOt := (x.1, x.2.1, v, x.2.2.2.1, x.2.2.2.2.1, x.2.2.2.2.2.1, x.2.2.2.2.2.2.1, x.2.2.2.2.2.2.2.1, x.2.2.2.2.2.2.2.2.1, x.2.2.2.2.2.2.2.2.2.1, x.2.2.2.2.2.2.2.2.2.2.1, x.2.2.2.2.2.2.2.2.2.2.2.1, x.2.2.2.2.2.2.2.2.2.2.2.2.1, x.2.2.2.2.2.2.2.2.2.2.2.2.2.1, x.2.2.2.2.2.2.2.2.2.2.2.2.2.2.1, x.2.2.2.2.2.2.2.2.2.2.2.2.2.2.2.1, x.2.2.2.2.2.2.2.2.2.2.2.2.2.2.2.2.1, x.2.2.2.2.2.2.2.2.2.2.2.2.2.2.2.2.2.1, x.2.2.2.2.2.2.2.2.2.2.2.2.2.2.2.2.2.2.1, x.2.2.2.2.2.2.2.2.2.2.2.2.2.2.2.2.2.2.2.1, x.2.2.2.2.2.2.2.2.2.2.2.2.2.2.2.2.2.2.2.2.1, x.2.2.2.2.2.2.2.2.2.2.2.2.2.2.2.2.2.2.2.2.2.1, x.2.2.2.2.2.2.2.2.2.2.2.2.2.2.2.2.2.2.2.2.2.2.1, x.2.2.2.2.2.2.2.2.2.2.2.2.2.2.2.2.2.2.2.2.2.2.2.1, x.2.2.2.2.2.2.2.2.2.2.2.2.2.2.2.2.2.2.2.2.2.2.2.2.1, x.2.2.2.2.2.2.2.2.2.2.2.2.2.2.2.2.2.2.2.2.2.2.2.2.2.1, x.2.2.2.2.2.2.2.2.2.2.2.2.2.2.2.2.2.2.2.2.2.2.2.2.2.2.1, x.2.2.2.2.2.2.2.2.2.2.2.2.2.2.2.2.2.2.2.2.2.2.2.2.2.2.2.1, x.2.2.2.2.2.2.2.2.2.2.2.2.2.2.2.2.2.2.2.2.2.2.2.2.2.2.2.2.1, x.2.2.2.2.2.2.2.2.2.2.2.2.2.2.2.2.2.2.2.2.2.2.2.2.2.2.2.2.2.1, x.2.2.2.2.2.2.2.2.2.2.2.2.2.2.2.2.2.2.2.2.2.2.2.2.2.2.2.2.2.2.1, x.2.2.2.2.2.2.2.2.2.2.2.2.2.2.2.2.2.2.2.2.2.2.2.2.2.2.2.2.2.2.2.1, x.2.2.2.2.2.2.2.2.2.2.2.2.2.2.2.2.2.2.2.2.2.2.2.2.2.2.2.2.2.2.2.2.1, x.2.2.2.2.2.2.2.2.2.2.2.2.2.2.2.2.2.2.2.2.2.2.2.2.2.2.2.2.2.2.2.2.2.1, x.2.2.2.2.2.2.2.2.2.2.2.2.2.2.2.2.2.2.2.2.2.2.2.2.2.2.2.2.2.2.2.2.2.2.1, x.2.2.2.2.2.2.2.2.2.2.2.2.2.2.2.2.2.2.2.2.2.2.2.2.2.2.2.2.2.2.2.2.2.2.2.1, x.2.2.2.2.2.2.2.2.2.2.2.2.2.2.2.2.2.2.2.2.2.2.2.2.2.2.2.2.2.2.2.2.2.2.2.2.1, x.2.2.2.2.2.2.2.2.2.2.2.2.2.2.2.2.2.2.2.2.2.2.2.2.2.2.2.2.2.2.2.2.2.2.2.2.2.1, x.2.2.2.2.2.2.2.2.2.2.2.2.2.2.2.2.2.2.2.2.2.2.2.2.2.2.2.2.2.2.2.2.2.2.2.2.2.2.1, x.2.2.2.2.2.2.2.2.2.2.2.2.2.2.2.2.2.2.2.2.2.2.2.2.2.2.2.2.2.2.2.2.2.2.2.2.2.2.2.1, x.2.2.2.2.2.2.2.2.2.2.2.2.2.2.2.2.2.2.2.2.2.2.2.2.2.2.2.2.2.2.2.2.2.2.2.2.2.2.2.2.1, x.2.2.2.2.2.2.2.2.2.2.2.2.2.2.2.2.2.2.2.2.2.2.2.2.2.2.2.2.2.2.2.2.2.2.2.2.2.2.2.2.2)
abbrev sMO_offset (x : MOt) (v : Int64) : MOt := (x.1, x.2.1, x.2.2.1, v, x.2.2.2.2.1, x.2.2.2.2.2.1, x.2.2.2.2.2.2.1, x.2.2.2.2.2.2.2.1, x.2.2.2.2.2.2.2.2.1, x.2.2.2.2.2.2.2.2.2.1, x.2.2.2.2.2.2.2.2.2.2.1, x.2.2.2.2.2.2.2.2.2.2.2.1, x.2.2.2.2.2.2.2.2.2.2.2.2.1, x.2.2.2.2.2.2.2.2.2.2.2.2.2.1, x.2.2.2.2.2.2.2.2.2.2.2.2.2.2.1, x.2.2.2.2.2.2.2.2.2.2.2.2.2.2.2.1, x.2.2.2.2.2.2.2.2.2.2.2.2.2.2.2.2.1, x.2.2.2.2.2.2.2.2.2.2.2.2.2.2.2.2.2.1, x.2.2.2.2.2.2.2.2.2.2.2.2.2.2.2.2.2.2.1, x.2.2.2.2.2.2.2.2.2.2.2.2.2.2.2.2.2.2.2.1, x.2.2.2.2.2.2.2.2.2.2.2.2.2.2.2.2.2.2.2.2.1, x.2.2.2.2.2.2.2.2.2.2.2.2.2.2.2.2.2.2.2.2.2.1, x.2.2.2.2.2.2.2.2.2.2.2.2.2.2.2.2.2.2.2.2.2.2.1, x.2.2.2.2.2.2.2.2.2.2.2.2.2.2.2.2.2.2.2.2.2.2.2.1, x.2.2.2.2.2.2.2.2.2.2.2.2.2.2.2.2.2.2.2.2.2.2.2.2.1, x.2.2.2.2.2.2.2.2.2.2.2.2.2.2.2.2.2.2.2.2.2.2.2.2.2.1, x.2.2.2.2.2.2.2.2.2.2.2.2.2.2.2.2.2.2.2.2.2.2.2.2.2.2.1, x.2.2.2.2.2.2.2.2.2.2.2.2.2.2.2.2.2.2.2.2.2.2.2.2.2.2.2.1, x.2.2.2.2.2.2.2.2.2.2.2.2.2.2.2.2.2.2.2.2.2.2.2.2.2.2.2.2.1, x.2.2.2.2.2.2.2.2.2.2.2.2.2.2.2.2.2.2.2.2.2.2.2.2.2.2.2.2.2.1, x.2.2.2.2.2.2.2.2.2.2.2.2.2.2.2.2.2.2.2.2.2.2.2.2.2.2.2.2.2.2.1, x.2.2.2.2.2.2.2.2.2.2.2.2.2.2.2.2.2.2.2.2.2.2.2.2.2.2.2.2.2.2.2.1, x.2.2.2.2.2.2.2.2.2.2.2.2.2.2.2.2.2.2.2.2.2.2.2.2.2.2.2.2.2.2.2.2.1, x.2.2.2.2.2.2.2.2.2.2.2.2.2.2.2.2.2.2.2.2.2.2.2.2.2.2.2.2.2.2.2.2.2.1, x.2.2.2.2.2.2.2.2.2.2.2.2.2.2.2.2.2.2.2.2.2.2.2.2.2.2.2.2.2.2.2.2.2.2.1, x.2.2.2.2.2.2.2.2.2.2.2.2.2.2.2.2.2.2.2.2.2.2.2.2.2.2.2.2.2.2.2.2.2.2.2.1, x.2.2.2.2.2.2.2.2.2.2.2.2.2.2.2.2.2.2.2.2.2.2.2.2.2.2.2.2.2.2.2.2.2.2.2.2.1, x.2.2.2.2.2.2.2.2.2.2.2.2.2.2.2.2.2.2.2.2.2.2.2.2.2.2.2.2.2.2.2.2.2.2.2.2.2.1, x.2.2.2.2.2.2.2.2.2.2.2.2.2.2.2.2.2.2.2.2.2.2.2.2.2.2.2.2.2.2.2.2.2.2.2.2.2.2.1, x.2.2.2.2.2.2.2.2.2.2.2.2.2.2.2.2.2.2.2.2.2.2.2.2.2.2.2.2.2.2.2.2.2.2.2.2.2.2.2.1, x.2.2.2.2.2.2.2.2.2.2.2.2.2.2.2.2.2.2.2.2.2.2.2.2.2.2.2.2.2.2.2.2.2.2.2.2.2.2.2.2.1, x.2.2.2.2.2.2.2.2.2.2.2.2.2.2.2.2.2.2.2.2.2.2.2.2.2.2.2.2.2.2.2.2.2.2.2.2.2.2.2.2.2)
abbrev sMO_lateness (x : MOt) (v : Int64) : MOt := (x.1, x.2.1, x.2.2.1, x.2.2.2.1, v, x.2.2.2.2.2.1, x.2.2.2.2.2.2.1, x.2.2.2.2.2.2.2.1, x.2.2.2.2.2.2.2.2.1, x.2.2.2.2.2.2.2.2.2.1, x.2.2.2.2.2.2.2.2.2.2.1, x.2.2.2.2.2.2.2.2.2.2.2.1, x.2.2.2.2.2.2.2.2.2.2.2.2.1, x.2.2.2.2.2.2.2.2.2.2.2.2.2.1, x.2.2.2.2.2.2.2.2.2.2.2.2.2.2.1, x.2.2.2.2.2.2.2.2.2.2.2.2.2.2.2.1, x.2.2.2.2.2.2.2.2.2.2.2.2.2.2.2.2.1, x.2.2.2.2.2.2.2.2.2.2.2.2.2.2.2.2.2.1, x.2.2.2.2.2.2.2.2.2.2.2.2.2.2.2.2.2.2.1, x.2.2.2.2.2.2.2.2.2.2.2.2.2.2.2.2.2.2.2.1, x.2.2.2.2.2.2.2.2.2.2.2.2.2.2.2.2.2.2.2.2.1, x.2.2.2.2.2.2.2.2.2.2.2.2.2.2.2.2.2.2.2.2.2.1, x.2.2.2.2.2.2.2.2.2.2.2.2.2.2.2.2.2.2.2.2.2.2.1, x.2.2.2.2.2.2.2.2.2.2.2.2.2.2.2.2.2.2.2.2.2.2.2.1, x.2.2.2.2.2.2.2.2.2.2.2.2.2.2.2.2.2.2.2.2.2.2.2.2.1, x.2.2.2.2.2.2.2.2.2.2.2.2.2.2.2.2.2.2.2.2.2.2.2.2.2.1, x.2.2.2.2.2.2.2.2.2.2.2.2.2.2.2.2.2.2.2.2.2.2.2.2.2.2.1, x.2.2.2.2.2.2.2.2.2.2.2.2.2.2.2.2.2.2.2.2.2.2.2.2.2.2.2.1, x.2.2.2.2.2.2.2.2.2.2.2.2.2.2.2.2.2.2.2.2.2.2.2.2.2.2.2.2.1, x.2.2.2.2.2.2.2.2.2.2.2.2.2.2.2.2.2.2.2.2.2.2.2.2.2.2.2.2.2.1, x.2.2.2.2.2.2.2.2.2.2.2.2.2.2.2.2.2.2.2.2.2.2.2.2.2.2.2.2.2.2.1, x.2.2.2.2.2.2.2.2.2.2.2.2.2.2.2.2.2.2.2.2.2.2.2.2.2.2.2.2.2.2.2.1, x.2.2.2.2.2.2.2.2.2.2.2.2.2.2.2.2.2.2.2.2.2.2.2.2.2.2.2.2.2.2.2.2.1, x.2.2.2.2.2.2.2.2.2.2.2.2.2.2.2.2.2.2.2.2.2.2.2.2.2.2.2.2.2.2.2.2.2.1, x.2.2.2.2.2.2.2.2.2.2.2.2.2.2.2.2.2.2.2.2.2.2.2.2.2.2.2.2.2.2.2.2.2.2.1, x.2.2.2.2.2.2.2.2.2.2.2.2.2.2.2.2.2.2.2.2.2.2.2.2.2.2.2.2.2.2.2.2.2.2.2.1, x.2.2.2.2.2.2.2.2.2.2.2.2.2.2.2.2.2.2.2.2.2.2.2.2.2.2.2.2.2.2.2.2.2.2.2.2.1, x.2.2.2.2.2.2.2.2.2.2.2.2.2.2.2.2.2.2.2.2.2.2.2.2.2.2.2.2.2.2.2.2.2.2.2.2.2.1, x.2.2.2.2.2.2.2.2.2.2.2.2.2.2.2.2.2.2.2.2.2.2.2.2.2.2.2.2.2.2.2.2.2.2.2.2.2.2.1, x.2.2.2.2.2.2.2.2.2.2.2.2.2.2.2.2.2.2.2.2.2.2.2.2.2.2.2.2.2.2.2.2.2.2.2.2.2.2.2.1, x.2.2.2.2.2.2.2.2.2.2.2.2.2.2.2.2.2.2.2.2.2.2.2.2.2.2.2.2.2.2.2.2.2.2.2.2.2.2.2.2.1, x.2.2.2.2.2.2.2.2.2.2.2.2.2.2.2.2.2.2.2.2.2.2.2.2.2.2.2.2.2.2.2.2.2.2.2.2.2.2.2.2.2)
abbrev sMO_every (x : MOt) (v : Int32) : MOt := (x.1, x.2.1, x.2.2.1, x.2.2.2.1, x.2.2.2.2.1, v, x.2.2.2.2.2.2.1, x.2.2.2.2.2.2.2.1, x.2.2.2.2.2.2.2.2.1, x.2.2.2.2.2.2.2.2.2.1, x.2.2.2.2.2.2.2.2.2.2.1, x.2.2.2.2.2.2.2.2.2.2.2.1, x.2.2.2.2.2.2.2.2.2.2.2.2.1, x.2.2.2.2.2.2.2.2.2.2.2.2.2.1, x.2.2.2.2.2.2.2.2.2.2.2.2.2.2.1, x.2.2.2.2.2.2.2.2.2.2.2.2.2.2.2.1, x.2.2.2.2.2.2.2.2.2.2.2.2.2.2.2.2.1, x.2.2.2.2.2.2.2.2.2.2.2.2.2.2.2.2.2.1, x.2.2.2.2.2.2.2.2.2.2.2.2.2.2.2.2.2.2.1, x.2.2.2.2.2.2.2.2.2.2.2.2.2.2.2.2.2.2.2.1, x.2.2.2.2.2.2.2.2.2.2.2.2.2.2.2.2.2.2.2.2.1, x.2.2.2.2.2.2.2.2.2.2.2.2.2.2.2.2.2.2.2.2.2.1, x.2.2.2.2.2.2.2.2.2.2.2.2.2.2.2.2.2.2.2.2.2.2.1, x.2.2.2.2.2.2.2.2.2.2.2.2.2.2.2.2.2.2.2.2.2.2.2.1, x.2.2.2.2.2.2.2.2.2.2.2.2.2.2.2.2.2.2.2.2.2.2.2.2.1, x.2.2.2.2.2.2.2.2.2.2.2.2.2.2.2.2.2.2.2.2.2.2.2.2.2.1, x.2.2.2.2.2.2.2.2.2.2.2.2.2.2.2.2.2.2.2.2.2.2.2.2.2.2.1, x.2.2.2.2.2.2.2.2.2.2.2.2.2.2.2.2.2.2.2.2.2.2.2.2.2.2.2.1, x.2.2.2.2.2.2.2.2.2.2.2.2.2.2.2.2.2.2.2.2.2.2.2.2.2.2.2.2.1, x.2.2.2.2.2.2.2.2.2.2.2.2.2.2.2.2.2.2.2.2.2.2.2.2.2.2.2.2.2.1, x.2.2.2.2.2.2.2.2.2.2.2.2.2.2.2.2.2.2.2.2.2.2.2.2.2.2.2.2.2.2.1, x.2.2.2.2.2.2.2.2.2.2.2.2.2.2.2.2.2.2.2.2.2.2.2.2.2.2.2.2.2.2.2.1, x.2.2.2.2.2.2.2.2.2.2.2.2.2.2.2.2.2.2.2.2.2.2.2.2.2.2.2.2.2.2.2.2.1, x.2.2.2.2.2.2.2.2.2.2.2.2.2.2.2.2.2.2.2.2.2.2.2.2.2.2.2.2.2.2.2.2.2.1, x.2.2.2.2.2.2.2.2.2.2.2.2.2.2.2.2.2.2.2.2.2.2.2.2.2.2.2.2.2.2.2.2.2.2.1, x.2.2.2.2.2.2.2.2.2.2.2.2.2.2.2.2.2.2.2.2.2.2.2.2.2.2.2.2.2.2.2.2.2.2.2.1, x.2.2.2.2.2.2.2.2.2.2.2.2.2.2.2.2.2.2.2.2.2.2.2.2.2.2.2.2.2.2.2.2.2.2.2.2.1, x.2.2.2.2.2.2.2.2.2.2.2.2.2.2.2.2.2.2.2.2.2.2.2.2.2.2.2.2.2.2.2.2.2.2.2.2.2.1, x.2.2.2.2.2.2.2.2.2.2.2.2.2.2.2.2.2.2.2.2.2.2.2.2.2.2.2.2.2.2.2.2.2.2.2.2.2.2.1, x.2.2.2.2.2.2.2.2.2.2.2.2.2.2.2.2.2.2.2.2.2.2.2.2.2.2.2.2.2.2.2.2.2.2.2.2.2.2.2.1, x.2.2.2.2.2.2.2.2.2.2.2.2.2.2.2.2.2.2.2.2.2.2.2.2.2.2.2.2.2.2.2.2.2.2.2.2.2.2.2.2.1, x.2.2.2.2.2.2.2.2.2.2.2.2.2.2.2.2.2.2.2.2.2.2.2.2.2.2.2.2.2.2.2.2.2.2.2.2.2.2.2.2.2)
abbrev sMO_fires (x : MOt) (v : Int32) : MOt := (x.1, x.2.1, x.2.2.1, x.2.2.2.1, x.2.2.2.2.1, x.2.2.2.2.2.1, v, x.2.2.2.2.2.2.2.1, x.2.2.2.2.2.2.2.2.1, x.2.2.2.2.2.2.2.2.2.1, x.2.2.2.2.2.2.2.2.2.2.1, x.2.2.2.2.2.2.2.2.2.2.2.1, x.2.2.2.2.2.2.2.2.2.2.2.2.1, x.2.2.2.2.2.2.2.2.2.2.2.2.2.1, x.2.2.2.2.2.2.2.2.2.2.2.2.2.2.1, x.2.2.2.2.2.2.2.2.2.2.2.2.2.2.2.1, x.2.2.2.2.2.2.2.2.2.2.2.2.2.2.2.2.1, x.2.2.2.2.2.2.2.2.2.2.2.2.2.2.2.2.2.1, x.2.2.2.2.2.2.2.2.2.2.2.2.2.2.2.2.2.2.1, x.2.2.2.2.2.2.2.2.2.2.2.2.2.2.2.2.2.2.2.1, x.2.2.2.2.2.2.2.2.2.2.2.2.2.2.2.2.2.2.2.2.1, x.2.2.2.2.2.2.2.2.2.2.2.2.2.2.2.2.2.2.2.2.2.1, x.2.2.2.2.2.2.2.2.2.2.2.2.2.2.2.2.2.2.2.2.2.2.1, x.2.2.2.2.2.2.2.2.2.2.2.2.2.2.2.2.2.2.2.2.2.2.2.1, x.2.2.2.2.2.2.2.2.2.2.2.2.2.2.2.2.2.2.2.2.2.2.2.2.1, x.2.2.2.2.2.2.2.2.2.2.2.2.2.2.2.2.2.2.2.2.2.2.2.2.2.1, x.2.2.2.2.2.2.2.2.2.2.2.2.2.2.2.2.2.2.2.2.2.2.2.2.2.2.1, x.2.2.2.2.2.2.2.2.2.2.2.2.2.2.2.2.2.2.2.2.2.2.2.2.2.2.2.1, x.2.2.2.2.2.2.2.2.2.2.2.2.2.2.2.2.2.2.2.2.2.2.2.2.2.2.2.2.1, x.2.2.2.2.2.2.2.2.2.2.2.2.2.2.2.2.2.2.2.2.2.2.2.2.2.2.2.2.2.1, x.2.2.2.2.2.2.2.2.2.2.2.2.2.2.2.2.2.2.2.2.2.2.2.2.2.2.2.2.2.2.1, x.2.2.2.2.2.2.2.2.2.2.2.2.2.2.2.2.2.2.2.2.2.2.2.2.2.2.2.2.2.2.2.1, x.2.2.2.2.2.2.2.2.2.2.2.2.2.2.2.2.2.2.2.2.2.2.2.2.2.2.2.2.2.2.2.2.1, x.2.2.2.2.2.2.2.2.2.2.2.2.2.2.2.2.2.2.2.2.2.2.2.2.2.2.2.2.2.2.2.2.2.1, x.2.2.2.2.2.2.2.2.2.2.2.2.2.2.2.2.2.2.2.2.2.2.2.2.2.2.2.2.2.2.2.2.2.2.1, x.2.2.2.2.2.2.2.2.2.2.2.2.2.2.2.2.2.2.2.2.2.2.2.2.2.2.2.2.2.2.2.2.2.2.2.1, x.2.2.2.2.2.2.2.2.2.2.2.2.2.2.2.2.2.2.2.2.2.2.2.2.2.2.2.2.2.2.2.2.2.2.2.2.1, x.2.2.2.2.2.2.2.2.2.2.2.2.2.2.2.2.2.2.2.2.2.2.2.2.2.2.2.2.2.2.2.2.2.2.2.2.2.1, x.2.2.2.2.2.2.2.2.2.2.2.2.2.2.2.2.2.2.2.2.2.2.2.2.2.2.2.2.2.2.2.2.2.2.2.2.2.2.1, x.2.2.2.2.2.2.2.2.2.2.2.2.2.2.2.2.2.2.2.2.2.2.2.2.2.2.2.2.2.2.2.2.2.2.2.2.2.2.2.1, x.2.2.2.2.2.2.2.2.2.2.2.2.2.2.2.2.2.2.2.2.2.2.2.2.2.2.2.2.2.2.2.2.2.2.2.2.2.2.2.2.1, x.2.2.2.2.2.2.2.2.2.2.2.2.2.2.2.2.2.2.2.2.2.2.2.2.2.2.2.2.2.2.2.2.2.2.2.2.2.2.2.2.2)
abbrev sMO_clears (x : MOt) (v : Int32) : MOt := (x.1, x.2.1, x.2.2.1, x.2.2.2.1, x.2.2.2.2.1, x.2.2.2.2.2.1, x.2.2.2.2.2.2.1, v, x.2.2.2.2.2.2.2.2.1, x.2.2.2.2.2.2.2.2.2.1, x.2.2.2.2.2.2.2.2.2.2.1, x.2.2.2.2.2.2.2.2.2.2.2.1, x.2.2.2.2.2.2.2.2.2.2.2.2.1, x.2.2.2.2.2.2.2.2.2.2.2.2.2.1, x.2.2.2.2.2.2.2.2.2.2.2.2.2.2.1, x.2.2.2.2.2.2.2.2.2.2.2.2.2.2.2.1, x.2.2.2.2.2.2.2.2.2.2.2.2.2.2.2.2.1, x.2.2.2.2.2.2.2.2.2.2.2.2.2.2.2.2.2.1, x.2.2.2.2.2.2.2.2.2.2.2.2.2.2.2.2.2.2.1, x.2.2.2.2.2.2.2.2.2.2.2.2.2.2.2.2.2.2.2.1, x.2.2.2.2.2.2.2.2.2.2.2.2.2.2.2.2.2.2.2.2.1, x.2.2.2.2.2.2.2.2.2.2.2.2.2.2.2.2.2.2.2.2.2.1, x.2.2.2.2.2.2.2.2.2.2.2.2.2.2.2.2.2.2.2.2.2.2.1, x.2.2.2.2.2.2.2.2.2.2.2.2.2.2.2.2.2.2.2.2.2.2.2.1, x.2.2.2.2.2.2.2.2.2.2.2.2.2.2.2.2.2.2.2.2.2.2.2.2.1, x.2.2.2.2.2.2.2.2.2.2.2.2.2.2.2.2.2.2.2.2.2.2.2.2.2.1, x.2.2.2.2.2.2.2.2.2.2.2.2.2.2.2.2.2.2.2.2.2.2.2.2.2.2.1, x.2.2.2.2.2.2.2.2.2.2.2.2.2.2.2.2.2.2.2.2.2.2.2.2.2.2.2.1, x.2.2.2.2.2.2.2.2.2.2.2.2.2.2.2.2.2.2.2.2.2.2.2.2.2.2.2.2.1, x.2.2.2.2.2.2.2.2.2.2.2.2.2.2.2.2.2.2.2.2.2.2.2.2.2.2.2.2.2.1, x.2.2.2.2.2.2.2.2.2.2.2.2.2.2.2.2.2.2.2.2.2.2.2.2.2.2.2.2.2.2.1, x.2.2.2.2.2.2.2.2.2.2.2.2.2.2.2.2.2.2.2.2.2.2.2.2.2.2.2.2.2.2.2.1, x.2.2.2.2.2.2.2.2.2.2.2.2.2.2.2.2.2.2.2.2.2.2.2.2.2.2.2.2.2.2.2.2.1, x.2.2.2.2.2.2.2.2.2.2.2.2.2.2.2.2.2.2.2.2.2.2.2.2.2.2.2.2.2.2.2.2.2.1, x.2.2.2.2.2.2.2.2.2.2.2.2.2.2.2.2.2.2.2.2.2.2.2.2.2.2.2.2.2.2.2.2.2.2.1, x.2.2.2.2.2.2.2.2.2.2.2.2.2.2.2.2.2.2.2.2.2.2.2.2.2.2.2.2.2.2.2.2.2.2.2.1, x.2.2.2.2.2.2.2.2.2.2.2.2.2.2.2.2.2.2.2.2.2.2.2.2.2.2.2.2.2.2.2.2.2.2.2.2.1, x.2.2.2.2.2.2.2.2.2.2.2.2.2.2.2.2.2.2.2.2.2.2.2.2.2.2.2.2.2.2.2.2.2.2.2.2.2.1, x.2.2.2.2.2.2.2.2.2.2.2.2.2.2.2.2.2.2.2.2.2.2.2.2.2.2.2.2.2.2.2.2.2.2.2.2.2.2.1, x.2.2.2.2.2.2.2.2.2.2.2.2.2.2.2.2.2.2.2.2.2.2.2.2.2.2.2.2.2.2.2.2.2.2.2.2.2.2.2.1, x.2.2.2.2.2.2.2.2.2.2.2.2.2.2.2.2.2.2.2.2.2.2.2.2.2.2.2.2.2.2.2.2.2.2.2.2.2.2.2.2.1, x.2.2.2.2.2.2.2.2.2.2.2.2.2.2.2.2.2.2.2.2.2.2.2.2.2.2.2.2.2.2.2.2.2.2.2.2.2.2.2.2.2)
abbrev sMO_rule (x : MOt) (v : Int32) : MOt := (x.1, x.2.1, x.2.2.1, x.2.2.2.1, x.2.2.2.2.1, x.2.2.2.2.2.1, x.2.2.2.2.2.2.1, x.2.2.2.2.2.2.2.1, v, x.2.2.2.2.2.2.2.2.2.1, x.2.2.2.2.2.2.2.2.2.2.1, x.2.2.2.2.2.2.2.2.2.2.2.1, x.2.2.2.2.2.2.2.2.2.2.2.2.1, x.2.2.2.2.2.2.2.2.2.2.2.2.2.1, x.2.2.2.2.2.2.2.2.2.2.2.2.2.2.1, x.2.2.2.2.2.2.2.2.2.2.2.2.2.2.2.1, x.2.2.2.2.2.2.2.2.2.2.2.2.2.2.2.2.1, x.2.2.2.2.2.2.2.2.2.2.2.2.2.2.2.2.2.1, x.2.2.2.2.2.2.2.2.2.2.2.2.2.2.2.2.2.2.1, x.2.2.2.2.2.2.2.2.2.2.2.2.2.2.2.2.2.2.2.1, x.2.2.2.2.2.2.2.2.2.2.2.2.2.2.2.2.2.2.2.2.1, x.2.2.2.2.2.2.2.2.2.2.2.2.2.2.2.2.2.2.2.2.2.1, x.2.2.2.2.2.2.2.2.2.2.2.2.2.2.2.2.2.2.2.2.2.2.1, x.2.2.2.2.2.2.2.2.2.2.2.2.2.2.2.2.2.2.2.2.2.2.2.1, x.2.2.2.2.2.2.2.2.2.2.2.2.2.2.2.2.2.2.2.2.2.2.2.2.1, x.2.2.2.2.2.2.2.2.2.2.2.2.2.2.2.2.2.2.2.2.2.2.2.2.2.1, x.2.2.2.2.2.2.2.2.2.2.2.2.2.2.2.2.2.2.2.2.2.2.2.2.2.2.1, x.2.2.2.2.2.2.2.2.2.2.2.2.2.2.2.2.2.2.2.2.2.2.2.2.2.2.2.1, x.2.2.2.2.2.2.2.2.2.2.2.2.2.2.2.2.2.2.2.2.2.2.2.2.2.2.2.2.1, x.2.2.2.2.2.2.2.2.2.2.2.2.2.2.2.2.2.2.2.2.2.2.2.2.2.2.2.2.2.1, x.2.2.2.2.2.2.2.2.2.2.2.2.2.2.2.2.2.2.2.2.2.2.2.2.2.2.2.2.2.2.1, x.2.2.2.2.2.2.2.2.2.2.2.2.2.2.2.2.2.2.2.2.2.2.2.2.2.2.2.2.2.2.2.1, x.2.2.2.2.2.2.2.2.2.2.2.2.2.2.2.2.2.2.2.2.2.2.2.2.2.2.2.2.2.2.2.2.1, x.2.2.2.2.2.2.2.2.2.2.2.2.2.2.2.2.2.2.2.2.2.2.2.2.2.2.2.2.2.2.2.2.2.1, x.2.2.2.2.2.2.2.2.2.2.2.2.2.2.2.2.2.2.2.2.2.2.2.2.2.2.2.2.2.2.2.2.2.2.1, x.2.2.2.2.2.2.2.2.2.2.2.2.2.2.2.2.2.2.2.2.2.2.2.2.2.2.2.2.2.2.2.2.2.2.2.1, x.2.2.2.2.2.2.2.2.2.2.2.2.2.2.2.2.2.2.2.2.2.2.2.2.2.2.2.2.2.2.2.2.2.2.2.2.1, x.2.2.2.2.2.2.2.2.2.2.2.2.2.2.2.2.2.2.2.2.2.2.2.2.2.2.2.2.2.2.2.2.2.2.2.2.2.1, x.2.2.2.2.2.2.2.2.2.2.2.2.2.2.2.2.2.2.2.2.2.2.2.2.2.2.2.2.2.2.2.2.2.2.2.2.2.2.1, x.2.2.2.2.2.2.2.2.2.2.2.2.2.2.2.2.2.2.2.2.2.2.2.2.2.2.2.2.2.2.2.2.2.2.2.2.2.2.2.1, x.2.2.2.2.2.2.2.2.2.2.2.2.2.2.2.2.2.2.2.2.2.2.2.2.2.2.2.2.2.2.2.2.2.2.2.2.2.2.2.2.1, x.2.2.2.2.2.2.2.2.2.2.2.2.2.2.2.2.2.2.2.2.2.2.2.2.2.2.2.2.2.2.2.2.2.2.2.2.2.2.2.2.2)
abbrev sMO_forbidden (x : MOt) (v : (Nat → Int32)) : MOt := (x.1, x.2.1, x.2.2.1, x.2.2.2.1, x.2.2.2.2.1, x.2.2.2.2.2.1, x.2.2.2.2.2.2.1, x.2.2.2.2.2.2.2.1, x.2.2.2.2.2.2.2.2.1, v, x.2.2.2.2.2.2.2.2.2.2.1, x.2.2.2.2.2.2.2.2.2.2.2.1, x.2.2.2.2.2.2.2.2.2.2.2.2.1, x.2.2.2.2.2.2.2.2.2.2.2.2.2.1, x.2.2.2.2.2.2.2.2.2.2.2.2.2.2.1, x.2.2.2.2.2.2.2.2.2.2.2.2.2.2.2.1, x.2.2.2.2.2.2.2.2.2.2.2.2.2.2.2.2.1, x.2.2.2.2.2.2.2.2.2.2.2.2.2.2.2.2.2.1, x.2.2.2.2.2.2.2.2.2.2.2.2.2.2.2.2.2.2.1, x.2.2.2.2.2.2.2.2.2.2.2.2.2.2.2.2.2.2.2.1, x.2.2.2.2.2.2.2.2.2.2.2.2.2.2.2.2.2.2.2.2.1, x.2.2.2.2.2.2.2.2.2.2.2.2.2.2.2.2.2.2.2.2.2.1, x.2.2.2.2.2.2.2.2.2.2.2.2.2.2.2.2.2.2.2.2.2.2.1, x.2.2.2.2.2.2.2.2.2.2.2.2.2.2.2.2.2.2.2.2.2.2.2.1, x.2.2.2.2.2.2.2.2.2.2.2.2.2.2.2.2.2.2.2.2.2.2.2.2.1, x.2.2.2.2.2.2.2.2.2.2.2.2.2.2.2.2.2.2.2.2.2.2.2.2.2.1, x.2.2.2.2.2.2.2.2.2.2.2.2.2.2.2.2.2.2.2.2.2.2.2.2.2.2.1, x.2.2.2.2.2.2.2.2.2.2.2.2.2.2.2.2.2.2.2.2.2.2.2.2.2.2.2.1, x.2.2.2.2.2.2.2.2.2.2.2.2.2.2.2.2.2.2.2.2.2.2.2.2.2.2.2.2.1, x.2.2.2.2.2.2.2.2.2.2.2.2.2.2.2.2.2.2.2.2.2.2.2.2.2.2.2.2.2.1, x.2.2.2.2.2.2.2.2.2.2.2.2.2.2.2.2.2.2.2.2.2.2.2.2.2.2.2.2.2.2.1, x.2.2.2.2.2.2.2.2.2.2.2.2.2.2.2.2.2.2.2.2.2.2.2.2.2.2.2.2.2.2.2.1, x.2.2.2.2.2.2.2.2.2.2.2.2.2.2.2.2.2.2.2.2.2.2.2.2.2.2.2.2.2.2.2.2.1, x.2.2.2.2.2.2.2.2.2.2.2.2.2.2.2.2.2.2.2.2.2.2.2.2.2.2.2.2.2.2.2.2.2.1, x.2.2.2.2.2.2.2.2.2.2.2.2.2.2.2.2.2.2.2.2.2.2.2.2.2.2.2.2.2.2.2.2.2.2.1, x.2.2.2.2.2.2.2.2.2.2.2.2.2.2.2.2.2.2.2.2.2.2.2.2.2.2.2.2.2.2.2.2.2.2.2.1, x.2.2.2.2.2.2.2.2.2.2.2.2.2.2.2.2.2.2.2.2.2.2.2.2.2.2.2.2.2.2.2.2.2.2.2.2.1, x.2.2.2.2.2.2.2.2.2.2.2.2.2.2.2.2.2.2.2.2.2.2.2.2.2.2.2.2.2.2.2.2.2.2.2.2.2.1, x.2.2.2.2.2.2.2.2.2.2.2.2.2.2.2.2.2.2.2.2.2.2.2.2.2.2.2.2.2.2.2.2.2.2.2.2.2.2.1, x.2.2.2.2.2.2.2.2.2.2.2.2.2.2.2.2.2.2.2.2.2.2.2.2.2.2.2.2.2.2.2.2.2.2.2.2.2.2.2.1, x.2.2.2.2.2.2.2.2.2.2.2.2.2.2.2.2.2.2.2.2.2.2.2.2.2.2.2.2.2.2.2.2.2.2.2.2.2.2.2.2.1, x.2.2.2.2.2.2.2.2.2.2.2.2.2.2.2.2.2.2.2.2.2.2.2.2.2.2.2.2.2.2.2.2.2.2.2.2.2.2.2.2.2)
abbrev sMO_bad (x : MOt) (v : (Nat → Int64)) : MOt := (x.1, x.2.1, x.2.2.1, x.2.2.2.1, x.2.2.2.2.1, x.2.2.2.2.2.1, x.2.2.2.2.2.2.1, x.2.2.2.2.2.2.2.1, x.2.2.2.2.2.2.2.2.1, x.2.2.2.2.2.2.2.2.2.1, v, x.2.2.2.2.2.2.2.2.2.2.2.1, x.2.2.2.2.2.2.2.2.2.2.2.2.1, x.2.2.2.2.2.2.2.2.2.2.2.2.2.1, x.2.2.2.2.2.2.2.2.2.2.2.2.2.2.1, x.2.2.2.2.2.2.2.2.2.2.2.2.2.2.2.1, x.2.2.2.2.2.2.2.2.2.2.2.2.2.2.2.2.1, x.2.2.2.2.2.2.2.2.2.2.2.2.2.2.2.2.2.1, x.2.2.2.2.2.2.2.2.2.2.2.2.2.2.2.2.2.2.1, x.2.2.2.2.2.2.2.2.2.2.2.2.2.2.2.2.2.2.2.1, x.2.2.2.2.2.2.2.2.2.2.2.2.2.2.2.2.2.2.2.2.1, x.2.2.2.2.2.2.2.2.2.2.2.2.2.2.2.2.2.2.2.2.2.1, x.2.2.2.2.2.2.2.2.2.2.2.2.2.2.2.2.2.2.2.2.2.2.1, x.2.2.2.2.2.2.2.2.2.2.2.2.2.2.2.2.2.2.2.2.2.2.2.1, x.2.2.2.2.2.2.2.2.2.2.2.2.2.2.2.2.2.2.2.2.2.2.2.2.1, x.2.2.2.2.2.2.2.2.2.2.2.2.2.2.2.2.2.2.2.2.2.2.2.2.2.1, x.2.2.2.2.2.2.2.2.2.2.2.2.2.2.2.2.2.2.2.2.2.2.2.2.2.2.1, x.2.2.2.2.2.2.2.2.2.2.2.2.2.2.2.2.2.2.2.2.2.2.2.2.2.2.2.1, x.2.2.2.2.2.2.2.2.2.2.2.2.2.2.2.2.2.2.2.2.2.2.2.2.2.2.2.2.1, x.2.2.2.2.2.2.2.2.2.2.2.2.2.2.2.2.2.2.2.2.2.2.2.2.2.2.2.2.2.1, x.2.2.2.2.2.2.2.2.2.2.2.2.2.2.2.2.2.2.2.2.2.2.2.2.2.2.2.2.2.2.1, x.2.2.2.2.2.2.2.2.2.2.2.2.2.2.2.2.2.2.2.2.2.2.2.2.2.2.2.2.2.2.2.1, x.2.2.2.2.2.2.2.2.2.2.2.2.2.2.2.2.2.2.2.2.2.2.2.2.2.2.2.2.2.2.2.2.1, x.2.2.2.2.2.2.2.2.2.2.2.2.2.2.2.2.2.2.2.2.2.2.2.2.2.2.2.2.2.2.2.2.2.1, x.2.2.2.2.2.2.2.2.2.2.2.2.2.2.2.2.2.2.2.2.2.2.2.2.2.2.2.2.2.2.2.2.2.2.1, x.2.2.2.2.2.2.2.2.2.2.2.2.2.2.2.2.2.2.2.2.2.2.2.2.2.2.2.2.2.2.2.2.2.2.2.1, x.2.2.2.2.2.2.2.2.2.2.2.2.2.2.2.2.2.2.2.2.2.2.2.2.2.2.2.2.2.2.2.2.2.2.2.2.1, x.2.2.2.2.2.2.2.2.2.2.2.2.2.2.2.2.2.2.2.2.2.2.2.2.2.2.2.2.2.2.2.2.2.2.2.2.2.1, x.2.2.2.2.2.2.2.2.2.2.2.2.2.2.2.2.2.2.2.2.2.2.2.2.2.2.2.2.2.2.2.2.2.2.2.2.2.2.1, x.2.2.2.2.2.2.2.2.2.2.2.2.2.2.2.2.2.2.2.2.2.2.2.2.2.2.2.2.2.2.2.2.2.2.2.2.2.2.2.1, x.2.2.2.2.2.2.2.2.2.2.2.2.2.2.2.2.2.2.2.2.2.2.2.2.2.2.2.2.2.2.2.2.2.2.2.2.2.2.2.2.1, x.2.2.2.2.2.2.2.2.2.2.2.2.2.2.2.2.2.2.2.2.2.2.2.2.2.2.2.2.2.2.2.2.2.2.2.2.2.2.2.2.2)
abbrev sMO_now (x : MOt) (v : Int64) : MOt := (x.1, x.2.1, x.2.2.1, x.2.2.2.1, x.2.2.2.2.1, x.2.2.2.2.2.1, x.2.2.2.2.2.2.1, x.2.2.2.2.2.2.2.1, x.2.2.2.2.2.2.2.2.1, x.2.2.2.2.2.2.2.2.2.1, x.2.2.2.2.2.2.2.2.2.2.1, v, x.2.2.2.2.2.2.2.2.2.2.2.2.1, x.2.2.2.2.2.2.2.2.2.2.2.2.2.1, x.2.2.2.2.2.2.2.2.2.2.2.2.2.2.1, x.2.2.2.2.2.2.2.2.2.2.2.2.2.2.2.1, x.2.2.2.2.2.2.2.2.2.2.2.2.2.2.2.2.1, x.2.2.2.2.2.2.2.2.2.2.2.2.2.2.2.2.2.1, x.2.2.2.2.2.2.2.2.2.2.2.2.2.2.2.2.2.2.1, x.2.2.2.2.2.2.2.2.2.2.2.2.2.2.2.2.2.2.2.1, x.2.2.2.2.2.2.2.2.2.2.2.2.2.2.2.2.2.2.2.2.1, x.2.2.2.2.2.2.2.2.2.2.2.2.2.2.2.2.2.2.2.2.2.1, x.2.2.2.2.2.2.2.2.2.2.2.2.2.2.2.2.2.2.2.2.2.2.1, x.2.2.2.2.2.2.2.2.2.2.2.2.2.2.2.2.2.2.2.2.2.2.2.1, x.2.2.2.2.2.2.2.2.2.2.2.2.2.2.2.2.2.2.2.2.2.2.2.2.1, x.2.2.2.2.2.2.2.2.2.2.2.2.2.2.2.2.2.2.2.2.2.2.2.2.2.1, x.2.2.2.2.2.2.2.2.2.2.2.2.2.2.2.2.2.2.2.2.2.2.2.2.2.2.1, x.2.2.2.2.2.2.2.2.2.2.2.2.2.2.2.2.2.2.2.2.2.2.2.2.2.2.2.1, x.2.2.2.2.2.2.2.2.2.2.2.2.2.2.2.2.2.2.2.2.2.2.2.2.2.2.2.2.1, x.2.2.2.2.2.2.2.2.2.2.2.2.2.2.2.2.2.2.2.2.2.2.2.2.2.2.2.2.2.1, x.2.2.2.2.2.2.2.2.2.2.2.2.2.2.2.2.2.2.2.2.2.2.2.2.2.2.2.2.2.2.1, x.2.2.2.2.2.2.2.2.2.2.2.2.2.2.2.2.2.2.2.2.2.2.2.2.2.2.2.2.2.2.2.1, x.2.2.2.2.2.2.2.2.2.2.2.2.2.2.2.2.2.2.2.2.2.2.2.2.2.2.2.2.2.2.2.2.1, x.2.2.2.2.2.2.2.2.2.2.2.2.2.2.2.2.2.2.2.2.2.2.2.2.2.2.2.2.2.2.2.2.2.1, x.2.2.2.2.2.2.2.2.2.2.2.2.2.2.2.2.2.2.2.2.2.2.2.2.2.2.2.2.2.2.2.2.2.2.1, x.2.2.2.2.2.2.2.2.2.2.2.2.2.2.2.2.2.2.2.2.2.2.2.2.2.2.2.2.2.2.2.2.2.2.2.1, x.2.2.2.2.2.2.2.2.2.2.2.2.2.2.2.2.2.2.2.2.2.2.2.2.2.2.2.2.2.2.2.2.2.2.2.2.1, x.2.2.2.2.2.2.2.2.2.2.2.2.2.2.2.2.2.2.2.2.2.2.2.2.2.2.2.2.2.2.2.2.2.2.2.2.2.1, x.2.2.2.2.2.2.2.2.2.2.2.2.2.2.2.2.2.2.2.2.2.2.2.2.2.2.2.2.2.2.2.2.2.2.2.2.2.2.1, x.2.2.2.2.2.2.2.2.2.2.2.2.2.2.2.2.2.2.2.2.2.2.2.2.2.2.2.2.2.2.2.2.2.2.2.2.2.2.2.1, x.2.2.2.2.2.2.2.2.2.2.2.2.2.2.2.2.2.2.2.2.2.2.2.2.2.2.2.2.2.2.2.2.2.2.2.2.2.2.2.2.1, x.2.2.2.2.2.2.2.2.2.2.2.2.2.2.2.2.2.2.2.2.2.2.2.2.2.2.2.2.2.2.2.2.2.2.2.2.2.2.2.2.2)
abbrev sMO_thrown (x : MOt) (v : Int32) : MOt := (x.1, x.2.1, x.2.2.1, x.2.2.2.1, x.2.2.2.2.1, x.2.2.2.2.2.1, x.2.2.2.2.2.2.1, x.2.2.2.2.2.2.2.1, x.2.2.2.2.2.2.2.2.1, x.2.2.2.2.2.2.2.2.2.1, x.2.2.2.2.2.2.2.2.2.2.1, x.2.2.2.2.2.2.2.2.2.2.2.1, v, x.2.2.2.2.2.2.2.2.2.2.2.2.2.1, x.2.2.2.2.2.2.2.2.2.2.2.2.2.2.1, x.2.2.2.2.2.2.2.2.2.2.2.2.2.2.2.1, x.2.2.2.2.2.2.2.2.2.2.2.2.2.2.2.2.1, x.2.2.2.2.2.2.2.2.2.2.2.2.2.2.2.2.2.1, x.2.2.2.2.2.2.2.2.2.2.2.2.2.2.2.2.2.2.1, x.2.2.2.2.2.2.2.2.2.2.2.2.2.2.2.2.2.2.2.1, x.2.2.2.2.2.2.2.2.2.2.2.2.2.2.2.2.2.2.2.2.1, x.2.2.2.2.2.2.2.2.2.2.2.2.2.2.2.2.2.2.2.2.2.1, x.2.2.2.2.2.2.2.2.2.2.2.2.2.2.2.2.2.2.2.2.2.2.1, x.2.2.2.2.2.2.2.2.2.2.2.2.2.2.2.2.2.2.2.2.2.2.2.1, x.2.2.2.2.2.2.2.2.2.2.2.2.2.2.2.2.2.2.2.2.2.2.2.2.1, x.2.2.2.2.2.2.2.2.2.2.2.2.2.2.2.2.2.2.2.2.2.2.2.2.2.1, x.2.2.2.2.2.2.2.2.2.2.2.2.2.2.2.2.2.2.2.2.2.2.2.2.2.2.1, x.2.2.2.2.2.2.2.2.2.2.2.2.2.2.2.2.2.2.2.2.2.2.2.2.2.2.2.1, x.2.2.2.2.2.2.2.2.2.2.2.2.2.2.2.2.2.2.2.2.2.2.2.2.2.2.2.2.1, x.2.2.2.2.2.2.2.2.2.2.2.2.2.2.2.2.2.2.2.2.2.2.2.2.2.2.2.2.2.1, x.2.2.2.2.2.2.2.2.2.2.2.2.2.2.2.2.2.2.2.2.2.2.2.2.2.2.2.2.2.2.1, x.2.2.2.2.2.2.2.2.2.2.2.2.2.2.2.2.2.2.2.2.2.2.2.2.2.2.2.2.2.2.2.1, x.2.2.2.2.2.2.2.2.2.2.2.2.2.2.2.2.2.2.2.2.2.2.2.2.2.2.2.2.2.2.2.2.1, x.2.2.2.2.2.2.2.2.2.2.2.2.2.2.2.2.2.2.2.2.2.2.2.2.2.2.2.2.2.2.2.2.2.1, x.2.2.2.2.2.2.2.2.2.2.2.2.2.2.2.2.2.2.2.2.2.2.2.2.2.2.2.2.2.2.2.2.2.2.1, x.2.2.2.2.2.2.2.2.2.2.2.2.2.2.2.2.2.2.2.2.2.2.2.2.2.2.2.2.2.2.2.2.2.2.2.1, x.2.2.2.2.2.2.2.2.2.2.2.2.2.2.2.2.2.2.2.2.2.2.2.2.2.2.2.2.2.2.2.2.2.2.2.2.1, x.2.2.2.2.2.2.2.2.2.2.2.2.2.2.2.2.2.2.2.2.2.2.2.2.2.2.2.2.2.2.2.2.2.2.2.2.2.1, x.2.2.2.2.2.2.2.2.2.2.2.2.2.2.2.2.2.2.2.2.2.2.2.2.2.2.2.2.2.2.2.2.2.2.2.2.2.2.1, x.2.2.2.2.2.2.2.2.2.2.2.2.2.2.2.2.2.2.2.2.2.2.2.2.2.2.2.2.2.2.2.2.2.2.2.2.2.2.2.1, x.2.2.2.2.2.2.2.2.2.2.2.2.2.2.2.2.2.2.2.2.2.2.2.2.2.2.2.2.2.2.2.2.2.2.2.2.2.2.2.2.1, x.2.2.2.2.2.2.2.2.2.2.2.2.2.2.2.2.2.2.2.2.2.2.2.2.2.2.2.2.2.2.2.2.2.2.2.2.2.2.2.2.2)
abbrev sMO_rKey (x : MOt) (v : (Nat → Int32)) : MOt := (x.1, x.2.1, x.2.2.1, x.2.2.2.1, x.2.2.2.2.1, x.2.2.2.2.2.1, x.2.2.2.2.2.2.1, x.2.2.2.2.2.2.2.1, x.2.2.2.2.2.2.2.2.1, x.2.2.2.2.2.2.2.2.2.1, x.2.2.2.2.2.2.2.2.2.2.1, x.2.2.2.2.2.2.2.2.2.2.2.1, x.2.2.2.2.2.2.2.2.2.2.2.2.1, v, x.2.2.2.2.2.2.2.2.2.2.2.2.2.2.1, x.2.2.2.2.2.2.2.2.2.2.2.2.2.2.2.1, x.2.2.2.2.2.2.2.2.2.2.2.2.2.2.2.2.1, x.2.2.2.2.2.2.2.2.2.2.2.2.2.2.2.2.2.1, x.2.2.2.2.2.2.2.2.2.2.2.2.2.2.2.2.2.2.1, x.2.2.2.2.2.2.2.2.2.2.2.2.2.2.2.2.2.2.2.1, x.2.2.2.2.2.2.2.2.2.2.2.2.2.2.2.2.2.2.2.2.1, x.2.2.2.2.2.2.2.2.2.2.2.2.2.2.2.2.2.2.2.2.2.1, x.2.2.2.2.2.2.2.2.2.2.2.2.2.2.2.2.2.2.2.2.2.2.1, x.2.2.2.2.2.2.2.2.2.2.2.2.2.2.2.2.2.2.2.2.2.2.2.1, x.2.2.2.2.2.2.2.2.2.2.2.2.2.2.2.2.2.2.2.2.2.2.2.2.1, x.2.2.2.2.2.2.2.2.2.2.2.2.2.2.2.2.2.2.2.2.2.2.2.2.2.1, x.2.2.2.2.2.2.2.2.2.2.2.2.2.2.2.2.2.2.2.2.2.2.2.2.2.2.1, x.2.2.2.2.2.2.2.2.2.2.2.2.2.2.2.2.2.2.2.2.2.2.2.2.2.2.2.1, x.2.2.2.2.2.2.2.2.2.2.2.2.2.2.2.2.2.2.2.2.2.2.2.2.2.2.2.2.1, x.2.2.2.2.2.2.2.2.2.2.2.2.2.2.2.2.2.2.2.2.2.2.2.2.2.2.2.2.2.1, x.2.2.2.2.2.2.2.2.2.2.2.2.2.2.2.2.2.2.2.2.2.2.2.2.2.2.2.2.2.2.1, x.2.2.2.2.2.2.2.2.2.2.2.2.2.2.2.2.2.2.2.2.2.2.2.2.2.2.2.2.2.2.2.1, x.2.2.2.2.2.2.2.2.2.2.2.2.2.2.2.2.2.2.2.2.2.2.2.2.2.2.2.2.2.2.2.2.1, x.2.2.2.2.2.2.2.2.2.2.2.2.2.2.2.2.2.2.2.2.2.2.2.2.2.2.2.2.2.2.2.2.2.1, x.2.2.2.2.2.2.2.2.2.2.2.2.2.2.2.2.2.2.2.2.2.2.2.2.2.2.2.2.2.2.2.2.2.2.1, x.2.2.2.2.2.2.2.2.2.2.2.2.2.2.2.2.2.2.2.2.2.2.2.2.2.2.2.2.2.2.2.2.2.2.2.1, x.2.2.2.2.2.2.2.2.2.2.2.2.2.2.2.2.2.2.2.2.2.2.2.2.2.2.2.2.2.2.2.2.2.2.2.2.1, x.2.2.2.2.2.2.2.2.2.2.2.2.2.2.2.2.2.2.2.2.2.2.2.2.2.2.2.2.2.2.2.2.2.2.2.2.2.1, x.2.2.2.2.2.2.2.2.2.2.2.2.2.2.2.2.2.2.2.2.2.2.2.2.2.2.2.2.2.2.2.2.2.2.2.2.2.2.1, x.2.2.2.2.2.2.2.2.2.2.2.2.2.2.2.2.2.2.2.2.2.2.2.2.2.2.2.2.2.2.2.2.2.2.2.2.2.2.2.1, x.2.2.2.2.2.2.2.2.2.2.2.2.2.2.2.2.2.2.2.2.2.2.2.2.2.2.2.2.2.2.2.2.2.2.2.2.2.2.2.2.1, x.2.2.2.2.2.2.2.2.2.2.2.2.2.2.2.2.2.2.2.2.2.2.2.2.2.2.2.2.2.2.2.2.2.2.2.2.2.2.2.2.2)
abbrev sMO_rTime (x : MOt) (v : (Nat → Int64)) : MOt := (x.1, x.2.1, x.2.2.1, x.2.2.2.1, x.2.2.2.2.1, x.2.2.2.2.2.1, x.2.2.2.2.2.2.1, x.2.2.2.2.2.2.2.1, x.2.2.2.2.2.2.2.2.1, x.2.2.2.2.2.2.2.2.2.1, x.2.2.2.2.2.2.2.2.2.2.1, x.2.2.2.2.2.2.2.2.2.2.2.1, x.2.2.2.2.2.2.2.2.2.2.2.2.1, x.2.2.2.2.2.2.2.2.2.2.2.2.2.1, v, x.2.2.2.2.2.2.2.2.2.2.2.2.2.2.2.1, x.2.2.2.2.2.2.2.2.2.2.2.2.2.2.2.2.1, x.2.2.2.2.2.2.2.2.2.2.2.2.2.2.2.2.2.1, x.2.2.2.2.2.2.2.2.2.2.2.2.2.2.2.2.2.2.1, x.2.2.2.2.2.2.2.2.2.2.2.2.2.2.2.2.2.2.2.1, x.2.2.2.2.2.2.2.2.2.2.2.2.2.2.2.2.2.2.2.2.1, x.2.2.2.2.2.2.2.2.2.2.2.2.2.2.2.2.2.2.2.2.2.1, x.2.2.2.2.2.2.2.2.2.2.2.2.2.2.2.2.2.2.2.2.2.2.1, x.2.2.2.2.2.2.2.2.2.2.2.2.2.2.2.2.2.2.2.2.2.2.2.1, x.2.2.2.2.2.2.2.2.2.2.2.2.2.2.2.2.2.2.2.2.2.2.2.2.1, x.2.2.2.2.2.2.2.2.2.2.2.2.2.2.2.2.2.2.2.2.2.2.2.2.2.1, x.2.2.2.2.2.2.2.2.2.2.2.2.2.2.2.2.2.2.2.2.2.2.2.2.2.2.1, x.2.2.2.2.2.2.2.2.2.2.2.2.2.2.2.2.2.2.2.2.2.2.2.2.2.2.2.1, x.2.2.2.2.2.2.2.2.2.2.2.2.2.2.2.2.2.2.2.2.2.2.2.2.2.2.2.2.1, x.2.2.2.2.2.2.2.2.2.2.2.2.2.2.2.2.2.2.2.2.2.2.2.2.2.2.2.2.2.1, x.2.2.2.2.2.2.2.2.2.2.2.2.2.2.2.2.2.2.2.2.2.2.2.2.2.2.2.2.2.2.1, x.2.2.2.2.2.2.2.2.2.2.2.2.2.2.2.2.2.2.2.2.2.2.2.2.2.2.2.2.2.2.2.1, x.2.2.2.2.2.2.2.2.2.2.2.2.2.2.2.2.2.2.2.2.2.2.2.2.2.2.2.2.2.2.2.2.1, x.2.2.2.2.2.2.2.2.2.2.2.2.2.2.2.2.2.2.2.2.2.2.2.2.2.2.2.2.2.2.2.2.2.1, x.2.2.2.2.2.2.2.2.2.2.2.2.2.2.2.2.2.2.2.2.2.2.2.2.2.2.2.2.2.2.2.2.2.2.1, x.2.2.2.2.2.2.2.2.2.2.2.2.2.2.2.2.2.2.2.2.2.2.2.2.2.2.2.2.2.2.2.2.2.2.2.1, x.2.2.2.2.2.2.2.2.2.2.2.2.2.2.2.2.2.2.2.2.2.2.2.2.2.2.2.2.2.2.2.2.2.2.2.2.1, x.2.2.2.2.2.2.2.2.2.2.2.2.2.2.2.2.2.2.2.2.2.2.2.2.2.2.2.2.2.2.2.2.2.2.2.2.2.1, x.2.2.2.2.2.2.2.2.2.2.2.2.2.2.2.2.2.2.2.2.2.2.2.2.2.2.2.2.2.2.2.2.2.2.2.2.2.2.1, x.2.2.2.2.2.2.2.2.2.2.2.2.2.2.2.2.2.2.2.2.2.2.2.2.2.2.2.2.2.2.2.2.2.2.2.2.2.2.2.1, x.2.2.2.2.2.2.2.2.2.2.2.2.2.2.2.2.2.2.2.2.2.2.2.2.2.2.2.2.2.2.2.2.2.2.2.2.2.2.2.2.1, x.2.2.2.2.2.2.2.2.2.2.2.2.2.2.2.2.2.2.2.2.2.2.2.2.2.2.2.2.2.2.2.2.2.2.2.2.2.2.2.2.2)
abbrev sMO_rValue (x : MOt) (v : (Nat → Int64)) : MOt := (x.1, x.2.1, x.2.2.1, x.2.2.2.1, x.2.2.2.2.1, x.2.2.2.2.2.1, x.2.2.2.2.2.2.1, x.2.2.2.2.2.2.2.1, x.2.2.2.2.2.2.2.2.1, x.2.2.2.2.2.2.2.2.2.1, x.2.2.2.2.2.2.2.2.2.2.1, x.2.2.2.2.2.2.2.2.2.2.2.1, x.2.2.2.2.2.2.2.2.2.2.2.2.1, x.2.2.2.2.2.2.2.2.2.2.2.2.2.1, x.2.2.2.2.2.2.2.2.2.2.2.2.2.2.1, v, x.2.2.2.2.2.2.2.2.2.2.2.2.2.2.2.2.1, x.2.2.2.2.2.2.2.2.2.2.2.2.2.2.2.2.2.1, x.2.2.2.2.2.2.2.2.2.2.2.2.2.2.2.2.2.2.1, x.2.2.2.2.2.2.2.2.2.2.2.2.2.2.2.2.2.2.2.1, x.2.2.2.2.2.2.2.2.2.2.2.2.2.2.2.2.2.2.2.2.1, x.2.2.2.2.2.2.2.2.2.2.2.2.2.2.2.2.2.2.2.2.2.1, x.2.2.2.2.2.2.2.2.2.2.2.2.2.2.2.2.2.2.2.2.2.2.1, x.2.2.2.2.2.2.2.2.2.2.2.2.2.2.2.2.2.2.2.2.2.2.2.1, x.2.2.2.2.2.2.2.2.2.2.2.2.2.2.2.2.2.2.2.2.2.2.2.2.1, x.2.2.2.2.2.2.2.2.2.2.2.2.2.2.2.2.2.2.2.2.2.2.2.2.2.1, x.2.2.2.2.2.2.2.2.2.2.2.2.2.2.2.2.2.2.2.2.2.2.2.2.2.2.1, x.2.2.2.2.2.2.2.2.2.2.2.2.2.2.2.2.2.2.2.2.2.2.2.2.2.2.2.1, x.2.2.2.2.2.2.2.2.2.2.2.2.2.2.2.2.2.2.2.2.2.2.2.2.2.2.2.2.1, x.2.2.2.2.2.2.2.2.2.2.2.2.2.2.2.2.2.2.2.2.2.2.2.2.2.2.2.2.2.1, x.2.2.2.2.2.2.2.2.2.2.2.2.2.2.2.2.2.2.2.2.2.2.2.2.2.2.2.2.2.2.1, x.2.2.2.2.2.2.2.2.2.2.2.2.2.2.2.2.2.2.2.2.2.2.2.2.2.2.2.2.2.2.2.1, x.2.2.2.2.2.2.2.2.2.2.2.2.2.2.2.2.2.2.2.2.2.2.2.2.2.2.2.2.2.2.2.2.1, x.2.2.2.2.2.2.2.2.2.2.2.2.2.2.2.2.2.2.2.2.2.2.2.2.2.2.2.2.2.2.2.2.2.1, x.2.2.2.2.2.2.2.2.2.2.2.2.2.2.2.2.2.2.2.2.2.2.2.2.2.2.2.2.2.2.2.2.2.2.1, x.2.2.2.2.2.2.2.2.2.2.2.2.2.2.2.2.2.2.2.2.2.2.2.2.2.2.2.2.2.2.2.2.2.2.2.1, x.2.2.2.2.2.2.2.2.2.2.2.2.2.2.2.2.2.2.2.2.2.2.2.2.2.2.2.2.2.2.2.2.2.2.2.2.1, x.2.2.2.2.2.2.2.2.2.2.2.2.2.2.2.2.2.2.2.2.2.2.2.2.2.2.2.2.2.2.2.2.2.2.2.2.2.1, x.2.2.2.2.2.2.2.2.2.2.2.2.2.2.2.2.2.2.2.2.2.2.2.2.2.2.2.2.2.2.2.2.2.2.2.2.2.2.1, x.2.2.2.2.2.2.2.2.2.2.2.2.2.2.2.2.2.2.2.2.2.2.2.2.2.2.2.2.2.2.2.2.2.2.2.2.2.2.2.1, x.2.2.2.2.2.2.2.2.2.2.2.2.2.2.2.2.2.2.2.2.2.2.2.2.2.2.2.2.2.2.2.2.2.2.2.2.2.2.2.2.1, x.2.2.2.2.2.2.2.2.2.2.2.2.2.2.2.2.2.2.2.2.2.2.2.2.2.2.2.2.2.2.2.2.2.2.2.2.2.2.2.2.2)
abbrev sMO_rCame (x : MOt) (v : (Nat → Int32)) : MOt := (x.1, x.2.1, x.2.2.1, x.2.2.2.1, x.2.2.2.2.1, x.2.2.2.2.2.1, x.2.2.2.2.2.2.1, x.2.2.2.2.2.2.2.1, x.2.2.2.2.2.2.2.2.1, x.2.2.2.2.2.2.2.2.2.1, x.2.2.2.2.2.2.2.2.2.2.1, x.2.2.2.2.2.2.2.2.2.2.2.1, x.2.2.2.2.2.2.2.2.2.2.2.2.1, x.2.2.2.2.2.2.2.2.2.2.2.2.2.1, x.2.2.2.2.2.2.2.2.2.2.2.2.2.2.1, x.2.2.2.2.2.2.2.2.2.2.2.2.2.2.2.1, v, x.2.2.2.2.2.2.2.2.2.2.2.2.2.2.2.2.2.1, x.2.2.2.2.2.2.2.2.2.2.2.2.2.2.2.2.2.2.1, x.2.2.2.2.2.2.2.2.2.2.2.2.2.2.2.2.2.2.2.1, x.2.2.2.2.2.2.2.2.2.2.2.2.2.2.2.2.2.2.2.2.1, x.2.2.2.2.2.2.2.2.2.2.2.2.2.2.2.2.2.2.2.2.2.1, x.2.2.2.2.2.2.2.2.2.2.2.2.2.2.2.2.2.2.2.2.2.2.1, x.2.2.2.2.2.2.2.2.2.2.2.2.2.2.2.2.2.2.2.2.2.2.2.1, x.2.2.2.2.2.2.2.2.2.2.2.2.2.2.2.2.2.2.2.2.2.2.2.2.1, x.2.2.2.2.2.2.2.2.2.2.2.2.2.2.2.2.2.2.2.2.2.2.2.2.2.1, x.2.2.2.2.2.2.2.2.2.2.2.2.2.2.2.2.2.2.2.2.2.2.2.2.2.2.1, x.2.2.2.2.2.2.2.2.2.2.2.2.2.2.2.2.2.2.2.2.2.2.2.2.2.2.2.1, x.2.2.2.2.2.2.2.2.2.2.2.2.2.2.2.2.2.2.2.2.2.2.2.2.2.2.2.2.1, x.2.2.2.2.2.2.2.2.2.2.2.2.2.2.2.2.2.2.2.2.2.2.2.2.2.2.2.2.2.1, x.2.2.2.2.2.2.2.2.2.2.2.2.2.2.2.2.2.2.2.2.2.2.2.2.2.2.2.2.2.2.1, x.2.2.2.2.2.2.2.2.2.2.2.2.2.2.2.2.2.2.2.2.2.2.2.2.2.2.2.2.2.2.2.1, x.2.2.2.2.2.2.2.2.2.2.2.2.2.2.2.2.2.2.2.2.2.2.2.2.2.2.2.2.2.2.2.2.1, x.2.2.2.2.2.2.2.2.2.2.2.2.2.2.2.2.2.2.2.2.2.2.2.2.2.2.2.2.2.2.2.2.2.1, x.2.2.2.2.2.2.2.2.2.2.2.2.2.2.2.2.2.2.2.2.2.2.2.2.2.2.2.2.2.2.2.2.2.2.1, x.2.2.2.2.2.2.2.2.2.2.2.2.2.2.2.2.2.2.2.2.2.2.2.2.2.2.2.2.2.2.2.2.2.2.2.1, x.2.2.2.2.2.2.2.2.2.2.2.2.2.2.2.2.2.2.2.2.2.2.2.2.2.2.2.2.2.2.2.2.2.2.2.2.1, x.2.2.2.2.2.2.2.2.2.2.2.2.2.2.2.2.2.2.2.2.2.2.2.2.2.2.2.2.2.2.2.2.2.2.2.2.2.1, x.2.2.2.2.2.2.2.2.2.2.2.2.2.2.2.2.2.2.2.2.2.2.2.2.2.2.2.2.2.2.2.2.2.2.2.2.2.2.1, x.2.2.2.2.2.2.2.2.2.2.2.2.2.2.2.2.2.2.2.2.2.2.2.2.2.2.2.2.2.2.2.2.2.2.2.2.2.2.2.1, x.2.2.2.2.2.2.2.2.2.2.2.2.2.2.2.2.2.2.2.2.2.2.2.2.2.2.2.2.2.2.2.2.2.2.2.2.2.2.2.2.1, x.2.2.2.2.2.2.2.2.2.2.2.2.2.2.2.2.2.2.2.2.2.2.2.2.2.2.2.2.2.2.2.2.2.2.2.2.2.2.2.2.2)
abbrev sMO_rNumber (x : MOt) (v : (Nat → Int32)) : MOt := (x.1, x.2.1, x.2.2.1, x.2.2.2.1, x.2.2.2.2.1, x.2.2.2.2.2.1, x.2.2.2.2.2.2.1, x.2.2.2.2.2.2.2.1, x.2.2.2.2.2.2.2.2.1, x.2.2.2.2.2.2.2.2.2.1, x.2.2.2.2.2.2.2.2.2.2.1, x.2.2.2.2.2.2.2.2.2.2.2.1, x.2.2.2.2.2.2.2.2.2.2.2.2.1, x.2.2.2.2.2.2.2.2.2.2.2.2.2.1, x.2.2.2.2.2.2.2.2.2.2.2.2.2.2.1, x.2.2.2.2.2.2.2.2.2.2.2.2.2.2.2.1, x.2.2.2.2.2.2.2.2.2.2.2.2.2.2.2.2.1, v, x.2.2.2.2.2.2.2.2.2.2.2.2.2.2.2.2.2.2.1, x.2.2.2.2.2.2.2.2.2.2.2.2.2.2.2.2.2.2.2.1, x.2.2.2.2.2.2.2.2.2.2.2.2.2.2.2.2.2.2.2.2.1, x.2.2.2.2.2.2.2.2.2.2.2.2.2.2.2.2.2.2.2.2.2.1, x.2.2.2.2.2.2.2.2.2.2.2.2.2.2.2.2.2.2.2.2.2.2.1, x.2.2.2.2.2.2.2.2.2.2.2.2.2.2.2.2.2.2.2.2.2.2.2.1, x.2.2.2.2.2.2.2.2.2.2.2.2.2.2.2.2.2.2.2.2.2.2.2.2.1, x.2.2.2.2.2.2.2.2.2.2.2.2.2.2.2.2.2.2.2.2.2.2.2.2.2.1, x.2.2.2.2.2.2.2.2.2.2.2.2.2.2.2.2.2.2.2.2.2.2.2.2.2.2.1, x.2.2.2.2.2.2.2.2.2.2.2.2.2.2.2.2.2.2.2.2.2.2.2.2.2.2.2.1, x.2.2.2.2.2.2.2.2.2.2.2.2.2.2.2.2.2.2.2.2.2.2.2.2.2.2.2.2.1, x.2.2.2.2.2.2.2.2.2.2.2.2.2.2.2.2.2.2.2.2.2.2.2.2.2.2.2.2.2.1, x.2.2.2.2.2.2.2.2.2.2.2.2.2.2.2.2.2.2.2.2.2.2.2.2.2.2.2.2.2.2.1, x.2.2.2.2.2.2.2.2.2.2.2.2.2.2.2.2.2.2.2.2.2.2.2.2.2.2.2.2.2.2.2.1, x.2.2.2.2.2.2.2.2.2.2.2.2.2.2.2.2.2.2.2.2.2.2.2.2.2.2.2.2.2.2.2.2.1, x.2.2.2.2.2.2.2.2.2.2.2.2.2.2.2.2.2.2.2.2.2.2.2.2.2.2.2.2.2.2.2.2.2.1, x.2.2.2.2.2.2.2.2.2.2.2.2.2.2.2.2.2.2.2.2.2.2.2.2.2.2.2.2.2.2.2.2.2.2.1, x.2.2.2.2.2.2.2.2.2.2.2.2.2.2.2.2.2.2.2.2.2.2.2.2.2.2.2.2.2.2.2.2.2.2.2.1, x.2.2.2.2.2.2.2.2.2.2.2.2.2.2.2.2.2.2.2.2.2.2.2.2.2.2.2.2.2.2.2.2.2.2.2.2.1, x.2.2.2.2.2.2.2.2.2.2.2.2.2.2.2.2.2.2.2.2.2.2.2.2.2.2.2.2.2.2.2.2.2.2.2.2.2.1, x.2.2.2.2.2.2.2.2.2.2.2.2.2.2.2.2.2.2.2.2.2.2.2.2.2.2.2.2.2.2.2.2.2.2.2.2.2.2.1, x.2.2.2.2.2.2.2.2.2.2.2.2.2.2.2.2.2.2.2.2.2.2.2.2.2.2.2.2.2.2.2.2.2.2.2.2.2.2.2.1, x.2.2.2.2.2.2.2.2.2.2.2.2.2.2.2.2.2.2.2.2.2.2.2.2.2.2.2.2.2.2.2.2.2.2.2.2.2.2.2.2.1, x.2.2.2.2.2.2.2.2.2.2.2.2.2.2.2.2.2.2.2.2.2.2.2.2.2.2.2.2.2.2.2.2.2.2.2.2.2.2.2.2.2)
abbrev sMO_rows (x : MOt) (v : Int32) : MOt := (x.1, x.2.1, x.2.2.1, x.2.2.2.1, x.2.2.2.2.1, x.2.2.2.2.2.1, x.2.2.2.2.2.2.1, x.2.2.2.2.2.2.2.1, x.2.2.2.2.2.2.2.2.1, x.2.2.2.2.2.2.2.2.2.1, x.2.2.2.2.2.2.2.2.2.2.1, x.2.2.2.2.2.2.2.2.2.2.2.1, x.2.2.2.2.2.2.2.2.2.2.2.2.1, x.2.2.2.2.2.2.2.2.2.2.2.2.2.1, x.2.2.2.2.2.2.2.2.2.2.2.2.2.2.1, x.2.2.2.2.2.2.2.2.2.2.2.2.2.2.2.1, x.2.2.2.2.2.2.2.2.2.2.2.2.2.2.2.2.1, x.2.2.2.2.2.2.2.2.2.2.2.2.2.2.2.2.2.1, v, x.2.2.2.2.2.2.2.2.2.2.2.2.2.2.2.2.2.2.2.1, x.2.2.2.2.2.2.2.2.2.2.2.2.2.2.2.2.2.2.2.2.1, x.2.2.2.2.2.2.2.2.2.2.2.2.2.2.2.2.2.2.2.2.2.1, x.2.2.2.2.2.2.2.2.2.2.2.2.2.2.2.2.2.2.2.2.2.2.1, x.2.2.2.2.2.2.2.2.2.2.2.2.2.2.2.2.2.2.2.2.2.2.2.1, x.2.2.2.2.2.2.2.2.2.2.2.2.2.2.2.2.2.2.2.2.2.2.2.2.1, x.2.2.2.2.2.2.2.2.2.2.2.2.2.2.2.2.2.2.2.2.2.2.2.2.2.1, x.2.2.2.2.2.2.2.2.2.2.2.2.2.2.2.2.2.2.2.2.2.2.2.2.2.2.1, x.2.2.2.2.2.2.2.2.2.2.2.2.2.2.2.2.2.2.2.2.2.2.2.2.2.2.2.1, x.2.2.2.2.2.2.2.2.2.2.2.2.2.2.2.2.2.2.2.2.2.2.2.2.2.2.2.2.1, x.2.2.2.2.2.2.2.2.2.2.2.2.2.2.2.2.2.2.2.2.2.2.2.2.2.2.2.2.2.1, x.2.2.2.2.2.2.2.2.2.2.2.2.2.2.2.2.2.2.2.2.2.2.2.2.2.2.2.2.2.2.1, x.2.2.2.2.2.2.2.2.2.2.2.2.2.2.2.2.2.2.2.2.2.2.2.2.2.2.2.2.2.2.2.1, x.2.2.2.2.2.2.2.2.2.2.2.2.2.2.2.2.2.2.2.2.2.2.2.2.2.2.2.2.2.2.2.2.1, x.2.2.2.2.2.2.2.2.2.2.2.2.2.2.2.2.2.2.2.2.2.2.2.2.2.2.2.2.2.2.2.2.2.1, x.2.2.2.2.2.2.2.2.2.2.2.2.2.2.2.2.2.2.2.2.2.2.2.2.2.2.2.2.2.2.2.2.2.2.1, x.2.2.2.2.2.2.2.2.2.2.2.2.2.2.2.2.2.2.2.2.2.2.2.2.2.2.2.2.2.2.2.2.2.2.2.1, x.2.2.2.2.2.2.2.2.2.2.2.2.2.2.2.2.2.2.2.2.2.2.2.2.2.2.2.2.2.2.2.2.2.2.2.2.1, x.2.2.2.2.2.2.2.2.2.2.2.2.2.2.2.2.2.2.2.2.2.2.2.2.2.2.2.2.2.2.2.2.2.2.2.2.2.1, x.2.2.2.2.2.2.2.2.2.2.2.2.2.2.2.2.2.2.2.2.2.2.2.2.2.2.2.2.2.2.2.2.2.2.2.2.2.2.1, x.2.2.2.2.2.2.2.2.2.2.2.2.2.2.2.2.2.2.2.2.2.2.2.2.2.2.2.2.2.2.2.2.2.2.2.2.2.2.2.1, x.2.2.2.2.2.2.2.2.2.2.2.2.2.2.2.2.2.2.2.2.2.2.2.2.2.2.2.2.2.2.2.2.2.2.2.2.2.2.2.2.1, x.2.2.2.2.2.2.2.2.2.2.2.2.2.2.2.2.2.2.2.2.2.2.2.2.2.2.2.2.2.2.2.2.2.2.2.2.2.2.2.2.2)
abbrev sMO_came (x : MOt) (v : Int32) : MOt := (x.1, x.2.1, x.2.2.1, x.2.2.2.1, x.2.2.2.2.1, x.2.2.2.2.2.1, x.2.2.2.2.2.2.1, x.2.2.2.2.2.2.2.1, x.2.2.2.2.2.2.2.2.1, x.2.2.2.2.2.2.2.2.2.1, x.2.2.2.2.2.2.2.2.2.2.1, x.2.2.2.2.2.2.2.2.2.2.2.1, x.2.2.2.2.2.2.2.2.2.2.2.2.1, x.2.2.2.2.2.2.2.2.2.2.2.2.2.1, x.2.2.2.2.2.2.2.2.2.2.2.2.2.2.1, x.2.2.2.2.2.2.2.2.2.2.2.2.2.2.2.1, x.2.2.2.2.2.2.2.2.2.2.2.2.2.2.2.2.1, x.2.2.2.2.2.2.2.2.2.2.2.2.2.2.2.2.2.1, x.2.2.2.2.2.2.2.2.2.2.2.2.2.2.2.2.2.2.1, v, x.2.2.2.2.2.2.2.2.2.2.2.2.2.2.2.2.2.2.2.2.1, x.2.2.2.2.2.2.2.2.2.2.2.2.2.2.2.2.2.2.2.2.2.1, x.2.2.2.2.2.2.2.2.2.2.2.2.2.2.2.2.2.2.2.2.2.2.1, x.2.2.2.2.2.2.2.2.2.2.2.2.2.2.2.2.2.2.2.2.2.2.2.1, x.2.2.2.2.2.2.2.2.2.2.2.2.2.2.2.2.2.2.2.2.2.2.2.2.1, x.2.2.2.2.2.2.2.2.2.2.2.2.2.2.2.2.2.2.2.2.2.2.2.2.2.1, x.2.2.2.2.2.2.2.2.2.2.2.2.2.2.2.2.2.2.2.2.2.2.2.2.2.2.1, x.2.2.2.2.2.2.2.2.2.2.2.2.2.2.2.2.2.2.2.2.2.2.2.2.2.2.2.1, x.2.2.2.2.2.2.2.2.2.2.2.2.2.2.2.2.2.2.2.2.2.2.2.2.2.2.2.2.1, x.2.2.2.2.2.2.2.2.2.2.2.2.2.2.2.2.2.2.2.2.2.2.2.2.2.2.2.2.2.1, x.2.2.2.2.2.2.2.2.2.2.2.2.2.2.2.2.2.2.2.2.2.2.2.2.2.2.2.2.2.2.1, x.2.2.2.2.2.2.2.2.2.2.2.2.2.2.2.2.2.2.2.2.2.2.2.2.2.2.2.2.2.2.2.1, x.2.2.2.2.2.2.2.2.2.2.2.2.2.2.2.2.2.2.2.2.2.2.2.2.2.2.2.2.2.2.2.2.1, x.2.2.2.2.2.2.2.2.2.2.2.2.2.2.2.2.2.2.2.2.2.2.2.2.2.2.2.2.2.2.2.2.2.1, x.2.2.2.2.2.2.2.2.2.2.2.2.2.2.2.2.2.2.2.2.2.2.2.2.2.2.2.2.2.2.2.2.2.2.1, x.2.2.2.2.2.2.2.2.2.2.2.2.2.2.2.2.2.2.2.2.2.2.2.2.2.2.2.2.2.2.2.2.2.2.2.1, x.2.2.2.2.2.2.2.2.2.2.2.2.2.2.2.2.2.2.2.2.2.2.2.2.2.2.2.2.2.2.2.2.2.2.2.2.1, x.2.2.2.2.2.2.2.2.2.2.2.2.2.2.2.2.2.2.2.2.2.2.2.2.2.2.2.2.2.2.2.2.2.2.2.2.2.1, x.2.2.2.2.2.2.2.2.2.2.2.2.2.2.2.2.2.2.2.2.2.2.2.2.2.2.2.2.2.2.2.2.2.2.2.2.2.2.1, x.2.2.2.2.2.2.2.2.2.2.2.2.2.2.2.2.2.2.2.2.2.2.2.2.2.2.2.2.2.2.2.2.2.2.2.2.2.2.2.1, x.2.2.2.2.2.2.2.2.2.2.2.2.2.2.2.2.2.2.2.2.2.2.2.2.2.2.2.2.2.2.2.2.2.2.2.2.2.2.2.2.1, x.2.2.2.2.2.2.2.2.2.2.2.2.2.2.2.2.2.2.2.2.2.2.2.2.2.2.2.2.2.2.2.2.2.2.2.2.2.2.2.2.2)
abbrev sMO_late (x : MOt) (v : Int32) : MOt := (x.1, x.2.1, x.2.2.1, x.2.2.2.1, x.2.2.2.2.1, x.2.2.2.2.2.1, x.2.2.2.2.2.2.1, x.2.2.2.2.2.2.2.1, x.2.2.2.2.2.2.2.2.1, x.2.2.2.2.2.2.2.2.2.1, x.2.2.2.2.2.2.2.2.2.2.1, x.2.2.2.2.2.2.2.2.2.2.2.1, x.2.2.2.2.2.2.2.2.2.2.2.2.1, x.2.2.2.2.2.2.2.2.2.2.2.2.2.1, x.2.2.2.2.2.2.2.2.2.2.2.2.2.2.1, x.2.2.2.2.2.2.2.2.2.2.2.2.2.2.2.1, x.2.2.2.2.2.2.2.2.2.2.2.2.2.2.2.2.1, x.2.2.2.2.2.2.2.2.2.2.2.2.2.2.2.2.2.1, x.2.2.2.2.2.2.2.2.2.2.2.2.2.2.2.2.2.2.1, x.2.2.2.2.2.2.2.2.2.2.2.2.2.2.2.2.2.2.2.1, v, x.2.2.2.2.2.2.2.2.2.2.2.2.2.2.2.2.2.2.2.2.2.1, x.2.2.2.2.2.2.2.2.2.2.2.2.2.2.2.2.2.2.2.2.2.2.1, x.2.2.2.2.2.2.2.2.2.2.2.2.2.2.2.2.2.2.2.2.2.2.2.1, x.2.2.2.2.2.2.2.2.2.2.2.2.2.2.2.2.2.2.2.2.2.2.2.2.1, x.2.2.2.2.2.2.2.2.2.2.2.2.2.2.2.2.2.2.2.2.2.2.2.2.2.1, x.2.2.2.2.2.2.2.2.2.2.2.2.2.2.2.2.2.2.2.2.2.2.2.2.2.2.1, x.2.2.2.2.2.2.2.2.2.2.2.2.2.2.2.2.2.2.2.2.2.2.2.2.2.2.2.1, x.2.2.2.2.2.2.2.2.2.2.2.2.2.2.2.2.2.2.2.2.2.2.2.2.2.2.2.2.1, x.2.2.2.2.2.2.2.2.2.2.2.2.2.2.2.2.2.2.2.2.2.2.2.2.2.2.2.2.2.1, x.2.2.2.2.2.2.2.2.2.2.2.2.2.2.2.2.2.2.2.2.2.2.2.2.2.2.2.2.2.2.1, x.2.2.2.2.2.2.2.2.2.2.2.2.2.2.2.2.2.2.2.2.2.2.2.2.2.2.2.2.2.2.2.1, x.2.2.2.2.2.2.2.2.2.2.2.2.2.2.2.2.2.2.2.2.2.2.2.2.2.2.2.2.2.2.2.2.1, x.2.2.2.2.2.2.2.2.2.2.2.2.2.2.2.2.2.2.2.2.2.2.2.2.2.2.2.2.2.2.2.2.2.1, x.2.2.2.2.2.2.2.2.2.2.2.2.2.2.2.2.2.2.2.2.2.2.2.2.2.2.2.2.2.2.2.2.2.2.1, x.2.2.2.2.2.2.2.2.2.2.2.2.2.2.2.2.2.2.2.2.2.2.2.2.2.2.2.2.2.2.2.2.2.2.2.1, x.2.2.2.2.2.2.2.2.2.2.2.2.2.2.2.2.2.2.2.2.2.2.2.2.2.2.2.2.2.2.2.2.2.2.2.2.1, x.2.2.2.2.2.2.2.2.2.2.2.2.2.2.2.2.2.2.2.2.2.2.2.2.2.2.2.2.2.2.2.2.2.2.2.2.2.1, x.2.2.2.2.2.2.2.2.2.2.2.2.2.2.2.2.2.2.2.2.2.2.2.2.2.2.2.2.2.2.2.2.2.2.2.2.2.2.1, x.2.2.2.2.2.2.2.2.2.2.2.2.2.2.2.2.2.2.2.2.2.2.2.2.2.2.2.2.2.2.2.2.2.2.2.2.2.2.2.1, x.2.2.2.2.2.2.2.2.2.2.2.2.2.2.2.2.2.2.2.2.2.2.2.2.2.2.2.2.2.2.2.2.2.2.2.2.2.2.2.2.1, x.2.2.2.2.2.2.2.2.2.2.2.2.2.2.2.2.2.2.2.2.2.2.2.2.2.2.2.2.2.2.2.2.2.2.2.2.2.2.2.2.2)
abbrev sMO_sKey (x : MOt) (v : (Nat → Int32)) : MOt := (x.1, x.2.1, x.2.2.1, x.2.2.2.1, x.2.2.2.2.1, x.2.2.2.2.2.1, x.2.2.2.2.2.2.1, x.2.2.2.2.2.2.2.1, x.2.2.2.2.2.2.2.2.1, x.2.2.2.2.2.2.2.2.2.1, x.2.2.2.2.2.2.2.2.2.2.1, x.2.2.2.2.2.2.2.2.2.2.2.1, x.2.2.2.2.2.2.2.2.2.2.2.2.1, x.2.2.2.2.2.2.2.2.2.2.2.2.2.1, x.2.2.2.2.2.2.2.2.2.2.2.2.2.2.1, x.2.2.2.2.2.2.2.2.2.2.2.2.2.2.2.1, x.2.2.2.2.2.2.2.2.2.2.2.2.2.2.2.2.1, x.2.2.2.2.2.2.2.2.2.2.2.2.2.2.2.2.2.1, x.2.2.2.2.2.2.2.2.2.2.2.2.2.2.2.2.2.2.1, x.2.2.2.2.2.2.2.2.2.2.2.2.2.2.2.2.2.2.2.1, x.2.2.2.2.2.2.2.2.2.2.2.2.2.2.2.2.2.2.2.2.1, v, x.2.2.2.2.2.2.2.2.2.2.2.2.2.2.2.2.2.2.2.2.2.2.1, x.2.2.2.2.2.2.2.2.2.2.2.2.2.2.2.2.2.2.2.2.2.2.2.1, x.2.2.2.2.2.2.2.2.2.2.2.2.2.2.2.2.2.2.2.2.2.2.2.2.1, x.2.2.2.2.2.2.2.2.2.2.2.2.2.2.2.2.2.2.2.2.2.2.2.2.2.1, x.2.2.2.2.2.2.2.2.2.2.2.2.2.2.2.2.2.2.2.2.2.2.2.2.2.2.1, x.2.2.2.2.2.2.2.2.2.2.2.2.2.2.2.2.2.2.2.2.2.2.2.2.2.2.2.1, x.2.2.2.2.2.2.2.2.2.2.2.2.2.2.2.2.2.2.2.2.2.2.2.2.2.2.2.2.1, x.2.2.2.2.2.2.2.2.2.2.2.2.2.2.2.2.2.2.2.2.2.2.2.2.2.2.2.2.2.1, x.2.2.2.2.2.2.2.2.2.2.2.2.2.2.2.2.2.2.2.2.2.2.2.2.2.2.2.2.2.2.1, x.2.2.2.2.2.2.2.2.2.2.2.2.2.2.2.2.2.2.2.2.2.2.2.2.2.2.2.2.2.2.2.1, x.2.2.2.2.2.2.2.2.2.2.2.2.2.2.2.2.2.2.2.2.2.2.2.2.2.2.2.2.2.2.2.2.1, x.2.2.2.2.2.2.2.2.2.2.2.2.2.2.2.2.2.2.2.2.2.2.2.2.2.2.2.2.2.2.2.2.2.1, x.2.2.2.2.2.2.2.2.2.2.2.2.2.2.2.2.2.2.2.2.2.2.2.2.2.2.2.2.2.2.2.2.2.2.1, x.2.2.2.2.2.2.2.2.2.2.2.2.2.2.2.2.2.2.2.2.2.2.2.2.2.2.2.2.2.2.2.2.2.2.2.1, x.2.2.2.2.2.2.2.2.2.2.2.2.2.2.2.2.2.2.2.2.2.2.2.2.2.2.2.2.2.2.2.2.2.2.2.2.1, x.2.2.2.2.2.2.2.2.2.2.2.2.2.2.2.2.2.2.2.2.2.2.2.2.2.2.2.2.2.2.2.2.2.2.2.2.2.1, x.2.2.2.2.2.2.2.2.2.2.2.2.2.2.2.2.2.2.2.2.2.2.2.2.2.2.2.2.2.2.2.2.2.2.2.2.2.2.1, x.2.2.2.2.2.2.2.2.2.2.2.2.2.2.2.2.2.2.2.2.2.2.2.2.2.2.2.2.2.2.2.2.2.2.2.2.2.2.2.1, x.2.2.2.2.2.2.2.2.2.2.2.2.2.2.2.2.2.2.2.2.2.2.2.2.2.2.2.2.2.2.2.2.2.2.2.2.2.2.2.2.1, x.2.2.2.2.2.2.2.2.2.2.2.2.2.2.2.2.2.2.2.2.2.2.2.2.2.2.2.2.2.2.2.2.2.2.2.2.2.2.2.2.2)
abbrev sMO_sBegin (x : MOt) (v : (Nat → Int64)) : MOt := (x.1, x.2.1, x.2.2.1, x.2.2.2.1, x.2.2.2.2.1, x.2.2.2.2.2.1, x.2.2.2.2.2.2.1, x.2.2.2.2.2.2.2.1, x.2.2.2.2.2.2.2.2.1, x.2.2.2.2.2.2.2.2.2.1, x.2.2.2.2.2.2.2.2.2.2.1, x.2.2.2.2.2.2.2.2.2.2.2.1, x.2.2.2.2.2.2.2.2.2.2.2.2.1, x.2.2.2.2.2.2.2.2.2.2.2.2.2.1, x.2.2.2.2.2.2.2.2.2.2.2.2.2.2.1, x.2.2.2.2.2.2.2.2.2.2.2.2.2.2.2.1, x.2.2.2.2.2.2.2.2.2.2.2.2.2.2.2.2.1, x.2.2.2.2.2.2.2.2.2.2.2.2.2.2.2.2.2.1, x.2.2.2.2.2.2.2.2.2.2.2.2.2.2.2.2.2.2.1, x.2.2.2.2.2.2.2.2.2.2.2.2.2.2.2.2.2.2.2.1, x.2.2.2.2.2.2.2.2.2.2.2.2.2.2.2.2.2.2.2.2.1, x.2.2.2.2.2.2.2.2.2.2.2.2.2.2.2.2.2.2.2.2.2.1, v, x.2.2.2.2.2.2.2.2.2.2.2.2.2.2.2.2.2.2.2.2.2.2.2.1, x.2.2.2.2.2.2.2.2.2.2.2.2.2.2.2.2.2.2.2.2.2.2.2.2.1, x.2.2.2.2.2.2.2.2.2.2.2.2.2.2.2.2.2.2.2.2.2.2.2.2.2.1, x.2.2.2.2.2.2.2.2.2.2.2.2.2.2.2.2.2.2.2.2.2.2.2.2.2.2.1, x.2.2.2.2.2.2.2.2.2.2.2.2.2.2.2.2.2.2.2.2.2.2.2.2.2.2.2.1, x.2.2.2.2.2.2.2.2.2.2.2.2.2.2.2.2.2.2.2.2.2.2.2.2.2.2.2.2.1, x.2.2.2.2.2.2.2.2.2.2.2.2.2.2.2.2.2.2.2.2.2.2.2.2.2.2.2.2.2.1, x.2.2.2.2.2.2.2.2.2.2.2.2.2.2.2.2.2.2.2.2.2.2.2.2.2.2.2.2.2.2.1, x.2.2.2.2.2.2.2.2.2.2.2.2.2.2.2.2.2.2.2.2.2.2.2.2.2.2.2.2.2.2.2.1, x.2.2.2.2.2.2.2.2.2.2.2.2.2.2.2.2.2.2.2.2.2.2.2.2.2.2.2.2.2.2.2.2.1, x.2.2.2.2.2.2.2.2.2.2.2.2.2.2.2.2.2.2.2.2.2.2.2.2.2.2.2.2.2.2.2.2.2.1, x.2.2.2.2.2.2.2.2.2.2.2.2.2.2.2.2.2.2.2.2.2.2.2.2.2.2.2.2.2.2.2.2.2.2.1, x.2.2.2.2.2.2.2.2.2.2.2.2.2.2.2.2.2.2.2.2.2.2.2.2.2.2.2.2.2.2.2.2.2.2.2.1, x.2.2.2.2.2.2.2.2.2.2.2.2.2.2.2.2.2.2.2.2.2.2.2.2.2.2.2.2.2.2.2.2.2.2.2.2.1, x.2.2.2.2.2.2.2.2.2.2.2.2.2.2.2.2.2.2.2.2.2.2.2.2.2.2.2.2.2.2.2.2.2.2.2.2.2.1, x.2.2.2.2.2.2.2.2.2.2.2.2.2.2.2.2.2.2.2.2.2.2.2.2.2.2.2.2.2.2.2.2.2.2.2.2.2.2.1, x.2.2.2.2.2.2.2.2.2.2.2.2.2.2.2.2.2.2.2.2.2.2.2.2.2.2.2.2.2.2.2.2.2.2.2.2.2.2.2.1, x.2.2.2.2.2.2.2.2.2.2.2.2.2.2.2.2.2.2.2.2.2.2.2.2.2.2.2.2.2.2.2.2.2.2.2.2.2.2.2.2.1, x.2.2.2.2.2.2.2.2.2.2.2.2.2.2.2.2.2.2.2.2.2.2.2.2.2.2.2.2.2.2.2.2.2.2.2.2.2.2.2.2.2)
abbrev sMO_sEnd (x : MOt) (v : (Nat → Int64)) : MOt := (x.1, x.2.1, x.2.2.1, x.2.2.2.1, x.2.2.2.2.1, x.2.2.2.2.2.1, x.2.2.2.2.2.2.1, x.2.2.2.2.2.2.2.1, x.2.2.2.2.2.2.2.2.1, x.2.2.2.2.2.2.2.2.2.1, x.2.2.2.2.2.2.2.2.2.2.1, x.2.2.2.2.2.2.2.2.2.2.2.1, x.2.2.2.2.2.2.2.2.2.2.2.2.1, x.2.2.2.2.2.2.2.2.2.2.2.2.2.1, x.2.2.2.2.2.2.2.2.2.2.2.2.2.2.1, x.2.2.2.2.2.2.2.2.2.2.2.2.2.2.2.1, x.2.2.2.2.2.2.2.2.2.2.2.2.2.2.2.2.1, x.2.2.2.2.2.2.2.2.2.2.2.2.2.2.2.2.2.1, x.2.2.2.2.2.2.2.2.2.2.2.2.2.2.2.2.2.2.1, x.2.2.2.2.2.2.2.2.2.2.2.2.2.2.2.2.2.2.2.1, x.2.2.2.2.2.2.2.2.2.2.2.2.2.2.2.2.2.2.2.2.1, x.2.2.2.2.2.2.2.2.2.2.2.2.2.2.2.2.2.2.2.2.2.1, x.2.2.2.2.2.2.2.2.2.2.2.2.2.2.2.2.2.2.2.2.2.2.1, v, x.2.2.2.2.2.2.2.2.2.2.2.2.2.2.2.2.2.2.2.2.2.2.2.2.1, x.2.2.2.2.2.2.2.2.2.2.2.2.2.2.2.2.2.2.2.2.2.2.2.2.2.1, x.2.2.2.2.2.2.2.2.2.2.2.2.2.2.2.2.2.2.2.2.2.2.2.2.2.2.1, x.2.2.2.2.2.2.2.2.2.2.2.2.2.2.2.2.2.2.2.2.2.2.2.2.2.2.2.1, x.2.2.2.2.2.2.2.2.2.2.2.2.2.2.2.2.2.2.2.2.2.2.2.2.2.2.2.2.1, x.2.2.2.2.2.2.2.2.2.2.2.2.2.2.2.2.2.2.2.2.2.2.2.2.2.2.2.2.2.1, x.2.2.2.2.2.2.2.2.2.2.2.2.2.2.2.2.2.2.2.2.2.2.2.2.2.2.2.2.2.2.1, x.2.2.2.2.2.2.2.2.2.2.2.2.2.2.2.2.2.2.2.2.2.2.2.2.2.2.2.2.2.2.2.1, x.2.2.2.2.2.2.2.2.2.2.2.2.2.2.2.2.2.2.2.2.2.2.2.2.2.2.2.2.2.2.2.2.1, x.2.2.2.2.2.2.2.2.2.2.2.2.2.2.2.2.2.2.2.2.2.2.2.2.2.2.2.2.2.2.2.2.2.1, x.2.2.2.2.2.2.2.2.2.2.2.2.2.2.2.2.2.2.2.2.2.2.2.2.2.2.2.2.2.2.2.2.2.2.1, x.2.2.2.2.2.2.2.2.2.2.2.2.2.2.2.2.2.2.2.2.2.2.2.2.2.2.2.2.2.2.2.2.2.2.2.1, x.2.2.2.2.2.2.2.2.2.2.2.2.2.2.2.2.2.2.2.2.2.2.2.2.2.2.2.2.2.2.2.2.2.2.2.2.1, x.2.2.2.2.2.2.2.2.2.2.2.2.2.2.2.2.2.2.2.2.2.2.2.2.2.2.2.2.2.2.2.2.2.2.2.2.2.1, x.2.2.2.2.2.2.2.2.2.2.2.2.2.2.2.2.2.2.2.2.2.2.2.2.2.2.2.2.2.2.2.2.2.2.2.2.2.2.1, x.2.2.2.2.2.2.2.2.2.2.2.2.2.2.2.2.2.2.2.2.2.2.2.2.2.2.2.2.2.2.2.2.2.2.2.2.2.2.2.1, x.2.2.2.2.2.2.2.2.2.2.2.2.2.2.2.2.2.2.2.2.2.2.2.2.2.2.2.2.2.2.2.2.2.2.2.2.2.2.2.2.1, x.2.2.2.2.2.2.2.2.2.2.2.2.2.2.2.2.2.2.2.2.2.2.2.2.2.2.2.2.2.2.2.2.2.2.2.2.2.2.2.2.2)
abbrev sMO_sFired (x : MOt) (v : (Nat → Int32)) : MOt := (x.1, x.2.1, x.2.2.1, x.2.2.2.1, x.2.2.2.2.1, x.2.2.2.2.2.1, x.2.2.2.2.2.2.1, x.2.2.2.2.2.2.2.1, x.2.2.2.2.2.2.2.2.1, x.2.2.2.2.2.2.2.2.2.1, x.2.2.2.2.2.2.2.2.2.2.1, x.2.2.2.2.2.2.2.2.2.2.2.1, x.2.2.2.2.2.2.2.2.2.2.2.2.1, x.2.2.2.2.2.2.2.2.2.2.2.2.2.1, x.2.2.2.2.2.2.2.2.2.2.2.2.2.2.1, x.2.2.2.2.2.2.2.2.2.2.2.2.2.2.2.1, x.2.2.2.2.2.2.2.2.2.2.2.2.2.2.2.2.1, x.2.2.2.2.2.2.2.2.2.2.2.2.2.2.2.2.2.1, x.2.2.2.2.2.2.2.2.2.2.2.2.2.2.2.2.2.2.1, x.2.2.2.2.2.2.2.2.2.2.2.2.2.2.2.2.2.2.2.1, x.2.2.2.2.2.2.2.2.2.2.2.2.2.2.2.2.2.2.2.2.1, x.2.2.2.2.2.2.2.2.2.2.2.2.2.2.2.2.2.2.2.2.2.1, x.2.2.2.2.2.2.2.2.2.2.2.2.2.2.2.2.2.2.2.2.2.2.1, x.2.2.2.2.2.2.2.2.2.2.2.2.2.2.2.2.2.2.2.2.2.2.2.1, v, x.2.2.2.2.2.2.2.2.2.2.2.2.2.2.2.2.2.2.2.2.2.2.2.2.2.1, x.2.2.2.2.2.2.2.2.2.2.2.2.2.2.2.2.2.2.2.2.2.2.2.2.2.2.1, x.2.2.2.2.2.2.2.2.2.2.2.2.2.2.2.2.2.2.2.2.2.2.2.2.2.2.2.1, x.2.2.2.2.2.2.2.2.2.2.2.2.2.2.2.2.2.2.2.2.2.2.2.2.2.2.2.2.1, x.2.2.2.2.2.2.2.2.2.2.2.2.2.2.2.2.2.2.2.2.2.2.2.2.2.2.2.2.2.1, x.2.2.2.2.2.2.2.2.2.2.2.2.2.2.2.2.2.2.2.2.2.2.2.2.2.2.2.2.2.2.1, x.2.2.2.2.2.2.2.2.2.2.2.2.2.2.2.2.2.2.2.2.2.2.2.2.2.2.2.2.2.2.2.1, x.2.2.2.2.2.2.2.2.2.2.2.2.2.2.2.2.2.2.2.2.2.2.2.2.2.2.2.2.2.2.2.2.1, x.2.2.2.2.2.2.2.2.2.2.2.2.2.2.2.2.2.2.2.2.2.2.2.2.2.2.2.2.2.2.2.2.2.1, x.2.2.2.2.2.2.2.2.2.2.2.2.2.2.2.2.2.2.2.2.2.2.2.2.2.2.2.2.2.2.2.2.2.2.1, x.2.2.2.2.2.2.2.2.2.2.2.2.2.2.2.2.2.2.2.2.2.2.2.2.2.2.2.2.2.2.2.2.2.2.2.1, x.2.2.2.2.2.2.2.2.2.2.2.2.2.2.2.2.2.2.2.2.2.2.2.2.2.2.2.2.2.2.2.2.2.2.2.2.1, x.2.2.2.2.2.2.2.2.2.2.2.2.2.2.2.2.2.2.2.2.2.2.2.2.2.2.2.2.2.2.2.2.2.2.2.2.2.1, x.2.2.2.2.2.2.2.2.2.2.2.2.2.2.2.2.2.2.2.2.2.2.2.2.2.2.2.2.2.2.2.2.2.2.2.2.2.2.1, x.2.2.2.2.2.2.2.2.2.2.2.2.2.2.2.2.2.2.2.2.2.2.2.2.2.2.2.2.2.2.2.2.2.2.2.2.2.2.2.1, x.2.2.2.2.2.2.2.2.2.2.2.2.2.2.2.2.2.2.2.2.2.2.2.2.2.2.2.2.2.2.2.2.2.2.2.2.2.2.2.2.1, x.2.2.2.2.2.2.2.2.2.2.2.2.2.2.2.2.2.2.2.2.2.2.2.2.2.2.2.2.2.2.2.2.2.2.2.2.2.2.2.2.2)
abbrev sMO_sPut (x : MOt) (v : (Nat → Int32)) : MOt := (x.1, x.2.1, x.2.2.1, x.2.2.2.1, x.2.2.2.2.1, x.2.2.2.2.2.1, x.2.2.2.2.2.2.1, x.2.2.2.2.2.2.2.1, x.2.2.2.2.2.2.2.2.1, x.2.2.2.2.2.2.2.2.2.1, x.2.2.2.2.2.2.2.2.2.2.1, x.2.2.2.2.2.2.2.2.2.2.2.1, x.2.2.2.2.2.2.2.2.2.2.2.2.1, x.2.2.2.2.2.2.2.2.2.2.2.2.2.1, x.2.2.2.2.2.2.2.2.2.2.2.2.2.2.1, x.2.2.2.2.2.2.2.2.2.2.2.2.2.2.2.1, x.2.2.2.2.2.2.2.2.2.2.2.2.2.2.2.2.1, x.2.2.2.2.2.2.2.2.2.2.2.2.2.2.2.2.2.1, x.2.2.2.2.2.2.2.2.2.2.2.2.2.2.2.2.2.2.1, x.2.2.2.2.2.2.2.2.2.2.2.2.2.2.2.2.2.2.2.1, x.2.2.2.2.2.2.2.2.2.2.2.2.2.2.2.2.2.2.2.2.1, x.2.2.2.2.2.2.2.2.2.2.2.2.2.2.2.2.2.2.2.2.2.1, x.2.2.2.2.2.2.2.2.2.2.2.2.2.2.2.2.2.2.2.2.2.2.1, x.2.2.2.2.2.2.2.2.2.2.2.2.2.2.2.2.2.2.2.2.2.2.2.1, x.2.2.2.2.2.2.2.2.2.2.2.2.2.2.2.2.2.2.2.2.2.2.2.2.1, v, x.2.2.2.2.2.2.2.2.2.2.2.2.2.2.2.2.2.2.2.2.2.2.2.2.2.2.1, x.2.2.2.2.2.2.2.2.2.2.2.2.2.2.2.2.2.2.2.2.2.2.2.2.2.2.2.1, x.2.2.2.2.2.2.2.2.2.2.2.2.2.2.2.2.2.2.2.2.2.2.2.2.2.2.2.2.1, x.2.2.2.2.2.2.2.2.2.2.2.2.2.2.2.2.2.2.2.2.2.2.2.2.2.2.2.2.2.1, x.2.2.2.2.2.2.2.2.2.2.2.2.2.2.2.2.2.2.2.2.2.2.2.2.2.2.2.2.2.2.1, x.2.2.2.2.2.2.2.2.2.2.2.2.2.2.2.2.2.2.2.2.2.2.2.2.2.2.2.2.2.2.2.1, x.2.2.2.2.2.2.2.2.2.2.2.2.2.2.2.2.2.2.2.2.2.2.2.2.2.2.2.2.2.2.2.2.1, x.2.2.2.2.2.2.2.2.2.2.2.2.2.2.2.2.2.2.2.2.2.2.2.2.2.2.2.2.2.2.2.2.2.1, x.2.2.2.2.2.2.2.2.2.2.2.2.2.2.2.2.2.2.2.2.2.2.2.2.2.2.2.2.2.2.2.2.2.2.1, x.2.2.2.2.2.2.2.2.2.2.2.2.2.2.2.2.2.2.2.2.2.2.2.2.2.2.2.2.2.2.2.2.2.2.2.1, x.2.2.2.2.2.2.2.2.2.2.2.2.2.2.2.2.2.2.2.2.2.2.2.2.2.2.2.2.2.2.2.2.2.2.2.2.1, x.2.2.2.2.2.2.2.2.2.2.2.2.2.2.2.2.2.2.2.2.2.2.2.2.2.2.2.2.2.2.2.2.2.2.2.2.2.1, x.2.2.2.2.2.2.2.2.2.2.2.2.2.2.2.2.2.2.2.2.2.2.2.2.2.2.2.2.2.2.2.2.2.2.2.2.2.2.1, x.2.2.2.2.2.2.2.2.2.2.2.2.2.2.2.2.2.2.2.2.2.2.2.2.2.2.2.2.2.2.2.2.2.2.2.2.2.2.2.1, x.2.2.2.2.2.2.2.2.2.2.2.2.2.2.2.2.2.2.2.2.2.2.2.2.2.2.2.2.2.2.2.2.2.2.2.2.2.2.2.2.1, x.2.2.2.2.2.2.2.2.2.2.2.2.2.2.2.2.2.2.2.2.2.2.2.2.2.2.2.2.2.2.2.2.2.2.2.2.2.2.2.2.2)
abbrev sMO_sEnded (x : MOt) (v : (Nat → Int32)) : MOt := (x.1, x.2.1, x.2.2.1, x.2.2.2.1, x.2.2.2.2.1, x.2.2.2.2.2.1, x.2.2.2.2.2.2.1, x.2.2.2.2.2.2.2.1, x.2.2.2.2.2.2.2.2.1, x.2.2.2.2.2.2.2.2.2.1, x.2.2.2.2.2.2.2.2.2.2.1, x.2.2.2.2.2.2.2.2.2.2.2.1, x.2.2.2.2.2.2.2.2.2.2.2.2.1, x.2.2.2.2.2.2.2.2.2.2.2.2.2.1, x.2.2.2.2.2.2.2.2.2.2.2.2.2.2.1, x.2.2.2.2.2.2.2.2.2.2.2.2.2.2.2.1, x.2.2.2.2.2.2.2.2.2.2.2.2.2.2.2.2.1, x.2.2.2.2.2.2.2.2.2.2.2.2.2.2.2.2.2.1, x.2.2.2.2.2.2.2.2.2.2.2.2.2.2.2.2.2.2.1, x.2.2.2.2.2.2.2.2.2.2.2.2.2.2.2.2.2.2.2.1, x.2.2.2.2.2.2.2.2.2.2.2.2.2.2.2.2.2.2.2.2.1, x.2.2.2.2.2.2.2.2.2.2.2.2.2.2.2.2.2.2.2.2.2.1, x.2.2.2.2.2.2.2.2.2.2.2.2.2.2.2.2.2.2.2.2.2.2.1, x.2.2.2.2.2.2.2.2.2.2.2.2.2.2.2.2.2.2.2.2.2.2.2.1, x.2.2.2.2.2.2.2.2.2.2.2.2.2.2.2.2.2.2.2.2.2.2.2.2.1, x.2.2.2.2.2.2.2.2.2.2.2.2.2.2.2.2.2.2.2.2.2.2.2.2.2.1, v, x.2.2.2.2.2.2.2.2.2.2.2.2.2.2.2.2.2.2.2.2.2.2.2.2.2.2.2.1, x.2.2.2.2.2.2.2.2.2.2.2.2.2.2.2.2.2.2.2.2.2.2.2.2.2.2.2.2.1, x.2.2.2.2.2.2.2.2.2.2.2.2.2.2.2.2.2.2.2.2.2.2.2.2.2.2.2.2.2.1, x.2.2.2.2.2.2.2.2.2.2.2.2.2.2.2.2.2.2.2.2.2.2.2.2.2.2.2.2.2.2.1, x.2.2.2.2.2.2.2.2.2.2.2.2.2.2.2.2.2.2.2.2.2.2.2.2.2.2.2.2.2.2.2.1, x.2.2.2.2.2.2.2.2.2.2.2.2.2.2.2.2.2.2.2.2.2.2.2.2.2.2.2.2.2.2.2.2.1, x.2.2.2.2.2.2.2.2.2.2.2.2.2.2.2.2.2.2.2.2.2.2.2.2.2.2.2.2.2.2.2.2.2.1, x.2.2.2.2.2.2.2.2.2.2.2.2.2.2.2.2.2.2.2.2.2.2.2.2.2.2.2.2.2.2.2.2.2.2.1, x.2.2.2.2.2.2.2.2.2.2.2.2.2.2.2.2.2.2.2.2.2.2.2.2.2.2.2.2.2.2.2.2.2.2.2.1, x.2.2.2.2.2.2.2.2.2.2.2.2.2.2.2.2.2.2.2.2.2.2.2.2.2.2.2.2.2.2.2.2.2.2.2.2.1, x.2.2.2.2.2.2.2.2.2.2.2.2.2.2.2.2.2.2.2.2.2.2.2.2.2.2.2.2.2.2.2.2.2.2.2.2.2.1, x.2.2.2.2.2.2.2.2.2.2.2.2.2.2.2.2.2.2.2.2.2.2.2.2.2.2.2.2.2.2.2.2.2.2.2.2.2.2.1, x.2.2.2.2.2.2.2.2.2.2.2.2.2.2.2.2.2.2.2.2.2.2.2.2.2.2.2.2.2.2.2.2.2.2.2.2.2.2.2.1, x.2.2.2.2.2.2.2.2.2.2.2.2.2.2.2.2.2.2.2.2.2.2.2.2.2.2.2.2.2.2.2.2.2.2.2.2.2.2.2.2.1, x.2.2.2.2.2.2.2.2.2.2.2.2.2.2.2.2.2.2.2.2.2.2.2.2.2.2.2.2.2.2.2.2.2.2.2.2.2.2.2.2.2)
abbrev sMO_has (x : MOt) (v : (Nat → Int32)) : MOt := (x.1, x.2.1, x.2.2.1, x.2.2.2.1, x.2.2.2.2.1, x.2.2.2.2.2.1, x.2.2.2.2.2.2.1, x.2.2.2.2.2.2.2.1, x.2.2.2.2.2.2.2.2.1, x.2.2.2.2.2.2.2.2.2.1, x.2.2.2.2.2.2.2.2.2.2.1, x.2.2.2.2.2.2.2.2.2.2.2.1, x.2.2.2.2.2.2.2.2.2.2.2.2.1, x.2.2.2.2.2.2.2.2.2.2.2.2.2.1, x.2.2.2.2.2.2.2.2.2.2.2.2.2.2.1, x.2.2.2.2.2.2.2.2.2.2.2.2.2.2.2.1, x.2.2.2.2.2.2.2.2.2.2.2.2.2.2.2.2.1, x.2.2.2.2.2.2.2.2.2.2.2.2.2.2.2.2.2.1, x.2.2.2.2.2.2.2.2.2.2.2.2.2.2.2.2.2.2.1, x.2.2.2.2.2.2.2.2.2.2.2.2.2.2.2.2.2.2.2.1, x.2.2.2.2.2.2.2.2.2.2.2.2.2.2.2.2.2.2.2.2.1, x.2.2.2.2.2.2.2.2.2.2.2.2.2.2.2.2.2.2.2.2.2.1, x.2.2.2.2.2.2.2.2.2.2.2.2.2.2.2.2.2.2.2.2.2.2.1, x.2.2.2.2.2.2.2.2.2.2.2.2.2.2.2.2.2.2.2.2.2.2.2.1, x.2.2.2.2.2.2.2.2.2.2.2.2.2.2.2.2.2.2.2.2.2.2.2.2.1, x.2.2.2.2.2.2.2.2.2.2.2.2.2.2.2.2.2.2.2.2.2.2.2.2.2.1, x.2.2.2.2.2.2.2.2.2.2.2.2.2.2.2.2.2.2.2.2.2.2.2.2.2.2.1, v, x.2.2.2.2.2.2.2.2.2.2.2.2.2.2.2.2.2.2.2.2.2.2.2.2.2.2.2.2.1, x.2.2.2.2.2.2.2.2.2.2.2.2.2.2.2.2.2.2.2.2.2.2.2.2.2.2.2.2.2.1, x.2.2.2.2.2.2.2.2.2.2.2.2.2.2.2.2.2.2.2.2.2.2.2.2.2.2.2.2.2.2.1, x.2.2.2.2.2.2.2.2.2.2.2.2.2.2.2.2.2.2.2.2.2.2.2.2.2.2.2.2.2.2.2.1, x.2.2.2.2.2.2.2.2.2.2.2.2.2.2.2.2.2.2.2.2.2.2.2.2.2.2.2.2.2.2.2.2.1, x.2.2.2.2.2.2.2.2.2.2.2.2.2.2.2.2.2.2.2.2.2.2.2.2.2.2.2.2.2.2.2.2.2.1, x.2.2.2.2.2.2.2.2.2.2.2.2.2.2.2.2.2.2.2.2.2.2.2.2.2.2.2.2.2.2.2.2.2.2.1, x.2.2.2.2.2.2.2.2.2.2.2.2.2.2.2.2.2.2.2.2.2.2.2.2.2.2.2.2.2.2.2.2.2.2.2.1, x.2.2.2.2.2.2.2.2.2.2.2.2.2.2.2.2.2.2.2.2.2.2.2.2.2.2.2.2.2.2.2.2.2.2.2.2.1, x.2.2.2.2.2.2.2.2.2.2.2.2.2.2.2.2.2.2.2.2.2.2.2.2.2.2.2.2.2.2.2.2.2.2.2.2.2.1, x.2.2.2.2.2.2.2.2.2.2.2.2.2.2.2.2.2.2.2.2.2.2.2.2.2.2.2.2.2.2.2.2.2.2.2.2.2.2.1, x.2.2.2.2.2.2.2.2.2.2.2.2.2.2.2.2.2.2.2.2.2.2.2.2.2.2.2.2.2.2.2.2.2.2.2.2.2.2.2.1, x.2.2.2.2.2.2.2.2.2.2.2.2.2.2.2.2.2.2.2.2.2.2.2.2.2.2.2.2.2.2.2.2.2.2.2.2.2.2.2.2.1, x.2.2.2.2.2.2.2.2.2.2.2.2.2.2.2.2.2.2.2.2.2.2.2.2.2.2.2.2.2.2.2.2.2.2.2.2.2.2.2.2.2)
abbrev sMO_toldOf (x : MOt) (v : (Nat → Int32)) : MOt := (x.1, x.2.1, x.2.2.1, x.2.2.2.1, x.2.2.2.2.1, x.2.2.2.2.2.1, x.2.2.2.2.2.2.1, x.2.2.2.2.2.2.2.1, x.2.2.2.2.2.2.2.2.1, x.2.2.2.2.2.2.2.2.2.1, x.2.2.2.2.2.2.2.2.2.2.1, x.2.2.2.2.2.2.2.2.2.2.2.1, x.2.2.2.2.2.2.2.2.2.2.2.2.1, x.2.2.2.2.2.2.2.2.2.2.2.2.2.1, x.2.2.2.2.2.2.2.2.2.2.2.2.2.2.1, x.2.2.2.2.2.2.2.2.2.2.2.2.2.2.2.1, x.2.2.2.2.2.2.2.2.2.2.2.2.2.2.2.2.1, x.2.2.2.2.2.2.2.2.2.2.2.2.2.2.2.2.2.1, x.2.2.2.2.2.2.2.2.2.2.2.2.2.2.2.2.2.2.1, x.2.2.2.2.2.2.2.2.2.2.2.2.2.2.2.2.2.2.2.1, x.2.2.2.2.2.2.2.2.2.2.2.2.2.2.2.2.2.2.2.2.1, x.2.2.2.2.2.2.2.2.2.2.2.2.2.2.2.2.2.2.2.2.2.1, x.2.2.2.2.2.2.2.2.2.2.2.2.2.2.2.2.2.2.2.2.2.2.1, x.2.2.2.2.2.2.2.2.2.2.2.2.2.2.2.2.2.2.2.2.2.2.2.1, x.2.2.2.2.2.2.2.2.2.2.2.2.2.2.2.2.2.2.2.2.2.2.2.2.1, x.2.2.2.2.2.2.2.2.2.2.2.2.2.2.2.2.2.2.2.2.2.2.2.2.2.1, x.2.2.2.2.2.2.2.2.2.2.2.2.2.2.2.2.2.2.2.2.2.2.2.2.2.2.1, x.2.2.2.2.2.2.2.2.2.2.2.2.2.2.2.2.2.2.2.2.2.2.2.2.2.2.2.1, v, x.2.2.2.2.2.2.2.2.2.2.2.2.2.2.2.2.2.2.2.2.2.2.2.2.2.2.2.2.2.1, x.2.2.2.2.2.2.2.2.2.2.2.2.2.2.2.2.2.2.2.2.2.2.2.2.2.2.2.2.2.2.1, x.2.2.2.2.2.2.2.2.2.2.2.2.2.2.2.2.2.2.2.2.2.2.2.2.2.2.2.2.2.2.2.1, x.2.2.2.2.2.2.2.2.2.2.2.2.2.2.2.2.2.2.2.2.2.2.2.2.2.2.2.2.2.2.2.2.1, x.2.2.2.2.2.2.2.2.2.2.2.2.2.2.2.2.2.2.2.2.2.2.2.2.2.2.2.2.2.2.2.2.2.1, x.2.2.2.2.2.2.2.2.2.2.2.2.2.2.2.2.2.2.2.2.2.2.2.2.2.2.2.2.2.2.2.2.2.2.1, x.2.2.2.2.2.2.2.2.2.2.2.2.2.2.2.2.2.2.2.2.2.2.2.2.2.2.2.2.2.2.2.2.2.2.2.1, x.2.2.2.2.2.2.2.2.2.2.2.2.2.2.2.2.2.2.2.2.2.2.2.2.2.2.2.2.2.2.2.2.2.2.2.2.1, x.2.2.2.2.2.2.2.2.2.2.2.2.2.2.2.2.2.2.2.2.2.2.2.2.2.2.2.2.2.2.2.2.2.2.2.2.2.1, x.2.2.2.2.2.2.2.2.2.2.2.2.2.2.2.2.2.2.2.2.2.2.2.2.2.2.2.2.2.2.2.2.2.2.2.2.2.2.1, x.2.2.2.2.2.2.2.2.2.2.2.2.2.2.2.2.2.2.2.2.2.2.2.2.2.2.2.2.2.2.2.2.2.2.2.2.2.2.2.1, x.2.2.2.2.2.2.2.2.2.2.2.2.2.2.2.2.2.2.2.2.2.2.2.2.2.2.2.2.2.2.2.2.2.2.2.2.2.2.2.2.1, x.2.2.2.2.2.2.2.2.2.2.2.2.2.2.2.2.2.2.2.2.2.2.2.2.2.2.2.2.2.2.2.2.2.2.2.2.2.2.2.2.2)
abbrev sMO_spans (x : MOt) (v : Int32) : MOt := (x.1, x.2.1, x.2.2.1, x.2.2.2.1, x.2.2.2.2.1, x.2.2.2.2.2.1, x.2.2.2.2.2.2.1, x.2.2.2.2.2.2.2.1, x.2.2.2.2.2.2.2.2.1, x.2.2.2.2.2.2.2.2.2.1, x.2.2.2.2.2.2.2.2.2.2.1, x.2.2.2.2.2.2.2.2.2.2.2.1, x.2.2.2.2.2.2.2.2.2.2.2.2.1, x.2.2.2.2.2.2.2.2.2.2.2.2.2.1, x.2.2.2.2.2.2.2.2.2.2.2.2.2.2.1, x.2.2.2.2.2.2.2.2.2.2.2.2.2.2.2.1, x.2.2.2.2.2.2.2.2.2.2.2.2.2.2.2.2.1, x.2.2.2.2.2.2.2.2.2.2.2.2.2.2.2.2.2.1, x.2.2.2.2.2.2.2.2.2.2.2.2.2.2.2.2.2.2.1, x.2.2.2.2.2.2.2.2.2.2.2.2.2.2.2.2.2.2.2.1, x.2.2.2.2.2.2.2.2.2.2.2.2.2.2.2.2.2.2.2.2.1, x.2.2.2.2.2.2.2.2.2.2.2.2.2.2.2.2.2.2.2.2.2.1, x.2.2.2.2.2.2.2.2.2.2.2.2.2.2.2.2.2.2.2.2.2.2.1, x.2.2.2.2.2.2.2.2.2.2.2.2.2.2.2.2.2.2.2.2.2.2.2.1, x.2.2.2.2.2.2.2.2.2.2.2.2.2.2.2.2.2.2.2.2.2.2.2.2.1, x.2.2.2.2.2.2.2.2.2.2.2.2.2.2.2.2.2.2.2.2.2.2.2.2.2.1, x.2.2.2.2.2.2.2.2.2.2.2.2.2.2.2.2.2.2.2.2.2.2.2.2.2.2.1, x.2.2.2.2.2.2.2.2.2.2.2.2.2.2.2.2.2.2.2.2.2.2.2.2.2.2.2.1, x.2.2.2.2.2.2.2.2.2.2.2.2.2.2.2.2.2.2.2.2.2.2.2.2.2.2.2.2.1, v, x.2.2.2.2.2.2.2.2.2.2.2.2.2.2.2.2.2.2.2.2.2.2.2.2.2.2.2.2.2.2.1, x.2.2.2.2.2.2.2.2.2.2.2.2.2.2.2.2.2.2.2.2.2.2.2.2.2.2.2.2.2.2.2.1, x.2.2.2.2.2.2.2.2.2.2.2.2.2.2.2.2.2.2.2.2.2.2.2.2.2.2.2.2.2.2.2.2.1, x.2.2.2.2.2.2.2.2.2.2.2.2.2.2.2.2.2.2.2.2.2.2.2.2.2.2.2.2.2.2.2.2.2.1, x.2.2.2.2.2.2.2.2.2.2.2.2.2.2.2.2.2.2.2.2.2.2.2.2.2.2.2.2.2.2.2.2.2.2.1, x.2.2.2.2.2.2.2.2.2.2.2.2.2.2.2.2.2.2.2.2.2.2.2.2.2.2.2.2.2.2.2.2.2.2.2.1, x.2.2.2.2.2.2.2.2.2.2.2.2.2.2.2.2.2.2.2.2.2.2.2.2.2.2.2.2.2.2.2.2.2.2.2.2.1, x.2.2.2.2.2.2.2.2.2.2.2.2.2.2.2.2.2.2.2.2.2.2.2.2.2.2.2.2.2.2.2.2.2.2.2.2.2.1, x.2.2.2.2.2.2.2.2.2.2.2.2.2.2.2.2.2.2.2.2.2.2.2.2.2.2.2.2.2.2.2.2.2.2.2.2.2.2.1, x.2.2.2.2.2.2.2.2.2.2.2.2.2.2.2.2.2.2.2.2.2.2.2.2.2.2.2.2.2.2.2.2.2.2.2.2.2.2.2.1, x.2.2.2.2.2.2.2.2.2.2.2.2.2.2.2.2.2.2.2.2.2.2.2.2.2.2.2.2.2.2.2.2.2.2.2.2.2.2.2.2.1, x.2.2.2.2.2.2.2.2.2.2.2.2.2.2.2.2.2.2.2.2.2.2.2.2.2.2.2.2.2.2.2.2.2.2.2.2.2.2.2.2.2)
abbrev sMO_numbered (x : MOt) (v : (Nat → Int32)) : MOt := (x.1, x.2.1, x.2.2.1, x.2.2.2.1, x.2.2.2.2.1, x.2.2.2.2.2.1, x.2.2.2.2.2.2.1, x.2.2.2.2.2.2.2.1, x.2.2.2.2.2.2.2.2.1, x.2.2.2.2.2.2.2.2.2.1, x.2.2.2.2.2.2.2.2.2.2.1, x.2.2.2.2.2.2.2.2.2.2.2.1, x.2.2.2.2.2.2.2.2.2.2.2.2.1, x.2.2.2.2.2.2.2.2.2.2.2.2.2.1, x.2.2.2.2.2.2.2.2.2.2.2.2.2.2.1, x.2.2.2.2.2.2.2.2.2.2.2.2.2.2.2.1, x.2.2.2.2.2.2.2.2.2.2.2.2.2.2.2.2.1, x.2.2.2.2.2.2.2.2.2.2.2.2.2.2.2.2.2.1, x.2.2.2.2.2.2.2.2.2.2.2.2.2.2.2.2.2.2.1, x.2.2.2.2.2.2.2.2.2.2.2.2.2.2.2.2.2.2.2.1, x.2.2.2.2.2.2.2.2.2.2.2.2.2.2.2.2.2.2.2.2.1, x.2.2.2.2.2.2.2.2.2.2.2.2.2.2.2.2.2.2.2.2.2.1, x.2.2.2.2.2.2.2.2.2.2.2.2.2.2.2.2.2.2.2.2.2.2.1, x.2.2.2.2.2.2.2.2.2.2.2.2.2.2.2.2.2.2.2.2.2.2.2.1, x.2.2.2.2.2.2.2.2.2.2.2.2.2.2.2.2.2.2.2.2.2.2.2.2.1, x.2.2.2.2.2.2.2.2.2.2.2.2.2.2.2.2.2.2.2.2.2.2.2.2.2.1, x.2.2.2.2.2.2.2.2.2.2.2.2.2.2.2.2.2.2.2.2.2.2.2.2.2.2.1, x.2.2.2.2.2.2.2.2.2.2.2.2.2.2.2.2.2.2.2.2.2.2.2.2.2.2.2.1, x.2.2.2.2.2.2.2.2.2.2.2.2.2.2.2.2.2.2.2.2.2.2.2.2.2.2.2.2.1, x.2.2.2.2.2.2.2.2.2.2.2.2.2.2.2.2.2.2.2.2.2.2.2.2.2.2.2.2.2.1, v, x.2.2.2.2.2.2.2.2.2.2.2.2.2.2.2.2.2.2.2.2.2.2.2.2.2.2.2.2.2.2.2.1, x.2.2.2.2.2.2.2.2.2.2.2.2.2.2.2.2.2.2.2.2.2.2.2.2.2.2.2.2.2.2.2.2.1, x.2.2.2.2.2.2.2.2.2.2.2.2.2.2.2.2.2.2.2.2.2.2.2.2.2.2.2.2.2.2.2.2.2.1, x.2.2.2.2.2.2.2.2.2.2.2.2.2.2.2.2.2.2.2.2.2.2.2.2.2.2.2.2.2.2.2.2.2.2.1, x.2.2.2.2.2.2.2.2.2.2.2.2.2.2.2.2.2.2.2.2.2.2.2.2.2.2.2.2.2.2.2.2.2.2.2.1, x.2.2.2.2.2.2.2.2.2.2.2.2.2.2.2.2.2.2.2.2.2.2.2.2.2.2.2.2.2.2.2.2.2.2.2.2.1, x.2.2.2.2.2.2.2.2.2.2.2.2.2.2.2.2.2.2.2.2.2.2.2.2.2.2.2.2.2.2.2.2.2.2.2.2.2.1, x.2.2.2.2.2.2.2.2.2.2.2.2.2.2.2.2.2.2.2.2.2.2.2.2.2.2.2.2.2.2.2.2.2.2.2.2.2.2.1, x.2.2.2.2.2.2.2.2.2.2.2.2.2.2.2.2.2.2.2.2.2.2.2.2.2.2.2.2.2.2.2.2.2.2.2.2.2.2.2.1, x.2.2.2.2.2.2.2.2.2.2.2.2.2.2.2.2.2.2.2.2.2.2.2.2.2.2.2.2.2.2.2.2.2.2.2.2.2.2.2.2.1, x.2.2.2.2.2.2.2.2.2.2.2.2.2.2.2.2.2.2.2.2.2.2.2.2.2.2.2.2.2.2.2.2.2.2.2.2.2.2.2.2.2)
abbrev sMO_nextSpan (x : MOt) (v : (Nat → Int32)) : MOt := (x.1, x.2.1, x.2.2.1, x.2.2.2.1, x.2.2.2.2.1, x.2.2.2.2.2.1, x.2.2.2.2.2.2.1, x.2.2.2.2.2.2.2.1, x.2.2.2.2.2.2.2.2.1, x.2.2.2.2.2.2.2.2.2.1, x.2.2.2.2.2.2.2.2.2.2.1, x.2.2.2.2.2.2.2.2.2.2.2.1, x.2.2.2.2.2.2.2.2.2.2.2.2.1, x.2.2.2.2.2.2.2.2.2.2.2.2.2.1, x.2.2.2.2.2.2.2.2.2.2.2.2.2.2.1, x.2.2.2.2.2.2.2.2.2.2.2.2.2.2.2.1, x.2.2.2.2.2.2.2.2.2.2.2.2.2.2.2.2.1, x.2.2.2.2.2.2.2.2.2.2.2.2.2.2.2.2.2.1, x.2.2.2.2.2.2.2.2.2.2.2.2.2.2.2.2.2.2.1, x.2.2.2.2.2.2.2.2.2.2.2.2.2.2.2.2.2.2.2.1, x.2.2.2.2.2.2.2.2.2.2.2.2.2.2.2.2.2.2.2.2.1, x.2.2.2.2.2.2.2.2.2.2.2.2.2.2.2.2.2.2.2.2.2.1, x.2.2.2.2.2.2.2.2.2.2.2.2.2.2.2.2.2.2.2.2.2.2.1, x.2.2.2.2.2.2.2.2.2.2.2.2.2.2.2.2.2.2.2.2.2.2.2.1, x.2.2.2.2.2.2.2.2.2.2.2.2.2.2.2.2.2.2.2.2.2.2.2.2.1, x.2.2.2.2.2.2.2.2.2.2.2.2.2.2.2.2.2.2.2.2.2.2.2.2.2.1, x.2.2.2.2.2.2.2.2.2.2.2.2.2.2.2.2.2.2.2.2.2.2.2.2.2.2.1, x.2.2.2.2.2.2.2.2.2.2.2.2.2.2.2.2.2.2.2.2.2.2.2.2.2.2.2.1, x.2.2.2.2.2.2.2.2.2.2.2.2.2.2.2.2.2.2.2.2.2.2.2.2.2.2.2.2.1, x.2.2.2.2.2.2.2.2.2.2.2.2.2.2.2.2.2.2.2.2.2.2.2.2.2.2.2.2.2.1, x.2.2.2.2.2.2.2.2.2.2.2.2.2.2.2.2.2.2.2.2.2.2.2.2.2.2.2.2.2.2.1, v, x.2.2.2.2.2.2.2.2.2.2.2.2.2.2.2.2.2.2.2.2.2.2.2.2.2.2.2.2.2.2.2.2.1, x.2.2.2.2.2.2.2.2.2.2.2.2.2.2.2.2.2.2.2.2.2.2.2.2.2.2.2.2.2.2.2.2.2.1, x.2.2.2.2.2.2.2.2.2.2.2.2.2.2.2.2.2.2.2.2.2.2.2.2.2.2.2.2.2.2.2.2.2.2.1, x.2.2.2.2.2.2.2.2.2.2.2.2.2.2.2.2.2.2.2.2.2.2.2.2.2.2.2.2.2.2.2.2.2.2.2.1, x.2.2.2.2.2.2.2.2.2.2.2.2.2.2.2.2.2.2.2.2.2.2.2.2.2.2.2.2.2.2.2.2.2.2.2.2.1, x.2.2.2.2.2.2.2.2.2.2.2.2.2.2.2.2.2.2.2.2.2.2.2.2.2.2.2.2.2.2.2.2.2.2.2.2.2.1, x.2.2.2.2.2.2.2.2.2.2.2.2.2.2.2.2.2.2.2.2.2.2.2.2.2.2.2.2.2.2.2.2.2.2.2.2.2.2.1, x.2.2.2.2.2.2.2.2.2.2.2.2.2.2.2.2.2.2.2.2.2.2.2.2.2.2.2.2.2.2.2.2.2.2.2.2.2.2.2.1, x.2.2.2.2.2.2.2.2.2.2.2.2.2.2.2.2.2.2.2.2.2.2.2.2.2.2.2.2.2.2.2.2.2.2.2.2.2.2.2.2.1, x.2.2.2.2.2.2.2.2.2.2.2.2.2.2.2.2.2.2.2.2.2.2.2.2.2.2.2.2.2.2.2.2.2.2.2.2.2.2.2.2.2)
abbrev sMO_told (x : MOt) (v : (Nat → Int64)) : MOt := (x.1, x.2.1, x.2.2.1, x.2.2.2.1, x.2.2.2.2.1, x.2.2.2.2.2.1, x.2.2.2.2.2.2.1, x.2.2.2.2.2.2.2.1, x.2.2.2.2.2.2.2.2.1, x.2.2.2.2.2.2.2.2.2.1, x.2.2.2.2.2.2.2.2.2.2.1, x.2.2.2.2.2.2.2.2.2.2.2.1, x.2.2.2.2.2.2.2.2.2.2.2.2.1, x.2.2.2.2.2.2.2.2.2.2.2.2.2.1, x.2.2.2.2.2.2.2.2.2.2.2.2.2.2.1, x.2.2.2.2.2.2.2.2.2.2.2.2.2.2.2.1, x.2.2.2.2.2.2.2.2.2.2.2.2.2.2.2.2.1, x.2.2.2.2.2.2.2.2.2.2.2.2.2.2.2.2.2.1, x.2.2.2.2.2.2.2.2.2.2.2.2.2.2.2.2.2.2.1, x.2.2.2.2.2.2.2.2.2.2.2.2.2.2.2.2.2.2.2.1, x.2.2.2.2.2.2.2.2.2.2.2.2.2.2.2.2.2.2.2.2.1, x.2.2.2.2.2.2.2.2.2.2.2.2.2.2.2.2.2.2.2.2.2.1, x.2.2.2.2.2.2.2.2.2.2.2.2.2.2.2.2.2.2.2.2.2.2.1, x.2.2.2.2.2.2.2.2.2.2.2.2.2.2.2.2.2.2.2.2.2.2.2.1, x.2.2.2.2.2.2.2.2.2.2.2.2.2.2.2.2.2.2.2.2.2.2.2.2.1, x.2.2.2.2.2.2.2.2.2.2.2.2.2.2.2.2.2.2.2.2.2.2.2.2.2.1, x.2.2.2.2.2.2.2.2.2.2.2.2.2.2.2.2.2.2.2.2.2.2.2.2.2.2.1, x.2.2.2.2.2.2.2.2.2.2.2.2.2.2.2.2.2.2.2.2.2.2.2.2.2.2.2.1, x.2.2.2.2.2.2.2.2.2.2.2.2.2.2.2.2.2.2.2.2.2.2.2.2.2.2.2.2.1, x.2.2.2.2.2.2.2.2.2.2.2.2.2.2.2.2.2.2.2.2.2.2.2.2.2.2.2.2.2.1, x.2.2.2.2.2.2.2.2.2.2.2.2.2.2.2.2.2.2.2.2.2.2.2.2.2.2.2.2.2.2.1, x.2.2.2.2.2.2.2.2.2.2.2.2.2.2.2.2.2.2.2.2.2.2.2.2.2.2.2.2.2.2.2.1, v, x.2.2.2.2.2.2.2.2.2.2.2.2.2.2.2.2.2.2.2.2.2.2.2.2.2.2.2.2.2.2.2.2.2.1, x.2.2.2.2.2.2.2.2.2.2.2.2.2.2.2.2.2.2.2.2.2.2.2.2.2.2.2.2.2.2.2.2.2.2.1, x.2.2.2.2.2.2.2.2.2.2.2.2.2.2.2.2.2.2.2.2.2.2.2.2.2.2.2.2.2.2.2.2.2.2.2.1, x.2.2.2.2.2.2.2.2.2.2.2.2.2.2.2.2.2.2.2.2.2.2.2.2.2.2.2.2.2.2.2.2.2.2.2.2.1, x.2.2.2.2.2.2.2.2.2.2.2.2.2.2.2.2.2.2.2.2.2.2.2.2.2.2.2.2.2.2.2.2.2.2.2.2.2.1, x.2.2.2.2.2.2.2.2.2.2.2.2.2.2.2.2.2.2.2.2.2.2.2.2.2.2.2.2.2.2.2.2.2.2.2.2.2.2.1, x.2.2.2.2.2.2.2.2.2.2.2.2.2.2.2.2.2.2.2.2.2.2.2.2.2.2.2.2.2.2.2.2.2.2.2.2.2.2.2.1, x.2.2.2.2.2.2.2.2.2.2.2.2.2.2.2.2.2.2.2.2.2.2.2.2.2.2.2.2.2.2.2.2.2.2.2.2.2.2.2.2.1, x.2.2.2.2.2.2.2.2.2.2.2.2.2.2.2.2.2.2.2.2.2.2.2.2.2.2.2.2.2.2.2.2.2.2.2.2.2.2.2.2.2)
abbrev sMO_kept (x : MOt) (v : Int32) : MOt := (x.1, x.2.1, x.2.2.1, x.2.2.2.1, x.2.2.2.2.1, x.2.2.2.2.2.1, x.2.2.2.2.2.2.1, x.2.2.2.2.2.2.2.1, x.2.2.2.2.2.2.2.2.1, x.2.2.2.2.2.2.2.2.2.1, x.2.2.2.2.2.2.2.2.2.2.1, x.2.2.2.2.2.2.2.2.2.2.2.1, x.2.2.2.2.2.2.2.2.2.2.2.2.1, x.2.2.2.2.2.2.2.2.2.2.2.2.2.1, x.2.2.2.2.2.2.2.2.2.2.2.2.2.2.1, x.2.2.2.2.2.2.2.2.2.2.2.2.2.2.2.1, x.2.2.2.2.2.2.2.2.2.2.2.2.2.2.2.2.1, x.2.2.2.2.2.2.2.2.2.2.2.2.2.2.2.2.2.1, x.2.2.2.2.2.2.2.2.2.2.2.2.2.2.2.2.2.2.1, x.2.2.2.2.2.2.2.2.2.2.2.2.2.2.2.2.2.2.2.1, x.2.2.2.2.2.2.2.2.2.2.2.2.2.2.2.2.2.2.2.2.1, x.2.2.2.2.2.2.2.2.2.2.2.2.2.2.2.2.2.2.2.2.2.1, x.2.2.2.2.2.2.2.2.2.2.2.2.2.2.2.2.2.2.2.2.2.2.1, x.2.2.2.2.2.2.2.2.2.2.2.2.2.2.2.2.2.2.2.2.2.2.2.1, x.2.2.2.2.2.2.2.2.2.2.2.2.2.2.2.2.2.2.2.2.2.2.2.2.1, x.2.2.2.2.2.2.2.2.2.2.2.2.2.2.2.2.2.2.2.2.2.2.2.2.2.1, x.2.2.2.2.2.2.2.2.2.2.2.2.2.2.2.2.2.2.2.2.2.2.2.2.2.2.1, x.2.2.2.2.2.2.2.2.2.2.2.2.2.2.2.2.2.2.2.2.2.2.2.2.2.2.2.1, x.2.2.2.2.2.2.2.2.2.2.2.2.2.2.2.2.2.2.2.2.2.2.2.2.2.2.2.2.1, x.2.2.2.2.2.2.2.2.2.2.2.2.2.2.2.2.2.2.2.2.2.2.2.2.2.2.2.2.2.1, x.2.2.2.2.2.2.2.2.2.2.2.2.2.2.2.2.2.2.2.2.2.2.2.2.2.2.2.2.2.2.1, x.2.2.2.2.2.2.2.2.2.2.2.2.2.2.2.2.2.2.2.2.2.2.2.2.2.2.2.2.2.2.2.1, x.2.2.2.2.2.2.2.2.2.2.2.2.2.2.2.2.2.2.2.2.2.2.2.2.2.2.2.2.2.2.2.2.1, v, x.2.2.2.2.2.2.2.2.2.2.2.2.2.2.2.2.2.2.2.2.2.2.2.2.2.2.2.2.2.2.2.2.2.2.1, x.2.2.2.2.2.2.2.2.2.2.2.2.2.2.2.2.2.2.2.2.2.2.2.2.2.2.2.2.2.2.2.2.2.2.2.1, x.2.2.2.2.2.2.2.2.2.2.2.2.2.2.2.2.2.2.2.2.2.2.2.2.2.2.2.2.2.2.2.2.2.2.2.2.1, x.2.2.2.2.2.2.2.2.2.2.2.2.2.2.2.2.2.2.2.2.2.2.2.2.2.2.2.2.2.2.2.2.2.2.2.2.2.1, x.2.2.2.2.2.2.2.2.2.2.2.2.2.2.2.2.2.2.2.2.2.2.2.2.2.2.2.2.2.2.2.2.2.2.2.2.2.2.1, x.2.2.2.2.2.2.2.2.2.2.2.2.2.2.2.2.2.2.2.2.2.2.2.2.2.2.2.2.2.2.2.2.2.2.2.2.2.2.2.1, x.2.2.2.2.2.2.2.2.2.2.2.2.2.2.2.2.2.2.2.2.2.2.2.2.2.2.2.2.2.2.2.2.2.2.2.2.2.2.2.2.1, x.2.2.2.2.2.2.2.2.2.2.2.2.2.2.2.2.2.2.2.2.2.2.2.2.2.2.2.2.2.2.2.2.2.2.2.2.2.2.2.2.2)
abbrev sMO_firings (x : MOt) (v : Int32) : MOt := (x.1, x.2.1, x.2.2.1, x.2.2.2.1, x.2.2.2.2.1, x.2.2.2.2.2.1, x.2.2.2.2.2.2.1, x.2.2.2.2.2.2.2.1, x.2.2.2.2.2.2.2.2.1, x.2.2.2.2.2.2.2.2.2.1, x.2.2.2.2.2.2.2.2.2.2.1, x.2.2.2.2.2.2.2.2.2.2.2.1, x.2.2.2.2.2.2.2.2.2.2.2.2.1, x.2.2.2.2.2.2.2.2.2.2.2.2.2.1, x.2.2.2.2.2.2.2.2.2.2.2.2.2.2.1, x.2.2.2.2.2.2.2.2.2.2.2.2.2.2.2.1, x.2.2.2.2.2.2.2.2.2.2.2.2.2.2.2.2.1, x.2.2.2.2.2.2.2.2.2.2.2.2.2.2.2.2.2.1, x.2.2.2.2.2.2.2.2.2.2.2.2.2.2.2.2.2.2.1, x.2.2.2.2.2.2.2.2.2.2.2.2.2.2.2.2.2.2.2.1, x.2.2.2.2.2.2.2.2.2.2.2.2.2.2.2.2.2.2.2.2.1, x.2.2.2.2.2.2.2.2.2.2.2.2.2.2.2.2.2.2.2.2.2.1, x.2.2.2.2.2.2.2.2.2.2.2.2.2.2.2.2.2.2.2.2.2.2.1, x.2.2.2.2.2.2.2.2.2.2.2.2.2.2.2.2.2.2.2.2.2.2.2.1, x.2.2.2.2.2.2.2.2.2.2.2.2.2.2.2.2.2.2.2.2.2.2.2.2.1, x.2.2.2.2.2.2.2.2.2.2.2.2.2.2.2.2.2.2.2.2.2.2.2.2.2.1, x.2.2.2.2.2.2.2.2.2.2.2.2.2.2.2.2.2.2.2.2.2.2.2.2.2.2.1, x.2.2.2.2.2.2.2.2.2.2.2.2.2.2.2.2.2.2.2.2.2.2.2.2.2.2.2.1, x.2.2.2.2.2.2.2.2.2.2.2.2.2.2.2.2.2.2.2.2.2.2.2.2.2.2.2.2.1, x.2.2.2.2.2.2.2.2.2.2.2.2.2.2.2.2.2.2.2.2.2.2.2.2.2.2.2.2.2.1, x.2.2.2.2.2.2.2.2.2.2.2.2.2.2.2.2.2.2.2.2.2.2.2.2.2.2.2.2.2.2.1, x.2.2.2.2.2.2.2.2.2.2.2.2.2.2.2.2.2.2.2.2.2.2.2.2.2.2.2.2.2.2.2.1, x.2.2.2.2.2.2.2.2.2.2.2.2.2.2.2.2.2.2.2.2.2.2.2.2.2.2.2.2.2.2.2.2.1, x.2.2.2.2.2.2.2.2.2.2.2.2.2.2.2.2.2.2.2.2.2.2.2.2.2.2.2.2.2.2.2.2.2.1, v, x.2.2.2.2.2.2.2.2.2.2.2.2.2.2.2.2.2.2.2.2.2.2.2.2.2.2.2.2.2.2.2.2.2.2.2.1, x.2.2.2.2.2.2.2.2.2.2.2.2.2.2.2.2.2.2.2.2.2.2.2.2.2.2.2.2.2.2.2.2.2.2.2.2.1, x.2.2.2.2.2.2.2.2.2.2.2.2.2.2.2.2.2.2.2.2.2.2.2.2.2.2.2.2.2.2.2.2.2.2.2.2.2.1, x.2.2.2.2.2.2.2.2.2.2.2.2.2.2.2.2.2.2.2.2.2.2.2.2.2.2.2.2.2.2.2.2.2.2.2.2.2.2.1, x.2.2.2.2.2.2.2.2.2.2.2.2.2.2.2.2.2.2.2.2.2.2.2.2.2.2.2.2.2.2.2.2.2.2.2.2.2.2.2.1, x.2.2.2.2.2.2.2.2.2.2.2.2.2.2.2.2.2.2.2.2.2.2.2.2.2.2.2.2.2.2.2.2.2.2.2.2.2.2.2.2.1, x.2.2.2.2.2.2.2.2.2.2.2.2.2.2.2.2.2.2.2.2.2.2.2.2.2.2.2.2.2.2.2.2.2.2.2.2.2.2.2.2.2)
abbrev sMO_early (x : MOt) (v : Int32) : MOt := (x.1, x.2.1, x.2.2.1, x.2.2.2.1, x.2.2.2.2.1, x.2.2.2.2.2.1, x.2.2.2.2.2.2.1, x.2.2.2.2.2.2.2.1, x.2.2.2.2.2.2.2.2.1, x.2.2.2.2.2.2.2.2.2.1, x.2.2.2.2.2.2.2.2.2.2.1, x.2.2.2.2.2.2.2.2.2.2.2.1, x.2.2.2.2.2.2.2.2.2.2.2.2.1, x.2.2.2.2.2.2.2.2.2.2.2.2.2.1, x.2.2.2.2.2.2.2.2.2.2.2.2.2.2.1, x.2.2.2.2.2.2.2.2.2.2.2.2.2.2.2.1, x.2.2.2.2.2.2.2.2.2.2.2.2.2.2.2.2.1, x.2.2.2.2.2.2.2.2.2.2.2.2.2.2.2.2.2.1, x.2.2.2.2.2.2.2.2.2.2.2.2.2.2.2.2.2.2.1, x.2.2.2.2.2.2.2.2.2.2.2.2.2.2.2.2.2.2.2.1, x.2.2.2.2.2.2.2.2.2.2.2.2.2.2.2.2.2.2.2.2.1, x.2.2.2.2.2.2.2.2.2.2.2.2.2.2.2.2.2.2.2.2.2.1, x.2.2.2.2.2.2.2.2.2.2.2.2.2.2.2.2.2.2.2.2.2.2.1, x.2.2.2.2.2.2.2.2.2.2.2.2.2.2.2.2.2.2.2.2.2.2.2.1, x.2.2.2.2.2.2.2.2.2.2.2.2.2.2.2.2.2.2.2.2.2.2.2.2.1, x.2.2.2.2.2.2.2.2.2.2.2.2.2.2.2.2.2.2.2.2.2.2.2.2.2.1, x.2.2.2.2.2.2.2.2.2.2.2.2.2.2.2.2.2.2.2.2.2.2.2.2.2.2.1, x.2.2.2.2.2.2.2.2.2.2.2.2.2.2.2.2.2.2.2.2.2.2.2.2.2.2.2.1, x.2.2.2.2.2.2.2.2.2.2.2.2.2.2.2.2.2.2.2.2.2.2.2.2.2.2.2.2.1, x.2.2.2.2.2.2.2.2.2.2.2.2.2.2.2.2.2.2.2.2.2.2.2.2.2.2.2.2.2.1, x.2.2.2.2.2.2.2.2.2.2.2.2.2.2.2.2.2.2.2.2.2.2.2.2.2.2.2.2.2.2.1, x.2.2.2.2.2.2.2.2.2.2.2.2.2.2.2.2.2.2.2.2.2.2.2.2.2.2.2.2.2.2.2.1, x.2.2.2.2.2.2.2.2.2.2.2.2.2.2.2.2.2.2.2.2.2.2.2.2.2.2.2.2.2.2.2.2.1, x.2.2.2.2.2.2.2.2.2.2.2.2.2.2.2.2.2.2.2.2.2.2.2.2.2.2.2.2.2.2.2.2.2.1, x.2.2.2.2.2.2.2.2.2.2.2.2.2.2.2.2.2.2.2.2.2.2.2.2.2.2.2.2.2.2.2.2.2.2.1, v, x.2.2.2.2.2.2.2.2.2.2.2.2.2.2.2.2.2.2.2.2.2.2.2.2.2.2.2.2.2.2.2.2.2.2.2.2.1, x.2.2.2.2.2.2.2.2.2.2.2.2.2.2.2.2.2.2.2.2.2.2.2.2.2.2.2.2.2.2.2.2.2.2.2.2.2.1, x.2.2.2.2.2.2.2.2.2.2.2.2.2.2.2.2.2.2.2.2.2.2.2.2.2.2.2.2.2.2.2.2.2.2.2.2.2.2.1, x.2.2.2.2.2.2.2.2.2.2.2.2.2.2.2.2.2.2.2.2.2.2.2.2.2.2.2.2.2.2.2.2.2.2.2.2.2.2.2.1, x.2.2.2.2.2.2.2.2.2.2.2.2.2.2.2.2.2.2.2.2.2.2.2.2.2.2.2.2.2.2.2.2.2.2.2.2.2.2.2.2.1, x.2.2.2.2.2.2.2.2.2.2.2.2.2.2.2.2.2.2.2.2.2.2.2.2.2.2.2.2.2.2.2.2.2.2.2.2.2.2.2.2.2)
abbrev sMO_lately (x : MOt) (v : Int32) : MOt := (x.1, x.2.1, x.2.2.1, x.2.2.2.1, x.2.2.2.2.1, x.2.2.2.2.2.1, x.2.2.2.2.2.2.1, x.2.2.2.2.2.2.2.1, x.2.2.2.2.2.2.2.2.1, x.2.2.2.2.2.2.2.2.2.1, x.2.2.2.2.2.2.2.2.2.2.1, x.2.2.2.2.2.2.2.2.2.2.2.1, x.2.2.2.2.2.2.2.2.2.2.2.2.1, x.2.2.2.2.2.2.2.2.2.2.2.2.2.1, x.2.2.2.2.2.2.2.2.2.2.2.2.2.2.1, x.2.2.2.2.2.2.2.2.2.2.2.2.2.2.2.1, x.2.2.2.2.2.2.2.2.2.2.2.2.2.2.2.2.1, x.2.2.2.2.2.2.2.2.2.2.2.2.2.2.2.2.2.1, x.2.2.2.2.2.2.2.2.2.2.2.2.2.2.2.2.2.2.1, x.2.2.2.2.2.2.2.2.2.2.2.2.2.2.2.2.2.2.2.1, x.2.2.2.2.2.2.2.2.2.2.2.2.2.2.2.2.2.2.2.2.1, x.2.2.2.2.2.2.2.2.2.2.2.2.2.2.2.2.2.2.2.2.2.1, x.2.2.2.2.2.2.2.2.2.2.2.2.2.2.2.2.2.2.2.2.2.2.1, x.2.2.2.2.2.2.2.2.2.2.2.2.2.2.2.2.2.2.2.2.2.2.2.1, x.2.2.2.2.2.2.2.2.2.2.2.2.2.2.2.2.2.2.2.2.2.2.2.2.1, x.2.2.2.2.2.2.2.2.2.2.2.2.2.2.2.2.2.2.2.2.2.2.2.2.2.1, x.2.2.2.2.2.2.2.2.2.2.2.2.2.2.2.2.2.2.2.2.2.2.2.2.2.2.1, x.2.2.2.2.2.2.2.2.2.2.2.2.2.2.2.2.2.2.2.2.2.2.2.2.2.2.2.1, x.2.2.2.2.2.2.2.2.2.2.2.2.2.2.2.2.2.2.2.2.2.2.2.2.2.2.2.2.1, x.2.2.2.2.2.2.2.2.2.2.2.2.2.2.2.2.2.2.2.2.2.2.2.2.2.2.2.2.2.1, x.2.2.2.2.2.2.2.2.2.2.2.2.2.2.2.2.2.2.2.2.2.2.2.2.2.2.2.2.2.2.1, x.2.2.2.2.2.2.2.2.2.2.2.2.2.2.2.2.2.2.2.2.2.2.2.2.2.2.2.2.2.2.2.1, x.2.2.2.2.2.2.2.2.2.2.2.2.2.2.2.2.2.2.2.2.2.2.2.2.2.2.2.2.2.2.2.2.1, x.2.2.2.2.2.2.2.2.2.2.2.2.2.2.2.2.2.2.2.2.2.2.2.2.2.2.2.2.2.2.2.2.2.1, x.2.2.2.2.2.2.2.2.2.2.2.2.2.2.2.2.2.2.2.2.2.2.2.2.2.2.2.2.2.2.2.2.2.2.1, x.2.2.2.2.2.2.2.2.2.2.2.2.2.2.2.2.2.2.2.2.2.2.2.2.2.2.2.2.2.2.2.2.2.2.2.1, v, x.2.2.2.2.2.2.2.2.2.2.2.2.2.2.2.2.2.2.2.2.2.2.2.2.2.2.2.2.2.2.2.2.2.2.2.2.2.1, x.2.2.2.2.2.2.2.2.2.2.2.2.2.2.2.2.2.2.2.2.2.2.2.2.2.2.2.2.2.2.2.2.2.2.2.2.2.2.1, x.2.2.2.2.2.2.2.2.2.2.2.2.2.2.2.2.2.2.2.2.2.2.2.2.2.2.2.2.2.2.2.2.2.2.2.2.2.2.2.1, x.2.2.2.2.2.2.2.2.2.2.2.2.2.2.2.2.2.2.2.2.2.2.2.2.2.2.2.2.2.2.2.2.2.2.2.2.2.2.2.2.1, x.2.2.2.2.2.2.2.2.2.2.2.2.2.2.2.2.2.2.2.2.2.2.2.2.2.2.2.2.2.2.2.2.2.2.2.2.2.2.2.2.2)
abbrev sMO_wanted (x : MOt) (v : Int32) : MOt := (x.1, x.2.1, x.2.2.1, x.2.2.2.1, x.2.2.2.2.1, x.2.2.2.2.2.1, x.2.2.2.2.2.2.1, x.2.2.2.2.2.2.2.1, x.2.2.2.2.2.2.2.2.1, x.2.2.2.2.2.2.2.2.2.1, x.2.2.2.2.2.2.2.2.2.2.1, x.2.2.2.2.2.2.2.2.2.2.2.1, x.2.2.2.2.2.2.2.2.2.2.2.2.1, x.2.2.2.2.2.2.2.2.2.2.2.2.2.1, x.2.2.2.2.2.2.2.2.2.2.2.2.2.2.1, x.2.2.2.2.2.2.2.2.2.2.2.2.2.2.2.1, x.2.2.2.2.2.2.2.2.2.2.2.2.2.2.2.2.1, x.2.2.2.2.2.2.2.2.2.2.2.2.2.2.2.2.2.1, x.2.2.2.2.2.2.2.2.2.2.2.2.2.2.2.2.2.2.1, x.2.2.2.2.2.2.2.2.2.2.2.2.2.2.2.2.2.2.2.1, x.2.2.2.2.2.2.2.2.2.2.2.2.2.2.2.2.2.2.2.2.1, x.2.2.2.2.2.2.2.2.2.2.2.2.2.2.2.2.2.2.2.2.2.1, x.2.2.2.2.2.2.2.2.2.2.2.2.2.2.2.2.2.2.2.2.2.2.1, x.2.2.2.2.2.2.2.2.2.2.2.2.2.2.2.2.2.2.2.2.2.2.2.1, x.2.2.2.2.2.2.2.2.2.2.2.2.2.2.2.2.2.2.2.2.2.2.2.2.1, x.2.2.2.2.2.2.2.2.2.2.2.2.2.2.2.2.2.2.2.2.2.2.2.2.2.1, x.2.2.2.2.2.2.2.2.2.2.2.2.2.2.2.2.2.2.2.2.2.2.2.2.2.2.1, x.2.2.2.2.2.2.2.2.2.2.2.2.2.2.2.2.2.2.2.2.2.2.2.2.2.2.2.1, x.2.2.2.2.2.2.2.2.2.2.2.2.2.2.2.2.2.2.2.2.2.2.2.2.2.2.2.2.1, x.2.2.2.2.2.2.2.2.2.2.2.2.2.2.2.2.2.2.2.2.2.2.2.2.2.2.2.2.2.1, x.2.2.2.2.2.2.2.2.2.2.2.2.2.2.2.2.2.2.2.2.2.2.2.2.2.2.2.2.2.2.1, x.2.2.2.2.2.2.2.2.2.2.2.2.2.2.2.2.2.2.2.2.2.2.2.2.2.2.2.2.2.2.2.1, x.2.2.2.2.2.2.2.2.2.2.2.2.2.2.2.2.2.2.2.2.2.2.2.2.2.2.2.2.2.2.2.2.1, x.2.2.2.2.2.2.2.2.2.2.2.2.2.2.2.2.2.2.2.2.2.2.2.2.2.2.2.2.2.2.2.2.2.1, x.2.2.2.2.2.2.2.2.2.2.2.2.2.2.2.2.2.2.2.2.2.2.2.2.2.2.2.2.2.2.2.2.2.2.1, x.2.2.2.2.2.2.2.2.2.2.2.2.2.2.2.2.2.2.2.2.2.2.2.2.2.2.2.2.2.2.2.2.2.2.2.1, x.2.2.2.2.2.2.2.2.2.2.2.2.2.2.2.2.2.2.2.2.2.2.2.2.2.2.2.2.2.2.2.2.2.2.2.2.1, v, x.2.2.2.2.2.2.2.2.2.2.2.2.2.2.2.2.2.2.2.2.2.2.2.2.2.2.2.2.2.2.2.2.2.2.2.2.2.2.1, x.2.2.2.2.2.2.2.2.2.2.2.2.2.2.2.2.2.2.2.2.2.2.2.2.2.2.2.2.2.2.2.2.2.2.2.2.2.2.2.1, x.2.2.2.2.2.2.2.2.2.2.2.2.2.2.2.2.2.2.2.2.2.2.2.2.2.2.2.2.2.2.2.2.2.2.2.2.2.2.2.2.1, x.2.2.2.2.2.2.2.2.2.2.2.2.2.2.2.2.2.2.2.2.2.2.2.2.2.2.2.2.2.2.2.2.2.2.2.2.2.2.2.2.2)
abbrev sMO_wBegin (x : MOt) (v : (Nat → Int64)) : MOt := (x.1, x.2.1, x.2.2.1, x.2.2.2.1, x.2.2.2.2.1, x.2.2.2.2.2.1, x.2.2.2.2.2.2.1, x.2.2.2.2.2.2.2.1, x.2.2.2.2.2.2.2.2.1, x.2.2.2.2.2.2.2.2.2.1, x.2.2.2.2.2.2.2.2.2.2.1, x.2.2.2.2.2.2.2.2.2.2.2.1, x.2.2.2.2.2.2.2.2.2.2.2.2.1, x.2.2.2.2.2.2.2.2.2.2.2.2.2.1, x.2.2.2.2.2.2.2.2.2.2.2.2.2.2.1, x.2.2.2.2.2.2.2.2.2.2.2.2.2.2.2.1, x.2.2.2.2.2.2.2.2.2.2.2.2.2.2.2.2.1, x.2.2.2.2.2.2.2.2.2.2.2.2.2.2.2.2.2.1, x.2.2.2.2.2.2.2.2.2.2.2.2.2.2.2.2.2.2.1, x.2.2.2.2.2.2.2.2.2.2.2.2.2.2.2.2.2.2.2.1, x.2.2.2.2.2.2.2.2.2.2.2.2.2.2.2.2.2.2.2.2.1, x.2.2.2.2.2.2.2.2.2.2.2.2.2.2.2.2.2.2.2.2.2.1, x.2.2.2.2.2.2.2.2.2.2.2.2.2.2.2.2.2.2.2.2.2.2.1, x.2.2.2.2.2.2.2.2.2.2.2.2.2.2.2.2.2.2.2.2.2.2.2.1, x.2.2.2.2.2.2.2.2.2.2.2.2.2.2.2.2.2.2.2.2.2.2.2.2.1, x.2.2.2.2.2.2.2.2.2.2.2.2.2.2.2.2.2.2.2.2.2.2.2.2.2.1, x.2.2.2.2.2.2.2.2.2.2.2.2.2.2.2.2.2.2.2.2.2.2.2.2.2.2.1, x.2.2.2.2.2.2.2.2.2.2.2.2.2.2.2.2.2.2.2.2.2.2.2.2.2.2.2.1, x.2.2.2.2.2.2.2.2.2.2.2.2.2.2.2.2.2.2.2.2.2.2.2.2.2.2.2.2.1, x.2.2.2.2.2.2.2.2.2.2.2.2.2.2.2.2.2.2.2.2.2.2.2.2.2.2.2.2.2.1, x.2.2.2.2.2.2.2.2.2.2.2.2.2.2.2.2.2.2.2.2.2.2.2.2.2.2.2.2.2.2.1, x.2.2.2.2.2.2.2.2.2.2.2.2.2.2.2.2.2.2.2.2.2.2.2.2.2.2.2.2.2.2.2.1, x.2.2.2.2.2.2.2.2.2.2.2.2.2.2.2.2.2.2.2.2.2.2.2.2.2.2.2.2.2.2.2.2.1, x.2.2.2.2.2.2.2.2.2.2.2.2.2.2.2.2.2.2.2.2.2.2.2.2.2.2.2.2.2.2.2.2.2.1, x.2.2.2.2.2.2.2.2.2.2.2.2.2.2.2.2.2.2.2.2.2.2.2.2.2.2.2.2.2.2.2.2.2.2.1, x.2.2.2.2.2.2.2.2.2.2.2.2.2.2.2.2.2.2.2.2.2.2.2.2.2.2.2.2.2.2.2.2.2.2.2.1, x.2.2.2.2.2.2.2.2.2.2.2.2.2.2.2.2.2.2.2.2.2.2.2.2.2.2.2.2.2.2.2.2.2.2.2.2.1, x.2.2.2.2.2.2.2.2.2.2.2.2.2.2.2.2.2.2.2.2.2.2.2.2.2.2.2.2.2.2.2.2.2.2.2.2.2.1, v, x.2.2.2.2.2.2.2.2.2.2.2.2.2.2.2.2.2.2.2.2.2.2.2.2.2.2.2.2.2.2.2.2.2.2.2.2.2.2.2.1, x.2.2.2.2.2.2.2.2.2.2.2.2.2.2.2.2.2.2.2.2.2.2.2.2.2.2.2.2.2.2.2.2.2.2.2.2.2.2.2.2.1, x.2.2.2.2.2.2.2.2.2.2.2.2.2.2.2.2.2.2.2.2.2.2.2.2.2.2.2.2.2.2.2.2.2.2.2.2.2.2.2.2.2)
abbrev sMO_wEnd (x : MOt) (v : (Nat → Int64)) : MOt := (x.1, x.2.1, x.2.2.1, x.2.2.2.1, x.2.2.2.2.1, x.2.2.2.2.2.1, x.2.2.2.2.2.2.1, x.2.2.2.2.2.2.2.1, x.2.2.2.2.2.2.2.2.1, x.2.2.2.2.2.2.2.2.2.1, x.2.2.2.2.2.2.2.2.2.2.1, x.2.2.2.2.2.2.2.2.2.2.2.1, x.2.2.2.2.2.2.2.2.2.2.2.2.1, x.2.2.2.2.2.2.2.2.2.2.2.2.2.1, x.2.2.2.2.2.2.2.2.2.2.2.2.2.2.1, x.2.2.2.2.2.2.2.2.2.2.2.2.2.2.2.1, x.2.2.2.2.2.2.2.2.2.2.2.2.2.2.2.2.1, x.2.2.2.2.2.2.2.2.2.2.2.2.2.2.2.2.2.1, x.2.2.2.2.2.2.2.2.2.2.2.2.2.2.2.2.2.2.1, x.2.2.2.2.2.2.2.2.2.2.2.2.2.2.2.2.2.2.2.1, x.2.2.2.2.2.2.2.2.2.2.2.2.2.2.2.2.2.2.2.2.1, x.2.2.2.2.2.2.2.2.2.2.2.2.2.2.2.2.2.2.2.2.2.1, x.2.2.2.2.2.2.2.2.2.2.2.2.2.2.2.2.2.2.2.2.2.2.1, x.2.2.2.2.2.2.2.2.2.2.2.2.2.2.2.2.2.2.2.2.2.2.2.1, x.2.2.2.2.2.2.2.2.2.2.2.2.2.2.2.2.2.2.2.2.2.2.2.2.1, x.2.2.2.2.2.2.2.2.2.2.2.2.2.2.2.2.2.2.2.2.2.2.2.2.2.1, x.2.2.2.2.2.2.2.2.2.2.2.2.2.2.2.2.2.2.2.2.2.2.2.2.2.2.1, x.2.2.2.2.2.2.2.2.2.2.2.2.2.2.2.2.2.2.2.2.2.2.2.2.2.2.2.1, x.2.2.2.2.2.2.2.2.2.2.2.2.2.2.2.2.2.2.2.2.2.2.2.2.2.2.2.2.1, x.2.2.2.2.2.2.2.2.2.2.2.2.2.2.2.2.2.2.2.2.2.2.2.2.2.2.2.2.2.1, x.2.2.2.2.2.2.2.2.2.2.2.2.2.2.2.2.2.2.2.2.2.2.2.2.2.2.2.2.2.2.1, x.2.2.2.2.2.2.2.2.2.2.2.2.2.2.2.2.2.2.2.2.2.2.2.2.2.2.2.2.2.2.2.1, x.2.2.2.2.2.2.2.2.2.2.2.2.2.2.2.2.2.2.2.2.2.2.2.2.2.2.2.2.2.2.2.2.1, x.2.2.2.2.2.2.2.2.2.2.2.2.2.2.2.2.2.2.2.2.2.2.2.2.2.2.2.2.2.2.2.2.2.1, x.2.2.2.2.2.2.2.2.2.2.2.2.2.2.2.2.2.2.2.2.2.2.2.2.2.2.2.2.2.2.2.2.2.2.1, x.2.2.2.2.2.2.2.2.2.2.2.2.2.2.2.2.2.2.2.2.2.2.2.2.2.2.2.2.2.2.2.2.2.2.2.1, x.2.2.2.2.2.2.2.2.2.2.2.2.2.2.2.2.2.2.2.2.2.2.2.2.2.2.2.2.2.2.2.2.2.2.2.2.1, x.2.2.2.2.2.2.2.2.2.2.2.2.2.2.2.2.2.2.2.2.2.2.2.2.2.2.2.2.2.2.2.2.2.2.2.2.2.1, x.2.2.2.2.2.2.2.2.2.2.2.2.2.2.2.2.2.2.2.2.2.2.2.2.2.2.2.2.2.2.2.2.2.2.2.2.2.2.1, v, x.2.2.2.2.2.2.2.2.2.2.2.2.2.2.2.2.2.2.2.2.2.2.2.2.2.2.2.2.2.2.2.2.2.2.2.2.2.2.2.2.1, x.2.2.2.2.2.2.2.2.2.2.2.2.2.2.2.2.2.2.2.2.2.2.2.2.2.2.2.2.2.2.2.2.2.2.2.2.2.2.2.2.2)
abbrev sMO_got (x : MOt) (v : (Nat → Int64)) : MOt := (x.1, x.2.1, x.2.2.1, x.2.2.2.1, x.2.2.2.2.1, x.2.2.2.2.2.1, x.2.2.2.2.2.2.1, x.2.2.2.2.2.2.2.1, x.2.2.2.2.2.2.2.2.1, x.2.2.2.2.2.2.2.2.2.1, x.2.2.2.2.2.2.2.2.2.2.1, x.2.2.2.2.2.2.2.2.2.2.2.1, x.2.2.2.2.2.2.2.2.2.2.2.2.1, x.2.2.2.2.2.2.2.2.2.2.2.2.2.1, x.2.2.2.2.2.2.2.2.2.2.2.2.2.2.1, x.2.2.2.2.2.2.2.2.2.2.2.2.2.2.2.1, x.2.2.2.2.2.2.2.2.2.2.2.2.2.2.2.2.1, x.2.2.2.2.2.2.2.2.2.2.2.2.2.2.2.2.2.1, x.2.2.2.2.2.2.2.2.2.2.2.2.2.2.2.2.2.2.1, x.2.2.2.2.2.2.2.2.2.2.2.2.2.2.2.2.2.2.2.1, x.2.2.2.2.2.2.2.2.2.2.2.2.2.2.2.2.2.2.2.2.1, x.2.2.2.2.2.2.2.2.2.2.2.2.2.2.2.2.2.2.2.2.2.1, x.2.2.2.2.2.2.2.2.2.2.2.2.2.2.2.2.2.2.2.2.2.2.1, x.2.2.2.2.2.2.2.2.2.2.2.2.2.2.2.2.2.2.2.2.2.2.2.1, x.2.2.2.2.2.2.2.2.2.2.2.2.2.2.2.2.2.2.2.2.2.2.2.2.1, x.2.2.2.2.2.2.2.2.2.2.2.2.2.2.2.2.2.2.2.2.2.2.2.2.2.1, x.2.2.2.2.2.2.2.2.2.2.2.2.2.2.2.2.2.2.2.2.2.2.2.2.2.2.1, x.2.2.2.2.2.2.2.2.2.2.2.2.2.2.2.2.2.2.2.2.2.2.2.2.2.2.2.1, x.2.2.2.2.2.2.2.2.2.2.2.2.2.2.2.2.2.2.2.2.2.2.2.2.2.2.2.2.1, x.2.2.2.2.2.2.2.2.2.2.2.2.2.2.2.2.2.2.2.2.2.2.2.2.2.2.2.2.2.1, x.2.2.2.2.2.2.2.2.2.2.2.2.2.2.2.2.2.2.2.2.2.2.2.2.2.2.2.2.2.2.1, x.2.2.2.2.2.2.2.2.2.2.2.2.2.2.2.2.2.2.2.2.2.2.2.2.2.2.2.2.2.2.2.1, x.2.2.2.2.2.2.2.2.2.2.2.2.2.2.2.2.2.2.2.2.2.2.2.2.2.2.2.2.2.2.2.2.1, x.2.2.2.2.2.2.2.2.2.2.2.2.2.2.2.2.2.2.2.2.2.2.2.2.2.2.2.2.2.2.2.2.2.1, x.2.2.2.2.2.2.2.2.2.2.2.2.2.2.2.2.2.2.2.2.2.2.2.2.2.2.2.2.2.2.2.2.2.2.1, x.2.2.2.2.2.2.2.2.2.2.2.2.2.2.2.2.2.2.2.2.2.2.2.2.2.2.2.2.2.2.2.2.2.2.2.1, x.2.2.2.2.2.2.2.2.2.2.2.2.2.2.2.2.2.2.2.2.2.2.2.2.2.2.2.2.2.2.2.2.2.2.2.2.1, x.2.2.2.2.2.2.2.2.2.2.2.2.2.2.2.2.2.2.2.2.2.2.2.2.2.2.2.2.2.2.2.2.2.2.2.2.2.1, x.2.2.2.2.2.2.2.2.2.2.2.2.2.2.2.2.2.2.2.2.2.2.2.2.2.2.2.2.2.2.2.2.2.2.2.2.2.2.1, x.2.2.2.2.2.2.2.2.2.2.2.2.2.2.2.2.2.2.2.2.2.2.2.2.2.2.2.2.2.2.2.2.2.2.2.2.2.2.2.1, v, x.2.2.2.2.2.2.2.2.2.2.2.2.2.2.2.2.2.2.2.2.2.2.2.2.2.2.2.2.2.2.2.2.2.2.2.2.2.2.2.2.2)
abbrev sMO_isIn (x : MOt) (v : (Nat → Int32)) : MOt := (x.1, x.2.1, x.2.2.1, x.2.2.2.1, x.2.2.2.2.1, x.2.2.2.2.2.1, x.2.2.2.2.2.2.1, x.2.2.2.2.2.2.2.1, x.2.2.2.2.2.2.2.2.1, x.2.2.2.2.2.2.2.2.2.1, x.2.2.2.2.2.2.2.2.2.2.1, x.2.2.2.2.2.2.2.2.2.2.2.1, x.2.2.2.2.2.2.2.2.2.2.2.2.1, x.2.2.2.2.2.2.2.2.2.2.2.2.2.1, x.2.2.2.2.2.2.2.2.2.2.2.2.2.2.1, x.2.2.2.2.2.2.2.2.2.2.2.2.2.2.2.1, x.2.2.2.2.2.2.2.2.2.2.2.2.2.2.2.2.1, x.2.2.2.2.2.2.2.2.2.2.2.2.2.2.2.2.2.1, x.2.2.2.2.2.2.2.2.2.2.2.2.2.2.2.2.2.2.1, x.2.2.2.2.2.2.2.2.2.2.2.2.2.2.2.2.2.2.2.1, x.2.2.2.2.2.2.2.2.2.2.2.2.2.2.2.2.2.2.2.2.1, x.2.2.2.2.2.2.2.2.2.2.2.2.2.2.2.2.2.2.2.2.2.1, x.2.2.2.2.2.2.2.2.2.2.2.2.2.2.2.2.2.2.2.2.2.2.1, x.2.2.2.2.2.2.2.2.2.2.2.2.2.2.2.2.2.2.2.2.2.2.2.1, x.2.2.2.2.2.2.2.2.2.2.2.2.2.2.2.2.2.2.2.2.2.2.2.2.1, x.2.2.2.2.2.2.2.2.2.2.2.2.2.2.2.2.2.2.2.2.2.2.2.2.2.1, x.2.2.2.2.2.2.2.2.2.2.2.2.2.2.2.2.2.2.2.2.2.2.2.2.2.2.1, x.2.2.2.2.2.2.2.2.2.2.2.2.2.2.2.2.2.2.2.2.2.2.2.2.2.2.2.1, x.2.2.2.2.2.2.2.2.2.2.2.2.2.2.2.2.2.2.2.2.2.2.2.2.2.2.2.2.1, x.2.2.2.2.2.2.2.2.2.2.2.2.2.2.2.2.2.2.2.2.2.2.2.2.2.2.2.2.2.1, x.2.2.2.2.2.2.2.2.2.2.2.2.2.2.2.2.2.2.2.2.2.2.2.2.2.2.2.2.2.2.1, x.2.2.2.2.2.2.2.2.2.2.2.2.2.2.2.2.2.2.2.2.2.2.2.2.2.2.2.2.2.2.2.1, x.2.2.2.2.2.2.2.2.2.2.2.2.2.2.2.2.2.2.2.2.2.2.2.2.2.2.2.2.2.2.2.2.1, x.2.2.2.2.2.2.2.2.2.2.2.2.2.2.2.2.2.2.2.2.2.2.2.2.2.2.2.2.2.2.2.2.2.1, x.2.2.2.2.2.2.2.2.2.2.2.2.2.2.2.2.2.2.2.2.2.2.2.2.2.2.2.2.2.2.2.2.2.2.1, x.2.2.2.2.2.2.2.2.2.2.2.2.2.2.2.2.2.2.2.2.2.2.2.2.2.2.2.2.2.2.2.2.2.2.2.1, x.2.2.2.2.2.2.2.2.2.2.2.2.2.2.2.2.2.2.2.2.2.2.2.2.2.2.2.2.2.2.2.2.2.2.2.2.1, x.2.2.2.2.2.2.2.2.2.2.2.2.2.2.2.2.2.2.2.2.2.2.2.2.2.2.2.2.2.2.2.2.2.2.2.2.2.1, x.2.2.2.2.2.2.2.2.2.2.2.2.2.2.2.2.2.2.2.2.2.2.2.2.2.2.2.2.2.2.2.2.2.2.2.2.2.2.1, x.2.2.2.2.2.2.2.2.2.2.2.2.2.2.2.2.2.2.2.2.2.2.2.2.2.2.2.2.2.2.2.2.2.2.2.2.2.2.2.1, x.2.2.2.2.2.2.2.2.2.2.2.2.2.2.2.2.2.2.2.2.2.2.2.2.2.2.2.2.2.2.2.2.2.2.2.2.2.2.2.2.1, v)
abbrev wMO (tC : Nat → ClassId) (a : Nat → Nat) (x : MOt) : va_W := [(a 0, .inr (8, [.int (MO_kind x), .int (MO_size x), .int (MO_step x), .long (MO_offset x), .long (MO_lateness x), .int (MO_every x), .int (MO_fires x), .int (MO_clears x), .int (MO_rule x), .ref (a 1), .ref (a 2), .long (MO_now x), .int (MO_thrown x), .ref (a 3), .ref (a 4), .ref (a 5), .ref (a 6), .ref (a 7), .int (MO_rows x), .int (MO_came x), .int (MO_late x), .ref (a 8), .ref (a 9), .ref (a 10), .ref (a 11), .ref (a 12), .ref (a 13), .ref (a 14), .ref (a 15), .int (MO_spans x), .ref (a 16), .ref (a 17), .ref (a 18), .int (MO_kept x), .int (MO_firings x), .int (MO_early x), .int (MO_lately x), .int (MO_wanted x), .ref (a 19), .ref (a 20), .ref (a 21), .ref (a 22)])), (a 1, .inl (tC 0, 3, .inl (MO_forbidden x))), (a 2, .inl (tC 1, 24, .inr (.inl (MO_bad x)))), (a 3, .inl (tC 0, 300, .inl (MO_rKey x))), (a 4, .inl (tC 1, 300, .inr (.inl (MO_rTime x)))), (a 5, .inl (tC 1, 300, .inr (.inl (MO_rValue x)))), (a 6, .inl (tC 0, 300, .inl (MO_rCame x))), (a 7, .inl (tC 0, 300, .inl (MO_rNumber x))), (a 8, .inl (tC 0, 200, .inl (MO_sKey x))), (a 9, .inl (tC 1, 200, .inr (.inl (MO_sBegin x)))), (a 10, .inl (tC 1, 200, .inr (.inl (MO_sEnd x)))), (a 11, .inl (tC 0, 200, .inl (MO_sFired x))), (a 12, .inl (tC 0, 200, .inl (MO_sPut x))), (a 13, .inl (tC 2, 200, .inl (MO_sEnded x))), (a 14, .inl (tC 2, 60000, .inl (MO_has x))), (a 15, .inl (tC 2, 60000, .inl (MO_toldOf x))), (a 16, .inl (tC 0, 8, .inl (MO_numbered x))), (a 17, .inl (tC 0, 8, .inl (MO_nextSpan x))), (a 18, .inl (tC 1, 4000, .inr (.inl (MO_told x)))), (a 19, .inl (tC 1, 16, .inr (.inl (MO_wBegin x)))), (a 20, .inl (tC 1, 16, .inr (.inl (MO_wEnd x)))), (a 21, .inl (tC 1, 5, .inr (.inl (MO_got x)))), (a 22, .inl (tC 2, 300, .inl (MO_isIn x)))]
abbrev b_MA_floorDiv : ByteArray := prog_14_method_49_code
def y_MA_floorDiv : MethodName := ⟨R_MA, "floorDiv", "(JJ)J"⟩
def w_MA_floorDiv : List Cond := .code y_MA_floorDiv b_MA_floorDiv 6 (some .long) :: ww
abbrev b_CA_firstDay : ByteArray := prog_2_method_2_code
def y_CA_firstDay : MethodName := ⟨R_CA, "firstDay", "(J)J"⟩
def w_CA_firstDay : List Cond := .code y_CA_firstDay b_CA_firstDay 10 (some .long) :: ww
abbrev b_CA_monthOf : ByteArray := prog_2_method_3_code
def y_CA_monthOf : MethodName := ⟨R_CA, "monthOf", "(J)J"⟩
def w_CA_monthOf : List Cond := .code y_CA_monthOf b_CA_monthOf 5 (some .long) :: ww
abbrev b_CO_clear : ByteArray := prog_3_method_2_code
def y_CO_clear : MethodName := ⟨R_CO, "clear", "()V"⟩
def w_CO_clear : List Cond := .code y_CO_clear b_CO_clear 1 (none) :: ww
abbrev b_CO_add : ByteArray := prog_3_method_3_code
def y_CO_add : MethodName := ⟨R_CO, "add", "(J)V"⟩
def w_CO_add : List Cond := .code y_CO_add b_CO_add 3 (none) :: ww
abbrev b_CO_part : ByteArray := prog_3_method_4_code
def y_CO_part : MethodName := ⟨R_CO, "part", "(I)J"⟩
def w_CO_part : List Cond := .code y_CO_part b_CO_part 2 (some .long) :: ww
abbrev b_FS_kept : ByteArray := prog_4_method_2_code
def y_FS_kept : MethodName := ⟨R_FS, "kept", "()I"⟩
def w_FS_kept : List Cond := .code y_FS_kept b_FS_kept 1 (some .int) :: ww
abbrev b_FS_cell : ByteArray := prog_4_method_3_code
def y_FS_cell : MethodName := ⟨R_FS, "cell", "(II)J"⟩
def w_FS_cell : List Cond := .code y_FS_cell b_FS_cell 3 (some .long) :: ww
abbrev b_FS_add : ByteArray := prog_4_method_4_code
def y_FS_add : MethodName := ⟨R_FS, "add", "(IJJIILSpanRules$Contents;)V"⟩
def w_FS_add : List Cond := .code y_FS_add b_FS_add 11 (none) :: ww
abbrev b_FB_has : ByteArray := prog_5_method_2_code
def y_FB_has : MethodName := ⟨R_FB, "has", "(IJ)Z"⟩
def w_FB_has : List Cond := .code y_FB_has b_FB_has 5 (some .boolean) :: ww
abbrev b_FB_add : ByteArray := prog_5_method_3_code
def y_FB_add : MethodName := ⟨R_FB, "add", "(IJ)I"⟩
def w_FB_add : List Cond := .code y_FB_add b_FB_add 4 (some .int) :: ww
abbrev b_SR_isWithin : ByteArray := prog_1_method_16_code
def y_SR_isWithin : MethodName := ⟨R_SR, "isWithin", "(JJJ)Z"⟩
def w_SR_isWithin : List Cond := .code y_SR_isWithin b_SR_isWithin 6 (some .boolean) :: ww
abbrev b_SR_offset : ByteArray := prog_1_method_2_code
def y_SR_offset : MethodName := ⟨R_SR, "offset", "(J)I"⟩
def w_SR_offset : List Cond := .code y_SR_offset b_SR_offset 3 (some .int) :: ww
abbrev b_SR_lateness : ByteArray := prog_1_method_3_code
def y_SR_lateness : MethodName := ⟨R_SR, "lateness", "(J)I"⟩
def w_SR_lateness : List Cond := .code y_SR_lateness b_SR_lateness 3 (some .int) :: ww
abbrev b_SR_trigger : ByteArray := prog_1_method_4_code
def y_SR_trigger : MethodName := ⟨R_SR, "trigger", "(IZ)I"⟩
def w_SR_trigger : List Cond := .code y_SR_trigger b_SR_trigger 3 (some .int) :: ww
abbrev b_SR_clears : ByteArray := prog_1_method_5_code
def y_SR_clears : MethodName := ⟨R_SR, "clears", "(Z)I"⟩
def w_SR_clears : List Cond := .code y_SR_clears b_SR_clears 2 (some .int) :: ww
abbrev b_SR_rule : ByteArray := prog_1_method_6_code
def y_SR_rule : MethodName := ⟨R_SR, "rule", "(I)I"⟩
def w_SR_rule : List Cond := .code y_SR_rule b_SR_rule 3 (some .int) :: ww
abbrev b_SR_forbid : ByteArray := prog_1_method_7_code
def y_SR_forbid : MethodName := ⟨R_SR, "forbid", "(IJ)I"⟩
def w_SR_forbid : List Cond := .code y_SR_forbid b_SR_forbid 4 (some .int) :: ww
abbrev b_SR_isNumbered : ByteArray := prog_1_method_30_code
def y_SR_isNumbered : MethodName := ⟨R_SR, "isNumbered", "(I)Z"⟩
def w_SR_isNumbered : List Cond := .code y_SR_isNumbered b_SR_isNumbered 2 (some .boolean) :: ww
abbrev b_SR_numberRows : ByteArray := prog_1_method_32_code
def y_SR_numberRows : MethodName := ⟨R_SR, "numberRows", "()V"⟩
def w_SR_numberRows : List Cond := .code y_SR_numberRows b_SR_numberRows 3 (none) :: ww
abbrev b_SR_gatherCounted : ByteArray := prog_1_method_34_code
def y_SR_gatherCounted : MethodName := ⟨R_SR, "gatherCounted", "(IJ)V"⟩
def w_SR_gatherCounted : List Cond := .code y_SR_gatherCounted b_SR_gatherCounted 6 (none) :: ww
abbrev b_SR_fireCounted : ByteArray := prog_1_method_33_code
def y_SR_fireCounted : MethodName := ⟨R_SR, "fireCounted", "(I)I"⟩
def w_SR_fireCounted : List Cond := .code y_SR_fireCounted b_SR_fireCounted 5 (some .int) :: ww
abbrev b_SR_by : ByteArray := prog_1_method_18_code
def y_SR_by : MethodName := ⟨R_SR, "by", "(JJ)J"⟩
def w_SR_by : List Cond := .code y_SR_by b_SR_by 4 (some .long) :: ww
abbrev b_SR_isWaitedFor : ByteArray := prog_1_method_31_code
def y_SR_isWaitedFor : MethodName := ⟨R_SR, "isWaitedFor", "(I)Z"⟩
def w_SR_isWaitedFor : List Cond := .code y_SR_isWaitedFor b_SR_isWaitedFor 4 (some .boolean) :: ww
abbrev b_RS_sweep : ByteArray := prog_8_method_4_code
def y_RS_sweep : MethodName := ⟨R_RS, "sweep", "()V"⟩
def w_RS_sweep : List Cond := .code y_RS_sweep b_RS_sweep 4 (none) :: ww
abbrev b_SR_endCounted : ByteArray := prog_1_method_29_code
def y_SR_endCounted : MethodName := ⟨R_SR, "endCounted", "()I"⟩
def w_SR_endCounted : List Cond := .code y_SR_endCounted b_SR_endCounted 4 (some .int) :: ww
abbrev b_SS_seekDue : ByteArray := prog_9_method_15_code
def y_SS_seekDue : MethodName := ⟨R_SS, "seekDue", "(J)I"⟩
def w_SS_seekDue : List Cond := .code y_SS_seekDue b_SS_seekDue 7 (some .int) :: ww
abbrev b_SS_isIn : ByteArray := prog_9_method_2_code
def y_SS_isIn : MethodName := ⟨R_SS, "isIn", "([JII)Z"⟩
def w_SS_isIn : List Cond := .code y_SS_isIn b_SS_isIn 3 (some .boolean) :: ww
abbrev b_SR_gather : ByteArray := prog_1_method_27_code
def y_SR_gather : MethodName := ⟨R_SR, "gather", "(I[J)V"⟩
def w_SR_gather : List Cond := .code y_SR_gather b_SR_gather 5 (none) :: ww
abbrev b_SS_noteFired : ByteArray := prog_9_method_9_code
def y_SS_noteFired : MethodName := ⟨R_SS, "noteFired", "(II)V"⟩
def w_SS_noteFired : List Cond := .code y_SS_noteFired b_SS_noteFired 4 (none) :: ww
abbrev b_SR_fire : ByteArray := prog_1_method_26_code
def y_SR_fire : MethodName := ⟨R_SR, "fire", "(II)V"⟩
def w_SR_fire : List Cond := .code y_SR_fire b_SR_fire 3 (none) :: ww
abbrev b_SS_sweep : ByteArray := prog_9_method_17_code
def y_SS_sweep : MethodName := ⟨R_SS, "sweep", "()V"⟩
def w_SS_sweep : List Cond := .code y_SS_sweep b_SS_sweep 4 (none) :: ww
abbrev b_SS_dropEndsUpTo : ByteArray := prog_9_method_16_code
def y_SS_dropEndsUpTo : MethodName := ⟨R_SS, "dropEndsUpTo", "(J)V"⟩
def w_SS_dropEndsUpTo : List Cond := .code y_SS_dropEndsUpTo b_SS_dropEndsUpTo 5 (none) :: ww
abbrev b_SS_uniteRows : ByteArray := prog_9_method_18_code
def y_SS_uniteRows : MethodName := ⟨R_SS, "uniteRows", "()V"⟩
def w_SS_uniteRows : List Cond := .code y_SS_uniteRows b_SS_uniteRows 3 (none) :: ww
abbrev b_SR_endSpans : ByteArray := prog_1_method_28_code
def y_SR_endSpans : MethodName := ⟨R_SR, "endSpans", "()I"⟩
def w_SR_endSpans : List Cond := .code y_SR_endSpans b_SR_endSpans 4 (some .int) :: ww
abbrev b_SR_mark : ByteArray := prog_1_method_9_code
def y_SR_mark : MethodName := ⟨R_SR, "mark", "(J)I"⟩
def w_SR_mark : List Cond := .code y_SR_mark b_SR_mark 3 (some .int) :: ww
abbrev b_SR_count : ByteArray := prog_1_method_10_code
def y_SR_count : MethodName := ⟨R_SR, "count", "(I)I"⟩
def w_SR_count : List Cond := .code y_SR_count b_SR_count 2 (some .int) :: ww
abbrev b_SR_fired : ByteArray := prog_1_method_11_code
def y_SR_fired : MethodName := ⟨R_SR, "fired", "(II)J"⟩
def w_SR_fired : List Cond := .code y_SR_fired b_SR_fired 3 (some .long) :: ww
abbrev b_SR_isKey : ByteArray := prog_1_method_17_code
def y_SR_isKey : MethodName := ⟨R_SR, "isKey", "(I)Z"⟩
def w_SR_isKey : List Cond := .code y_SR_isKey b_SR_isKey 1 (some .boolean) :: ww
abbrev b_SS_ofKey : ByteArray := prog_9_method_4_code
def y_SS_ofKey : MethodName := ⟨R_SS, "ofKey", "(I)I"⟩
def w_SS_ofKey : List Cond := .code y_SS_ofKey b_SS_ofKey 4 (some .int) :: ww
abbrev b_SR_spans : ByteArray := prog_1_method_12_code
def y_SR_spans : MethodName := ⟨R_SR, "spans", "(I)I"⟩
def w_SR_spans : List Cond := .code y_SR_spans b_SR_spans 2 (some .int) :: ww
abbrev b_SS_nthOfKey : ByteArray := prog_9_method_5_code
def y_SS_nthOfKey : MethodName := ⟨R_SS, "nthOfKey", "(II)I"⟩
def w_SS_nthOfKey : List Cond := .code y_SS_nthOfKey b_SS_nthOfKey 6 (some .int) :: ww
abbrev b_SR_span : ByteArray := prog_1_method_13_code
def y_SR_span : MethodName := ⟨R_SR, "span", "(III)J"⟩
def w_SR_span : List Cond := .code y_SR_span b_SR_span 5 (some .long) :: ww
abbrev b_SR_month : ByteArray := prog_1_method_14_code
def y_SR_month : MethodName := ⟨R_SR, "month", "(I)I"⟩
def w_SR_month : List Cond := .code y_SR_month b_SR_month 2 (some .int) :: ww
abbrev b_SR_nearest : ByteArray := prog_1_method_15_code
def y_SR_nearest : MethodName := ⟨R_SR, "nearest", "(III)I"⟩
def w_SR_nearest : List Cond := .code y_SR_nearest b_SR_nearest 3 (some .int) :: ww
abbrev b_SR_isGone : ByteArray := prog_1_method_19_code
def y_SR_isGone : MethodName := ⟨R_SR, "isGone", "(J)Z"⟩
def w_SR_isGone : List Cond := .code y_SR_isGone b_SR_isGone 3 (some .boolean) :: ww
abbrev b_SR_dropLate : ByteArray := prog_1_method_20_code
def y_SR_dropLate : MethodName := ⟨R_SR, "dropLate", "()I"⟩
def w_SR_dropLate : List Cond := .code y_SR_dropLate b_SR_dropLate 1 (some .int) :: ww
abbrev b_RS_isFull : ByteArray := prog_8_method_2_code
def y_RS_isFull : MethodName := ⟨R_RS, "isFull", "()Z"⟩
def w_RS_isFull : List Cond := .code y_RS_isFull b_RS_isFull 1 (some .boolean) :: ww
abbrev b_RS_add : ByteArray := prog_8_method_3_code
def y_RS_add : MethodName := ⟨R_RS, "add", "(IJJ)I"⟩
def w_RS_add : List Cond := .code y_RS_add b_RS_add 8 (some .int) :: ww
abbrev b_SR_putWaiting : ByteArray := prog_1_method_21_code
def y_SR_putWaiting : MethodName := ⟨R_SR, "putWaiting", "(IJJ)I"⟩
def w_SR_putWaiting : List Cond := .code y_SR_putWaiting b_SR_putWaiting 6 (some .int) :: ww
abbrev b_SS_shares : ByteArray := prog_9_method_10_code
def y_SS_shares : MethodName := ⟨R_SS, "shares", "(IIJJ)Z"⟩
def w_SS_shares : List Cond := .code y_SS_shares b_SS_shares 7 (some .boolean) :: ww
abbrev b_SS_joinedEnd : ByteArray := prog_9_method_12_code
def y_SS_joinedEnd : MethodName := ⟨R_SS, "joinedEnd", "(IJJ)J"⟩
def w_SS_joinedEnd : List Cond := .code y_SS_joinedEnd b_SS_joinedEnd 10 (some .long) :: ww
abbrev b_SS_sharing : ByteArray := prog_9_method_11_code
def y_SS_sharing : MethodName := ⟨R_SS, "sharing", "(IJJ)I"⟩
def w_SS_sharing : List Cond := .code y_SS_sharing b_SS_sharing 8 (some .int) :: ww
abbrev b_SS_absorb : ByteArray := prog_9_method_14_code
def y_SS_absorb : MethodName := ⟨R_SS, "absorb", "(II)V"⟩
def w_SS_absorb : List Cond := .code y_SS_absorb b_SS_absorb 4 (none) :: ww
abbrev b_SS_isBehind : ByteArray := prog_9_method_7_code
def y_SS_isBehind : MethodName := ⟨R_SS, "isBehind", "(II)Z"⟩
def w_SS_isBehind : List Cond := .code y_SS_isBehind b_SS_isBehind 3 (some .boolean) :: ww
abbrev b_SS_add : ByteArray := prog_9_method_6_code
def y_SS_add : MethodName := ⟨R_SS, "add", "(IJJ)I"⟩
def w_SS_add : List Cond := .code y_SS_add b_SS_add 8 (some .int) :: ww
abbrev b_SS_join : ByteArray := prog_9_method_13_code
def y_SS_join : MethodName := ⟨R_SS, "join", "(IJJ)I"⟩
def w_SS_join : List Cond := .code y_SS_join b_SS_join 9 (some .int) :: ww
abbrev b_SS_put : ByteArray := prog_9_method_8_code
def y_SS_put : MethodName := ⟨R_SS, "put", "(II)V"⟩
def w_SS_put : List Cond := .code y_SS_put b_SS_put 4 (none) :: ww
abbrev b_SR_putAndFire : ByteArray := prog_1_method_25_code
def y_SR_putAndFire : MethodName := ⟨R_SR, "putAndFire", "(II)V"⟩
def w_SR_putAndFire : List Cond := .code y_SR_putAndFire b_SR_putAndFire 3 (none) :: ww
abbrev b_SR_putByGap : ByteArray := prog_1_method_22_code
def y_SR_putByGap : MethodName := ⟨R_SR, "putByGap", "(IJJ)I"⟩
def w_SR_putByGap : List Cond := .code y_SR_putByGap b_SR_putByGap 9 (some .int) :: ww
abbrev b_LA_add : ByteArray := prog_6_method_4_code
def y_LA_add : MethodName := ⟨R_LA, "add", "(JJ)V"⟩
def w_LA_add : List Cond := .code y_LA_add b_LA_add 5 (none) :: ww
abbrev b_LA_slide : ByteArray := prog_6_method_6_code
def y_LA_slide : MethodName := ⟨R_LA, "slide", "(J)V"⟩
def w_LA_slide : List Cond := .code y_LA_slide b_LA_slide 7 (none) :: ww
abbrev b_LA_inMonths : ByteArray := prog_6_method_7_code
def y_LA_inMonths : MethodName := ⟨R_LA, "inMonths", "(J)V"⟩
def w_LA_inMonths : List Cond := .code y_LA_inMonths b_LA_inMonths 5 (none) :: ww
abbrev b_LA_byTurns : ByteArray := prog_6_method_9_code
def y_LA_byTurns : MethodName := ⟨R_LA, "byTurns", "(J)V"⟩
def w_LA_byTurns : List Cond := .code y_LA_byTurns b_LA_byTurns 5 (none) :: ww
abbrev b_LA_beside : ByteArray := prog_6_method_5_code
def y_LA_beside : MethodName := ⟨R_LA, "beside", "(JJ)V"⟩
def w_LA_beside : List Cond := .code y_LA_beside b_LA_beside 7 (none) :: ww
abbrev b_LA_doubling : ByteArray := prog_6_method_10_code
def y_LA_doubling : MethodName := ⟨R_LA, "doubling", "(J)V"⟩
def w_LA_doubling : List Cond := .code y_LA_doubling b_LA_doubling 12 (none) :: ww
abbrev b_LA_byOwnRule : ByteArray := prog_6_method_8_code
def y_LA_byOwnRule : MethodName := ⟨R_LA, "byOwnRule", "(JJ)V"⟩
def w_LA_byOwnRule : List Cond := .code y_LA_byOwnRule b_LA_byOwnRule 5 (none) :: ww
abbrev b_LA_seek : ByteArray := prog_6_method_2_code
def y_LA_seek : MethodName := ⟨R_LA, "seek", "(JJ)V"⟩
def w_LA_seek : List Cond := .code y_LA_seek b_LA_seek 5 (none) :: ww
abbrev b_LA_keepEndsAbove : ByteArray := prog_6_method_3_code
def y_LA_keepEndsAbove : MethodName := ⟨R_LA, "keepEndsAbove", "(J)V"⟩
def w_LA_keepEndsAbove : List Cond := .code y_LA_keepEndsAbove b_LA_keepEndsAbove 5 (none) :: ww
abbrev b_SS_find : ByteArray := prog_9_method_3_code
def y_SS_find : MethodName := ⟨R_SS, "find", "(IJJ)I"⟩
def w_SS_find : List Cond := .code y_SS_find b_SS_find 8 (some .int) :: ww
abbrev b_SR_newOnes : ByteArray := prog_1_method_24_code
def y_SR_newOnes : MethodName := ⟨R_SR, "newOnes", "(I)I"⟩
def w_SR_newOnes : List Cond := .code y_SR_newOnes b_SR_newOnes 4 (some .int) :: ww
abbrev b_SR_putByLayout : ByteArray := prog_1_method_23_code
def y_SR_putByLayout : MethodName := ⟨R_SR, "putByLayout", "(IJJ)I"⟩
def w_SR_putByLayout : List Cond := .code y_SR_putByLayout b_SR_putByLayout 9 (some .int) :: ww
abbrev b_MO_nearest : ByteArray := prog_11_method_1_code
def y_MO_nearest : MethodName := ⟨R_MO, "nearest", "(III)I"⟩
def w_MO_nearest : List Cond := .code y_MO_nearest b_MO_nearest 3 (some .int) :: ww
abbrev b_MO_in : ByteArray := prog_11_method_2_code
def y_MO_in : MethodName := ⟨R_MO, "in", "(JJJ)Z"⟩
def w_MO_in : List Cond := .code y_MO_in b_MO_in 6 (some .boolean) :: ww
abbrev b_MO_thrown : ByteArray := prog_11_method_4_code
def y_MO_thrown : MethodName := ⟨R_MO, "thrown", "()I"⟩
def w_MO_thrown : List Cond := .code y_MO_thrown b_MO_thrown 1 (some .int) :: ww
abbrev b_MO_offset : ByteArray := prog_11_method_5_code
def y_MO_offset : MethodName := ⟨R_MO, "offset", "(J)I"⟩
def w_MO_offset : List Cond := .code y_MO_offset b_MO_offset 3 (some .int) :: ww
abbrev b_MO_lateness : ByteArray := prog_11_method_6_code
def y_MO_lateness : MethodName := ⟨R_MO, "lateness", "(J)I"⟩
def w_MO_lateness : List Cond := .code y_MO_lateness b_MO_lateness 3 (some .int) :: ww
abbrev b_MO_trigger : ByteArray := prog_11_method_7_code
def y_MO_trigger : MethodName := ⟨R_MO, "trigger", "(IZ)I"⟩
def w_MO_trigger : List Cond := .code y_MO_trigger b_MO_trigger 3 (some .int) :: ww
abbrev b_MO_clears : ByteArray := prog_11_method_8_code
def y_MO_clears : MethodName := ⟨R_MO, "clears", "(Z)I"⟩
def w_MO_clears : List Cond := .code y_MO_clears b_MO_clears 3 (some .int) :: ww
abbrev b_MO_rule : ByteArray := prog_11_method_9_code
def y_MO_rule : MethodName := ⟨R_MO, "rule", "(I)I"⟩
def w_MO_rule : List Cond := .code y_MO_rule b_MO_rule 3 (some .int) :: ww
abbrev b_MO_isForbidden : ByteArray := prog_11_method_10_code
def y_MO_isForbidden : MethodName := ⟨R_MO, "isForbidden", "(IJ)Z"⟩
def w_MO_isForbidden : List Cond := .code y_MO_isForbidden b_MO_isForbidden 5 (some .boolean) :: ww
abbrev b_MO_forbid : ByteArray := prog_11_method_11_code
def y_MO_forbid : MethodName := ⟨R_MO, "forbid", "(IJ)I"⟩
def w_MO_forbid : List Cond := .code y_MO_forbid b_MO_forbid 4 (some .int) :: ww
abbrev b_MO_by : ByteArray := prog_11_method_12_code
def y_MO_by : MethodName := ⟨R_MO, "by", "(JJ)J"⟩
def w_MO_by : List Cond := .code y_MO_by b_MO_by 6 (some .long) :: ww
abbrev b_MO_yearAt : ByteArray := prog_11_method_13_code
def y_MO_yearAt : MethodName := ⟨R_MO, "yearAt", "(J)J"⟩
def w_MO_yearAt : List Cond := .code y_MO_yearAt b_MO_yearAt 4 (some .long) :: ww
abbrev b_MO_isLeap : ByteArray := prog_11_method_14_code
def y_MO_isLeap : MethodName := ⟨R_MO, "isLeap", "(J)Z"⟩
def w_MO_isLeap : List Cond := .code y_MO_isLeap b_MO_isLeap 2 (some .boolean) :: ww
abbrev b_MO_daysIn : ByteArray := prog_11_method_15_code
def y_MO_daysIn : MethodName := ⟨R_MO, "daysIn", "(JI)I"⟩
def w_MO_daysIn : List Cond := .code y_MO_daysIn b_MO_daysIn 3 (some .int) :: ww
abbrev b_MO_monthAt : ByteArray := prog_11_method_16_code
def y_MO_monthAt : MethodName := ⟨R_MO, "monthAt", "(J)J"⟩
def w_MO_monthAt : List Cond := .code y_MO_monthAt b_MO_monthAt 8 (some .long) :: ww
abbrev b_MO_monthOf : ByteArray := prog_11_method_17_code
def y_MO_monthOf : MethodName := ⟨R_MO, "monthOf", "(J)J"⟩
def w_MO_monthOf : List Cond := .code y_MO_monthOf b_MO_monthOf 4 (some .long) :: ww
abbrev b_MO_month : ByteArray := prog_11_method_18_code
def y_MO_month : MethodName := ⟨R_MO, "month", "(I)I"⟩
def w_MO_month : List Cond := .code y_MO_month b_MO_month 2 (some .int) :: ww
abbrev b_MO_want : ByteArray := prog_11_method_19_code
def y_MO_want : MethodName := ⟨R_MO, "want", "(JJ)V"⟩
def w_MO_want : List Cond := .code y_MO_want b_MO_want 5 (none) :: ww
abbrev b_MO_beside : ByteArray := prog_11_method_20_code
def y_MO_beside : MethodName := ⟨R_MO, "beside", "(JJ)V"⟩
def w_MO_beside : List Cond := .code y_MO_beside b_MO_beside 7 (none) :: ww
abbrev b_MO_double0 : ByteArray := prog_11_method_22_code
def y_MO_double0 : MethodName := ⟨R_MO, "double0", "(J)V"⟩
def w_MO_double0 : List Cond := .code y_MO_double0 b_MO_double0 7 (none) :: ww
abbrev b_MO_wantFor : ByteArray := prog_11_method_21_code
def y_MO_wantFor : MethodName := ⟨R_MO, "wantFor", "(JJ)V"⟩
def w_MO_wantFor : List Cond := .code y_MO_wantFor b_MO_wantFor 13 (none) :: ww
abbrev b_MO_spanAt : ByteArray := prog_11_method_23_code
def y_MO_spanAt : MethodName := ⟨R_MO, "spanAt", "(IJJ)I"⟩
def w_MO_spanAt : List Cond := .code y_MO_spanAt b_MO_spanAt 7 (some .int) :: ww
abbrev b_MO_newSpan : ByteArray := prog_11_method_24_code
def y_MO_newSpan : MethodName := ⟨R_MO, "newSpan", "(IJJ)I"⟩
def w_MO_newSpan : List Cond := .code y_MO_newSpan b_MO_newSpan 8 (some .int) :: ww
abbrev b_MO_newRow : ByteArray := prog_11_method_25_code
def y_MO_newRow : MethodName := ⟨R_MO, "newRow", "(IJJ)I"⟩
def w_MO_newRow : List Cond := .code y_MO_newRow b_MO_newRow 7 (some .int) :: ww
abbrev b_MO_isBefore : ByteArray := prog_11_method_26_code
def y_MO_isBefore : MethodName := ⟨R_MO, "isBefore", "(II)Z"⟩
def w_MO_isBefore : List Cond := .code y_MO_isBefore b_MO_isBefore 3 (some .boolean) :: ww
abbrev b_MO_contents : ByteArray := prog_11_method_27_code
def y_MO_contents : MethodName := ⟨R_MO, "contents", "()V"⟩
def w_MO_contents : List Cond := .code y_MO_contents b_MO_contents 4 (none) :: ww
abbrev b_MO_tell : ByteArray := prog_11_method_28_code
def y_MO_tell : MethodName := ⟨R_MO, "tell", "(IJJII)V"⟩
def w_MO_tell : List Cond := .code y_MO_tell b_MO_tell 10 (none) :: ww
abbrev b_MO_fire : ByteArray := prog_11_method_29_code
def y_MO_fire : MethodName := ⟨R_MO, "fire", "(II)V"⟩
def w_MO_fire : List Cond := .code y_MO_fire b_MO_fire 5 (none) :: ww
abbrev b_MO_putInto : ByteArray := prog_11_method_30_code
def y_MO_putInto : MethodName := ⟨R_MO, "putInto", "(II)V"⟩
def w_MO_putInto : List Cond := .code y_MO_putInto b_MO_putInto 3 (none) :: ww
abbrev b_MO_drop : ByteArray := prog_11_method_32_code
def y_MO_drop : MethodName := ⟨R_MO, "drop", "()I"⟩
def w_MO_drop : List Cond := .code y_MO_drop b_MO_drop 1 (some .int) :: ww
abbrev b_MO_counted : ByteArray := prog_11_method_33_code
def y_MO_counted : MethodName := ⟨R_MO, "counted", "(IJJ)I"⟩
def w_MO_counted : List Cond := .code y_MO_counted b_MO_counted 7 (some .int) :: ww
abbrev b_MO_join : ByteArray := prog_11_method_36_code
def y_MO_join : MethodName := ⟨R_MO, "join", "(II)V"⟩
def w_MO_join : List Cond := .code y_MO_join b_MO_join 6 (none) :: ww
abbrev b_MO_gap : ByteArray := prog_11_method_35_code
def y_MO_gap : MethodName := ⟨R_MO, "gap", "(IJJ)I"⟩
def w_MO_gap : List Cond := .code y_MO_gap b_MO_gap 14 (some .int) :: ww
abbrev b_MO_plain : ByteArray := prog_11_method_34_code
def y_MO_plain : MethodName := ⟨R_MO, "plain", "(IJJ)I"⟩
def w_MO_plain : List Cond := .code y_MO_plain b_MO_plain 11 (some .int) :: ww
abbrev b_MO_row : ByteArray := prog_11_method_31_code
def y_MO_row : MethodName := ⟨R_MO, "row", "(IJJ)I"⟩
def w_MO_row : List Cond := .code y_MO_row b_MO_row 8 (some .int) :: ww
abbrev b_MO_isFirst : ByteArray := prog_11_method_37_code
def y_MO_isFirst : MethodName := ⟨R_MO, "isFirst", "(II)Z"⟩
def w_MO_isFirst : List Cond := .code y_MO_isFirst b_MO_isFirst 3 (some .boolean) :: ww
abbrev b_MO_isWanted : ByteArray := prog_11_method_40_code
def y_MO_isWanted : MethodName := ⟨R_MO, "isWanted", "(II)Z"⟩
def w_MO_isWanted : List Cond := .code y_MO_isWanted b_MO_isWanted 5 (some .boolean) :: ww
abbrev b_MO_countedMark : ByteArray := prog_11_method_39_code
def y_MO_countedMark : MethodName := ⟨R_MO, "countedMark", "()I"⟩
def w_MO_countedMark : List Cond := .code y_MO_countedMark b_MO_countedMark 6 (some .int) :: ww
abbrev b_MO_mark : ByteArray := prog_11_method_38_code
def y_MO_mark : MethodName := ⟨R_MO, "mark", "(J)I"⟩
def w_MO_mark : List Cond := .code y_MO_mark b_MO_mark 8 (some .int) :: ww
abbrev b_MO_count : ByteArray := prog_11_method_41_code
def y_MO_count : MethodName := ⟨R_MO, "count", "(I)I"⟩
def w_MO_count : List Cond := .code y_MO_count b_MO_count 2 (some .int) :: ww
abbrev b_MO_fired : ByteArray := prog_11_method_42_code
def y_MO_fired : MethodName := ⟨R_MO, "fired", "(II)J"⟩
def w_MO_fired : List Cond := .code y_MO_fired b_MO_fired 3 (some .long) :: ww
abbrev b_MO_spans : ByteArray := prog_11_method_43_code
def y_MO_spans : MethodName := ⟨R_MO, "spans", "(I)I"⟩
def w_MO_spans : List Cond := .code y_MO_spans b_MO_spans 4 (some .int) :: ww
abbrev b_MO_span : ByteArray := prog_11_method_44_code
def y_MO_span : MethodName := ⟨R_MO, "span", "(III)J"⟩
def w_MO_span : List Cond := .code y_MO_span b_MO_span 8 (some .long) :: ww
end
section
theorem mw_1 : (Jvm.Cond.initialized "SpanRules") ∈ ww := ww_mem (List.mem_append_right _ (List.mem_append_left _ (List.mem_of_getElem? (i := 1) rfl))) rfl
theorem mw_2 : (Jvm.Cond.initialized "SpanRules$Forbidden") ∈ ww := ww_mem (List.mem_append_right _ (List.mem_append_left _ (List.mem_of_getElem? (i := 2) rfl))) rfl
theorem mw_3 : (Jvm.Cond.initialized "SpanRules$RowStore") ∈ ww := ww_mem (List.mem_append_right _ (List.mem_append_left _ (List.mem_of_getElem? (i := 3) rfl))) rfl
theorem mw_4 : (Jvm.Cond.initialized "SpanRules$SpanStore") ∈ ww := ww_mem (List.mem_append_right _ (List.mem_append_left _ (List.mem_of_getElem? (i := 4) rfl))) rfl
theorem mw_6 : (Jvm.Cond.initialized "SpanRules$FiringStore") ∈ ww := ww_mem (List.mem_append_right _ (List.mem_append_left _ (List.mem_of_getElem? (i := 6) rfl))) rfl
theorem mw_7 : (Jvm.Cond.initialized "SpanRules$Contents") ∈ ww := ww_mem (List.mem_append_right _ (List.mem_append_left _ (List.mem_of_getElem? (i := 7) rfl))) rfl
theorem mw_8 : (Jvm.Cond.initialized "SpanRules$Layout") ∈ ww := ww_mem (List.mem_append_right _ (List.mem_append_left _ (List.mem_of_getElem? (i := 8) rfl))) rfl
theorem mw_9 : (Jvm.Cond.initialized "SpanRulesModel") ∈ ww := ww_mem (List.mem_append_right _ (List.mem_append_left _ (List.mem_of_getElem? (i := 9) rfl))) rfl
theorem mw_14 : (Jvm.Cond.initialized "java/lang/Math") ∈ ww := ww_mem (List.mem_append_right _ (List.mem_append_left _ (List.mem_of_getElem? (i := 14) rfl))) rfl
theorem mw_15 : (Jvm.Cond.initialized "SpanRules$Calendar") ∈ ww := ww_mem (List.mem_append_right _ (List.mem_append_left _ (List.mem_of_getElem? (i := 15) rfl))) rfl
theorem mw_30 : (Jvm.Cond.fieldLink "SpanRules$Forbidden" (9 : Nat) "SpanRules$Forbidden" "values" "[J") ∈ ww := ww_mem (List.mem_append_right _ (List.mem_append_left _ (List.mem_of_getElem? (i := 30) rfl))) rfl
theorem mw_31 : (Jvm.Cond.fieldLink "SpanRules$Forbidden" (15 : Nat) "SpanRules$Forbidden" "known" "[I") ∈ ww := ww_mem (List.mem_append_right _ (List.mem_append_left _ (List.mem_of_getElem? (i := 31) rfl))) rfl
theorem mw_32 : (Jvm.Cond.laysFinal "SpanRules$Forbidden" "SpanRules$Forbidden" "values" "[J") ∈ ww := ww_mem (List.mem_append_right _ (List.mem_append_left _ (List.mem_of_getElem? (i := 32) rfl))) rfl
theorem mw_34 : (Jvm.Cond.laysFinal "SpanRules$Forbidden" "SpanRules$Forbidden" "known" "[I") ∈ ww := ww_mem (List.mem_append_right _ (List.mem_append_left _ (List.mem_of_getElem? (i := 34) rfl))) rfl
theorem mw_45 : (Jvm.Cond.fieldLink "SpanRules$RowStore" (9 : Nat) "SpanRules$RowStore" "keys" "[I") ∈ ww := ww_mem (List.mem_append_right _ (List.mem_append_left _ (List.mem_of_getElem? (i := 45) rfl))) rfl
theorem mw_46 : (Jvm.Cond.fieldLink "SpanRules" (364 : Nat) "SpanRules$RowStore" "keys" "[I") ∈ ww := ww_mem (List.mem_append_right _ (List.mem_append_left _ (List.mem_of_getElem? (i := 46) rfl))) rfl
theorem mw_47 : (Jvm.Cond.fieldLink "SpanRules$RowStore" (15 : Nat) "SpanRules$RowStore" "times" "[J") ∈ ww := ww_mem (List.mem_append_right _ (List.mem_append_left _ (List.mem_of_getElem? (i := 47) rfl))) rfl
theorem mw_48 : (Jvm.Cond.fieldLink "SpanRules" (365 : Nat) "SpanRules$RowStore" "times" "[J") ∈ ww := ww_mem (List.mem_append_right _ (List.mem_append_left _ (List.mem_of_getElem? (i := 48) rfl))) rfl
theorem mw_49 : (Jvm.Cond.fieldLink "SpanRules$RowStore" (19 : Nat) "SpanRules$RowStore" "values" "[J") ∈ ww := ww_mem (List.mem_append_right _ (List.mem_append_left _ (List.mem_of_getElem? (i := 49) rfl))) rfl
theorem mw_50 : (Jvm.Cond.fieldLink "SpanRules" (316 : Nat) "SpanRules$RowStore" "values" "[J") ∈ ww := ww_mem (List.mem_append_right _ (List.mem_append_left _ (List.mem_of_getElem? (i := 50) rfl))) rfl
theorem mw_51 : (Jvm.Cond.fieldLink "SpanRules$RowStore" (22 : Nat) "SpanRules$RowStore" "numbers" "[I") ∈ ww := ww_mem (List.mem_append_right _ (List.mem_append_left _ (List.mem_of_getElem? (i := 51) rfl))) rfl
theorem mw_52 : (Jvm.Cond.fieldLink "SpanRules" (355 : Nat) "SpanRules$RowStore" "numbers" "[I") ∈ ww := ww_mem (List.mem_append_right _ (List.mem_append_left _ (List.mem_of_getElem? (i := 52) rfl))) rfl
theorem mw_53 : (Jvm.Cond.fieldLink "SpanRules$RowStore" (25 : Nat) "SpanRules$RowStore" "leaves" "[Z") ∈ ww := ww_mem (List.mem_append_right _ (List.mem_append_left _ (List.mem_of_getElem? (i := 53) rfl))) rfl
theorem mw_54 : (Jvm.Cond.fieldLink "SpanRules" (334 : Nat) "SpanRules$RowStore" "leaves" "[Z") ∈ ww := ww_mem (List.mem_append_right _ (List.mem_append_left _ (List.mem_of_getElem? (i := 54) rfl))) rfl
theorem mw_55 : (Jvm.Cond.fieldLink "SpanRules$RowStore" (29 : Nat) "SpanRules$RowStore" "order" "[I") ∈ ww := ww_mem (List.mem_append_right _ (List.mem_append_left _ (List.mem_of_getElem? (i := 55) rfl))) rfl
theorem mw_56 : (Jvm.Cond.fieldLink "SpanRules" (309 : Nat) "SpanRules$RowStore" "order" "[I") ∈ ww := ww_mem (List.mem_append_right _ (List.mem_append_left _ (List.mem_of_getElem? (i := 56) rfl))) rfl
theorem mw_57 : (Jvm.Cond.fieldLink "SpanRules$RowStore" (32 : Nat) "SpanRules$RowStore" "kept" "I") ∈ ww := ww_mem (List.mem_append_right _ (List.mem_append_left _ (List.mem_of_getElem? (i := 57) rfl))) rfl
theorem mw_58 : (Jvm.Cond.fieldLink "SpanRules" (154 : Nat) "SpanRules$RowStore" "kept" "I") ∈ ww := ww_mem (List.mem_append_right _ (List.mem_append_left _ (List.mem_of_getElem? (i := 58) rfl))) rfl
theorem mw_59 : (Jvm.Cond.laysFinal "SpanRules$RowStore" "SpanRules$RowStore" "keys" "[I") ∈ ww := ww_mem (List.mem_append_right _ (List.mem_append_left _ (List.mem_of_getElem? (i := 59) rfl))) rfl
theorem mw_61 : (Jvm.Cond.laysFinal "SpanRules$RowStore" "SpanRules$RowStore" "times" "[J") ∈ ww := ww_mem (List.mem_append_right _ (List.mem_append_left _ (List.mem_of_getElem? (i := 61) rfl))) rfl
theorem mw_63 : (Jvm.Cond.laysFinal "SpanRules$RowStore" "SpanRules$RowStore" "values" "[J") ∈ ww := ww_mem (List.mem_append_right _ (List.mem_append_left _ (List.mem_of_getElem? (i := 63) rfl))) rfl
theorem mw_65 : (Jvm.Cond.laysFinal "SpanRules$RowStore" "SpanRules$RowStore" "numbers" "[I") ∈ ww := ww_mem (List.mem_append_right _ (List.mem_append_left _ (List.mem_of_getElem? (i := 65) rfl))) rfl
theorem mw_67 : (Jvm.Cond.laysFinal "SpanRules$RowStore" "SpanRules$RowStore" "leaves" "[Z") ∈ ww := ww_mem (List.mem_append_right _ (List.mem_append_left _ (List.mem_of_getElem? (i := 67) rfl))) rfl
theorem mw_69 : (Jvm.Cond.laysFinal "SpanRules$RowStore" "SpanRules$RowStore" "order" "[I") ∈ ww := ww_mem (List.mem_append_right _ (List.mem_append_left _ (List.mem_of_getElem? (i := 69) rfl))) rfl
theorem mw_71 : (Jvm.Cond.lays "SpanRules$RowStore" "SpanRules$RowStore" "kept" "I") ∈ ww := ww_mem (List.mem_append_right _ (List.mem_append_left _ (List.mem_of_getElem? (i := 71) rfl))) rfl
theorem mw_81 : (Jvm.Cond.fieldLink "SpanRules$SpanStore" (9 : Nat) "SpanRules$SpanStore" "keys" "[I") ∈ ww := ww_mem (List.mem_append_right _ (List.mem_append_left _ (List.mem_of_getElem? (i := 81) rfl))) rfl
theorem mw_82 : (Jvm.Cond.fieldLink "SpanRules" (300 : Nat) "SpanRules$SpanStore" "keys" "[I") ∈ ww := ww_mem (List.mem_append_right _ (List.mem_append_left _ (List.mem_of_getElem? (i := 82) rfl))) rfl
theorem mw_83 : (Jvm.Cond.fieldLink "SpanRules$SpanStore" (15 : Nat) "SpanRules$SpanStore" "begins" "[J") ∈ ww := ww_mem (List.mem_append_right _ (List.mem_append_left _ (List.mem_of_getElem? (i := 83) rfl))) rfl
theorem mw_84 : (Jvm.Cond.fieldLink "SpanRules" (191 : Nat) "SpanRules$SpanStore" "begins" "[J") ∈ ww := ww_mem (List.mem_append_right _ (List.mem_append_left _ (List.mem_of_getElem? (i := 84) rfl))) rfl
theorem mw_85 : (Jvm.Cond.fieldLink "SpanRules$SpanStore" (19 : Nat) "SpanRules$SpanStore" "ends" "[J") ∈ ww := ww_mem (List.mem_append_right _ (List.mem_append_left _ (List.mem_of_getElem? (i := 85) rfl))) rfl
theorem mw_86 : (Jvm.Cond.fieldLink "SpanRules" (195 : Nat) "SpanRules$SpanStore" "ends" "[J") ∈ ww := ww_mem (List.mem_append_right _ (List.mem_append_left _ (List.mem_of_getElem? (i := 86) rfl))) rfl
theorem mw_87 : (Jvm.Cond.fieldLink "SpanRules$SpanStore" (22 : Nat) "SpanRules$SpanStore" "fires" "[I") ∈ ww := ww_mem (List.mem_append_right _ (List.mem_append_left _ (List.mem_of_getElem? (i := 87) rfl))) rfl
theorem mw_88 : (Jvm.Cond.fieldLink "SpanRules" (209 : Nat) "SpanRules$SpanStore" "fires" "[I") ∈ ww := ww_mem (List.mem_append_right _ (List.mem_append_left _ (List.mem_of_getElem? (i := 88) rfl))) rfl
theorem mw_89 : (Jvm.Cond.fieldLink "SpanRules$SpanStore" (25 : Nat) "SpanRules$SpanStore" "since" "[I") ∈ ww := ww_mem (List.mem_append_right _ (List.mem_append_left _ (List.mem_of_getElem? (i := 89) rfl))) rfl
theorem mw_90 : (Jvm.Cond.fieldLink "SpanRules" (212 : Nat) "SpanRules$SpanStore" "since" "[I") ∈ ww := ww_mem (List.mem_append_right _ (List.mem_append_left _ (List.mem_of_getElem? (i := 90) rfl))) rfl
theorem mw_91 : (Jvm.Cond.fieldLink "SpanRules$SpanStore" (28 : Nat) "SpanRules$SpanStore" "ended" "[Z") ∈ ww := ww_mem (List.mem_append_right _ (List.mem_append_left _ (List.mem_of_getElem? (i := 91) rfl))) rfl
theorem mw_92 : (Jvm.Cond.fieldLink "SpanRules" (260 : Nat) "SpanRules$SpanStore" "ended" "[Z") ∈ ww := ww_mem (List.mem_append_right _ (List.mem_append_left _ (List.mem_of_getElem? (i := 92) rfl))) rfl
theorem mw_93 : (Jvm.Cond.fieldLink "SpanRules$SpanStore" (32 : Nat) "SpanRules$SpanStore" "had" "[J") ∈ ww := ww_mem (List.mem_append_right _ (List.mem_append_left _ (List.mem_of_getElem? (i := 93) rfl))) rfl
theorem mw_94 : (Jvm.Cond.fieldLink "SpanRules" (198 : Nat) "SpanRules$SpanStore" "had" "[J") ∈ ww := ww_mem (List.mem_append_right _ (List.mem_append_left _ (List.mem_of_getElem? (i := 94) rfl))) rfl
theorem mw_95 : (Jvm.Cond.fieldLink "SpanRules$SpanStore" (35 : Nat) "SpanRules$SpanStore" "untold" "[J") ∈ ww := ww_mem (List.mem_append_right _ (List.mem_append_left _ (List.mem_of_getElem? (i := 95) rfl))) rfl
theorem mw_96 : (Jvm.Cond.fieldLink "SpanRules" (294 : Nat) "SpanRules$SpanStore" "untold" "[J") ∈ ww := ww_mem (List.mem_append_right _ (List.mem_append_left _ (List.mem_of_getElem? (i := 96) rfl))) rfl
theorem mw_97 : (Jvm.Cond.fieldLink "SpanRules$SpanStore" (38 : Nat) "SpanRules$SpanStore" "united" "[J") ∈ ww := ww_mem (List.mem_append_right _ (List.mem_append_left _ (List.mem_of_getElem? (i := 97) rfl))) rfl
theorem mw_98 : (Jvm.Cond.fieldLink "SpanRules" (337 : Nat) "SpanRules$SpanStore" "united" "[J") ∈ ww := ww_mem (List.mem_append_right _ (List.mem_append_left _ (List.mem_of_getElem? (i := 98) rfl))) rfl
theorem mw_99 : (Jvm.Cond.fieldLink "SpanRules$SpanStore" (41 : Nat) "SpanRules$SpanStore" "due" "[I") ∈ ww := ww_mem (List.mem_append_right _ (List.mem_append_left _ (List.mem_of_getElem? (i := 99) rfl))) rfl
theorem mw_100 : (Jvm.Cond.fieldLink "SpanRules" (325 : Nat) "SpanRules$SpanStore" "due" "[I") ∈ ww := ww_mem (List.mem_append_right _ (List.mem_append_left _ (List.mem_of_getElem? (i := 100) rfl))) rfl
theorem mw_101 : (Jvm.Cond.fieldLink "SpanRules$SpanStore" (44 : Nat) "SpanRules$SpanStore" "order" "[I") ∈ ww := ww_mem (List.mem_append_right _ (List.mem_append_left _ (List.mem_of_getElem? (i := 101) rfl))) rfl
theorem mw_102 : (Jvm.Cond.fieldLink "SpanRules$SpanStore" (47 : Nat) "SpanRules$SpanStore" "kept" "I") ∈ ww := ww_mem (List.mem_append_right _ (List.mem_append_left _ (List.mem_of_getElem? (i := 102) rfl))) rfl
theorem mw_103 : (Jvm.Cond.fieldLink "SpanRules" (157 : Nat) "SpanRules$SpanStore" "kept" "I") ∈ ww := ww_mem (List.mem_append_right _ (List.mem_append_left _ (List.mem_of_getElem? (i := 103) rfl))) rfl
theorem mw_104 : (Jvm.Cond.laysFinal "SpanRules$SpanStore" "SpanRules$SpanStore" "keys" "[I") ∈ ww := ww_mem (List.mem_append_right _ (List.mem_append_left _ (List.mem_of_getElem? (i := 104) rfl))) rfl
theorem mw_106 : (Jvm.Cond.laysFinal "SpanRules$SpanStore" "SpanRules$SpanStore" "begins" "[J") ∈ ww := ww_mem (List.mem_append_right _ (List.mem_append_left _ (List.mem_of_getElem? (i := 106) rfl))) rfl
theorem mw_108 : (Jvm.Cond.laysFinal "SpanRules$SpanStore" "SpanRules$SpanStore" "ends" "[J") ∈ ww := ww_mem (List.mem_append_right _ (List.mem_append_left _ (List.mem_of_getElem? (i := 108) rfl))) rfl
theorem mw_110 : (Jvm.Cond.laysFinal "SpanRules$SpanStore" "SpanRules$SpanStore" "fires" "[I") ∈ ww := ww_mem (List.mem_append_right _ (List.mem_append_left _ (List.mem_of_getElem? (i := 110) rfl))) rfl
theorem mw_112 : (Jvm.Cond.laysFinal "SpanRules$SpanStore" "SpanRules$SpanStore" "since" "[I") ∈ ww := ww_mem (List.mem_append_right _ (List.mem_append_left _ (List.mem_of_getElem? (i := 112) rfl))) rfl
theorem mw_114 : (Jvm.Cond.laysFinal "SpanRules$SpanStore" "SpanRules$SpanStore" "ended" "[Z") ∈ ww := ww_mem (List.mem_append_right _ (List.mem_append_left _ (List.mem_of_getElem? (i := 114) rfl))) rfl
theorem mw_116 : (Jvm.Cond.laysFinal "SpanRules$SpanStore" "SpanRules$SpanStore" "had" "[J") ∈ ww := ww_mem (List.mem_append_right _ (List.mem_append_left _ (List.mem_of_getElem? (i := 116) rfl))) rfl
theorem mw_118 : (Jvm.Cond.laysFinal "SpanRules$SpanStore" "SpanRules$SpanStore" "untold" "[J") ∈ ww := ww_mem (List.mem_append_right _ (List.mem_append_left _ (List.mem_of_getElem? (i := 118) rfl))) rfl
theorem mw_120 : (Jvm.Cond.laysFinal "SpanRules$SpanStore" "SpanRules$SpanStore" "united" "[J") ∈ ww := ww_mem (List.mem_append_right _ (List.mem_append_left _ (List.mem_of_getElem? (i := 120) rfl))) rfl
theorem mw_122 : (Jvm.Cond.laysFinal "SpanRules$SpanStore" "SpanRules$SpanStore" "due" "[I") ∈ ww := ww_mem (List.mem_append_right _ (List.mem_append_left _ (List.mem_of_getElem? (i := 122) rfl))) rfl
theorem mw_124 : (Jvm.Cond.laysFinal "SpanRules$SpanStore" "SpanRules$SpanStore" "order" "[I") ∈ ww := ww_mem (List.mem_append_right _ (List.mem_append_left _ (List.mem_of_getElem? (i := 124) rfl))) rfl
theorem mw_126 : (Jvm.Cond.lays "SpanRules$SpanStore" "SpanRules$SpanStore" "kept" "I") ∈ ww := ww_mem (List.mem_append_right _ (List.mem_append_left _ (List.mem_of_getElem? (i := 126) rfl))) rfl
theorem mw_136 : (Jvm.Cond.fieldLink "SpanRules" (179 : Nat) "SpanRules$Numbering" "numbered" "[I") ∈ ww := ww_mem (List.mem_append_right _ (List.mem_append_left _ (List.mem_of_getElem? (i := 136) rfl))) rfl
theorem mw_138 : (Jvm.Cond.fieldLink "SpanRules" (368 : Nat) "SpanRules$Numbering" "begins" "[J") ∈ ww := ww_mem (List.mem_append_right _ (List.mem_append_left _ (List.mem_of_getElem? (i := 138) rfl))) rfl
theorem mw_139 : (Jvm.Cond.laysFinal "SpanRules$Numbering" "SpanRules$Numbering" "numbered" "[I") ∈ ww := ww_mem (List.mem_append_right _ (List.mem_append_left _ (List.mem_of_getElem? (i := 139) rfl))) rfl
theorem mw_141 : (Jvm.Cond.laysFinal "SpanRules$Numbering" "SpanRules$Numbering" "begins" "[J") ∈ ww := ww_mem (List.mem_append_right _ (List.mem_append_left _ (List.mem_of_getElem? (i := 141) rfl))) rfl
theorem mw_150 : (Jvm.Cond.fieldLink "SpanRules$FiringStore" (11 : Nat) "SpanRules$FiringStore" "cells" "[J") ∈ ww := ww_mem (List.mem_append_right _ (List.mem_append_left _ (List.mem_of_getElem? (i := 150) rfl))) rfl
theorem mw_151 : (Jvm.Cond.fieldLink "SpanRules$FiringStore" (15 : Nat) "SpanRules$FiringStore" "total" "I") ∈ ww := ww_mem (List.mem_append_right _ (List.mem_append_left _ (List.mem_of_getElem? (i := 151) rfl))) rfl
theorem mw_152 : (Jvm.Cond.fieldLink "SpanRules" (158 : Nat) "SpanRules$FiringStore" "total" "I") ∈ ww := ww_mem (List.mem_append_right _ (List.mem_append_left _ (List.mem_of_getElem? (i := 152) rfl))) rfl
theorem mw_153 : (Jvm.Cond.fieldLink "SpanRules$FiringStore" (19 : Nat) "SpanRules$FiringStore" "early" "I") ∈ ww := ww_mem (List.mem_append_right _ (List.mem_append_left _ (List.mem_of_getElem? (i := 153) rfl))) rfl
theorem mw_154 : (Jvm.Cond.fieldLink "SpanRules" (163 : Nat) "SpanRules$FiringStore" "early" "I") ∈ ww := ww_mem (List.mem_append_right _ (List.mem_append_left _ (List.mem_of_getElem? (i := 154) rfl))) rfl
theorem mw_155 : (Jvm.Cond.fieldLink "SpanRules$FiringStore" (22 : Nat) "SpanRules$FiringStore" "lately" "I") ∈ ww := ww_mem (List.mem_append_right _ (List.mem_append_left _ (List.mem_of_getElem? (i := 155) rfl))) rfl
theorem mw_156 : (Jvm.Cond.fieldLink "SpanRules" (166 : Nat) "SpanRules$FiringStore" "lately" "I") ∈ ww := ww_mem (List.mem_append_right _ (List.mem_append_left _ (List.mem_of_getElem? (i := 156) rfl))) rfl
theorem mw_157 : (Jvm.Cond.laysFinal "SpanRules$FiringStore" "SpanRules$FiringStore" "cells" "[J") ∈ ww := ww_mem (List.mem_append_right _ (List.mem_append_left _ (List.mem_of_getElem? (i := 157) rfl))) rfl
theorem mw_159 : (Jvm.Cond.lays "SpanRules$FiringStore" "SpanRules$FiringStore" "total" "I") ∈ ww := ww_mem (List.mem_append_right _ (List.mem_append_left _ (List.mem_of_getElem? (i := 159) rfl))) rfl
theorem mw_161 : (Jvm.Cond.lays "SpanRules$FiringStore" "SpanRules$FiringStore" "early" "I") ∈ ww := ww_mem (List.mem_append_right _ (List.mem_append_left _ (List.mem_of_getElem? (i := 161) rfl))) rfl
theorem mw_163 : (Jvm.Cond.lays "SpanRules$FiringStore" "SpanRules$FiringStore" "lately" "I") ∈ ww := ww_mem (List.mem_append_right _ (List.mem_append_left _ (List.mem_of_getElem? (i := 163) rfl))) rfl
theorem mw_172 : (Jvm.Cond.fieldLink "SpanRules$Contents" (7 : Nat) "SpanRules$Contents" "rows" "I") ∈ ww := ww_mem (List.mem_append_right _ (List.mem_append_left _ (List.mem_of_getElem? (i := 172) rfl))) rfl
theorem mw_173 : (Jvm.Cond.fieldLink "SpanRules$Contents" (13 : Nat) "SpanRules$Contents" "sum" "J") ∈ ww := ww_mem (List.mem_append_right _ (List.mem_append_left _ (List.mem_of_getElem? (i := 173) rfl))) rfl
theorem mw_174 : (Jvm.Cond.fieldLink "SpanRules$Contents" (17 : Nat) "SpanRules$Contents" "least" "J") ∈ ww := ww_mem (List.mem_append_right _ (List.mem_append_left _ (List.mem_of_getElem? (i := 174) rfl))) rfl
theorem mw_175 : (Jvm.Cond.fieldLink "SpanRules$Contents" (20 : Nat) "SpanRules$Contents" "greatest" "J") ∈ ww := ww_mem (List.mem_append_right _ (List.mem_append_left _ (List.mem_of_getElem? (i := 175) rfl))) rfl
theorem mw_176 : (Jvm.Cond.fieldLink "SpanRules$Contents" (23 : Nat) "SpanRules$Contents" "mix" "J") ∈ ww := ww_mem (List.mem_append_right _ (List.mem_append_left _ (List.mem_of_getElem? (i := 176) rfl))) rfl
theorem mw_177 : (Jvm.Cond.lays "SpanRules$Contents" "SpanRules$Contents" "rows" "I") ∈ ww := ww_mem (List.mem_append_right _ (List.mem_append_left _ (List.mem_of_getElem? (i := 177) rfl))) rfl
theorem mw_179 : (Jvm.Cond.lays "SpanRules$Contents" "SpanRules$Contents" "sum" "J") ∈ ww := ww_mem (List.mem_append_right _ (List.mem_append_left _ (List.mem_of_getElem? (i := 179) rfl))) rfl
theorem mw_181 : (Jvm.Cond.lays "SpanRules$Contents" "SpanRules$Contents" "least" "J") ∈ ww := ww_mem (List.mem_append_right _ (List.mem_append_left _ (List.mem_of_getElem? (i := 181) rfl))) rfl
theorem mw_183 : (Jvm.Cond.lays "SpanRules$Contents" "SpanRules$Contents" "greatest" "J") ∈ ww := ww_mem (List.mem_append_right _ (List.mem_append_left _ (List.mem_of_getElem? (i := 183) rfl))) rfl
theorem mw_185 : (Jvm.Cond.lays "SpanRules$Contents" "SpanRules$Contents" "mix" "J") ∈ ww := ww_mem (List.mem_append_right _ (List.mem_append_left _ (List.mem_of_getElem? (i := 185) rfl))) rfl
theorem mw_188 : (Jvm.Cond.constantLong "SpanRules" (55 : Nat) (-10000000000000 : Int64)) ∈ ww := ww_mem (List.mem_append_right _ (List.mem_append_left _ (List.mem_of_getElem? (i := 188) rfl))) rfl
theorem mw_199 : (Jvm.Cond.fieldLink "SpanRules$Layout" (29 : Nat) "SpanRules$Layout" "kind" "I") ∈ ww := ww_mem (List.mem_append_right _ (List.mem_append_left _ (List.mem_of_getElem? (i := 199) rfl))) rfl
theorem mw_200 : (Jvm.Cond.fieldLink "SpanRules" (102 : Nat) "SpanRules$Layout" "kind" "I") ∈ ww := ww_mem (List.mem_append_right _ (List.mem_append_left _ (List.mem_of_getElem? (i := 200) rfl))) rfl
theorem mw_201 : (Jvm.Cond.fieldLink "SpanRules$Layout" (32 : Nat) "SpanRules$Layout" "size" "J") ∈ ww := ww_mem (List.mem_append_right _ (List.mem_append_left _ (List.mem_of_getElem? (i := 201) rfl))) rfl
theorem mw_202 : (Jvm.Cond.fieldLink "SpanRules" (243 : Nat) "SpanRules$Layout" "size" "J") ∈ ww := ww_mem (List.mem_append_right _ (List.mem_append_left _ (List.mem_of_getElem? (i := 202) rfl))) rfl
theorem mw_203 : (Jvm.Cond.fieldLink "SpanRules$Layout" (35 : Nat) "SpanRules$Layout" "step" "J") ∈ ww := ww_mem (List.mem_append_right _ (List.mem_append_left _ (List.mem_of_getElem? (i := 203) rfl))) rfl
theorem mw_204 : (Jvm.Cond.fieldLink "SpanRules" (358 : Nat) "SpanRules$Layout" "step" "J") ∈ ww := ww_mem (List.mem_append_right _ (List.mem_append_left _ (List.mem_of_getElem? (i := 204) rfl))) rfl
theorem mw_205 : (Jvm.Cond.fieldLink "SpanRules$Layout" (9 : Nat) "SpanRules$Layout" "begins" "[J") ∈ ww := ww_mem (List.mem_append_right _ (List.mem_append_left _ (List.mem_of_getElem? (i := 205) rfl))) rfl
theorem mw_206 : (Jvm.Cond.fieldLink "SpanRules" (282 : Nat) "SpanRules$Layout" "begins" "[J") ∈ ww := ww_mem (List.mem_append_right _ (List.mem_append_left _ (List.mem_of_getElem? (i := 206) rfl))) rfl
theorem mw_207 : (Jvm.Cond.fieldLink "SpanRules$Layout" (15 : Nat) "SpanRules$Layout" "ends" "[J") ∈ ww := ww_mem (List.mem_append_right _ (List.mem_append_left _ (List.mem_of_getElem? (i := 207) rfl))) rfl
theorem mw_208 : (Jvm.Cond.fieldLink "SpanRules" (283 : Nat) "SpanRules$Layout" "ends" "[J") ∈ ww := ww_mem (List.mem_append_right _ (List.mem_append_left _ (List.mem_of_getElem? (i := 208) rfl))) rfl
theorem mw_209 : (Jvm.Cond.fieldLink "SpanRules$Layout" (18 : Nat) "SpanRules$Layout" "shift" "J") ∈ ww := ww_mem (List.mem_append_right _ (List.mem_append_left _ (List.mem_of_getElem? (i := 209) rfl))) rfl
theorem mw_210 : (Jvm.Cond.fieldLink "SpanRules" (99 : Nat) "SpanRules$Layout" "shift" "J") ∈ ww := ww_mem (List.mem_append_right _ (List.mem_append_left _ (List.mem_of_getElem? (i := 210) rfl))) rfl
theorem mw_211 : (Jvm.Cond.fieldLink "SpanRules$Layout" (22 : Nat) "SpanRules$Layout" "ownRule" "I") ∈ ww := ww_mem (List.mem_append_right _ (List.mem_append_left _ (List.mem_of_getElem? (i := 211) rfl))) rfl
theorem mw_212 : (Jvm.Cond.fieldLink "SpanRules" (109 : Nat) "SpanRules$Layout" "ownRule" "I") ∈ ww := ww_mem (List.mem_append_right _ (List.mem_append_left _ (List.mem_of_getElem? (i := 212) rfl))) rfl
theorem mw_213 : (Jvm.Cond.fieldLink "SpanRules$Layout" (26 : Nat) "SpanRules$Layout" "found" "I") ∈ ww := ww_mem (List.mem_append_right _ (List.mem_append_left _ (List.mem_of_getElem? (i := 213) rfl))) rfl
theorem mw_214 : (Jvm.Cond.fieldLink "SpanRules" (276 : Nat) "SpanRules$Layout" "found" "I") ∈ ww := ww_mem (List.mem_append_right _ (List.mem_append_left _ (List.mem_of_getElem? (i := 214) rfl))) rfl
theorem mw_215 : (Jvm.Cond.laysFinal "SpanRules$Layout" "SpanRules$Layout" "kind" "I") ∈ ww := ww_mem (List.mem_append_right _ (List.mem_append_left _ (List.mem_of_getElem? (i := 215) rfl))) rfl
theorem mw_217 : (Jvm.Cond.laysFinal "SpanRules$Layout" "SpanRules$Layout" "size" "J") ∈ ww := ww_mem (List.mem_append_right _ (List.mem_append_left _ (List.mem_of_getElem? (i := 217) rfl))) rfl
theorem mw_219 : (Jvm.Cond.laysFinal "SpanRules$Layout" "SpanRules$Layout" "step" "J") ∈ ww := ww_mem (List.mem_append_right _ (List.mem_append_left _ (List.mem_of_getElem? (i := 219) rfl))) rfl
theorem mw_221 : (Jvm.Cond.laysFinal "SpanRules$Layout" "SpanRules$Layout" "begins" "[J") ∈ ww := ww_mem (List.mem_append_right _ (List.mem_append_left _ (List.mem_of_getElem? (i := 221) rfl))) rfl
theorem mw_223 : (Jvm.Cond.laysFinal "SpanRules$Layout" "SpanRules$Layout" "ends" "[J") ∈ ww := ww_mem (List.mem_append_right _ (List.mem_append_left _ (List.mem_of_getElem? (i := 223) rfl))) rfl
theorem mw_225 : (Jvm.Cond.lays "SpanRules$Layout" "SpanRules$Layout" "shift" "J") ∈ ww := ww_mem (List.mem_append_right _ (List.mem_append_left _ (List.mem_of_getElem? (i := 225) rfl))) rfl
theorem mw_227 : (Jvm.Cond.lays "SpanRules$Layout" "SpanRules$Layout" "ownRule" "I") ∈ ww := ww_mem (List.mem_append_right _ (List.mem_append_left _ (List.mem_of_getElem? (i := 227) rfl))) rfl
theorem mw_229 : (Jvm.Cond.lays "SpanRules$Layout" "SpanRules$Layout" "found" "I") ∈ ww := ww_mem (List.mem_append_right _ (List.mem_append_left _ (List.mem_of_getElem? (i := 229) rfl))) rfl
theorem mw_232 : (Jvm.Cond.fieldLink "SpanRules" (87 : Nat) "SpanRules" "layout" "LSpanRules$Layout;") ∈ ww := ww_mem (List.mem_append_right _ (List.mem_append_left _ (List.mem_of_getElem? (i := 232) rfl))) rfl
theorem mw_233 : (Jvm.Cond.fieldLink "SpanRules" (10 : Nat) "SpanRules" "forbidden" "LSpanRules$Forbidden;") ∈ ww := ww_mem (List.mem_append_right _ (List.mem_append_left _ (List.mem_of_getElem? (i := 233) rfl))) rfl
theorem mw_234 : (Jvm.Cond.fieldLink "SpanRules" (19 : Nat) "SpanRules" "rows" "LSpanRules$RowStore;") ∈ ww := ww_mem (List.mem_append_right _ (List.mem_append_left _ (List.mem_of_getElem? (i := 234) rfl))) rfl
theorem mw_235 : (Jvm.Cond.fieldLink "SpanRules" (26 : Nat) "SpanRules" "open" "LSpanRules$SpanStore;") ∈ ww := ww_mem (List.mem_append_right _ (List.mem_append_left _ (List.mem_of_getElem? (i := 235) rfl))) rfl
theorem mw_236 : (Jvm.Cond.fieldLink "SpanRules" (33 : Nat) "SpanRules" "numbering" "LSpanRules$Numbering;") ∈ ww := ww_mem (List.mem_append_right _ (List.mem_append_left _ (List.mem_of_getElem? (i := 236) rfl))) rfl
theorem mw_237 : (Jvm.Cond.fieldLink "SpanRules" (40 : Nat) "SpanRules" "firings" "LSpanRules$FiringStore;") ∈ ww := ww_mem (List.mem_append_right _ (List.mem_append_left _ (List.mem_of_getElem? (i := 237) rfl))) rfl
theorem mw_238 : (Jvm.Cond.fieldLink "SpanRules" (47 : Nat) "SpanRules" "contents" "LSpanRules$Contents;") ∈ ww := ww_mem (List.mem_append_right _ (List.mem_append_left _ (List.mem_of_getElem? (i := 238) rfl))) rfl
theorem mw_239 : (Jvm.Cond.fieldLink "SpanRules" (51 : Nat) "SpanRules" "lateBy" "J") ∈ ww := ww_mem (List.mem_append_right _ (List.mem_append_left _ (List.mem_of_getElem? (i := 239) rfl))) rfl
theorem mw_240 : (Jvm.Cond.fieldLink "SpanRules" (57 : Nat) "SpanRules" "theMark" "J") ∈ ww := ww_mem (List.mem_append_right _ (List.mem_append_right _ (List.mem_append_left _ (List.mem_of_getElem? (i := 0) rfl)))) rfl
theorem mw_241 : (Jvm.Cond.fieldLink "SpanRules" (60 : Nat) "SpanRules" "every" "I") ∈ ww := ww_mem (List.mem_append_right _ (List.mem_append_right _ (List.mem_append_left _ (List.mem_of_getElem? (i := 1) rfl)))) rfl
theorem mw_242 : (Jvm.Cond.fieldLink "SpanRules" (64 : Nat) "SpanRules" "latelyOn" "Z") ∈ ww := ww_mem (List.mem_append_right _ (List.mem_append_right _ (List.mem_append_left _ (List.mem_of_getElem? (i := 2) rfl)))) rfl
theorem mw_243 : (Jvm.Cond.fieldLink "SpanRules" (68 : Nat) "SpanRules" "clearsOn" "Z") ∈ ww := ww_mem (List.mem_append_right _ (List.mem_append_right _ (List.mem_append_left _ (List.mem_of_getElem? (i := 3) rfl)))) rfl
theorem mw_244 : (Jvm.Cond.fieldLink "SpanRules" (71 : Nat) "SpanRules" "came" "I") ∈ ww := ww_mem (List.mem_append_right _ (List.mem_append_right _ (List.mem_append_left _ (List.mem_of_getElem? (i := 4) rfl)))) rfl
theorem mw_245 : (Jvm.Cond.fieldLink "SpanRules" (74 : Nat) "SpanRules" "dropped" "I") ∈ ww := ww_mem (List.mem_append_right _ (List.mem_append_right _ (List.mem_append_left _ (List.mem_of_getElem? (i := 5) rfl)))) rfl
theorem mw_246 : (Jvm.Cond.laysFinal "SpanRules" "SpanRules" "layout" "LSpanRules$Layout;") ∈ ww := ww_mem (List.mem_append_right _ (List.mem_append_right _ (List.mem_append_left _ (List.mem_of_getElem? (i := 6) rfl)))) rfl
theorem mw_248 : (Jvm.Cond.laysFinal "SpanRules" "SpanRules" "forbidden" "LSpanRules$Forbidden;") ∈ ww := ww_mem (List.mem_append_right _ (List.mem_append_right _ (List.mem_append_left _ (List.mem_of_getElem? (i := 8) rfl)))) rfl
theorem mw_250 : (Jvm.Cond.laysFinal "SpanRules" "SpanRules" "rows" "LSpanRules$RowStore;") ∈ ww := ww_mem (List.mem_append_right _ (List.mem_append_right _ (List.mem_append_left _ (List.mem_of_getElem? (i := 10) rfl)))) rfl
theorem mw_252 : (Jvm.Cond.laysFinal "SpanRules" "SpanRules" "open" "LSpanRules$SpanStore;") ∈ ww := ww_mem (List.mem_append_right _ (List.mem_append_right _ (List.mem_append_left _ (List.mem_of_getElem? (i := 12) rfl)))) rfl
theorem mw_254 : (Jvm.Cond.laysFinal "SpanRules" "SpanRules" "numbering" "LSpanRules$Numbering;") ∈ ww := ww_mem (List.mem_append_right _ (List.mem_append_right _ (List.mem_append_left _ (List.mem_of_getElem? (i := 14) rfl)))) rfl
theorem mw_256 : (Jvm.Cond.laysFinal "SpanRules" "SpanRules" "firings" "LSpanRules$FiringStore;") ∈ ww := ww_mem (List.mem_append_right _ (List.mem_append_right _ (List.mem_append_left _ (List.mem_of_getElem? (i := 16) rfl)))) rfl
theorem mw_258 : (Jvm.Cond.laysFinal "SpanRules" "SpanRules" "contents" "LSpanRules$Contents;") ∈ ww := ww_mem (List.mem_append_right _ (List.mem_append_right _ (List.mem_append_left _ (List.mem_of_getElem? (i := 18) rfl)))) rfl
theorem mw_260 : (Jvm.Cond.lays "SpanRules" "SpanRules" "lateBy" "J") ∈ ww := ww_mem (List.mem_append_right _ (List.mem_append_right _ (List.mem_append_left _ (List.mem_of_getElem? (i := 20) rfl)))) rfl
theorem mw_262 : (Jvm.Cond.lays "SpanRules" "SpanRules" "theMark" "J") ∈ ww := ww_mem (List.mem_append_right _ (List.mem_append_right _ (List.mem_append_left _ (List.mem_of_getElem? (i := 22) rfl)))) rfl
theorem mw_264 : (Jvm.Cond.lays "SpanRules" "SpanRules" "every" "I") ∈ ww := ww_mem (List.mem_append_right _ (List.mem_append_right _ (List.mem_append_left _ (List.mem_of_getElem? (i := 24) rfl)))) rfl
theorem mw_266 : (Jvm.Cond.lays "SpanRules" "SpanRules" "latelyOn" "Z") ∈ ww := ww_mem (List.mem_append_right _ (List.mem_append_right _ (List.mem_append_left _ (List.mem_of_getElem? (i := 26) rfl)))) rfl
theorem mw_268 : (Jvm.Cond.lays "SpanRules" "SpanRules" "clearsOn" "Z") ∈ ww := ww_mem (List.mem_append_right _ (List.mem_append_right _ (List.mem_append_left _ (List.mem_of_getElem? (i := 28) rfl)))) rfl
theorem mw_270 : (Jvm.Cond.lays "SpanRules" "SpanRules" "came" "I") ∈ ww := ww_mem (List.mem_append_right _ (List.mem_append_right _ (List.mem_append_left _ (List.mem_of_getElem? (i := 30) rfl)))) rfl
theorem mw_272 : (Jvm.Cond.lays "SpanRules" "SpanRules" "dropped" "I") ∈ ww := ww_mem (List.mem_append_right _ (List.mem_append_right _ (List.mem_append_left _ (List.mem_of_getElem? (i := 32) rfl)))) rfl
theorem mw_279 : (Jvm.Cond.constantLong "SpanRules" (91 : Nat) (-1000000000 : Int64)) ∈ ww := ww_mem (List.mem_append_right _ (List.mem_append_right _ (List.mem_append_left _ (List.mem_of_getElem? (i := 39) rfl)))) rfl
theorem mw_280 : (Jvm.Cond.constantLong "SpanRules" (93 : Nat) (1000000000 : Int64)) ∈ ww := ww_mem (List.mem_append_right _ (List.mem_append_right _ (List.mem_append_left _ (List.mem_of_getElem? (i := 40) rfl)))) rfl
theorem mw_281 : (Jvm.Cond.methodLink "SpanRules" (95 : Nat) ({ cls := "SpanRules", name := "isWithin", desc := "(JJJ)Z" } : Jvm.MethodName)) ∈ ww := ww_mem (List.mem_append_right _ (List.mem_append_right _ (List.mem_append_left _ (List.mem_of_getElem? (i := 41) rfl)))) rfl
theorem mw_282 : (Jvm.Cond.static ({ cls := "SpanRules", name := "isWithin", desc := "(JJJ)Z" } : Jvm.MethodName)) ∈ ww := ww_mem (List.mem_append_right _ (List.mem_append_right _ (List.mem_append_left _ (List.mem_of_getElem? (i := 42) rfl)))) rfl
theorem mw_283 : (Jvm.Cond.code ({ cls := "SpanRules", name := "isWithin", desc := "(JJJ)Z" } : Jvm.MethodName) prog_1_method_16_code (6 : Nat) (Option.some Jvm.ClassFile.FieldType.boolean)) ∈ ww := ww_mem (List.mem_append_right _ (List.mem_append_right _ (List.mem_append_left _ (List.mem_of_getElem? (i := 43) rfl)))) rfl
theorem mw_292 : (Jvm.Cond.constantLong "SpanRules" (105 : Nat) (1000 : Int64)) ∈ ww := ww_mem (List.mem_append_right _ (List.mem_append_right _ (List.mem_append_left _ (List.mem_of_getElem? (i := 52) rfl)))) rfl
theorem mw_301 : (Jvm.Cond.constantLong "SpanRules" (107 : Nat) (2 : Int64)) ∈ ww := ww_mem (List.mem_append_right _ (List.mem_append_right _ (List.mem_append_left _ (List.mem_of_getElem? (i := 61) rfl)))) rfl
theorem mw_306 : (Jvm.Cond.methodLink "SpanRules" (112 : Nat) ({ cls := "SpanRules$Forbidden", name := "add", desc := "(IJ)I" } : Jvm.MethodName)) ∈ ww := ww_mem (List.mem_append_right _ (List.mem_append_right _ (List.mem_append_left _ (List.mem_of_getElem? (i := 66) rfl)))) rfl
theorem mw_307 : (Jvm.Cond.instanceMethod ({ cls := "SpanRules$Forbidden", name := "add", desc := "(IJ)I" } : Jvm.MethodName)) ∈ ww := ww_mem (List.mem_append_right _ (List.mem_append_right _ (List.mem_append_left _ (List.mem_of_getElem? (i := 67) rfl)))) rfl
theorem mw_308 : (Jvm.Cond.selects "SpanRules$Forbidden" ({ cls := "SpanRules$Forbidden", name := "add", desc := "(IJ)I" } : Jvm.MethodName) ({ cls := "SpanRules$Forbidden", name := "add", desc := "(IJ)I" } : Jvm.MethodName)) ∈ ww := ww_mem (List.mem_append_right _ (List.mem_append_right _ (List.mem_append_left _ (List.mem_of_getElem? (i := 68) rfl)))) rfl
theorem mw_309 : (Jvm.Cond.code ({ cls := "SpanRules$Forbidden", name := "add", desc := "(IJ)I" } : Jvm.MethodName) prog_5_method_3_code (4 : Nat) (Option.some Jvm.ClassFile.FieldType.int)) ∈ ww := ww_mem (List.mem_append_right _ (List.mem_append_right _ (List.mem_append_left _ (List.mem_of_getElem? (i := 69) rfl)))) rfl
theorem mw_310 : (Jvm.Cond.methodLink "SpanRules$Forbidden" (19 : Nat) ({ cls := "SpanRules$Forbidden", name := "has", desc := "(IJ)Z" } : Jvm.MethodName)) ∈ ww := ww_mem (List.mem_append_right _ (List.mem_append_right _ (List.mem_append_left _ (List.mem_of_getElem? (i := 70) rfl)))) rfl
theorem mw_311 : (Jvm.Cond.instanceMethod ({ cls := "SpanRules$Forbidden", name := "has", desc := "(IJ)Z" } : Jvm.MethodName)) ∈ ww := ww_mem (List.mem_append_right _ (List.mem_append_right _ (List.mem_append_left _ (List.mem_of_getElem? (i := 71) rfl)))) rfl
theorem mw_312 : (Jvm.Cond.selects "SpanRules$Forbidden" ({ cls := "SpanRules$Forbidden", name := "has", desc := "(IJ)Z" } : Jvm.MethodName) ({ cls := "SpanRules$Forbidden", name := "has", desc := "(IJ)Z" } : Jvm.MethodName)) ∈ ww := ww_mem (List.mem_append_right _ (List.mem_append_right _ (List.mem_append_left _ (List.mem_of_getElem? (i := 72) rfl)))) rfl
theorem mw_313 : (Jvm.Cond.code ({ cls := "SpanRules$Forbidden", name := "has", desc := "(IJ)Z" } : Jvm.MethodName) prog_5_method_2_code (5 : Nat) (Option.some Jvm.ClassFile.FieldType.boolean)) ∈ ww := ww_mem (List.mem_append_right _ (List.mem_append_right _ (List.mem_append_left _ (List.mem_of_getElem? (i := 73) rfl)))) rfl
theorem mw_318 : (Jvm.Cond.constantLong "SpanRules" (145 : Nat) (10000000000000 : Int64)) ∈ ww := ww_mem (List.mem_append_right _ (List.mem_append_right _ (List.mem_append_left _ (List.mem_of_getElem? (i := 78) rfl)))) rfl
theorem mw_319 : (Jvm.Cond.methodLink "SpanRules" (147 : Nat) ({ cls := "SpanRules", name := "endCounted", desc := "()I" } : Jvm.MethodName)) ∈ ww := ww_mem (List.mem_append_right _ (List.mem_append_right _ (List.mem_append_left _ (List.mem_of_getElem? (i := 79) rfl)))) rfl
theorem mw_321 : (Jvm.Cond.instanceMethod ({ cls := "SpanRules", name := "endCounted", desc := "()I" } : Jvm.MethodName)) ∈ ww := ww_mem (List.mem_append_right _ (List.mem_append_right _ (List.mem_append_left _ (List.mem_of_getElem? (i := 81) rfl)))) rfl
theorem mw_322 : (Jvm.Cond.code ({ cls := "SpanRules", name := "endCounted", desc := "()I" } : Jvm.MethodName) prog_1_method_29_code (4 : Nat) (Option.some Jvm.ClassFile.FieldType.int)) ∈ ww := ww_mem (List.mem_append_right _ (List.mem_append_right _ (List.mem_append_left _ (List.mem_of_getElem? (i := 82) rfl)))) rfl
theorem mw_323 : (Jvm.Cond.methodLink "SpanRules" (343 : Nat) ({ cls := "SpanRules", name := "numberRows", desc := "()V" } : Jvm.MethodName)) ∈ ww := ww_mem (List.mem_append_right _ (List.mem_append_right _ (List.mem_append_left _ (List.mem_of_getElem? (i := 83) rfl)))) rfl
theorem mw_325 : (Jvm.Cond.instanceMethod ({ cls := "SpanRules", name := "numberRows", desc := "()V" } : Jvm.MethodName)) ∈ ww := ww_mem (List.mem_append_right _ (List.mem_append_right _ (List.mem_append_left _ (List.mem_of_getElem? (i := 85) rfl)))) rfl
theorem mw_326 : (Jvm.Cond.code ({ cls := "SpanRules", name := "numberRows", desc := "()V" } : Jvm.MethodName) prog_1_method_32_code (3 : Nat) (Option.none : Option Jvm.ClassFile.FieldType)) ∈ ww := ww_mem (List.mem_append_right _ (List.mem_append_right _ (List.mem_append_left _ (List.mem_of_getElem? (i := 86) rfl)))) rfl
theorem mw_327 : (Jvm.Cond.methodLink "SpanRules" (349 : Nat) ({ cls := "SpanRules", name := "isNumbered", desc := "(I)Z" } : Jvm.MethodName)) ∈ ww := ww_mem (List.mem_append_right _ (List.mem_append_right _ (List.mem_append_left _ (List.mem_of_getElem? (i := 87) rfl)))) rfl
theorem mw_329 : (Jvm.Cond.instanceMethod ({ cls := "SpanRules", name := "isNumbered", desc := "(I)Z" } : Jvm.MethodName)) ∈ ww := ww_mem (List.mem_append_right _ (List.mem_append_right _ (List.mem_append_left _ (List.mem_of_getElem? (i := 89) rfl)))) rfl
theorem mw_330 : (Jvm.Cond.code ({ cls := "SpanRules", name := "isNumbered", desc := "(I)Z" } : Jvm.MethodName) prog_1_method_30_code (2 : Nat) (Option.some Jvm.ClassFile.FieldType.boolean)) ∈ ww := ww_mem (List.mem_append_right _ (List.mem_append_right _ (List.mem_append_left _ (List.mem_of_getElem? (i := 90) rfl)))) rfl
theorem mw_331 : (Jvm.Cond.methodLink "SpanRules" (346 : Nat) ({ cls := "SpanRules", name := "fireCounted", desc := "(I)I" } : Jvm.MethodName)) ∈ ww := ww_mem (List.mem_append_right _ (List.mem_append_right _ (List.mem_append_left _ (List.mem_of_getElem? (i := 91) rfl)))) rfl
theorem mw_333 : (Jvm.Cond.instanceMethod ({ cls := "SpanRules", name := "fireCounted", desc := "(I)I" } : Jvm.MethodName)) ∈ ww := ww_mem (List.mem_append_right _ (List.mem_append_right _ (List.mem_append_left _ (List.mem_of_getElem? (i := 93) rfl)))) rfl
theorem mw_334 : (Jvm.Cond.code ({ cls := "SpanRules", name := "fireCounted", desc := "(I)I" } : Jvm.MethodName) prog_1_method_33_code (5 : Nat) (Option.some Jvm.ClassFile.FieldType.int)) ∈ ww := ww_mem (List.mem_append_right _ (List.mem_append_right _ (List.mem_append_left _ (List.mem_of_getElem? (i := 94) rfl)))) rfl
theorem mw_335 : (Jvm.Cond.methodLink "SpanRules" (369 : Nat) ({ cls := "SpanRules", name := "gatherCounted", desc := "(IJ)V" } : Jvm.MethodName)) ∈ ww := ww_mem (List.mem_append_right _ (List.mem_append_right _ (List.mem_append_left _ (List.mem_of_getElem? (i := 95) rfl)))) rfl
theorem mw_337 : (Jvm.Cond.instanceMethod ({ cls := "SpanRules", name := "gatherCounted", desc := "(IJ)V" } : Jvm.MethodName)) ∈ ww := ww_mem (List.mem_append_right _ (List.mem_append_right _ (List.mem_append_left _ (List.mem_of_getElem? (i := 97) rfl)))) rfl
theorem mw_338 : (Jvm.Cond.code ({ cls := "SpanRules", name := "gatherCounted", desc := "(IJ)V" } : Jvm.MethodName) prog_1_method_34_code (6 : Nat) (Option.none : Option Jvm.ClassFile.FieldType)) ∈ ww := ww_mem (List.mem_append_right _ (List.mem_append_right _ (List.mem_append_left _ (List.mem_of_getElem? (i := 98) rfl)))) rfl
theorem mw_339 : (Jvm.Cond.methodLink "SpanRules" (306 : Nat) ({ cls := "SpanRules$Contents", name := "clear", desc := "()V" } : Jvm.MethodName)) ∈ ww := ww_mem (List.mem_append_right _ (List.mem_append_right _ (List.mem_append_left _ (List.mem_of_getElem? (i := 99) rfl)))) rfl
theorem mw_340 : (Jvm.Cond.instanceMethod ({ cls := "SpanRules$Contents", name := "clear", desc := "()V" } : Jvm.MethodName)) ∈ ww := ww_mem (List.mem_append_right _ (List.mem_append_right _ (List.mem_append_left _ (List.mem_of_getElem? (i := 100) rfl)))) rfl
theorem mw_341 : (Jvm.Cond.selects "SpanRules$Contents" ({ cls := "SpanRules$Contents", name := "clear", desc := "()V" } : Jvm.MethodName) ({ cls := "SpanRules$Contents", name := "clear", desc := "()V" } : Jvm.MethodName)) ∈ ww := ww_mem (List.mem_append_right _ (List.mem_append_right _ (List.mem_append_left _ (List.mem_of_getElem? (i := 101) rfl)))) rfl
theorem mw_342 : (Jvm.Cond.code ({ cls := "SpanRules$Contents", name := "clear", desc := "()V" } : Jvm.MethodName) prog_3_method_2_code (1 : Nat) (Option.none : Option Jvm.ClassFile.FieldType)) ∈ ww := ww_mem (List.mem_append_right _ (List.mem_append_right _ (List.mem_append_left _ (List.mem_of_getElem? (i := 102) rfl)))) rfl
theorem mw_343 : (Jvm.Cond.methodLink "SpanRules" (319 : Nat) ({ cls := "SpanRules$Contents", name := "add", desc := "(J)V" } : Jvm.MethodName)) ∈ ww := ww_mem (List.mem_append_right _ (List.mem_append_right _ (List.mem_append_left _ (List.mem_of_getElem? (i := 103) rfl)))) rfl
theorem mw_344 : (Jvm.Cond.instanceMethod ({ cls := "SpanRules$Contents", name := "add", desc := "(J)V" } : Jvm.MethodName)) ∈ ww := ww_mem (List.mem_append_right _ (List.mem_append_right _ (List.mem_append_left _ (List.mem_of_getElem? (i := 104) rfl)))) rfl
theorem mw_345 : (Jvm.Cond.selects "SpanRules$Contents" ({ cls := "SpanRules$Contents", name := "add", desc := "(J)V" } : Jvm.MethodName) ({ cls := "SpanRules$Contents", name := "add", desc := "(J)V" } : Jvm.MethodName)) ∈ ww := ww_mem (List.mem_append_right _ (List.mem_append_right _ (List.mem_append_left _ (List.mem_of_getElem? (i := 105) rfl)))) rfl
theorem mw_346 : (Jvm.Cond.code ({ cls := "SpanRules$Contents", name := "add", desc := "(J)V" } : Jvm.MethodName) prog_3_method_3_code (3 : Nat) (Option.none : Option Jvm.ClassFile.FieldType)) ∈ ww := ww_mem (List.mem_append_right _ (List.mem_append_right _ (List.mem_append_left _ (List.mem_of_getElem? (i := 106) rfl)))) rfl
theorem mw_347 : (Jvm.Cond.methodLink "SpanRules$Contents" (26 : Nat) ({ cls := "java/lang/Math", name := "min", desc := "(JJ)J" } : Jvm.MethodName)) ∈ ww := ww_mem (List.mem_append_right _ (List.mem_append_right _ (List.mem_append_left _ (List.mem_of_getElem? (i := 107) rfl)))) rfl
theorem mw_348 : (Jvm.Cond.static ({ cls := "java/lang/Math", name := "min", desc := "(JJ)J" } : Jvm.MethodName)) ∈ ww := ww_mem (List.mem_append_right _ (List.mem_append_right _ (List.mem_append_left _ (List.mem_of_getElem? (i := 108) rfl)))) rfl
theorem mw_349 : (Jvm.Cond.code ({ cls := "java/lang/Math", name := "min", desc := "(JJ)J" } : Jvm.MethodName) prog_14_method_70_code (4 : Nat) (Option.some Jvm.ClassFile.FieldType.long)) ∈ ww := ww_mem (List.mem_append_right _ (List.mem_append_right _ (List.mem_append_left _ (List.mem_of_getElem? (i := 109) rfl)))) rfl
theorem mw_350 : (Jvm.Cond.methodLink "SpanRules$Contents" (32 : Nat) ({ cls := "java/lang/Math", name := "max", desc := "(JJ)J" } : Jvm.MethodName)) ∈ ww := ww_mem (List.mem_append_right _ (List.mem_append_right _ (List.mem_append_left _ (List.mem_of_getElem? (i := 110) rfl)))) rfl
theorem mw_351 : (Jvm.Cond.static ({ cls := "java/lang/Math", name := "max", desc := "(JJ)J" } : Jvm.MethodName)) ∈ ww := ww_mem (List.mem_append_right _ (List.mem_append_right _ (List.mem_append_left _ (List.mem_of_getElem? (i := 111) rfl)))) rfl
theorem mw_352 : (Jvm.Cond.code ({ cls := "java/lang/Math", name := "max", desc := "(JJ)J" } : Jvm.MethodName) prog_14_method_66_code (4 : Nat) (Option.some Jvm.ClassFile.FieldType.long)) ∈ ww := ww_mem (List.mem_append_right _ (List.mem_append_right _ (List.mem_append_left _ (List.mem_of_getElem? (i := 112) rfl)))) rfl
theorem mw_353 : (Jvm.Cond.constantLong "SpanRules$Contents" (35 : Nat) (31 : Int64)) ∈ ww := ww_mem (List.mem_append_right _ (List.mem_append_right _ (List.mem_append_left _ (List.mem_of_getElem? (i := 113) rfl)))) rfl
theorem mw_354 : (Jvm.Cond.methodLink "SpanRules" (303 : Nat) ({ cls := "SpanRules$FiringStore", name := "add", desc := "(IJJIILSpanRules$Contents;)V" } : Jvm.MethodName)) ∈ ww := ww_mem (List.mem_append_right _ (List.mem_append_right _ (List.mem_append_left _ (List.mem_of_getElem? (i := 114) rfl)))) rfl
theorem mw_355 : (Jvm.Cond.instanceMethod ({ cls := "SpanRules$FiringStore", name := "add", desc := "(IJJIILSpanRules$Contents;)V" } : Jvm.MethodName)) ∈ ww := ww_mem (List.mem_append_right _ (List.mem_append_right _ (List.mem_append_left _ (List.mem_of_getElem? (i := 115) rfl)))) rfl
theorem mw_356 : (Jvm.Cond.selects "SpanRules$FiringStore" ({ cls := "SpanRules$FiringStore", name := "add", desc := "(IJJIILSpanRules$Contents;)V" } : Jvm.MethodName) ({ cls := "SpanRules$FiringStore", name := "add", desc := "(IJJIILSpanRules$Contents;)V" } : Jvm.MethodName)) ∈ ww := ww_mem (List.mem_append_right _ (List.mem_append_right _ (List.mem_append_left _ (List.mem_of_getElem? (i := 116) rfl)))) rfl
theorem mw_357 : (Jvm.Cond.code ({ cls := "SpanRules$FiringStore", name := "add", desc := "(IJJIILSpanRules$Contents;)V" } : Jvm.MethodName) prog_4_method_4_code (11 : Nat) (Option.none : Option Jvm.ClassFile.FieldType)) ∈ ww := ww_mem (List.mem_append_right _ (List.mem_append_right _ (List.mem_append_left _ (List.mem_of_getElem? (i := 117) rfl)))) rfl
theorem mw_358 : (Jvm.Cond.methodLink "SpanRules$FiringStore" (35 : Nat) ({ cls := "SpanRules$Contents", name := "part", desc := "(I)J" } : Jvm.MethodName)) ∈ ww := ww_mem (List.mem_append_right _ (List.mem_append_right _ (List.mem_append_left _ (List.mem_of_getElem? (i := 118) rfl)))) rfl
theorem mw_359 : (Jvm.Cond.instanceMethod ({ cls := "SpanRules$Contents", name := "part", desc := "(I)J" } : Jvm.MethodName)) ∈ ww := ww_mem (List.mem_append_right _ (List.mem_append_right _ (List.mem_append_left _ (List.mem_of_getElem? (i := 119) rfl)))) rfl
theorem mw_360 : (Jvm.Cond.selects "SpanRules$Contents" ({ cls := "SpanRules$Contents", name := "part", desc := "(I)J" } : Jvm.MethodName) ({ cls := "SpanRules$Contents", name := "part", desc := "(I)J" } : Jvm.MethodName)) ∈ ww := ww_mem (List.mem_append_right _ (List.mem_append_right _ (List.mem_append_left _ (List.mem_of_getElem? (i := 120) rfl)))) rfl
theorem mw_361 : (Jvm.Cond.code ({ cls := "SpanRules$Contents", name := "part", desc := "(I)J" } : Jvm.MethodName) prog_3_method_4_code (2 : Nat) (Option.some Jvm.ClassFile.FieldType.long)) ∈ ww := ww_mem (List.mem_append_right _ (List.mem_append_right _ (List.mem_append_left _ (List.mem_of_getElem? (i := 121) rfl)))) rfl
theorem mw_362 : (Jvm.Cond.methodLink "SpanRules" (352 : Nat) ({ cls := "SpanRules", name := "isWaitedFor", desc := "(I)Z" } : Jvm.MethodName)) ∈ ww := ww_mem (List.mem_append_right _ (List.mem_append_right _ (List.mem_append_left _ (List.mem_of_getElem? (i := 122) rfl)))) rfl
theorem mw_364 : (Jvm.Cond.instanceMethod ({ cls := "SpanRules", name := "isWaitedFor", desc := "(I)Z" } : Jvm.MethodName)) ∈ ww := ww_mem (List.mem_append_right _ (List.mem_append_right _ (List.mem_append_left _ (List.mem_of_getElem? (i := 124) rfl)))) rfl
theorem mw_365 : (Jvm.Cond.code ({ cls := "SpanRules", name := "isWaitedFor", desc := "(I)Z" } : Jvm.MethodName) prog_1_method_31_code (4 : Nat) (Option.some Jvm.ClassFile.FieldType.boolean)) ∈ ww := ww_mem (List.mem_append_right _ (List.mem_append_right _ (List.mem_append_left _ (List.mem_of_getElem? (i := 125) rfl)))) rfl
theorem mw_366 : (Jvm.Cond.methodLink "SpanRules" (361 : Nat) ({ cls := "SpanRules", name := "by", desc := "(JJ)J" } : Jvm.MethodName)) ∈ ww := ww_mem (List.mem_append_right _ (List.mem_append_right _ (List.mem_append_left _ (List.mem_of_getElem? (i := 126) rfl)))) rfl
theorem mw_367 : (Jvm.Cond.static ({ cls := "SpanRules", name := "by", desc := "(JJ)J" } : Jvm.MethodName)) ∈ ww := ww_mem (List.mem_append_right _ (List.mem_append_right _ (List.mem_append_left _ (List.mem_of_getElem? (i := 127) rfl)))) rfl
theorem mw_368 : (Jvm.Cond.code ({ cls := "SpanRules", name := "by", desc := "(JJ)J" } : Jvm.MethodName) prog_1_method_18_code (4 : Nat) (Option.some Jvm.ClassFile.FieldType.long)) ∈ ww := ww_mem (List.mem_append_right _ (List.mem_append_right _ (List.mem_append_left _ (List.mem_of_getElem? (i := 128) rfl)))) rfl
theorem mw_369 : (Jvm.Cond.methodLink "SpanRules" (228 : Nat) ({ cls := "java/lang/Math", name := "floorDiv", desc := "(JJ)J" } : Jvm.MethodName)) ∈ ww := ww_mem (List.mem_append_right _ (List.mem_append_right _ (List.mem_append_left _ (List.mem_of_getElem? (i := 129) rfl)))) rfl
theorem mw_370 : (Jvm.Cond.static ({ cls := "java/lang/Math", name := "floorDiv", desc := "(JJ)J" } : Jvm.MethodName)) ∈ ww := ww_mem (List.mem_append_right _ (List.mem_append_right _ (List.mem_append_left _ (List.mem_of_getElem? (i := 130) rfl)))) rfl
theorem mw_371 : (Jvm.Cond.code ({ cls := "java/lang/Math", name := "floorDiv", desc := "(JJ)J" } : Jvm.MethodName) prog_14_method_49_code (6 : Nat) (Option.some Jvm.ClassFile.FieldType.long)) ∈ ww := ww_mem (List.mem_append_right _ (List.mem_append_right _ (List.mem_append_left _ (List.mem_of_getElem? (i := 131) rfl)))) rfl
theorem mw_372 : (Jvm.Cond.methodLink "SpanRules" (340 : Nat) ({ cls := "SpanRules$RowStore", name := "sweep", desc := "()V" } : Jvm.MethodName)) ∈ ww := ww_mem (List.mem_append_right _ (List.mem_append_right _ (List.mem_append_left _ (List.mem_of_getElem? (i := 132) rfl)))) rfl
theorem mw_373 : (Jvm.Cond.instanceMethod ({ cls := "SpanRules$RowStore", name := "sweep", desc := "()V" } : Jvm.MethodName)) ∈ ww := ww_mem (List.mem_append_right _ (List.mem_append_right _ (List.mem_append_left _ (List.mem_of_getElem? (i := 133) rfl)))) rfl
theorem mw_374 : (Jvm.Cond.selects "SpanRules$RowStore" ({ cls := "SpanRules$RowStore", name := "sweep", desc := "()V" } : Jvm.MethodName) ({ cls := "SpanRules$RowStore", name := "sweep", desc := "()V" } : Jvm.MethodName)) ∈ ww := ww_mem (List.mem_append_right _ (List.mem_append_right _ (List.mem_append_left _ (List.mem_of_getElem? (i := 134) rfl)))) rfl
theorem mw_375 : (Jvm.Cond.code ({ cls := "SpanRules$RowStore", name := "sweep", desc := "()V" } : Jvm.MethodName) prog_8_method_4_code (4 : Nat) (Option.none : Option Jvm.ClassFile.FieldType)) ∈ ww := ww_mem (List.mem_append_right _ (List.mem_append_right _ (List.mem_append_left _ (List.mem_of_getElem? (i := 135) rfl)))) rfl
theorem mw_376 : (Jvm.Cond.methodLink "SpanRules" (151 : Nat) ({ cls := "SpanRules", name := "endSpans", desc := "()I" } : Jvm.MethodName)) ∈ ww := ww_mem (List.mem_append_right _ (List.mem_append_right _ (List.mem_append_left _ (List.mem_of_getElem? (i := 136) rfl)))) rfl
theorem mw_378 : (Jvm.Cond.instanceMethod ({ cls := "SpanRules", name := "endSpans", desc := "()I" } : Jvm.MethodName)) ∈ ww := ww_mem (List.mem_append_right _ (List.mem_append_right _ (List.mem_append_left _ (List.mem_of_getElem? (i := 138) rfl)))) rfl
theorem mw_379 : (Jvm.Cond.code ({ cls := "SpanRules", name := "endSpans", desc := "()I" } : Jvm.MethodName) prog_1_method_28_code (4 : Nat) (Option.some Jvm.ClassFile.FieldType.int)) ∈ ww := ww_mem (List.mem_append_right _ (List.mem_append_right _ (List.mem_append_left _ (List.mem_of_getElem? (i := 139) rfl)))) rfl
theorem mw_380 : (Jvm.Cond.methodLink "SpanRules" (321 : Nat) ({ cls := "SpanRules$SpanStore", name := "seekDue", desc := "(J)I" } : Jvm.MethodName)) ∈ ww := ww_mem (List.mem_append_right _ (List.mem_append_right _ (List.mem_append_left _ (List.mem_of_getElem? (i := 140) rfl)))) rfl
theorem mw_381 : (Jvm.Cond.instanceMethod ({ cls := "SpanRules$SpanStore", name := "seekDue", desc := "(J)I" } : Jvm.MethodName)) ∈ ww := ww_mem (List.mem_append_right _ (List.mem_append_right _ (List.mem_append_left _ (List.mem_of_getElem? (i := 141) rfl)))) rfl
theorem mw_382 : (Jvm.Cond.selects "SpanRules$SpanStore" ({ cls := "SpanRules$SpanStore", name := "seekDue", desc := "(J)I" } : Jvm.MethodName) ({ cls := "SpanRules$SpanStore", name := "seekDue", desc := "(J)I" } : Jvm.MethodName)) ∈ ww := ww_mem (List.mem_append_right _ (List.mem_append_right _ (List.mem_append_left _ (List.mem_of_getElem? (i := 142) rfl)))) rfl
theorem mw_383 : (Jvm.Cond.code ({ cls := "SpanRules$SpanStore", name := "seekDue", desc := "(J)I" } : Jvm.MethodName) prog_9_method_15_code (7 : Nat) (Option.some Jvm.ClassFile.FieldType.int)) ∈ ww := ww_mem (List.mem_append_right _ (List.mem_append_right _ (List.mem_append_left _ (List.mem_of_getElem? (i := 143) rfl)))) rfl
theorem mw_384 : (Jvm.Cond.methodLink "SpanRules" (291 : Nat) ({ cls := "SpanRules", name := "fire", desc := "(II)V" } : Jvm.MethodName)) ∈ ww := ww_mem (List.mem_append_right _ (List.mem_append_right _ (List.mem_append_left _ (List.mem_of_getElem? (i := 144) rfl)))) rfl
theorem mw_386 : (Jvm.Cond.instanceMethod ({ cls := "SpanRules", name := "fire", desc := "(II)V" } : Jvm.MethodName)) ∈ ww := ww_mem (List.mem_append_right _ (List.mem_append_right _ (List.mem_append_left _ (List.mem_of_getElem? (i := 146) rfl)))) rfl
theorem mw_387 : (Jvm.Cond.code ({ cls := "SpanRules", name := "fire", desc := "(II)V" } : Jvm.MethodName) prog_1_method_26_code (3 : Nat) (Option.none : Option Jvm.ClassFile.FieldType)) ∈ ww := ww_mem (List.mem_append_right _ (List.mem_append_right _ (List.mem_append_left _ (List.mem_of_getElem? (i := 147) rfl)))) rfl
theorem mw_388 : (Jvm.Cond.methodLink "SpanRules" (201 : Nat) ({ cls := "SpanRules", name := "gather", desc := "(I[J)V" } : Jvm.MethodName)) ∈ ww := ww_mem (List.mem_append_right _ (List.mem_append_right _ (List.mem_append_left _ (List.mem_of_getElem? (i := 148) rfl)))) rfl
theorem mw_390 : (Jvm.Cond.instanceMethod ({ cls := "SpanRules", name := "gather", desc := "(I[J)V" } : Jvm.MethodName)) ∈ ww := ww_mem (List.mem_append_right _ (List.mem_append_right _ (List.mem_append_left _ (List.mem_of_getElem? (i := 150) rfl)))) rfl
theorem mw_391 : (Jvm.Cond.code ({ cls := "SpanRules", name := "gather", desc := "(I[J)V" } : Jvm.MethodName) prog_1_method_27_code (5 : Nat) (Option.none : Option Jvm.ClassFile.FieldType)) ∈ ww := ww_mem (List.mem_append_right _ (List.mem_append_right _ (List.mem_append_left _ (List.mem_of_getElem? (i := 151) rfl)))) rfl
theorem mw_392 : (Jvm.Cond.methodLink "SpanRules" (312 : Nat) ({ cls := "SpanRules$SpanStore", name := "isIn", desc := "([JII)Z" } : Jvm.MethodName)) ∈ ww := ww_mem (List.mem_append_right _ (List.mem_append_right _ (List.mem_append_left _ (List.mem_of_getElem? (i := 152) rfl)))) rfl
theorem mw_393 : (Jvm.Cond.static ({ cls := "SpanRules$SpanStore", name := "isIn", desc := "([JII)Z" } : Jvm.MethodName)) ∈ ww := ww_mem (List.mem_append_right _ (List.mem_append_right _ (List.mem_append_left _ (List.mem_of_getElem? (i := 153) rfl)))) rfl
theorem mw_394 : (Jvm.Cond.code ({ cls := "SpanRules$SpanStore", name := "isIn", desc := "([JII)Z" } : Jvm.MethodName) prog_9_method_2_code (3 : Nat) (Option.some Jvm.ClassFile.FieldType.boolean)) ∈ ww := ww_mem (List.mem_append_right _ (List.mem_append_right _ (List.mem_append_left _ (List.mem_of_getElem? (i := 154) rfl)))) rfl
theorem mw_395 : (Jvm.Cond.methodLink "SpanRules" (297 : Nat) ({ cls := "SpanRules$SpanStore", name := "noteFired", desc := "(II)V" } : Jvm.MethodName)) ∈ ww := ww_mem (List.mem_append_right _ (List.mem_append_right _ (List.mem_append_left _ (List.mem_of_getElem? (i := 155) rfl)))) rfl
theorem mw_396 : (Jvm.Cond.instanceMethod ({ cls := "SpanRules$SpanStore", name := "noteFired", desc := "(II)V" } : Jvm.MethodName)) ∈ ww := ww_mem (List.mem_append_right _ (List.mem_append_right _ (List.mem_append_left _ (List.mem_of_getElem? (i := 156) rfl)))) rfl
theorem mw_397 : (Jvm.Cond.selects "SpanRules$SpanStore" ({ cls := "SpanRules$SpanStore", name := "noteFired", desc := "(II)V" } : Jvm.MethodName) ({ cls := "SpanRules$SpanStore", name := "noteFired", desc := "(II)V" } : Jvm.MethodName)) ∈ ww := ww_mem (List.mem_append_right _ (List.mem_append_right _ (List.mem_append_left _ (List.mem_of_getElem? (i := 157) rfl)))) rfl
theorem mw_398 : (Jvm.Cond.code ({ cls := "SpanRules$SpanStore", name := "noteFired", desc := "(II)V" } : Jvm.MethodName) prog_9_method_9_code (4 : Nat) (Option.none : Option Jvm.ClassFile.FieldType)) ∈ ww := ww_mem (List.mem_append_right _ (List.mem_append_right _ (List.mem_append_left _ (List.mem_of_getElem? (i := 158) rfl)))) rfl
theorem mw_399 : (Jvm.Cond.methodLink "SpanRules" (328 : Nat) ({ cls := "SpanRules$SpanStore", name := "dropEndsUpTo", desc := "(J)V" } : Jvm.MethodName)) ∈ ww := ww_mem (List.mem_append_right _ (List.mem_append_right _ (List.mem_append_left _ (List.mem_of_getElem? (i := 159) rfl)))) rfl
theorem mw_400 : (Jvm.Cond.instanceMethod ({ cls := "SpanRules$SpanStore", name := "dropEndsUpTo", desc := "(J)V" } : Jvm.MethodName)) ∈ ww := ww_mem (List.mem_append_right _ (List.mem_append_right _ (List.mem_append_left _ (List.mem_of_getElem? (i := 160) rfl)))) rfl
theorem mw_401 : (Jvm.Cond.selects "SpanRules$SpanStore" ({ cls := "SpanRules$SpanStore", name := "dropEndsUpTo", desc := "(J)V" } : Jvm.MethodName) ({ cls := "SpanRules$SpanStore", name := "dropEndsUpTo", desc := "(J)V" } : Jvm.MethodName)) ∈ ww := ww_mem (List.mem_append_right _ (List.mem_append_right _ (List.mem_append_left _ (List.mem_of_getElem? (i := 161) rfl)))) rfl
theorem mw_402 : (Jvm.Cond.code ({ cls := "SpanRules$SpanStore", name := "dropEndsUpTo", desc := "(J)V" } : Jvm.MethodName) prog_9_method_16_code (5 : Nat) (Option.none : Option Jvm.ClassFile.FieldType)) ∈ ww := ww_mem (List.mem_append_right _ (List.mem_append_right _ (List.mem_append_left _ (List.mem_of_getElem? (i := 162) rfl)))) rfl
theorem mw_403 : (Jvm.Cond.methodLink "SpanRules$SpanStore" (76 : Nat) ({ cls := "SpanRules$SpanStore", name := "sweep", desc := "()V" } : Jvm.MethodName)) ∈ ww := ww_mem (List.mem_append_right _ (List.mem_append_right _ (List.mem_append_left _ (List.mem_of_getElem? (i := 163) rfl)))) rfl
theorem mw_405 : (Jvm.Cond.instanceMethod ({ cls := "SpanRules$SpanStore", name := "sweep", desc := "()V" } : Jvm.MethodName)) ∈ ww := ww_mem (List.mem_append_right _ (List.mem_append_right _ (List.mem_append_left _ (List.mem_of_getElem? (i := 165) rfl)))) rfl
theorem mw_406 : (Jvm.Cond.code ({ cls := "SpanRules$SpanStore", name := "sweep", desc := "()V" } : Jvm.MethodName) prog_9_method_17_code (4 : Nat) (Option.none : Option Jvm.ClassFile.FieldType)) ∈ ww := ww_mem (List.mem_append_right _ (List.mem_append_right _ (List.mem_append_left _ (List.mem_of_getElem? (i := 166) rfl)))) rfl
theorem mw_407 : (Jvm.Cond.methodLink "SpanRules" (331 : Nat) ({ cls := "SpanRules$SpanStore", name := "uniteRows", desc := "()V" } : Jvm.MethodName)) ∈ ww := ww_mem (List.mem_append_right _ (List.mem_append_right _ (List.mem_append_left _ (List.mem_of_getElem? (i := 167) rfl)))) rfl
theorem mw_408 : (Jvm.Cond.instanceMethod ({ cls := "SpanRules$SpanStore", name := "uniteRows", desc := "()V" } : Jvm.MethodName)) ∈ ww := ww_mem (List.mem_append_right _ (List.mem_append_right _ (List.mem_append_left _ (List.mem_of_getElem? (i := 168) rfl)))) rfl
theorem mw_409 : (Jvm.Cond.selects "SpanRules$SpanStore" ({ cls := "SpanRules$SpanStore", name := "uniteRows", desc := "()V" } : Jvm.MethodName) ({ cls := "SpanRules$SpanStore", name := "uniteRows", desc := "()V" } : Jvm.MethodName)) ∈ ww := ww_mem (List.mem_append_right _ (List.mem_append_right _ (List.mem_append_left _ (List.mem_of_getElem? (i := 169) rfl)))) rfl
theorem mw_410 : (Jvm.Cond.code ({ cls := "SpanRules$SpanStore", name := "uniteRows", desc := "()V" } : Jvm.MethodName) prog_9_method_18_code (3 : Nat) (Option.none : Option Jvm.ClassFile.FieldType)) ∈ ww := ww_mem (List.mem_append_right _ (List.mem_append_right _ (List.mem_append_left _ (List.mem_of_getElem? (i := 170) rfl)))) rfl
theorem mw_415 : (Jvm.Cond.methodLink "SpanRules" (161 : Nat) ({ cls := "SpanRules$FiringStore", name := "kept", desc := "()I" } : Jvm.MethodName)) ∈ ww := ww_mem (List.mem_append_right _ (List.mem_append_right _ (List.mem_append_left _ (List.mem_of_getElem? (i := 175) rfl)))) rfl
theorem mw_416 : (Jvm.Cond.instanceMethod ({ cls := "SpanRules$FiringStore", name := "kept", desc := "()I" } : Jvm.MethodName)) ∈ ww := ww_mem (List.mem_append_right _ (List.mem_append_right _ (List.mem_append_left _ (List.mem_of_getElem? (i := 176) rfl)))) rfl
theorem mw_417 : (Jvm.Cond.selects "SpanRules$FiringStore" ({ cls := "SpanRules$FiringStore", name := "kept", desc := "()I" } : Jvm.MethodName) ({ cls := "SpanRules$FiringStore", name := "kept", desc := "()I" } : Jvm.MethodName)) ∈ ww := ww_mem (List.mem_append_right _ (List.mem_append_right _ (List.mem_append_left _ (List.mem_of_getElem? (i := 177) rfl)))) rfl
theorem mw_418 : (Jvm.Cond.code ({ cls := "SpanRules$FiringStore", name := "kept", desc := "()I" } : Jvm.MethodName) prog_4_method_2_code (1 : Nat) (Option.some Jvm.ClassFile.FieldType.int)) ∈ ww := ww_mem (List.mem_append_right _ (List.mem_append_right _ (List.mem_append_left _ (List.mem_of_getElem? (i := 178) rfl)))) rfl
theorem mw_419 : (Jvm.Cond.methodLink "SpanRules$FiringStore" (25 : Nat) ({ cls := "java/lang/Math", name := "min", desc := "(II)I" } : Jvm.MethodName)) ∈ ww := ww_mem (List.mem_append_right _ (List.mem_append_right _ (List.mem_append_left _ (List.mem_of_getElem? (i := 179) rfl)))) rfl
theorem mw_420 : (Jvm.Cond.static ({ cls := "java/lang/Math", name := "min", desc := "(II)I" } : Jvm.MethodName)) ∈ ww := ww_mem (List.mem_append_right _ (List.mem_append_right _ (List.mem_append_left _ (List.mem_of_getElem? (i := 180) rfl)))) rfl
theorem mw_421 : (Jvm.Cond.code ({ cls := "java/lang/Math", name := "min", desc := "(II)I" } : Jvm.MethodName) prog_14_method_69_code (2 : Nat) (Option.some Jvm.ClassFile.FieldType.int)) ∈ ww := ww_mem (List.mem_append_right _ (List.mem_append_right _ (List.mem_append_left _ (List.mem_of_getElem? (i := 181) rfl)))) rfl
theorem mw_426 : (Jvm.Cond.constantLong "SpanRules" (169 : Nat) (-1000000000000001 : Int64)) ∈ ww := ww_mem (List.mem_append_right _ (List.mem_append_right _ (List.mem_append_left _ (List.mem_of_getElem? (i := 186) rfl)))) rfl
theorem mw_427 : (Jvm.Cond.constantLong "SpanRules" (171 : Nat) (9 : Int64)) ∈ ww := ww_mem (List.mem_append_right _ (List.mem_append_right _ (List.mem_append_left _ (List.mem_of_getElem? (i := 187) rfl)))) rfl
theorem mw_428 : (Jvm.Cond.constantLong "SpanRules" (173 : Nat) (-1000000000000002 : Int64)) ∈ ww := ww_mem (List.mem_append_right _ (List.mem_append_right _ (List.mem_append_left _ (List.mem_of_getElem? (i := 188) rfl)))) rfl
theorem mw_429 : (Jvm.Cond.methodLink "SpanRules" (175 : Nat) ({ cls := "SpanRules$FiringStore", name := "cell", desc := "(II)J" } : Jvm.MethodName)) ∈ ww := ww_mem (List.mem_append_right _ (List.mem_append_right _ (List.mem_append_left _ (List.mem_of_getElem? (i := 189) rfl)))) rfl
theorem mw_430 : (Jvm.Cond.instanceMethod ({ cls := "SpanRules$FiringStore", name := "cell", desc := "(II)J" } : Jvm.MethodName)) ∈ ww := ww_mem (List.mem_append_right _ (List.mem_append_right _ (List.mem_append_left _ (List.mem_of_getElem? (i := 190) rfl)))) rfl
theorem mw_431 : (Jvm.Cond.selects "SpanRules$FiringStore" ({ cls := "SpanRules$FiringStore", name := "cell", desc := "(II)J" } : Jvm.MethodName) ({ cls := "SpanRules$FiringStore", name := "cell", desc := "(II)J" } : Jvm.MethodName)) ∈ ww := ww_mem (List.mem_append_right _ (List.mem_append_right _ (List.mem_append_left _ (List.mem_of_getElem? (i := 191) rfl)))) rfl
theorem mw_432 : (Jvm.Cond.code ({ cls := "SpanRules$FiringStore", name := "cell", desc := "(II)J" } : Jvm.MethodName) prog_4_method_3_code (3 : Nat) (Option.some Jvm.ClassFile.FieldType.long)) ∈ ww := ww_mem (List.mem_append_right _ (List.mem_append_right _ (List.mem_append_left _ (List.mem_of_getElem? (i := 192) rfl)))) rfl
theorem mw_433 : (Jvm.Cond.methodLink "SpanRules$FiringStore" (31 : Nat) ({ cls := "SpanRules$FiringStore", name := "kept", desc := "()I" } : Jvm.MethodName)) ∈ ww := ww_mem (List.mem_append_right _ (List.mem_append_right _ (List.mem_append_left _ (List.mem_of_getElem? (i := 193) rfl)))) rfl
theorem mw_438 : (Jvm.Cond.methodLink "SpanRules" (116 : Nat) ({ cls := "SpanRules", name := "isKey", desc := "(I)Z" } : Jvm.MethodName)) ∈ ww := ww_mem (List.mem_append_right _ (List.mem_append_right _ (List.mem_append_left _ (List.mem_of_getElem? (i := 198) rfl)))) rfl
theorem mw_439 : (Jvm.Cond.static ({ cls := "SpanRules", name := "isKey", desc := "(I)Z" } : Jvm.MethodName)) ∈ ww := ww_mem (List.mem_append_right _ (List.mem_append_right _ (List.mem_append_left _ (List.mem_of_getElem? (i := 199) rfl)))) rfl
theorem mw_440 : (Jvm.Cond.code ({ cls := "SpanRules", name := "isKey", desc := "(I)Z" } : Jvm.MethodName) prog_1_method_17_code (1 : Nat) (Option.some Jvm.ClassFile.FieldType.boolean)) ∈ ww := ww_mem (List.mem_append_right _ (List.mem_append_right _ (List.mem_append_left _ (List.mem_of_getElem? (i := 200) rfl)))) rfl
theorem mw_441 : (Jvm.Cond.constantLong "SpanRules" (226 : Nat) (7 : Int64)) ∈ ww := ww_mem (List.mem_append_right _ (List.mem_append_right _ (List.mem_append_left _ (List.mem_of_getElem? (i := 201) rfl)))) rfl
theorem mw_442 : (Jvm.Cond.methodLink "SpanRules" (183 : Nat) ({ cls := "SpanRules$SpanStore", name := "ofKey", desc := "(I)I" } : Jvm.MethodName)) ∈ ww := ww_mem (List.mem_append_right _ (List.mem_append_right _ (List.mem_append_left _ (List.mem_of_getElem? (i := 202) rfl)))) rfl
theorem mw_443 : (Jvm.Cond.instanceMethod ({ cls := "SpanRules$SpanStore", name := "ofKey", desc := "(I)I" } : Jvm.MethodName)) ∈ ww := ww_mem (List.mem_append_right _ (List.mem_append_right _ (List.mem_append_left _ (List.mem_of_getElem? (i := 203) rfl)))) rfl
theorem mw_444 : (Jvm.Cond.selects "SpanRules$SpanStore" ({ cls := "SpanRules$SpanStore", name := "ofKey", desc := "(I)I" } : Jvm.MethodName) ({ cls := "SpanRules$SpanStore", name := "ofKey", desc := "(I)I" } : Jvm.MethodName)) ∈ ww := ww_mem (List.mem_append_right _ (List.mem_append_right _ (List.mem_append_left _ (List.mem_of_getElem? (i := 204) rfl)))) rfl
theorem mw_445 : (Jvm.Cond.code ({ cls := "SpanRules$SpanStore", name := "ofKey", desc := "(I)I" } : Jvm.MethodName) prog_9_method_4_code (4 : Nat) (Option.some Jvm.ClassFile.FieldType.int)) ∈ ww := ww_mem (List.mem_append_right _ (List.mem_append_right _ (List.mem_append_left _ (List.mem_of_getElem? (i := 205) rfl)))) rfl
theorem mw_450 : (Jvm.Cond.methodLink "SpanRules" (187 : Nat) ({ cls := "SpanRules$SpanStore", name := "nthOfKey", desc := "(II)I" } : Jvm.MethodName)) ∈ ww := ww_mem (List.mem_append_right _ (List.mem_append_right _ (List.mem_append_left _ (List.mem_of_getElem? (i := 210) rfl)))) rfl
theorem mw_451 : (Jvm.Cond.instanceMethod ({ cls := "SpanRules$SpanStore", name := "nthOfKey", desc := "(II)I" } : Jvm.MethodName)) ∈ ww := ww_mem (List.mem_append_right _ (List.mem_append_right _ (List.mem_append_left _ (List.mem_of_getElem? (i := 211) rfl)))) rfl
theorem mw_452 : (Jvm.Cond.selects "SpanRules$SpanStore" ({ cls := "SpanRules$SpanStore", name := "nthOfKey", desc := "(II)I" } : Jvm.MethodName) ({ cls := "SpanRules$SpanStore", name := "nthOfKey", desc := "(II)I" } : Jvm.MethodName)) ∈ ww := ww_mem (List.mem_append_right _ (List.mem_append_right _ (List.mem_append_left _ (List.mem_of_getElem? (i := 212) rfl)))) rfl
theorem mw_453 : (Jvm.Cond.code ({ cls := "SpanRules$SpanStore", name := "nthOfKey", desc := "(II)I" } : Jvm.MethodName) prog_9_method_5_code (6 : Nat) (Option.some Jvm.ClassFile.FieldType.int)) ∈ ww := ww_mem (List.mem_append_right _ (List.mem_append_right _ (List.mem_append_left _ (List.mem_of_getElem? (i := 213) rfl)))) rfl
theorem mw_454 : (Jvm.Cond.methodLink "SpanRules" (205 : Nat) ({ cls := "SpanRules$Contents", name := "part", desc := "(I)J" } : Jvm.MethodName)) ∈ ww := ww_mem (List.mem_append_right _ (List.mem_append_right _ (List.mem_append_left _ (List.mem_of_getElem? (i := 214) rfl)))) rfl
theorem mw_459 : (Jvm.Cond.constantLong "SpanRules" (215 : Nat) (-3000000 : Int64)) ∈ ww := ww_mem (List.mem_append_right _ (List.mem_append_right _ (List.mem_append_left _ (List.mem_of_getElem? (i := 219) rfl)))) rfl
theorem mw_460 : (Jvm.Cond.constantLong "SpanRules" (217 : Nat) (3000000 : Int64)) ∈ ww := ww_mem (List.mem_append_right _ (List.mem_append_right _ (List.mem_append_left _ (List.mem_of_getElem? (i := 220) rfl)))) rfl
theorem mw_461 : (Jvm.Cond.methodLink "SpanRules" (219 : Nat) ({ cls := "SpanRules$Calendar", name := "firstDay", desc := "(J)J" } : Jvm.MethodName)) ∈ ww := ww_mem (List.mem_append_right _ (List.mem_append_right _ (List.mem_append_left _ (List.mem_of_getElem? (i := 221) rfl)))) rfl
theorem mw_462 : (Jvm.Cond.static ({ cls := "SpanRules$Calendar", name := "firstDay", desc := "(J)J" } : Jvm.MethodName)) ∈ ww := ww_mem (List.mem_append_right _ (List.mem_append_right _ (List.mem_append_left _ (List.mem_of_getElem? (i := 222) rfl)))) rfl
theorem mw_463 : (Jvm.Cond.code ({ cls := "SpanRules$Calendar", name := "firstDay", desc := "(J)J" } : Jvm.MethodName) prog_2_method_2_code (10 : Nat) (Option.some Jvm.ClassFile.FieldType.long)) ∈ ww := ww_mem (List.mem_append_right _ (List.mem_append_right _ (List.mem_append_left _ (List.mem_of_getElem? (i := 223) rfl)))) rfl
theorem mw_464 : (Jvm.Cond.constantLong "SpanRules$Calendar" (9 : Nat) (23638 : Int64)) ∈ ww := ww_mem (List.mem_append_right _ (List.mem_append_right _ (List.mem_append_left _ (List.mem_of_getElem? (i := 224) rfl)))) rfl
theorem mw_465 : (Jvm.Cond.constantLong "SpanRules$Calendar" (11 : Nat) (12 : Int64)) ∈ ww := ww_mem (List.mem_append_right _ (List.mem_append_right _ (List.mem_append_left _ (List.mem_of_getElem? (i := 225) rfl)))) rfl
theorem mw_466 : (Jvm.Cond.methodLink "SpanRules$Calendar" (13 : Nat) ({ cls := "java/lang/Math", name := "floorDiv", desc := "(JJ)J" } : Jvm.MethodName)) ∈ ww := ww_mem (List.mem_append_right _ (List.mem_append_right _ (List.mem_append_left _ (List.mem_of_getElem? (i := 226) rfl)))) rfl
theorem mw_467 : (Jvm.Cond.constantLong "SpanRules$Calendar" (19 : Nat) (4 : Int64)) ∈ ww := ww_mem (List.mem_append_right _ (List.mem_append_right _ (List.mem_append_left _ (List.mem_of_getElem? (i := 227) rfl)))) rfl
theorem mw_468 : (Jvm.Cond.constantLong "SpanRules$Calendar" (21 : Nat) (100 : Int64)) ∈ ww := ww_mem (List.mem_append_right _ (List.mem_append_right _ (List.mem_append_left _ (List.mem_of_getElem? (i := 228) rfl)))) rfl
theorem mw_469 : (Jvm.Cond.constantLong "SpanRules$Calendar" (23 : Nat) (400 : Int64)) ∈ ww := ww_mem (List.mem_append_right _ (List.mem_append_right _ (List.mem_append_left _ (List.mem_of_getElem? (i := 229) rfl)))) rfl
theorem mw_470 : (Jvm.Cond.constantLong "SpanRules$Calendar" (25 : Nat) (153 : Int64)) ∈ ww := ww_mem (List.mem_append_right _ (List.mem_append_right _ (List.mem_append_left _ (List.mem_of_getElem? (i := 230) rfl)))) rfl
theorem mw_471 : (Jvm.Cond.constantLong "SpanRules$Calendar" (27 : Nat) (2 : Int64)) ∈ ww := ww_mem (List.mem_append_right _ (List.mem_append_right _ (List.mem_append_left _ (List.mem_of_getElem? (i := 231) rfl)))) rfl
theorem mw_472 : (Jvm.Cond.constantLong "SpanRules$Calendar" (29 : Nat) (5 : Int64)) ∈ ww := ww_mem (List.mem_append_right _ (List.mem_append_right _ (List.mem_append_left _ (List.mem_of_getElem? (i := 232) rfl)))) rfl
theorem mw_473 : (Jvm.Cond.constantLong "SpanRules$Calendar" (31 : Nat) (365 : Int64)) ∈ ww := ww_mem (List.mem_append_right _ (List.mem_append_right _ (List.mem_append_left _ (List.mem_of_getElem? (i := 233) rfl)))) rfl
theorem mw_474 : (Jvm.Cond.constantLong "SpanRules$Calendar" (33 : Nat) (719468 : Int64)) ∈ ww := ww_mem (List.mem_append_right _ (List.mem_append_right _ (List.mem_append_left _ (List.mem_of_getElem? (i := 234) rfl)))) rfl
theorem mw_475 : (Jvm.Cond.constant "SpanRules" (225 : Nat) (-2000000000 : Int32)) ∈ ww := ww_mem (List.mem_append_right _ (List.mem_append_right _ (List.mem_append_left _ (List.mem_of_getElem? (i := 235) rfl)))) rfl
theorem mw_560 : (Jvm.Cond.methodLink "SpanRules" (234 : Nat) ({ cls := "SpanRules", name := "dropLate", desc := "()I" } : Jvm.MethodName)) ∈ ww := ww_mem (List.mem_append_right _ (List.mem_append_right _ (List.mem_append_right _ (List.mem_append_left _ (List.mem_of_getElem? (i := 80) rfl))))) rfl
theorem mw_562 : (Jvm.Cond.instanceMethod ({ cls := "SpanRules", name := "dropLate", desc := "()I" } : Jvm.MethodName)) ∈ ww := ww_mem (List.mem_append_right _ (List.mem_append_right _ (List.mem_append_right _ (List.mem_append_left _ (List.mem_of_getElem? (i := 82) rfl))))) rfl
theorem mw_563 : (Jvm.Cond.code ({ cls := "SpanRules", name := "dropLate", desc := "()I" } : Jvm.MethodName) prog_1_method_20_code (1 : Nat) (Option.some Jvm.ClassFile.FieldType.int)) ∈ ww := ww_mem (List.mem_append_right _ (List.mem_append_right _ (List.mem_append_right _ (List.mem_append_left _ (List.mem_of_getElem? (i := 83) rfl))))) rfl
theorem mw_564 : (Jvm.Cond.methodLink "SpanRules" (237 : Nat) ({ cls := "SpanRules$RowStore", name := "isFull", desc := "()Z" } : Jvm.MethodName)) ∈ ww := ww_mem (List.mem_append_right _ (List.mem_append_right _ (List.mem_append_right _ (List.mem_append_left _ (List.mem_of_getElem? (i := 84) rfl))))) rfl
theorem mw_565 : (Jvm.Cond.instanceMethod ({ cls := "SpanRules$RowStore", name := "isFull", desc := "()Z" } : Jvm.MethodName)) ∈ ww := ww_mem (List.mem_append_right _ (List.mem_append_right _ (List.mem_append_right _ (List.mem_append_left _ (List.mem_of_getElem? (i := 85) rfl))))) rfl
theorem mw_566 : (Jvm.Cond.selects "SpanRules$RowStore" ({ cls := "SpanRules$RowStore", name := "isFull", desc := "()Z" } : Jvm.MethodName) ({ cls := "SpanRules$RowStore", name := "isFull", desc := "()Z" } : Jvm.MethodName)) ∈ ww := ww_mem (List.mem_append_right _ (List.mem_append_right _ (List.mem_append_right _ (List.mem_append_left _ (List.mem_of_getElem? (i := 86) rfl))))) rfl
theorem mw_567 : (Jvm.Cond.code ({ cls := "SpanRules$RowStore", name := "isFull", desc := "()Z" } : Jvm.MethodName) prog_8_method_2_code (1 : Nat) (Option.some Jvm.ClassFile.FieldType.boolean)) ∈ ww := ww_mem (List.mem_append_right _ (List.mem_append_right _ (List.mem_append_right _ (List.mem_append_left _ (List.mem_of_getElem? (i := 87) rfl))))) rfl
theorem mw_568 : (Jvm.Cond.methodLink "SpanRules" (241 : Nat) ({ cls := "SpanRules$RowStore", name := "add", desc := "(IJJ)I" } : Jvm.MethodName)) ∈ ww := ww_mem (List.mem_append_right _ (List.mem_append_right _ (List.mem_append_right _ (List.mem_append_left _ (List.mem_of_getElem? (i := 88) rfl))))) rfl
theorem mw_569 : (Jvm.Cond.instanceMethod ({ cls := "SpanRules$RowStore", name := "add", desc := "(IJJ)I" } : Jvm.MethodName)) ∈ ww := ww_mem (List.mem_append_right _ (List.mem_append_right _ (List.mem_append_right _ (List.mem_append_left _ (List.mem_of_getElem? (i := 89) rfl))))) rfl
theorem mw_570 : (Jvm.Cond.selects "SpanRules$RowStore" ({ cls := "SpanRules$RowStore", name := "add", desc := "(IJJ)I" } : Jvm.MethodName) ({ cls := "SpanRules$RowStore", name := "add", desc := "(IJJ)I" } : Jvm.MethodName)) ∈ ww := ww_mem (List.mem_append_right _ (List.mem_append_right _ (List.mem_append_right _ (List.mem_append_left _ (List.mem_of_getElem? (i := 90) rfl))))) rfl
theorem mw_571 : (Jvm.Cond.code ({ cls := "SpanRules$RowStore", name := "add", desc := "(IJJ)I" } : Jvm.MethodName) prog_8_method_3_code (8 : Nat) (Option.some Jvm.ClassFile.FieldType.int)) ∈ ww := ww_mem (List.mem_append_right _ (List.mem_append_right _ (List.mem_append_right _ (List.mem_append_left _ (List.mem_of_getElem? (i := 91) rfl))))) rfl
theorem mw_576 : (Jvm.Cond.methodLink "SpanRules" (246 : Nat) ({ cls := "SpanRules$SpanStore", name := "joinedEnd", desc := "(IJJ)J" } : Jvm.MethodName)) ∈ ww := ww_mem (List.mem_append_right _ (List.mem_append_right _ (List.mem_append_right _ (List.mem_append_left _ (List.mem_of_getElem? (i := 96) rfl))))) rfl
theorem mw_577 : (Jvm.Cond.instanceMethod ({ cls := "SpanRules$SpanStore", name := "joinedEnd", desc := "(IJJ)J" } : Jvm.MethodName)) ∈ ww := ww_mem (List.mem_append_right _ (List.mem_append_right _ (List.mem_append_right _ (List.mem_append_left _ (List.mem_of_getElem? (i := 97) rfl))))) rfl
theorem mw_578 : (Jvm.Cond.selects "SpanRules$SpanStore" ({ cls := "SpanRules$SpanStore", name := "joinedEnd", desc := "(IJJ)J" } : Jvm.MethodName) ({ cls := "SpanRules$SpanStore", name := "joinedEnd", desc := "(IJJ)J" } : Jvm.MethodName)) ∈ ww := ww_mem (List.mem_append_right _ (List.mem_append_right _ (List.mem_append_right _ (List.mem_append_left _ (List.mem_of_getElem? (i := 98) rfl))))) rfl
theorem mw_579 : (Jvm.Cond.code ({ cls := "SpanRules$SpanStore", name := "joinedEnd", desc := "(IJJ)J" } : Jvm.MethodName) prog_9_method_12_code (10 : Nat) (Option.some Jvm.ClassFile.FieldType.long)) ∈ ww := ww_mem (List.mem_append_right _ (List.mem_append_right _ (List.mem_append_right _ (List.mem_append_left _ (List.mem_of_getElem? (i := 99) rfl))))) rfl
theorem mw_580 : (Jvm.Cond.methodLink "SpanRules$SpanStore" (55 : Nat) ({ cls := "SpanRules$SpanStore", name := "shares", desc := "(IIJJ)Z" } : Jvm.MethodName)) ∈ ww := ww_mem (List.mem_append_right _ (List.mem_append_right _ (List.mem_append_right _ (List.mem_append_left _ (List.mem_of_getElem? (i := 100) rfl))))) rfl
theorem mw_582 : (Jvm.Cond.instanceMethod ({ cls := "SpanRules$SpanStore", name := "shares", desc := "(IIJJ)Z" } : Jvm.MethodName)) ∈ ww := ww_mem (List.mem_append_right _ (List.mem_append_right _ (List.mem_append_right _ (List.mem_append_left _ (List.mem_of_getElem? (i := 102) rfl))))) rfl
theorem mw_583 : (Jvm.Cond.code ({ cls := "SpanRules$SpanStore", name := "shares", desc := "(IIJJ)Z" } : Jvm.MethodName) prog_9_method_10_code (7 : Nat) (Option.some Jvm.ClassFile.FieldType.boolean)) ∈ ww := ww_mem (List.mem_append_right _ (List.mem_append_right _ (List.mem_append_right _ (List.mem_append_left _ (List.mem_of_getElem? (i := 103) rfl))))) rfl
theorem mw_584 : (Jvm.Cond.methodLink "SpanRules$SpanStore" (59 : Nat) ({ cls := "java/lang/Math", name := "max", desc := "(JJ)J" } : Jvm.MethodName)) ∈ ww := ww_mem (List.mem_append_right _ (List.mem_append_right _ (List.mem_append_right _ (List.mem_append_left _ (List.mem_of_getElem? (i := 104) rfl))))) rfl
theorem mw_585 : (Jvm.Cond.methodLink "SpanRules" (250 : Nat) ({ cls := "SpanRules", name := "isGone", desc := "(J)Z" } : Jvm.MethodName)) ∈ ww := ww_mem (List.mem_append_right _ (List.mem_append_right _ (List.mem_append_right _ (List.mem_append_left _ (List.mem_of_getElem? (i := 105) rfl))))) rfl
theorem mw_587 : (Jvm.Cond.instanceMethod ({ cls := "SpanRules", name := "isGone", desc := "(J)Z" } : Jvm.MethodName)) ∈ ww := ww_mem (List.mem_append_right _ (List.mem_append_right _ (List.mem_append_right _ (List.mem_append_left _ (List.mem_of_getElem? (i := 107) rfl))))) rfl
theorem mw_588 : (Jvm.Cond.code ({ cls := "SpanRules", name := "isGone", desc := "(J)Z" } : Jvm.MethodName) prog_1_method_19_code (3 : Nat) (Option.some Jvm.ClassFile.FieldType.boolean)) ∈ ww := ww_mem (List.mem_append_right _ (List.mem_append_right _ (List.mem_append_right _ (List.mem_append_left _ (List.mem_of_getElem? (i := 108) rfl))))) rfl
theorem mw_589 : (Jvm.Cond.methodLink "SpanRules" (254 : Nat) ({ cls := "SpanRules$SpanStore", name := "sharing", desc := "(IJJ)I" } : Jvm.MethodName)) ∈ ww := ww_mem (List.mem_append_right _ (List.mem_append_right _ (List.mem_append_right _ (List.mem_append_left _ (List.mem_of_getElem? (i := 109) rfl))))) rfl
theorem mw_590 : (Jvm.Cond.instanceMethod ({ cls := "SpanRules$SpanStore", name := "sharing", desc := "(IJJ)I" } : Jvm.MethodName)) ∈ ww := ww_mem (List.mem_append_right _ (List.mem_append_right _ (List.mem_append_right _ (List.mem_append_left _ (List.mem_of_getElem? (i := 110) rfl))))) rfl
theorem mw_591 : (Jvm.Cond.selects "SpanRules$SpanStore" ({ cls := "SpanRules$SpanStore", name := "sharing", desc := "(IJJ)I" } : Jvm.MethodName) ({ cls := "SpanRules$SpanStore", name := "sharing", desc := "(IJJ)I" } : Jvm.MethodName)) ∈ ww := ww_mem (List.mem_append_right _ (List.mem_append_right _ (List.mem_append_right _ (List.mem_append_left _ (List.mem_of_getElem? (i := 111) rfl))))) rfl
theorem mw_592 : (Jvm.Cond.code ({ cls := "SpanRules$SpanStore", name := "sharing", desc := "(IJJ)I" } : Jvm.MethodName) prog_9_method_11_code (8 : Nat) (Option.some Jvm.ClassFile.FieldType.int)) ∈ ww := ww_mem (List.mem_append_right _ (List.mem_append_right _ (List.mem_append_right _ (List.mem_append_left _ (List.mem_of_getElem? (i := 112) rfl))))) rfl
theorem mw_593 : (Jvm.Cond.methodLink "SpanRules" (257 : Nat) ({ cls := "SpanRules$SpanStore", name := "join", desc := "(IJJ)I" } : Jvm.MethodName)) ∈ ww := ww_mem (List.mem_append_right _ (List.mem_append_right _ (List.mem_append_right _ (List.mem_append_left _ (List.mem_of_getElem? (i := 113) rfl))))) rfl
theorem mw_594 : (Jvm.Cond.instanceMethod ({ cls := "SpanRules$SpanStore", name := "join", desc := "(IJJ)I" } : Jvm.MethodName)) ∈ ww := ww_mem (List.mem_append_right _ (List.mem_append_right _ (List.mem_append_right _ (List.mem_append_left _ (List.mem_of_getElem? (i := 114) rfl))))) rfl
theorem mw_595 : (Jvm.Cond.selects "SpanRules$SpanStore" ({ cls := "SpanRules$SpanStore", name := "join", desc := "(IJJ)I" } : Jvm.MethodName) ({ cls := "SpanRules$SpanStore", name := "join", desc := "(IJJ)I" } : Jvm.MethodName)) ∈ ww := ww_mem (List.mem_append_right _ (List.mem_append_right _ (List.mem_append_right _ (List.mem_append_left _ (List.mem_of_getElem? (i := 115) rfl))))) rfl
theorem mw_596 : (Jvm.Cond.code ({ cls := "SpanRules$SpanStore", name := "join", desc := "(IJJ)I" } : Jvm.MethodName) prog_9_method_13_code (9 : Nat) (Option.some Jvm.ClassFile.FieldType.int)) ∈ ww := ww_mem (List.mem_append_right _ (List.mem_append_right _ (List.mem_append_right _ (List.mem_append_left _ (List.mem_of_getElem? (i := 116) rfl))))) rfl
theorem mw_597 : (Jvm.Cond.methodLink "SpanRules$SpanStore" (65 : Nat) ({ cls := "SpanRules$SpanStore", name := "absorb", desc := "(II)V" } : Jvm.MethodName)) ∈ ww := ww_mem (List.mem_append_right _ (List.mem_append_right _ (List.mem_append_right _ (List.mem_append_left _ (List.mem_of_getElem? (i := 117) rfl))))) rfl
theorem mw_599 : (Jvm.Cond.instanceMethod ({ cls := "SpanRules$SpanStore", name := "absorb", desc := "(II)V" } : Jvm.MethodName)) ∈ ww := ww_mem (List.mem_append_right _ (List.mem_append_right _ (List.mem_append_right _ (List.mem_append_left _ (List.mem_of_getElem? (i := 119) rfl))))) rfl
theorem mw_600 : (Jvm.Cond.code ({ cls := "SpanRules$SpanStore", name := "absorb", desc := "(II)V" } : Jvm.MethodName) prog_9_method_14_code (4 : Nat) (Option.none : Option Jvm.ClassFile.FieldType)) ∈ ww := ww_mem (List.mem_append_right _ (List.mem_append_right _ (List.mem_append_right _ (List.mem_append_left _ (List.mem_of_getElem? (i := 120) rfl))))) rfl
theorem mw_601 : (Jvm.Cond.methodLink "SpanRules$SpanStore" (79 : Nat) ({ cls := "java/lang/Math", name := "max", desc := "(II)I" } : Jvm.MethodName)) ∈ ww := ww_mem (List.mem_append_right _ (List.mem_append_right _ (List.mem_append_right _ (List.mem_append_left _ (List.mem_of_getElem? (i := 121) rfl))))) rfl
theorem mw_602 : (Jvm.Cond.static ({ cls := "java/lang/Math", name := "max", desc := "(II)I" } : Jvm.MethodName)) ∈ ww := ww_mem (List.mem_append_right _ (List.mem_append_right _ (List.mem_append_right _ (List.mem_append_left _ (List.mem_of_getElem? (i := 122) rfl))))) rfl
theorem mw_603 : (Jvm.Cond.code ({ cls := "java/lang/Math", name := "max", desc := "(II)I" } : Jvm.MethodName) prog_14_method_65_code (2 : Nat) (Option.some Jvm.ClassFile.FieldType.int)) ∈ ww := ww_mem (List.mem_append_right _ (List.mem_append_right _ (List.mem_append_right _ (List.mem_append_left _ (List.mem_of_getElem? (i := 123) rfl))))) rfl
theorem mw_604 : (Jvm.Cond.methodLink "SpanRules$SpanStore" (69 : Nat) ({ cls := "SpanRules$SpanStore", name := "add", desc := "(IJJ)I" } : Jvm.MethodName)) ∈ ww := ww_mem (List.mem_append_right _ (List.mem_append_right _ (List.mem_append_right _ (List.mem_append_left _ (List.mem_of_getElem? (i := 124) rfl))))) rfl
theorem mw_605 : (Jvm.Cond.instanceMethod ({ cls := "SpanRules$SpanStore", name := "add", desc := "(IJJ)I" } : Jvm.MethodName)) ∈ ww := ww_mem (List.mem_append_right _ (List.mem_append_right _ (List.mem_append_right _ (List.mem_append_left _ (List.mem_of_getElem? (i := 125) rfl))))) rfl
theorem mw_606 : (Jvm.Cond.selects "SpanRules$SpanStore" ({ cls := "SpanRules$SpanStore", name := "add", desc := "(IJJ)I" } : Jvm.MethodName) ({ cls := "SpanRules$SpanStore", name := "add", desc := "(IJJ)I" } : Jvm.MethodName)) ∈ ww := ww_mem (List.mem_append_right _ (List.mem_append_right _ (List.mem_append_right _ (List.mem_append_left _ (List.mem_of_getElem? (i := 126) rfl))))) rfl
theorem mw_607 : (Jvm.Cond.code ({ cls := "SpanRules$SpanStore", name := "add", desc := "(IJJ)I" } : Jvm.MethodName) prog_9_method_6_code (8 : Nat) (Option.some Jvm.ClassFile.FieldType.int)) ∈ ww := ww_mem (List.mem_append_right _ (List.mem_append_right _ (List.mem_append_right _ (List.mem_append_left _ (List.mem_of_getElem? (i := 127) rfl))))) rfl
theorem mw_608 : (Jvm.Cond.methodLink "SpanRules$SpanStore" (51 : Nat) ({ cls := "SpanRules$SpanStore", name := "isBehind", desc := "(II)Z" } : Jvm.MethodName)) ∈ ww := ww_mem (List.mem_append_right _ (List.mem_append_right _ (List.mem_append_right _ (List.mem_append_left _ (List.mem_of_getElem? (i := 128) rfl))))) rfl
theorem mw_610 : (Jvm.Cond.instanceMethod ({ cls := "SpanRules$SpanStore", name := "isBehind", desc := "(II)Z" } : Jvm.MethodName)) ∈ ww := ww_mem (List.mem_append_right _ (List.mem_append_right _ (List.mem_append_right _ (List.mem_append_left _ (List.mem_of_getElem? (i := 130) rfl))))) rfl
theorem mw_611 : (Jvm.Cond.code ({ cls := "SpanRules$SpanStore", name := "isBehind", desc := "(II)Z" } : Jvm.MethodName) prog_9_method_7_code (3 : Nat) (Option.some Jvm.ClassFile.FieldType.boolean)) ∈ ww := ww_mem (List.mem_append_right _ (List.mem_append_right _ (List.mem_append_right _ (List.mem_append_left _ (List.mem_of_getElem? (i := 131) rfl))))) rfl
theorem mw_612 : (Jvm.Cond.methodLink "SpanRules$SpanStore" (73 : Nat) ({ cls := "java/lang/Math", name := "min", desc := "(JJ)J" } : Jvm.MethodName)) ∈ ww := ww_mem (List.mem_append_right _ (List.mem_append_right _ (List.mem_append_right _ (List.mem_append_left _ (List.mem_of_getElem? (i := 132) rfl))))) rfl
theorem mw_613 : (Jvm.Cond.methodLink "SpanRules" (264 : Nat) ({ cls := "SpanRules", name := "putAndFire", desc := "(II)V" } : Jvm.MethodName)) ∈ ww := ww_mem (List.mem_append_right _ (List.mem_append_right _ (List.mem_append_right _ (List.mem_append_left _ (List.mem_of_getElem? (i := 133) rfl))))) rfl
theorem mw_615 : (Jvm.Cond.instanceMethod ({ cls := "SpanRules", name := "putAndFire", desc := "(II)V" } : Jvm.MethodName)) ∈ ww := ww_mem (List.mem_append_right _ (List.mem_append_right _ (List.mem_append_right _ (List.mem_append_left _ (List.mem_of_getElem? (i := 135) rfl))))) rfl
theorem mw_616 : (Jvm.Cond.code ({ cls := "SpanRules", name := "putAndFire", desc := "(II)V" } : Jvm.MethodName) prog_1_method_25_code (3 : Nat) (Option.none : Option Jvm.ClassFile.FieldType)) ∈ ww := ww_mem (List.mem_append_right _ (List.mem_append_right _ (List.mem_append_right _ (List.mem_append_left _ (List.mem_of_getElem? (i := 136) rfl))))) rfl
theorem mw_617 : (Jvm.Cond.methodLink "SpanRules" (288 : Nat) ({ cls := "SpanRules$SpanStore", name := "put", desc := "(II)V" } : Jvm.MethodName)) ∈ ww := ww_mem (List.mem_append_right _ (List.mem_append_right _ (List.mem_append_right _ (List.mem_append_left _ (List.mem_of_getElem? (i := 137) rfl))))) rfl
theorem mw_618 : (Jvm.Cond.instanceMethod ({ cls := "SpanRules$SpanStore", name := "put", desc := "(II)V" } : Jvm.MethodName)) ∈ ww := ww_mem (List.mem_append_right _ (List.mem_append_right _ (List.mem_append_right _ (List.mem_append_left _ (List.mem_of_getElem? (i := 138) rfl))))) rfl
theorem mw_619 : (Jvm.Cond.selects "SpanRules$SpanStore" ({ cls := "SpanRules$SpanStore", name := "put", desc := "(II)V" } : Jvm.MethodName) ({ cls := "SpanRules$SpanStore", name := "put", desc := "(II)V" } : Jvm.MethodName)) ∈ ww := ww_mem (List.mem_append_right _ (List.mem_append_right _ (List.mem_append_right _ (List.mem_append_left _ (List.mem_of_getElem? (i := 139) rfl))))) rfl
theorem mw_620 : (Jvm.Cond.code ({ cls := "SpanRules$SpanStore", name := "put", desc := "(II)V" } : Jvm.MethodName) prog_9_method_8_code (4 : Nat) (Option.none : Option Jvm.ClassFile.FieldType)) ∈ ww := ww_mem (List.mem_append_right _ (List.mem_append_right _ (List.mem_append_right _ (List.mem_append_left _ (List.mem_of_getElem? (i := 140) rfl))))) rfl
theorem mw_625 : (Jvm.Cond.methodLink "SpanRules" (268 : Nat) ({ cls := "SpanRules$Layout", name := "seek", desc := "(JJ)V" } : Jvm.MethodName)) ∈ ww := ww_mem (List.mem_append_right _ (List.mem_append_right _ (List.mem_append_right _ (List.mem_append_left _ (List.mem_of_getElem? (i := 145) rfl))))) rfl
theorem mw_626 : (Jvm.Cond.instanceMethod ({ cls := "SpanRules$Layout", name := "seek", desc := "(JJ)V" } : Jvm.MethodName)) ∈ ww := ww_mem (List.mem_append_right _ (List.mem_append_right _ (List.mem_append_right _ (List.mem_append_left _ (List.mem_of_getElem? (i := 146) rfl))))) rfl
theorem mw_627 : (Jvm.Cond.selects "SpanRules$Layout" ({ cls := "SpanRules$Layout", name := "seek", desc := "(JJ)V" } : Jvm.MethodName) ({ cls := "SpanRules$Layout", name := "seek", desc := "(JJ)V" } : Jvm.MethodName)) ∈ ww := ww_mem (List.mem_append_right _ (List.mem_append_right _ (List.mem_append_right _ (List.mem_append_left _ (List.mem_of_getElem? (i := 147) rfl))))) rfl
theorem mw_628 : (Jvm.Cond.code ({ cls := "SpanRules$Layout", name := "seek", desc := "(JJ)V" } : Jvm.MethodName) prog_6_method_2_code (5 : Nat) (Option.none : Option Jvm.ClassFile.FieldType)) ∈ ww := ww_mem (List.mem_append_right _ (List.mem_append_right _ (List.mem_append_right _ (List.mem_append_left _ (List.mem_of_getElem? (i := 148) rfl))))) rfl
theorem mw_629 : (Jvm.Cond.methodLink "SpanRules$Layout" (38 : Nat) ({ cls := "SpanRules$Layout", name := "slide", desc := "(J)V" } : Jvm.MethodName)) ∈ ww := ww_mem (List.mem_append_right _ (List.mem_append_right _ (List.mem_append_right _ (List.mem_append_left _ (List.mem_of_getElem? (i := 149) rfl))))) rfl
theorem mw_631 : (Jvm.Cond.instanceMethod ({ cls := "SpanRules$Layout", name := "slide", desc := "(J)V" } : Jvm.MethodName)) ∈ ww := ww_mem (List.mem_append_right _ (List.mem_append_right _ (List.mem_append_right _ (List.mem_append_left _ (List.mem_of_getElem? (i := 151) rfl))))) rfl
theorem mw_632 : (Jvm.Cond.code ({ cls := "SpanRules$Layout", name := "slide", desc := "(J)V" } : Jvm.MethodName) prog_6_method_6_code (7 : Nat) (Option.none : Option Jvm.ClassFile.FieldType)) ∈ ww := ww_mem (List.mem_append_right _ (List.mem_append_right _ (List.mem_append_right _ (List.mem_append_left _ (List.mem_of_getElem? (i := 152) rfl))))) rfl
theorem mw_634 : (Jvm.Cond.methodLink "SpanRules$Layout" (56 : Nat) ({ cls := "SpanRules$Layout", name := "add", desc := "(JJ)V" } : Jvm.MethodName)) ∈ ww := ww_mem (List.mem_append_right _ (List.mem_append_right _ (List.mem_append_right _ (List.mem_append_left _ (List.mem_of_getElem? (i := 154) rfl))))) rfl
theorem mw_636 : (Jvm.Cond.instanceMethod ({ cls := "SpanRules$Layout", name := "add", desc := "(JJ)V" } : Jvm.MethodName)) ∈ ww := ww_mem (List.mem_append_right _ (List.mem_append_right _ (List.mem_append_right _ (List.mem_append_left _ (List.mem_of_getElem? (i := 156) rfl))))) rfl
theorem mw_637 : (Jvm.Cond.code ({ cls := "SpanRules$Layout", name := "add", desc := "(JJ)V" } : Jvm.MethodName) prog_6_method_4_code (5 : Nat) (Option.none : Option Jvm.ClassFile.FieldType)) ∈ ww := ww_mem (List.mem_append_right _ (List.mem_append_right _ (List.mem_append_right _ (List.mem_append_left _ (List.mem_of_getElem? (i := 157) rfl))))) rfl
theorem mw_638 : (Jvm.Cond.methodLink "SpanRules$Layout" (42 : Nat) ({ cls := "SpanRules$Layout", name := "inMonths", desc := "(J)V" } : Jvm.MethodName)) ∈ ww := ww_mem (List.mem_append_right _ (List.mem_append_right _ (List.mem_append_right _ (List.mem_append_left _ (List.mem_of_getElem? (i := 158) rfl))))) rfl
theorem mw_640 : (Jvm.Cond.instanceMethod ({ cls := "SpanRules$Layout", name := "inMonths", desc := "(J)V" } : Jvm.MethodName)) ∈ ww := ww_mem (List.mem_append_right _ (List.mem_append_right _ (List.mem_append_right _ (List.mem_append_left _ (List.mem_of_getElem? (i := 160) rfl))))) rfl
theorem mw_641 : (Jvm.Cond.code ({ cls := "SpanRules$Layout", name := "inMonths", desc := "(J)V" } : Jvm.MethodName) prog_6_method_7_code (5 : Nat) (Option.none : Option Jvm.ClassFile.FieldType)) ∈ ww := ww_mem (List.mem_append_right _ (List.mem_append_right _ (List.mem_append_right _ (List.mem_append_left _ (List.mem_of_getElem? (i := 161) rfl))))) rfl
theorem mw_642 : (Jvm.Cond.methodLink "SpanRules$Layout" (59 : Nat) ({ cls := "SpanRules$Calendar", name := "monthOf", desc := "(J)J" } : Jvm.MethodName)) ∈ ww := ww_mem (List.mem_append_right _ (List.mem_append_right _ (List.mem_append_right _ (List.mem_append_left _ (List.mem_of_getElem? (i := 162) rfl))))) rfl
theorem mw_643 : (Jvm.Cond.static ({ cls := "SpanRules$Calendar", name := "monthOf", desc := "(J)J" } : Jvm.MethodName)) ∈ ww := ww_mem (List.mem_append_right _ (List.mem_append_right _ (List.mem_append_right _ (List.mem_append_left _ (List.mem_of_getElem? (i := 163) rfl))))) rfl
theorem mw_644 : (Jvm.Cond.code ({ cls := "SpanRules$Calendar", name := "monthOf", desc := "(J)J" } : Jvm.MethodName) prog_2_method_3_code (5 : Nat) (Option.some Jvm.ClassFile.FieldType.long)) ∈ ww := ww_mem (List.mem_append_right _ (List.mem_append_right _ (List.mem_append_right _ (List.mem_append_left _ (List.mem_of_getElem? (i := 164) rfl))))) rfl
theorem mw_645 : (Jvm.Cond.constantLong "SpanRules$Calendar" (35 : Nat) (4800 : Int64)) ∈ ww := ww_mem (List.mem_append_right _ (List.mem_append_right _ (List.mem_append_right _ (List.mem_append_left _ (List.mem_of_getElem? (i := 165) rfl))))) rfl
theorem mw_646 : (Jvm.Cond.constantLong "SpanRules$Calendar" (37 : Nat) (146097 : Int64)) ∈ ww := ww_mem (List.mem_append_right _ (List.mem_append_right _ (List.mem_append_right _ (List.mem_append_left _ (List.mem_of_getElem? (i := 166) rfl))))) rfl
theorem mw_647 : (Jvm.Cond.methodLink "SpanRules$Calendar" (39 : Nat) ({ cls := "SpanRules$Calendar", name := "firstDay", desc := "(J)J" } : Jvm.MethodName)) ∈ ww := ww_mem (List.mem_append_right _ (List.mem_append_right _ (List.mem_append_right _ (List.mem_append_left _ (List.mem_of_getElem? (i := 167) rfl))))) rfl
theorem mw_648 : (Jvm.Cond.methodLink "SpanRules$Layout" (65 : Nat) ({ cls := "SpanRules$Calendar", name := "firstDay", desc := "(J)J" } : Jvm.MethodName)) ∈ ww := ww_mem (List.mem_append_right _ (List.mem_append_right _ (List.mem_append_right _ (List.mem_append_left _ (List.mem_of_getElem? (i := 168) rfl))))) rfl
theorem mw_649 : (Jvm.Cond.methodLink "SpanRules$Layout" (45 : Nat) ({ cls := "SpanRules$Layout", name := "byOwnRule", desc := "(JJ)V" } : Jvm.MethodName)) ∈ ww := ww_mem (List.mem_append_right _ (List.mem_append_right _ (List.mem_append_right _ (List.mem_append_left _ (List.mem_of_getElem? (i := 169) rfl))))) rfl
theorem mw_651 : (Jvm.Cond.instanceMethod ({ cls := "SpanRules$Layout", name := "byOwnRule", desc := "(JJ)V" } : Jvm.MethodName)) ∈ ww := ww_mem (List.mem_append_right _ (List.mem_append_right _ (List.mem_append_right _ (List.mem_append_left _ (List.mem_of_getElem? (i := 171) rfl))))) rfl
theorem mw_652 : (Jvm.Cond.code ({ cls := "SpanRules$Layout", name := "byOwnRule", desc := "(JJ)V" } : Jvm.MethodName) prog_6_method_8_code (5 : Nat) (Option.none : Option Jvm.ClassFile.FieldType)) ∈ ww := ww_mem (List.mem_append_right _ (List.mem_append_right _ (List.mem_append_right _ (List.mem_append_left _ (List.mem_of_getElem? (i := 172) rfl))))) rfl
theorem mw_653 : (Jvm.Cond.methodLink "SpanRules$Layout" (68 : Nat) ({ cls := "SpanRules$Layout", name := "byTurns", desc := "(J)V" } : Jvm.MethodName)) ∈ ww := ww_mem (List.mem_append_right _ (List.mem_append_right _ (List.mem_append_right _ (List.mem_append_left _ (List.mem_of_getElem? (i := 173) rfl))))) rfl
theorem mw_655 : (Jvm.Cond.instanceMethod ({ cls := "SpanRules$Layout", name := "byTurns", desc := "(J)V" } : Jvm.MethodName)) ∈ ww := ww_mem (List.mem_append_right _ (List.mem_append_right _ (List.mem_append_right _ (List.mem_append_left _ (List.mem_of_getElem? (i := 175) rfl))))) rfl
theorem mw_656 : (Jvm.Cond.code ({ cls := "SpanRules$Layout", name := "byTurns", desc := "(J)V" } : Jvm.MethodName) prog_6_method_9_code (5 : Nat) (Option.none : Option Jvm.ClassFile.FieldType)) ∈ ww := ww_mem (List.mem_append_right _ (List.mem_append_right _ (List.mem_append_right _ (List.mem_append_left _ (List.mem_of_getElem? (i := 176) rfl))))) rfl
theorem mw_657 : (Jvm.Cond.methodLink "SpanRules$Layout" (49 : Nat) ({ cls := "SpanRules$Layout", name := "beside", desc := "(JJ)V" } : Jvm.MethodName)) ∈ ww := ww_mem (List.mem_append_right _ (List.mem_append_right _ (List.mem_append_right _ (List.mem_append_left _ (List.mem_of_getElem? (i := 177) rfl))))) rfl
theorem mw_659 : (Jvm.Cond.instanceMethod ({ cls := "SpanRules$Layout", name := "beside", desc := "(JJ)V" } : Jvm.MethodName)) ∈ ww := ww_mem (List.mem_append_right _ (List.mem_append_right _ (List.mem_append_right _ (List.mem_append_left _ (List.mem_of_getElem? (i := 179) rfl))))) rfl
theorem mw_660 : (Jvm.Cond.code ({ cls := "SpanRules$Layout", name := "beside", desc := "(JJ)V" } : Jvm.MethodName) prog_6_method_5_code (7 : Nat) (Option.none : Option Jvm.ClassFile.FieldType)) ∈ ww := ww_mem (List.mem_append_right _ (List.mem_append_right _ (List.mem_append_right _ (List.mem_append_left _ (List.mem_of_getElem? (i := 180) rfl))))) rfl
theorem mw_661 : (Jvm.Cond.methodLink "SpanRules$Layout" (71 : Nat) ({ cls := "SpanRules$Layout", name := "doubling", desc := "(J)V" } : Jvm.MethodName)) ∈ ww := ww_mem (List.mem_append_right _ (List.mem_append_right _ (List.mem_append_right _ (List.mem_append_left _ (List.mem_of_getElem? (i := 181) rfl))))) rfl
theorem mw_663 : (Jvm.Cond.instanceMethod ({ cls := "SpanRules$Layout", name := "doubling", desc := "(J)V" } : Jvm.MethodName)) ∈ ww := ww_mem (List.mem_append_right _ (List.mem_append_right _ (List.mem_append_right _ (List.mem_append_left _ (List.mem_of_getElem? (i := 183) rfl))))) rfl
theorem mw_664 : (Jvm.Cond.code ({ cls := "SpanRules$Layout", name := "doubling", desc := "(J)V" } : Jvm.MethodName) prog_6_method_10_code (12 : Nat) (Option.none : Option Jvm.ClassFile.FieldType)) ∈ ww := ww_mem (List.mem_append_right _ (List.mem_append_right _ (List.mem_append_right _ (List.mem_append_left _ (List.mem_of_getElem? (i := 184) rfl))))) rfl
theorem mw_665 : (Jvm.Cond.constantLong "SpanRules$Layout" (74 : Nat) (-1 : Int64)) ∈ ww := ww_mem (List.mem_append_right _ (List.mem_append_right _ (List.mem_append_right _ (List.mem_append_left _ (List.mem_of_getElem? (i := 185) rfl))))) rfl
theorem mw_666 : (Jvm.Cond.constantLong "SpanRules$Layout" (76 : Nat) (2 : Int64)) ∈ ww := ww_mem (List.mem_append_right _ (List.mem_append_right _ (List.mem_append_right _ (List.mem_append_left _ (List.mem_of_getElem? (i := 186) rfl))))) rfl
theorem mw_667 : (Jvm.Cond.methodLink "SpanRules" (272 : Nat) ({ cls := "SpanRules$Layout", name := "keepEndsAbove", desc := "(J)V" } : Jvm.MethodName)) ∈ ww := ww_mem (List.mem_append_right _ (List.mem_append_right _ (List.mem_append_right _ (List.mem_append_left _ (List.mem_of_getElem? (i := 187) rfl))))) rfl
theorem mw_668 : (Jvm.Cond.instanceMethod ({ cls := "SpanRules$Layout", name := "keepEndsAbove", desc := "(J)V" } : Jvm.MethodName)) ∈ ww := ww_mem (List.mem_append_right _ (List.mem_append_right _ (List.mem_append_right _ (List.mem_append_left _ (List.mem_of_getElem? (i := 188) rfl))))) rfl
theorem mw_669 : (Jvm.Cond.selects "SpanRules$Layout" ({ cls := "SpanRules$Layout", name := "keepEndsAbove", desc := "(J)V" } : Jvm.MethodName) ({ cls := "SpanRules$Layout", name := "keepEndsAbove", desc := "(J)V" } : Jvm.MethodName)) ∈ ww := ww_mem (List.mem_append_right _ (List.mem_append_right _ (List.mem_append_right _ (List.mem_append_left _ (List.mem_of_getElem? (i := 189) rfl))))) rfl
theorem mw_670 : (Jvm.Cond.code ({ cls := "SpanRules$Layout", name := "keepEndsAbove", desc := "(J)V" } : Jvm.MethodName) prog_6_method_3_code (5 : Nat) (Option.none : Option Jvm.ClassFile.FieldType)) ∈ ww := ww_mem (List.mem_append_right _ (List.mem_append_right _ (List.mem_append_right _ (List.mem_append_left _ (List.mem_of_getElem? (i := 190) rfl))))) rfl
theorem mw_671 : (Jvm.Cond.methodLink "SpanRules" (279 : Nat) ({ cls := "SpanRules", name := "newOnes", desc := "(I)I" } : Jvm.MethodName)) ∈ ww := ww_mem (List.mem_append_right _ (List.mem_append_right _ (List.mem_append_right _ (List.mem_append_left _ (List.mem_of_getElem? (i := 191) rfl))))) rfl
theorem mw_673 : (Jvm.Cond.instanceMethod ({ cls := "SpanRules", name := "newOnes", desc := "(I)I" } : Jvm.MethodName)) ∈ ww := ww_mem (List.mem_append_right _ (List.mem_append_right _ (List.mem_append_right _ (List.mem_append_left _ (List.mem_of_getElem? (i := 193) rfl))))) rfl
theorem mw_674 : (Jvm.Cond.code ({ cls := "SpanRules", name := "newOnes", desc := "(I)I" } : Jvm.MethodName) prog_1_method_24_code (4 : Nat) (Option.some Jvm.ClassFile.FieldType.int)) ∈ ww := ww_mem (List.mem_append_right _ (List.mem_append_right _ (List.mem_append_right _ (List.mem_append_left _ (List.mem_of_getElem? (i := 194) rfl))))) rfl
theorem mw_675 : (Jvm.Cond.methodLink "SpanRules" (284 : Nat) ({ cls := "SpanRules$SpanStore", name := "find", desc := "(IJJ)I" } : Jvm.MethodName)) ∈ ww := ww_mem (List.mem_append_right _ (List.mem_append_right _ (List.mem_append_right _ (List.mem_append_left _ (List.mem_of_getElem? (i := 195) rfl))))) rfl
theorem mw_676 : (Jvm.Cond.instanceMethod ({ cls := "SpanRules$SpanStore", name := "find", desc := "(IJJ)I" } : Jvm.MethodName)) ∈ ww := ww_mem (List.mem_append_right _ (List.mem_append_right _ (List.mem_append_right _ (List.mem_append_left _ (List.mem_of_getElem? (i := 196) rfl))))) rfl
theorem mw_677 : (Jvm.Cond.selects "SpanRules$SpanStore" ({ cls := "SpanRules$SpanStore", name := "find", desc := "(IJJ)I" } : Jvm.MethodName) ({ cls := "SpanRules$SpanStore", name := "find", desc := "(IJJ)I" } : Jvm.MethodName)) ∈ ww := ww_mem (List.mem_append_right _ (List.mem_append_right _ (List.mem_append_right _ (List.mem_append_left _ (List.mem_of_getElem? (i := 197) rfl))))) rfl
theorem mw_678 : (Jvm.Cond.code ({ cls := "SpanRules$SpanStore", name := "find", desc := "(IJJ)I" } : Jvm.MethodName) prog_9_method_3_code (8 : Nat) (Option.some Jvm.ClassFile.FieldType.int)) ∈ ww := ww_mem (List.mem_append_right _ (List.mem_append_right _ (List.mem_append_right _ (List.mem_append_left _ (List.mem_of_getElem? (i := 198) rfl))))) rfl
theorem mw_679 : (Jvm.Cond.methodLink "SpanRules" (287 : Nat) ({ cls := "SpanRules$SpanStore", name := "add", desc := "(IJJ)I" } : Jvm.MethodName)) ∈ ww := ww_mem (List.mem_append_right _ (List.mem_append_right _ (List.mem_append_right _ (List.mem_append_left _ (List.mem_of_getElem? (i := 199) rfl))))) rfl
theorem mw_686 : (Jvm.Cond.constantLong "SpanRulesModel" (21 : Nat) (-10000000000000 : Int64)) ∈ ww := ww_mem (List.mem_append_right _ (List.mem_append_right _ (List.mem_append_right _ (List.mem_append_left _ (List.mem_of_getElem? (i := 206) rfl))))) rfl
theorem mw_692 : (Jvm.Cond.fieldLink "SpanRulesModel" (93 : Nat) "SpanRulesModel" "kind" "I") ∈ ww := ww_mem (List.mem_append_right _ (List.mem_append_right _ (List.mem_append_right _ (List.mem_append_left _ (List.mem_of_getElem? (i := 212) rfl))))) rfl
theorem mw_693 : (Jvm.Cond.fieldLink "SpanRulesModel" (98 : Nat) "SpanRulesModel" "size" "I") ∈ ww := ww_mem (List.mem_append_right _ (List.mem_append_right _ (List.mem_append_right _ (List.mem_append_left _ (List.mem_of_getElem? (i := 213) rfl))))) rfl
theorem mw_694 : (Jvm.Cond.fieldLink "SpanRulesModel" (101 : Nat) "SpanRulesModel" "step" "I") ∈ ww := ww_mem (List.mem_append_right _ (List.mem_append_right _ (List.mem_append_right _ (List.mem_append_left _ (List.mem_of_getElem? (i := 214) rfl))))) rfl
theorem mw_695 : (Jvm.Cond.fieldLink "SpanRulesModel" (118 : Nat) "SpanRulesModel" "offset" "J") ∈ ww := ww_mem (List.mem_append_right _ (List.mem_append_right _ (List.mem_append_right _ (List.mem_append_left _ (List.mem_of_getElem? (i := 215) rfl))))) rfl
theorem mw_696 : (Jvm.Cond.fieldLink "SpanRulesModel" (121 : Nat) "SpanRulesModel" "lateness" "J") ∈ ww := ww_mem (List.mem_append_right _ (List.mem_append_right _ (List.mem_append_right _ (List.mem_append_left _ (List.mem_of_getElem? (i := 216) rfl))))) rfl
theorem mw_697 : (Jvm.Cond.fieldLink "SpanRulesModel" (126 : Nat) "SpanRulesModel" "every" "I") ∈ ww := ww_mem (List.mem_append_right _ (List.mem_append_right _ (List.mem_append_right _ (List.mem_append_left _ (List.mem_of_getElem? (i := 217) rfl))))) rfl
theorem mw_698 : (Jvm.Cond.fieldLink "SpanRulesModel" (7 : Nat) "SpanRulesModel" "fires" "Z") ∈ ww := ww_mem (List.mem_append_right _ (List.mem_append_right _ (List.mem_append_right _ (List.mem_append_left _ (List.mem_of_getElem? (i := 218) rfl))))) rfl
theorem mw_699 : (Jvm.Cond.fieldLink "SpanRulesModel" (129 : Nat) "SpanRulesModel" "clears" "Z") ∈ ww := ww_mem (List.mem_append_right _ (List.mem_append_right _ (List.mem_append_right _ (List.mem_append_left _ (List.mem_of_getElem? (i := 219) rfl))))) rfl
theorem mw_700 : (Jvm.Cond.fieldLink "SpanRulesModel" (134 : Nat) "SpanRulesModel" "rule" "I") ∈ ww := ww_mem (List.mem_append_right _ (List.mem_append_right _ (List.mem_append_right _ (List.mem_append_left _ (List.mem_of_getElem? (i := 220) rfl))))) rfl
theorem mw_701 : (Jvm.Cond.fieldLink "SpanRulesModel" (13 : Nat) "SpanRulesModel" "forbidden" "[I") ∈ ww := ww_mem (List.mem_append_right _ (List.mem_append_right _ (List.mem_append_right _ (List.mem_append_left _ (List.mem_of_getElem? (i := 221) rfl))))) rfl
theorem mw_702 : (Jvm.Cond.fieldLink "SpanRulesModel" (17 : Nat) "SpanRulesModel" "bad" "[J") ∈ ww := ww_mem (List.mem_append_right _ (List.mem_append_right _ (List.mem_append_right _ (List.mem_append_left _ (List.mem_of_getElem? (i := 222) rfl))))) rfl
theorem mw_703 : (Jvm.Cond.fieldLink "SpanRulesModel" (23 : Nat) "SpanRulesModel" "now" "J") ∈ ww := ww_mem (List.mem_append_right _ (List.mem_append_right _ (List.mem_append_right _ (List.mem_append_left _ (List.mem_of_getElem? (i := 223) rfl))))) rfl
theorem mw_704 : (Jvm.Cond.fieldLink "SpanRulesModel" (104 : Nat) "SpanRulesModel" "thrown" "I") ∈ ww := ww_mem (List.mem_append_right _ (List.mem_append_right _ (List.mem_append_right _ (List.mem_append_left _ (List.mem_of_getElem? (i := 224) rfl))))) rfl
theorem mw_705 : (Jvm.Cond.fieldLink "SpanRulesModel" (27 : Nat) "SpanRulesModel" "rKey" "[I") ∈ ww := ww_mem (List.mem_append_right _ (List.mem_append_right _ (List.mem_append_right _ (List.mem_append_left _ (List.mem_of_getElem? (i := 225) rfl))))) rfl
theorem mw_706 : (Jvm.Cond.fieldLink "SpanRulesModel" (30 : Nat) "SpanRulesModel" "rTime" "[J") ∈ ww := ww_mem (List.mem_append_right _ (List.mem_append_right _ (List.mem_append_right _ (List.mem_append_left _ (List.mem_of_getElem? (i := 226) rfl))))) rfl
theorem mw_707 : (Jvm.Cond.fieldLink "SpanRulesModel" (33 : Nat) "SpanRulesModel" "rValue" "[J") ∈ ww := ww_mem (List.mem_append_right _ (List.mem_append_right _ (List.mem_append_right _ (List.mem_append_left _ (List.mem_of_getElem? (i := 227) rfl))))) rfl
theorem mw_708 : (Jvm.Cond.fieldLink "SpanRulesModel" (36 : Nat) "SpanRulesModel" "rCame" "[I") ∈ ww := ww_mem (List.mem_append_right _ (List.mem_append_right _ (List.mem_append_right _ (List.mem_append_left _ (List.mem_of_getElem? (i := 228) rfl))))) rfl
theorem mw_709 : (Jvm.Cond.fieldLink "SpanRulesModel" (39 : Nat) "SpanRulesModel" "rNumber" "[I") ∈ ww := ww_mem (List.mem_append_right _ (List.mem_append_right _ (List.mem_append_right _ (List.mem_append_left _ (List.mem_of_getElem? (i := 229) rfl))))) rfl
theorem mw_710 : (Jvm.Cond.fieldLink "SpanRulesModel" (203 : Nat) "SpanRulesModel" "rows" "I") ∈ ww := ww_mem (List.mem_append_right _ (List.mem_append_right _ (List.mem_append_right _ (List.mem_append_left _ (List.mem_of_getElem? (i := 230) rfl))))) rfl
theorem mw_711 : (Jvm.Cond.fieldLink "SpanRulesModel" (115 : Nat) "SpanRulesModel" "came" "I") ∈ ww := ww_mem (List.mem_append_right _ (List.mem_append_right _ (List.mem_append_right _ (List.mem_append_left _ (List.mem_of_getElem? (i := 231) rfl))))) rfl
theorem mw_712 : (Jvm.Cond.fieldLink "SpanRulesModel" (254 : Nat) "SpanRulesModel" "late" "I") ∈ ww := ww_mem (List.mem_append_right _ (List.mem_append_right _ (List.mem_append_right _ (List.mem_append_left _ (List.mem_of_getElem? (i := 232) rfl))))) rfl
theorem mw_713 : (Jvm.Cond.fieldLink "SpanRulesModel" (42 : Nat) "SpanRulesModel" "sKey" "[I") ∈ ww := ww_mem (List.mem_append_right _ (List.mem_append_right _ (List.mem_append_right _ (List.mem_append_left _ (List.mem_of_getElem? (i := 233) rfl))))) rfl
theorem mw_714 : (Jvm.Cond.fieldLink "SpanRulesModel" (45 : Nat) "SpanRulesModel" "sBegin" "[J") ∈ ww := ww_mem (List.mem_append_right _ (List.mem_append_right _ (List.mem_append_right _ (List.mem_append_left _ (List.mem_of_getElem? (i := 234) rfl))))) rfl
theorem mw_715 : (Jvm.Cond.fieldLink "SpanRulesModel" (48 : Nat) "SpanRulesModel" "sEnd" "[J") ∈ ww := ww_mem (List.mem_append_right _ (List.mem_append_right _ (List.mem_append_right _ (List.mem_append_left _ (List.mem_of_getElem? (i := 235) rfl))))) rfl
theorem mw_716 : (Jvm.Cond.fieldLink "SpanRulesModel" (51 : Nat) "SpanRulesModel" "sFired" "[I") ∈ ww := ww_mem (List.mem_append_right _ (List.mem_append_right _ (List.mem_append_right _ (List.mem_append_left _ (List.mem_of_getElem? (i := 236) rfl))))) rfl
theorem mw_717 : (Jvm.Cond.fieldLink "SpanRulesModel" (54 : Nat) "SpanRulesModel" "sPut" "[I") ∈ ww := ww_mem (List.mem_append_right _ (List.mem_append_right _ (List.mem_append_right _ (List.mem_append_left _ (List.mem_of_getElem? (i := 237) rfl))))) rfl
theorem mw_718 : (Jvm.Cond.fieldLink "SpanRulesModel" (57 : Nat) "SpanRulesModel" "sEnded" "[Z") ∈ ww := ww_mem (List.mem_append_right _ (List.mem_append_right _ (List.mem_append_right _ (List.mem_append_left _ (List.mem_of_getElem? (i := 238) rfl))))) rfl
theorem mw_719 : (Jvm.Cond.fieldLink "SpanRulesModel" (62 : Nat) "SpanRulesModel" "has" "[Z") ∈ ww := ww_mem (List.mem_append_right _ (List.mem_append_right _ (List.mem_append_right _ (List.mem_append_left _ (List.mem_of_getElem? (i := 239) rfl))))) rfl
theorem mw_720 : (Jvm.Cond.fieldLink "SpanRulesModel" (65 : Nat) "SpanRulesModel" "toldOf" "[Z") ∈ ww := ww_mem (List.mem_append_right _ (List.mem_append_right _ (List.mem_append_right _ (List.mem_append_right _ (List.mem_append_left _ (List.mem_of_getElem? (i := 0) rfl)))))) rfl
theorem mw_721 : (Jvm.Cond.fieldLink "SpanRulesModel" (200 : Nat) "SpanRulesModel" "spans" "I") ∈ ww := ww_mem (List.mem_append_right _ (List.mem_append_right _ (List.mem_append_right _ (List.mem_append_right _ (List.mem_append_left _ (List.mem_of_getElem? (i := 1) rfl)))))) rfl
theorem mw_722 : (Jvm.Cond.fieldLink "SpanRulesModel" (68 : Nat) "SpanRulesModel" "numbered" "[I") ∈ ww := ww_mem (List.mem_append_right _ (List.mem_append_right _ (List.mem_append_right _ (List.mem_append_right _ (List.mem_append_left _ (List.mem_of_getElem? (i := 2) rfl)))))) rfl
theorem mw_723 : (Jvm.Cond.fieldLink "SpanRulesModel" (71 : Nat) "SpanRulesModel" "nextSpan" "[I") ∈ ww := ww_mem (List.mem_append_right _ (List.mem_append_right _ (List.mem_append_right _ (List.mem_append_right _ (List.mem_append_left _ (List.mem_of_getElem? (i := 3) rfl)))))) rfl
theorem mw_724 : (Jvm.Cond.fieldLink "SpanRulesModel" (74 : Nat) "SpanRulesModel" "told" "[J") ∈ ww := ww_mem (List.mem_append_right _ (List.mem_append_right _ (List.mem_append_right _ (List.mem_append_right _ (List.mem_append_left _ (List.mem_of_getElem? (i := 4) rfl)))))) rfl
theorem mw_725 : (Jvm.Cond.fieldLink "SpanRulesModel" (212 : Nat) "SpanRulesModel" "kept" "I") ∈ ww := ww_mem (List.mem_append_right _ (List.mem_append_right _ (List.mem_append_right _ (List.mem_append_right _ (List.mem_append_left _ (List.mem_of_getElem? (i := 5) rfl)))))) rfl
theorem mw_726 : (Jvm.Cond.fieldLink "SpanRulesModel" (215 : Nat) "SpanRulesModel" "firings" "I") ∈ ww := ww_mem (List.mem_append_right _ (List.mem_append_right _ (List.mem_append_right _ (List.mem_append_right _ (List.mem_append_left _ (List.mem_of_getElem? (i := 6) rfl)))))) rfl
theorem mw_727 : (Jvm.Cond.fieldLink "SpanRulesModel" (218 : Nat) "SpanRulesModel" "early" "I") ∈ ww := ww_mem (List.mem_append_right _ (List.mem_append_right _ (List.mem_append_right _ (List.mem_append_right _ (List.mem_append_left _ (List.mem_of_getElem? (i := 7) rfl)))))) rfl
theorem mw_728 : (Jvm.Cond.fieldLink "SpanRulesModel" (221 : Nat) "SpanRulesModel" "lately" "I") ∈ ww := ww_mem (List.mem_append_right _ (List.mem_append_right _ (List.mem_append_right _ (List.mem_append_right _ (List.mem_append_left _ (List.mem_of_getElem? (i := 8) rfl)))))) rfl
theorem mw_729 : (Jvm.Cond.fieldLink "SpanRulesModel" (183 : Nat) "SpanRulesModel" "wanted" "I") ∈ ww := ww_mem (List.mem_append_right _ (List.mem_append_right _ (List.mem_append_right _ (List.mem_append_right _ (List.mem_append_left _ (List.mem_of_getElem? (i := 9) rfl)))))) rfl
theorem mw_730 : (Jvm.Cond.fieldLink "SpanRulesModel" (77 : Nat) "SpanRulesModel" "wBegin" "[J") ∈ ww := ww_mem (List.mem_append_right _ (List.mem_append_right _ (List.mem_append_right _ (List.mem_append_right _ (List.mem_append_left _ (List.mem_of_getElem? (i := 10) rfl)))))) rfl
theorem mw_731 : (Jvm.Cond.fieldLink "SpanRulesModel" (80 : Nat) "SpanRulesModel" "wEnd" "[J") ∈ ww := ww_mem (List.mem_append_right _ (List.mem_append_right _ (List.mem_append_right _ (List.mem_append_right _ (List.mem_append_left _ (List.mem_of_getElem? (i := 11) rfl)))))) rfl
theorem mw_732 : (Jvm.Cond.fieldLink "SpanRulesModel" (83 : Nat) "SpanRulesModel" "got" "[J") ∈ ww := ww_mem (List.mem_append_right _ (List.mem_append_right _ (List.mem_append_right _ (List.mem_append_right _ (List.mem_append_left _ (List.mem_of_getElem? (i := 12) rfl)))))) rfl
theorem mw_733 : (Jvm.Cond.fieldLink "SpanRulesModel" (86 : Nat) "SpanRulesModel" "isIn" "[Z") ∈ ww := ww_mem (List.mem_append_right _ (List.mem_append_right _ (List.mem_append_right _ (List.mem_append_right _ (List.mem_append_left _ (List.mem_of_getElem? (i := 13) rfl)))))) rfl
theorem mw_734 : (Jvm.Cond.lays "SpanRulesModel" "SpanRulesModel" "kind" "I") ∈ ww := ww_mem (List.mem_append_right _ (List.mem_append_right _ (List.mem_append_right _ (List.mem_append_right _ (List.mem_append_left _ (List.mem_of_getElem? (i := 14) rfl)))))) rfl
theorem mw_736 : (Jvm.Cond.lays "SpanRulesModel" "SpanRulesModel" "size" "I") ∈ ww := ww_mem (List.mem_append_right _ (List.mem_append_right _ (List.mem_append_right _ (List.mem_append_right _ (List.mem_append_left _ (List.mem_of_getElem? (i := 16) rfl)))))) rfl
theorem mw_738 : (Jvm.Cond.lays "SpanRulesModel" "SpanRulesModel" "step" "I") ∈ ww := ww_mem (List.mem_append_right _ (List.mem_append_right _ (List.mem_append_right _ (List.mem_append_right _ (List.mem_append_left _ (List.mem_of_getElem? (i := 18) rfl)))))) rfl
theorem mw_740 : (Jvm.Cond.lays "SpanRulesModel" "SpanRulesModel" "offset" "J") ∈ ww := ww_mem (List.mem_append_right _ (List.mem_append_right _ (List.mem_append_right _ (List.mem_append_right _ (List.mem_append_left _ (List.mem_of_getElem? (i := 20) rfl)))))) rfl
theorem mw_742 : (Jvm.Cond.lays "SpanRulesModel" "SpanRulesModel" "lateness" "J") ∈ ww := ww_mem (List.mem_append_right _ (List.mem_append_right _ (List.mem_append_right _ (List.mem_append_right _ (List.mem_append_left _ (List.mem_of_getElem? (i := 22) rfl)))))) rfl
theorem mw_744 : (Jvm.Cond.lays "SpanRulesModel" "SpanRulesModel" "every" "I") ∈ ww := ww_mem (List.mem_append_right _ (List.mem_append_right _ (List.mem_append_right _ (List.mem_append_right _ (List.mem_append_left _ (List.mem_of_getElem? (i := 24) rfl)))))) rfl
theorem mw_746 : (Jvm.Cond.lays "SpanRulesModel" "SpanRulesModel" "fires" "Z") ∈ ww := ww_mem (List.mem_append_right _ (List.mem_append_right _ (List.mem_append_right _ (List.mem_append_right _ (List.mem_append_left _ (List.mem_of_getElem? (i := 26) rfl)))))) rfl
theorem mw_748 : (Jvm.Cond.lays "SpanRulesModel" "SpanRulesModel" "clears" "Z") ∈ ww := ww_mem (List.mem_append_right _ (List.mem_append_right _ (List.mem_append_right _ (List.mem_append_right _ (List.mem_append_left _ (List.mem_of_getElem? (i := 28) rfl)))))) rfl
theorem mw_750 : (Jvm.Cond.lays "SpanRulesModel" "SpanRulesModel" "rule" "I") ∈ ww := ww_mem (List.mem_append_right _ (List.mem_append_right _ (List.mem_append_right _ (List.mem_append_right _ (List.mem_append_left _ (List.mem_of_getElem? (i := 30) rfl)))))) rfl
theorem mw_752 : (Jvm.Cond.lays "SpanRulesModel" "SpanRulesModel" "forbidden" "[I") ∈ ww := ww_mem (List.mem_append_right _ (List.mem_append_right _ (List.mem_append_right _ (List.mem_append_right _ (List.mem_append_left _ (List.mem_of_getElem? (i := 32) rfl)))))) rfl
theorem mw_754 : (Jvm.Cond.lays "SpanRulesModel" "SpanRulesModel" "bad" "[J") ∈ ww := ww_mem (List.mem_append_right _ (List.mem_append_right _ (List.mem_append_right _ (List.mem_append_right _ (List.mem_append_left _ (List.mem_of_getElem? (i := 34) rfl)))))) rfl
theorem mw_756 : (Jvm.Cond.lays "SpanRulesModel" "SpanRulesModel" "now" "J") ∈ ww := ww_mem (List.mem_append_right _ (List.mem_append_right _ (List.mem_append_right _ (List.mem_append_right _ (List.mem_append_left _ (List.mem_of_getElem? (i := 36) rfl)))))) rfl
theorem mw_758 : (Jvm.Cond.lays "SpanRulesModel" "SpanRulesModel" "thrown" "I") ∈ ww := ww_mem (List.mem_append_right _ (List.mem_append_right _ (List.mem_append_right _ (List.mem_append_right _ (List.mem_append_left _ (List.mem_of_getElem? (i := 38) rfl)))))) rfl
theorem mw_760 : (Jvm.Cond.lays "SpanRulesModel" "SpanRulesModel" "rKey" "[I") ∈ ww := ww_mem (List.mem_append_right _ (List.mem_append_right _ (List.mem_append_right _ (List.mem_append_right _ (List.mem_append_left _ (List.mem_of_getElem? (i := 40) rfl)))))) rfl
theorem mw_762 : (Jvm.Cond.lays "SpanRulesModel" "SpanRulesModel" "rTime" "[J") ∈ ww := ww_mem (List.mem_append_right _ (List.mem_append_right _ (List.mem_append_right _ (List.mem_append_right _ (List.mem_append_left _ (List.mem_of_getElem? (i := 42) rfl)))))) rfl
theorem mw_764 : (Jvm.Cond.lays "SpanRulesModel" "SpanRulesModel" "rValue" "[J") ∈ ww := ww_mem (List.mem_append_right _ (List.mem_append_right _ (List.mem_append_right _ (List.mem_append_right _ (List.mem_append_left _ (List.mem_of_getElem? (i := 44) rfl)))))) rfl
theorem mw_766 : (Jvm.Cond.lays "SpanRulesModel" "SpanRulesModel" "rCame" "[I") ∈ ww := ww_mem (List.mem_append_right _ (List.mem_append_right _ (List.mem_append_right _ (List.mem_append_right _ (List.mem_append_left _ (List.mem_of_getElem? (i := 46) rfl)))))) rfl
theorem mw_768 : (Jvm.Cond.lays "SpanRulesModel" "SpanRulesModel" "rNumber" "[I") ∈ ww := ww_mem (List.mem_append_right _ (List.mem_append_right _ (List.mem_append_right _ (List.mem_append_right _ (List.mem_append_left _ (List.mem_of_getElem? (i := 48) rfl)))))) rfl
theorem mw_770 : (Jvm.Cond.lays "SpanRulesModel" "SpanRulesModel" "rows" "I") ∈ ww := ww_mem (List.mem_append_right _ (List.mem_append_right _ (List.mem_append_right _ (List.mem_append_right _ (List.mem_append_left _ (List.mem_of_getElem? (i := 50) rfl)))))) rfl
theorem mw_772 : (Jvm.Cond.lays "SpanRulesModel" "SpanRulesModel" "came" "I") ∈ ww := ww_mem (List.mem_append_right _ (List.mem_append_right _ (List.mem_append_right _ (List.mem_append_right _ (List.mem_append_left _ (List.mem_of_getElem? (i := 52) rfl)))))) rfl
theorem mw_774 : (Jvm.Cond.lays "SpanRulesModel" "SpanRulesModel" "late" "I") ∈ ww := ww_mem (List.mem_append_right _ (List.mem_append_right _ (List.mem_append_right _ (List.mem_append_right _ (List.mem_append_left _ (List.mem_of_getElem? (i := 54) rfl)))))) rfl
theorem mw_776 : (Jvm.Cond.lays "SpanRulesModel" "SpanRulesModel" "sKey" "[I") ∈ ww := ww_mem (List.mem_append_right _ (List.mem_append_right _ (List.mem_append_right _ (List.mem_append_right _ (List.mem_append_left _ (List.mem_of_getElem? (i := 56) rfl)))))) rfl
theorem mw_778 : (Jvm.Cond.lays "SpanRulesModel" "SpanRulesModel" "sBegin" "[J") ∈ ww := ww_mem (List.mem_append_right _ (List.mem_append_right _ (List.mem_append_right _ (List.mem_append_right _ (List.mem_append_left _ (List.mem_of_getElem? (i := 58) rfl)))))) rfl
theorem mw_780 : (Jvm.Cond.lays "SpanRulesModel" "SpanRulesModel" "sEnd" "[J") ∈ ww := ww_mem (List.mem_append_right _ (List.mem_append_right _ (List.mem_append_right _ (List.mem_append_right _ (List.mem_append_left _ (List.mem_of_getElem? (i := 60) rfl)))))) rfl
theorem mw_782 : (Jvm.Cond.lays "SpanRulesModel" "SpanRulesModel" "sFired" "[I") ∈ ww := ww_mem (List.mem_append_right _ (List.mem_append_right _ (List.mem_append_right _ (List.mem_append_right _ (List.mem_append_left _ (List.mem_of_getElem? (i := 62) rfl)))))) rfl
theorem mw_784 : (Jvm.Cond.lays "SpanRulesModel" "SpanRulesModel" "sPut" "[I") ∈ ww := ww_mem (List.mem_append_right _ (List.mem_append_right _ (List.mem_append_right _ (List.mem_append_right _ (List.mem_append_left _ (List.mem_of_getElem? (i := 64) rfl)))))) rfl
theorem mw_786 : (Jvm.Cond.lays "SpanRulesModel" "SpanRulesModel" "sEnded" "[Z") ∈ ww := ww_mem (List.mem_append_right _ (List.mem_append_right _ (List.mem_append_right _ (List.mem_append_right _ (List.mem_append_left _ (List.mem_of_getElem? (i := 66) rfl)))))) rfl
theorem mw_788 : (Jvm.Cond.lays "SpanRulesModel" "SpanRulesModel" "has" "[Z") ∈ ww := ww_mem (List.mem_append_right _ (List.mem_append_right _ (List.mem_append_right _ (List.mem_append_right _ (List.mem_append_left _ (List.mem_of_getElem? (i := 68) rfl)))))) rfl
theorem mw_790 : (Jvm.Cond.lays "SpanRulesModel" "SpanRulesModel" "toldOf" "[Z") ∈ ww := ww_mem (List.mem_append_right _ (List.mem_append_right _ (List.mem_append_right _ (List.mem_append_right _ (List.mem_append_left _ (List.mem_of_getElem? (i := 70) rfl)))))) rfl
theorem mw_792 : (Jvm.Cond.lays "SpanRulesModel" "SpanRulesModel" "spans" "I") ∈ ww := ww_mem (List.mem_append_right _ (List.mem_append_right _ (List.mem_append_right _ (List.mem_append_right _ (List.mem_append_left _ (List.mem_of_getElem? (i := 72) rfl)))))) rfl
theorem mw_794 : (Jvm.Cond.lays "SpanRulesModel" "SpanRulesModel" "numbered" "[I") ∈ ww := ww_mem (List.mem_append_right _ (List.mem_append_right _ (List.mem_append_right _ (List.mem_append_right _ (List.mem_append_left _ (List.mem_of_getElem? (i := 74) rfl)))))) rfl
theorem mw_796 : (Jvm.Cond.lays "SpanRulesModel" "SpanRulesModel" "nextSpan" "[I") ∈ ww := ww_mem (List.mem_append_right _ (List.mem_append_right _ (List.mem_append_right _ (List.mem_append_right _ (List.mem_append_left _ (List.mem_of_getElem? (i := 76) rfl)))))) rfl
theorem mw_798 : (Jvm.Cond.lays "SpanRulesModel" "SpanRulesModel" "told" "[J") ∈ ww := ww_mem (List.mem_append_right _ (List.mem_append_right _ (List.mem_append_right _ (List.mem_append_right _ (List.mem_append_left _ (List.mem_of_getElem? (i := 78) rfl)))))) rfl
theorem mw_800 : (Jvm.Cond.lays "SpanRulesModel" "SpanRulesModel" "kept" "I") ∈ ww := ww_mem (List.mem_append_right _ (List.mem_append_right _ (List.mem_append_right _ (List.mem_append_right _ (List.mem_append_left _ (List.mem_of_getElem? (i := 80) rfl)))))) rfl
theorem mw_802 : (Jvm.Cond.lays "SpanRulesModel" "SpanRulesModel" "firings" "I") ∈ ww := ww_mem (List.mem_append_right _ (List.mem_append_right _ (List.mem_append_right _ (List.mem_append_right _ (List.mem_append_left _ (List.mem_of_getElem? (i := 82) rfl)))))) rfl
theorem mw_804 : (Jvm.Cond.lays "SpanRulesModel" "SpanRulesModel" "early" "I") ∈ ww := ww_mem (List.mem_append_right _ (List.mem_append_right _ (List.mem_append_right _ (List.mem_append_right _ (List.mem_append_left _ (List.mem_of_getElem? (i := 84) rfl)))))) rfl
theorem mw_806 : (Jvm.Cond.lays "SpanRulesModel" "SpanRulesModel" "lately" "I") ∈ ww := ww_mem (List.mem_append_right _ (List.mem_append_right _ (List.mem_append_right _ (List.mem_append_right _ (List.mem_append_left _ (List.mem_of_getElem? (i := 86) rfl)))))) rfl
theorem mw_808 : (Jvm.Cond.lays "SpanRulesModel" "SpanRulesModel" "wanted" "I") ∈ ww := ww_mem (List.mem_append_right _ (List.mem_append_right _ (List.mem_append_right _ (List.mem_append_right _ (List.mem_append_left _ (List.mem_of_getElem? (i := 88) rfl)))))) rfl
theorem mw_810 : (Jvm.Cond.lays "SpanRulesModel" "SpanRulesModel" "wBegin" "[J") ∈ ww := ww_mem (List.mem_append_right _ (List.mem_append_right _ (List.mem_append_right _ (List.mem_append_right _ (List.mem_append_left _ (List.mem_of_getElem? (i := 90) rfl)))))) rfl
theorem mw_812 : (Jvm.Cond.lays "SpanRulesModel" "SpanRulesModel" "wEnd" "[J") ∈ ww := ww_mem (List.mem_append_right _ (List.mem_append_right _ (List.mem_append_right _ (List.mem_append_right _ (List.mem_append_left _ (List.mem_of_getElem? (i := 92) rfl)))))) rfl
theorem mw_814 : (Jvm.Cond.lays "SpanRulesModel" "SpanRulesModel" "got" "[J") ∈ ww := ww_mem (List.mem_append_right _ (List.mem_append_right _ (List.mem_append_right _ (List.mem_append_right _ (List.mem_append_left _ (List.mem_of_getElem? (i := 94) rfl)))))) rfl
theorem mw_816 : (Jvm.Cond.lays "SpanRulesModel" "SpanRulesModel" "isIn" "[Z") ∈ ww := ww_mem (List.mem_append_right _ (List.mem_append_right _ (List.mem_append_right _ (List.mem_append_right _ (List.mem_append_left _ (List.mem_of_getElem? (i := 96) rfl)))))) rfl
theorem mw_827 : (Jvm.Cond.constantLong "SpanRulesModel" (107 : Nat) (-1000000000 : Int64)) ∈ ww := ww_mem (List.mem_append_right _ (List.mem_append_right _ (List.mem_append_right _ (List.mem_append_right _ (List.mem_append_left _ (List.mem_of_getElem? (i := 107) rfl)))))) rfl
theorem mw_828 : (Jvm.Cond.constantLong "SpanRulesModel" (109 : Nat) (1000000000 : Int64)) ∈ ww := ww_mem (List.mem_append_right _ (List.mem_append_right _ (List.mem_append_right _ (List.mem_append_right _ (List.mem_append_left _ (List.mem_of_getElem? (i := 108) rfl)))))) rfl
theorem mw_829 : (Jvm.Cond.methodLink "SpanRulesModel" (111 : Nat) ({ cls := "SpanRulesModel", name := "in", desc := "(JJJ)Z" } : Jvm.MethodName)) ∈ ww := ww_mem (List.mem_append_right _ (List.mem_append_right _ (List.mem_append_right _ (List.mem_append_right _ (List.mem_append_left _ (List.mem_of_getElem? (i := 109) rfl)))))) rfl
theorem mw_830 : (Jvm.Cond.static ({ cls := "SpanRulesModel", name := "in", desc := "(JJJ)Z" } : Jvm.MethodName)) ∈ ww := ww_mem (List.mem_append_right _ (List.mem_append_right _ (List.mem_append_right _ (List.mem_append_right _ (List.mem_append_left _ (List.mem_of_getElem? (i := 110) rfl)))))) rfl
theorem mw_831 : (Jvm.Cond.code ({ cls := "SpanRulesModel", name := "in", desc := "(JJJ)Z" } : Jvm.MethodName) prog_11_method_2_code (6 : Nat) (Option.some Jvm.ClassFile.FieldType.boolean)) ∈ ww := ww_mem (List.mem_append_right _ (List.mem_append_right _ (List.mem_append_right _ (List.mem_append_right _ (List.mem_append_left _ (List.mem_of_getElem? (i := 111) rfl)))))) rfl
theorem mw_840 : (Jvm.Cond.constantLong "SpanRulesModel" (124 : Nat) (1000 : Int64)) ∈ ww := ww_mem (List.mem_append_right _ (List.mem_append_right _ (List.mem_append_right _ (List.mem_append_right _ (List.mem_append_left _ (List.mem_of_getElem? (i := 120) rfl)))))) rfl
theorem mw_849 : (Jvm.Cond.constantLong "SpanRulesModel" (132 : Nat) (2 : Int64)) ∈ ww := ww_mem (List.mem_append_right _ (List.mem_append_right _ (List.mem_append_right _ (List.mem_append_right _ (List.mem_append_left _ (List.mem_of_getElem? (i := 129) rfl)))))) rfl
theorem mw_854 : (Jvm.Cond.methodLink "SpanRulesModel" (137 : Nat) ({ cls := "SpanRulesModel", name := "isForbidden", desc := "(IJ)Z" } : Jvm.MethodName)) ∈ ww := ww_mem (List.mem_append_right _ (List.mem_append_right _ (List.mem_append_right _ (List.mem_append_right _ (List.mem_append_left _ (List.mem_of_getElem? (i := 134) rfl)))))) rfl
theorem mw_856 : (Jvm.Cond.instanceMethod ({ cls := "SpanRulesModel", name := "isForbidden", desc := "(IJ)Z" } : Jvm.MethodName)) ∈ ww := ww_mem (List.mem_append_right _ (List.mem_append_right _ (List.mem_append_right _ (List.mem_append_right _ (List.mem_append_left _ (List.mem_of_getElem? (i := 136) rfl)))))) rfl
theorem mw_857 : (Jvm.Cond.code ({ cls := "SpanRulesModel", name := "isForbidden", desc := "(IJ)Z" } : Jvm.MethodName) prog_11_method_10_code (5 : Nat) (Option.some Jvm.ClassFile.FieldType.boolean)) ∈ ww := ww_mem (List.mem_append_right _ (List.mem_append_right _ (List.mem_append_right _ (List.mem_append_right _ (List.mem_append_left _ (List.mem_of_getElem? (i := 137) rfl)))))) rfl
theorem mw_862 : (Jvm.Cond.constantLong "SpanRulesModel" (178 : Nat) (-3000000 : Int64)) ∈ ww := ww_mem (List.mem_append_right _ (List.mem_append_right _ (List.mem_append_right _ (List.mem_append_right _ (List.mem_append_left _ (List.mem_of_getElem? (i := 142) rfl)))))) rfl
theorem mw_863 : (Jvm.Cond.constantLong "SpanRulesModel" (180 : Nat) (3000000 : Int64)) ∈ ww := ww_mem (List.mem_append_right _ (List.mem_append_right _ (List.mem_append_right _ (List.mem_append_right _ (List.mem_append_left _ (List.mem_of_getElem? (i := 143) rfl)))))) rfl
theorem mw_864 : (Jvm.Cond.methodLink "SpanRulesModel" (175 : Nat) ({ cls := "SpanRulesModel", name := "monthAt", desc := "(J)J" } : Jvm.MethodName)) ∈ ww := ww_mem (List.mem_append_right _ (List.mem_append_right _ (List.mem_append_right _ (List.mem_append_right _ (List.mem_append_left _ (List.mem_of_getElem? (i := 144) rfl)))))) rfl
theorem mw_865 : (Jvm.Cond.static ({ cls := "SpanRulesModel", name := "monthAt", desc := "(J)J" } : Jvm.MethodName)) ∈ ww := ww_mem (List.mem_append_right _ (List.mem_append_right _ (List.mem_append_right _ (List.mem_append_right _ (List.mem_append_left _ (List.mem_of_getElem? (i := 145) rfl)))))) rfl
theorem mw_866 : (Jvm.Cond.code ({ cls := "SpanRulesModel", name := "monthAt", desc := "(J)J" } : Jvm.MethodName) prog_11_method_16_code (8 : Nat) (Option.some Jvm.ClassFile.FieldType.long)) ∈ ww := ww_mem (List.mem_append_right _ (List.mem_append_right _ (List.mem_append_right _ (List.mem_append_right _ (List.mem_append_left _ (List.mem_of_getElem? (i := 146) rfl)))))) rfl
theorem mw_867 : (Jvm.Cond.constantLong "SpanRulesModel" (163 : Nat) (12 : Int64)) ∈ ww := ww_mem (List.mem_append_right _ (List.mem_append_right _ (List.mem_append_right _ (List.mem_append_right _ (List.mem_append_left _ (List.mem_of_getElem? (i := 147) rfl)))))) rfl
theorem mw_868 : (Jvm.Cond.methodLink "SpanRulesModel" (147 : Nat) ({ cls := "SpanRulesModel", name := "by", desc := "(JJ)J" } : Jvm.MethodName)) ∈ ww := ww_mem (List.mem_append_right _ (List.mem_append_right _ (List.mem_append_right _ (List.mem_append_right _ (List.mem_append_left _ (List.mem_of_getElem? (i := 148) rfl)))))) rfl
theorem mw_869 : (Jvm.Cond.static ({ cls := "SpanRulesModel", name := "by", desc := "(JJ)J" } : Jvm.MethodName)) ∈ ww := ww_mem (List.mem_append_right _ (List.mem_append_right _ (List.mem_append_right _ (List.mem_append_right _ (List.mem_append_left _ (List.mem_of_getElem? (i := 149) rfl)))))) rfl
theorem mw_870 : (Jvm.Cond.code ({ cls := "SpanRulesModel", name := "by", desc := "(JJ)J" } : Jvm.MethodName) prog_11_method_12_code (6 : Nat) (Option.some Jvm.ClassFile.FieldType.long)) ∈ ww := ww_mem (List.mem_append_right _ (List.mem_append_right _ (List.mem_append_right _ (List.mem_append_right _ (List.mem_append_left _ (List.mem_of_getElem? (i := 150) rfl)))))) rfl
theorem mw_871 : (Jvm.Cond.constantLong "SpanRulesModel" (143 : Nat) (1970 : Int64)) ∈ ww := ww_mem (List.mem_append_right _ (List.mem_append_right _ (List.mem_append_right _ (List.mem_append_right _ (List.mem_append_left _ (List.mem_of_getElem? (i := 151) rfl)))))) rfl
theorem mw_872 : (Jvm.Cond.methodLink "SpanRulesModel" (165 : Nat) ({ cls := "SpanRulesModel", name := "yearAt", desc := "(J)J" } : Jvm.MethodName)) ∈ ww := ww_mem (List.mem_append_right _ (List.mem_append_right _ (List.mem_append_right _ (List.mem_append_right _ (List.mem_append_left _ (List.mem_of_getElem? (i := 152) rfl)))))) rfl
theorem mw_873 : (Jvm.Cond.static ({ cls := "SpanRulesModel", name := "yearAt", desc := "(J)J" } : Jvm.MethodName)) ∈ ww := ww_mem (List.mem_append_right _ (List.mem_append_right _ (List.mem_append_right _ (List.mem_append_right _ (List.mem_append_left _ (List.mem_of_getElem? (i := 153) rfl)))))) rfl
theorem mw_874 : (Jvm.Cond.code ({ cls := "SpanRulesModel", name := "yearAt", desc := "(J)J" } : Jvm.MethodName) prog_11_method_13_code (4 : Nat) (Option.some Jvm.ClassFile.FieldType.long)) ∈ ww := ww_mem (List.mem_append_right _ (List.mem_append_right _ (List.mem_append_right _ (List.mem_append_right _ (List.mem_append_left _ (List.mem_of_getElem? (i := 154) rfl)))))) rfl
theorem mw_875 : (Jvm.Cond.constantLong "SpanRulesModel" (141 : Nat) (365 : Int64)) ∈ ww := ww_mem (List.mem_append_right _ (List.mem_append_right _ (List.mem_append_right _ (List.mem_append_right _ (List.mem_append_left _ (List.mem_of_getElem? (i := 155) rfl)))))) rfl
theorem mw_876 : (Jvm.Cond.constantLong "SpanRulesModel" (145 : Nat) (4 : Int64)) ∈ ww := ww_mem (List.mem_append_right _ (List.mem_append_right _ (List.mem_append_right _ (List.mem_append_right _ (List.mem_append_left _ (List.mem_of_getElem? (i := 156) rfl)))))) rfl
theorem mw_877 : (Jvm.Cond.constantLong "SpanRulesModel" (151 : Nat) (492 : Int64)) ∈ ww := ww_mem (List.mem_append_right _ (List.mem_append_right _ (List.mem_append_right _ (List.mem_append_right _ (List.mem_append_left _ (List.mem_of_getElem? (i := 157) rfl)))))) rfl
theorem mw_878 : (Jvm.Cond.constantLong "SpanRulesModel" (153 : Nat) (100 : Int64)) ∈ ww := ww_mem (List.mem_append_right _ (List.mem_append_right _ (List.mem_append_right _ (List.mem_append_right _ (List.mem_append_left _ (List.mem_of_getElem? (i := 158) rfl)))))) rfl
theorem mw_879 : (Jvm.Cond.constantLong "SpanRulesModel" (155 : Nat) (19 : Int64)) ∈ ww := ww_mem (List.mem_append_right _ (List.mem_append_right _ (List.mem_append_right _ (List.mem_append_right _ (List.mem_append_left _ (List.mem_of_getElem? (i := 159) rfl)))))) rfl
theorem mw_880 : (Jvm.Cond.constantLong "SpanRulesModel" (157 : Nat) (400 : Int64)) ∈ ww := ww_mem (List.mem_append_right _ (List.mem_append_right _ (List.mem_append_right _ (List.mem_append_right _ (List.mem_append_left _ (List.mem_of_getElem? (i := 160) rfl)))))) rfl
theorem mw_881 : (Jvm.Cond.methodLink "SpanRulesModel" (169 : Nat) ({ cls := "SpanRulesModel", name := "daysIn", desc := "(JI)I" } : Jvm.MethodName)) ∈ ww := ww_mem (List.mem_append_right _ (List.mem_append_right _ (List.mem_append_right _ (List.mem_append_right _ (List.mem_append_left _ (List.mem_of_getElem? (i := 161) rfl)))))) rfl
theorem mw_882 : (Jvm.Cond.static ({ cls := "SpanRulesModel", name := "daysIn", desc := "(JI)I" } : Jvm.MethodName)) ∈ ww := ww_mem (List.mem_append_right _ (List.mem_append_right _ (List.mem_append_right _ (List.mem_append_right _ (List.mem_append_left _ (List.mem_of_getElem? (i := 162) rfl)))))) rfl
theorem mw_883 : (Jvm.Cond.code ({ cls := "SpanRulesModel", name := "daysIn", desc := "(JI)I" } : Jvm.MethodName) prog_11_method_15_code (3 : Nat) (Option.some Jvm.ClassFile.FieldType.int)) ∈ ww := ww_mem (List.mem_append_right _ (List.mem_append_right _ (List.mem_append_right _ (List.mem_append_right _ (List.mem_append_left _ (List.mem_of_getElem? (i := 163) rfl)))))) rfl
theorem mw_884 : (Jvm.Cond.methodLink "SpanRulesModel" (159 : Nat) ({ cls := "SpanRulesModel", name := "isLeap", desc := "(J)Z" } : Jvm.MethodName)) ∈ ww := ww_mem (List.mem_append_right _ (List.mem_append_right _ (List.mem_append_right _ (List.mem_append_right _ (List.mem_append_left _ (List.mem_of_getElem? (i := 164) rfl)))))) rfl
theorem mw_885 : (Jvm.Cond.static ({ cls := "SpanRulesModel", name := "isLeap", desc := "(J)Z" } : Jvm.MethodName)) ∈ ww := ww_mem (List.mem_append_right _ (List.mem_append_right _ (List.mem_append_right _ (List.mem_append_right _ (List.mem_append_left _ (List.mem_of_getElem? (i := 165) rfl)))))) rfl
theorem mw_886 : (Jvm.Cond.code ({ cls := "SpanRulesModel", name := "isLeap", desc := "(J)Z" } : Jvm.MethodName) prog_11_method_14_code (2 : Nat) (Option.some Jvm.ClassFile.FieldType.boolean)) ∈ ww := ww_mem (List.mem_append_right _ (List.mem_append_right _ (List.mem_append_right _ (List.mem_append_right _ (List.mem_append_left _ (List.mem_of_getElem? (i := 166) rfl)))))) rfl
theorem mw_887 : (Jvm.Cond.constant "SpanRulesModel" (182 : Nat) (-2000000000 : Int32)) ∈ ww := ww_mem (List.mem_append_right _ (List.mem_append_right _ (List.mem_append_right _ (List.mem_append_right _ (List.mem_append_left _ (List.mem_of_getElem? (i := 167) rfl)))))) rfl
theorem mw_892 : (Jvm.Cond.constantLong "SpanRulesModel" (235 : Nat) (7 : Int64)) ∈ ww := ww_mem (List.mem_append_right _ (List.mem_append_right _ (List.mem_append_right _ (List.mem_append_right _ (List.mem_append_left _ (List.mem_of_getElem? (i := 172) rfl)))))) rfl
theorem mw_893 : (Jvm.Cond.constantLong "SpanRulesModel" (237 : Nat) (100000000 : Int64)) ∈ ww := ww_mem (List.mem_append_right _ (List.mem_append_right _ (List.mem_append_right _ (List.mem_append_right _ (List.mem_append_left _ (List.mem_of_getElem? (i := 173) rfl)))))) rfl
theorem mw_894 : (Jvm.Cond.constantLong "SpanRulesModel" (239 : Nat) (1000000000000 : Int64)) ∈ ww := ww_mem (List.mem_append_right _ (List.mem_append_right _ (List.mem_append_right _ (List.mem_append_right _ (List.mem_append_left _ (List.mem_of_getElem? (i := 174) rfl)))))) rfl
theorem mw_895 : (Jvm.Cond.methodLink "SpanRulesModel" (241 : Nat) ({ cls := "SpanRulesModel", name := "counted", desc := "(IJJ)I" } : Jvm.MethodName)) ∈ ww := ww_mem (List.mem_append_right _ (List.mem_append_right _ (List.mem_append_right _ (List.mem_append_right _ (List.mem_append_left _ (List.mem_of_getElem? (i := 175) rfl)))))) rfl
theorem mw_897 : (Jvm.Cond.instanceMethod ({ cls := "SpanRulesModel", name := "counted", desc := "(IJJ)I" } : Jvm.MethodName)) ∈ ww := ww_mem (List.mem_append_right _ (List.mem_append_right _ (List.mem_append_right _ (List.mem_append_right _ (List.mem_append_left _ (List.mem_of_getElem? (i := 177) rfl)))))) rfl
theorem mw_898 : (Jvm.Cond.code ({ cls := "SpanRulesModel", name := "counted", desc := "(IJJ)I" } : Jvm.MethodName) prog_11_method_33_code (7 : Nat) (Option.some Jvm.ClassFile.FieldType.int)) ∈ ww := ww_mem (List.mem_append_right _ (List.mem_append_right _ (List.mem_append_right _ (List.mem_append_right _ (List.mem_append_left _ (List.mem_of_getElem? (i := 178) rfl)))))) rfl
theorem mw_899 : (Jvm.Cond.methodLink "SpanRulesModel" (257 : Nat) ({ cls := "SpanRulesModel", name := "drop", desc := "()I" } : Jvm.MethodName)) ∈ ww := ww_mem (List.mem_append_right _ (List.mem_append_right _ (List.mem_append_right _ (List.mem_append_right _ (List.mem_append_left _ (List.mem_of_getElem? (i := 179) rfl)))))) rfl
theorem mw_901 : (Jvm.Cond.instanceMethod ({ cls := "SpanRulesModel", name := "drop", desc := "()I" } : Jvm.MethodName)) ∈ ww := ww_mem (List.mem_append_right _ (List.mem_append_right _ (List.mem_append_right _ (List.mem_append_right _ (List.mem_append_left _ (List.mem_of_getElem? (i := 181) rfl)))))) rfl
theorem mw_902 : (Jvm.Cond.code ({ cls := "SpanRulesModel", name := "drop", desc := "()I" } : Jvm.MethodName) prog_11_method_32_code (1 : Nat) (Option.some Jvm.ClassFile.FieldType.int)) ∈ ww := ww_mem (List.mem_append_right _ (List.mem_append_right _ (List.mem_append_right _ (List.mem_append_right _ (List.mem_append_left _ (List.mem_of_getElem? (i := 182) rfl)))))) rfl
theorem mw_903 : (Jvm.Cond.methodLink "SpanRulesModel" (261 : Nat) ({ cls := "SpanRulesModel", name := "newRow", desc := "(IJJ)I" } : Jvm.MethodName)) ∈ ww := ww_mem (List.mem_append_right _ (List.mem_append_right _ (List.mem_append_right _ (List.mem_append_right _ (List.mem_append_left _ (List.mem_of_getElem? (i := 183) rfl)))))) rfl
theorem mw_905 : (Jvm.Cond.instanceMethod ({ cls := "SpanRulesModel", name := "newRow", desc := "(IJJ)I" } : Jvm.MethodName)) ∈ ww := ww_mem (List.mem_append_right _ (List.mem_append_right _ (List.mem_append_right _ (List.mem_append_right _ (List.mem_append_left _ (List.mem_of_getElem? (i := 185) rfl)))))) rfl
theorem mw_906 : (Jvm.Cond.code ({ cls := "SpanRulesModel", name := "newRow", desc := "(IJJ)I" } : Jvm.MethodName) prog_11_method_25_code (7 : Nat) (Option.some Jvm.ClassFile.FieldType.int)) ∈ ww := ww_mem (List.mem_append_right _ (List.mem_append_right _ (List.mem_append_right _ (List.mem_append_right _ (List.mem_append_left _ (List.mem_of_getElem? (i := 186) rfl)))))) rfl
theorem mw_907 : (Jvm.Cond.methodLink "SpanRulesModel" (245 : Nat) ({ cls := "SpanRulesModel", name := "wantFor", desc := "(JJ)V" } : Jvm.MethodName)) ∈ ww := ww_mem (List.mem_append_right _ (List.mem_append_right _ (List.mem_append_right _ (List.mem_append_right _ (List.mem_append_left _ (List.mem_of_getElem? (i := 187) rfl)))))) rfl
theorem mw_909 : (Jvm.Cond.instanceMethod ({ cls := "SpanRulesModel", name := "wantFor", desc := "(JJ)V" } : Jvm.MethodName)) ∈ ww := ww_mem (List.mem_append_right _ (List.mem_append_right _ (List.mem_append_right _ (List.mem_append_right _ (List.mem_append_left _ (List.mem_of_getElem? (i := 189) rfl)))))) rfl
theorem mw_910 : (Jvm.Cond.code ({ cls := "SpanRulesModel", name := "wantFor", desc := "(JJ)V" } : Jvm.MethodName) prog_11_method_21_code (13 : Nat) (Option.none : Option Jvm.ClassFile.FieldType)) ∈ ww := ww_mem (List.mem_append_right _ (List.mem_append_right _ (List.mem_append_right _ (List.mem_append_right _ (List.mem_append_left _ (List.mem_of_getElem? (i := 190) rfl)))))) rfl
theorem mw_911 : (Jvm.Cond.methodLink "SpanRulesModel" (190 : Nat) ({ cls := "SpanRulesModel", name := "beside", desc := "(JJ)V" } : Jvm.MethodName)) ∈ ww := ww_mem (List.mem_append_right _ (List.mem_append_right _ (List.mem_append_right _ (List.mem_append_right _ (List.mem_append_left _ (List.mem_of_getElem? (i := 191) rfl)))))) rfl
theorem mw_913 : (Jvm.Cond.instanceMethod ({ cls := "SpanRulesModel", name := "beside", desc := "(JJ)V" } : Jvm.MethodName)) ∈ ww := ww_mem (List.mem_append_right _ (List.mem_append_right _ (List.mem_append_right _ (List.mem_append_right _ (List.mem_append_left _ (List.mem_of_getElem? (i := 193) rfl)))))) rfl
theorem mw_914 : (Jvm.Cond.code ({ cls := "SpanRulesModel", name := "beside", desc := "(JJ)V" } : Jvm.MethodName) prog_11_method_20_code (7 : Nat) (Option.none : Option Jvm.ClassFile.FieldType)) ∈ ww := ww_mem (List.mem_append_right _ (List.mem_append_right _ (List.mem_append_right _ (List.mem_append_right _ (List.mem_append_left _ (List.mem_of_getElem? (i := 194) rfl)))))) rfl
theorem mw_915 : (Jvm.Cond.methodLink "SpanRulesModel" (186 : Nat) ({ cls := "SpanRulesModel", name := "want", desc := "(JJ)V" } : Jvm.MethodName)) ∈ ww := ww_mem (List.mem_append_right _ (List.mem_append_right _ (List.mem_append_right _ (List.mem_append_right _ (List.mem_append_left _ (List.mem_of_getElem? (i := 195) rfl)))))) rfl
theorem mw_917 : (Jvm.Cond.instanceMethod ({ cls := "SpanRulesModel", name := "want", desc := "(JJ)V" } : Jvm.MethodName)) ∈ ww := ww_mem (List.mem_append_right _ (List.mem_append_right _ (List.mem_append_right _ (List.mem_append_right _ (List.mem_append_left _ (List.mem_of_getElem? (i := 197) rfl)))))) rfl
theorem mw_918 : (Jvm.Cond.code ({ cls := "SpanRulesModel", name := "want", desc := "(JJ)V" } : Jvm.MethodName) prog_11_method_19_code (5 : Nat) (Option.none : Option Jvm.ClassFile.FieldType)) ∈ ww := ww_mem (List.mem_append_right _ (List.mem_append_right _ (List.mem_append_right _ (List.mem_append_right _ (List.mem_append_left _ (List.mem_of_getElem? (i := 198) rfl)))))) rfl
theorem mw_919 : (Jvm.Cond.methodLink "SpanRulesModel" (193 : Nat) ({ cls := "SpanRulesModel", name := "monthOf", desc := "(J)J" } : Jvm.MethodName)) ∈ ww := ww_mem (List.mem_append_right _ (List.mem_append_right _ (List.mem_append_right _ (List.mem_append_right _ (List.mem_append_left _ (List.mem_of_getElem? (i := 199) rfl)))))) rfl
theorem mw_920 : (Jvm.Cond.static ({ cls := "SpanRulesModel", name := "monthOf", desc := "(J)J" } : Jvm.MethodName)) ∈ ww := ww_mem (List.mem_append_right _ (List.mem_append_right _ (List.mem_append_right _ (List.mem_append_right _ (List.mem_append_left _ (List.mem_of_getElem? (i := 200) rfl)))))) rfl
theorem mw_921 : (Jvm.Cond.code ({ cls := "SpanRulesModel", name := "monthOf", desc := "(J)J" } : Jvm.MethodName) prog_11_method_17_code (4 : Nat) (Option.some Jvm.ClassFile.FieldType.long)) ∈ ww := ww_mem (List.mem_append_right _ (List.mem_append_right _ (List.mem_append_right _ (List.mem_append_right _ (List.mem_append_left _ (List.mem_of_getElem? (i := 201) rfl)))))) rfl
theorem mw_922 : (Jvm.Cond.constantLong "SpanRulesModel" (173 : Nat) (3044 : Int64)) ∈ ww := ww_mem (List.mem_append_right _ (List.mem_append_right _ (List.mem_append_right _ (List.mem_append_right _ (List.mem_append_left _ (List.mem_of_getElem? (i := 202) rfl)))))) rfl
theorem mw_923 : (Jvm.Cond.methodLink "SpanRulesModel" (196 : Nat) ({ cls := "SpanRulesModel", name := "double0", desc := "(J)V" } : Jvm.MethodName)) ∈ ww := ww_mem (List.mem_append_right _ (List.mem_append_right _ (List.mem_append_right _ (List.mem_append_right _ (List.mem_append_left _ (List.mem_of_getElem? (i := 203) rfl)))))) rfl
theorem mw_925 : (Jvm.Cond.instanceMethod ({ cls := "SpanRulesModel", name := "double0", desc := "(J)V" } : Jvm.MethodName)) ∈ ww := ww_mem (List.mem_append_right _ (List.mem_append_right _ (List.mem_append_right _ (List.mem_append_right _ (List.mem_append_left _ (List.mem_of_getElem? (i := 205) rfl)))))) rfl
theorem mw_926 : (Jvm.Cond.code ({ cls := "SpanRulesModel", name := "double0", desc := "(J)V" } : Jvm.MethodName) prog_11_method_22_code (7 : Nat) (Option.none : Option Jvm.ClassFile.FieldType)) ∈ ww := ww_mem (List.mem_append_right _ (List.mem_append_right _ (List.mem_append_right _ (List.mem_append_right _ (List.mem_append_left _ (List.mem_of_getElem? (i := 206) rfl)))))) rfl
theorem mw_927 : (Jvm.Cond.methodLink "SpanRulesModel" (248 : Nat) ({ cls := "SpanRulesModel", name := "gap", desc := "(IJJ)I" } : Jvm.MethodName)) ∈ ww := ww_mem (List.mem_append_right _ (List.mem_append_right _ (List.mem_append_right _ (List.mem_append_right _ (List.mem_append_left _ (List.mem_of_getElem? (i := 207) rfl)))))) rfl
theorem mw_929 : (Jvm.Cond.instanceMethod ({ cls := "SpanRulesModel", name := "gap", desc := "(IJJ)I" } : Jvm.MethodName)) ∈ ww := ww_mem (List.mem_append_right _ (List.mem_append_right _ (List.mem_append_right _ (List.mem_append_right _ (List.mem_append_left _ (List.mem_of_getElem? (i := 209) rfl)))))) rfl
theorem mw_930 : (Jvm.Cond.code ({ cls := "SpanRulesModel", name := "gap", desc := "(IJJ)I" } : Jvm.MethodName) prog_11_method_35_code (14 : Nat) (Option.some Jvm.ClassFile.FieldType.int)) ∈ ww := ww_mem (List.mem_append_right _ (List.mem_append_right _ (List.mem_append_right _ (List.mem_append_right _ (List.mem_append_left _ (List.mem_of_getElem? (i := 210) rfl)))))) rfl
theorem mw_931 : (Jvm.Cond.methodLink "SpanRulesModel" (273 : Nat) ({ cls := "SpanRulesModel", name := "join", desc := "(II)V" } : Jvm.MethodName)) ∈ ww := ww_mem (List.mem_append_right _ (List.mem_append_right _ (List.mem_append_right _ (List.mem_append_right _ (List.mem_append_left _ (List.mem_of_getElem? (i := 211) rfl)))))) rfl
theorem mw_933 : (Jvm.Cond.instanceMethod ({ cls := "SpanRulesModel", name := "join", desc := "(II)V" } : Jvm.MethodName)) ∈ ww := ww_mem (List.mem_append_right _ (List.mem_append_right _ (List.mem_append_right _ (List.mem_append_right _ (List.mem_append_left _ (List.mem_of_getElem? (i := 213) rfl)))))) rfl
theorem mw_934 : (Jvm.Cond.code ({ cls := "SpanRulesModel", name := "join", desc := "(II)V" } : Jvm.MethodName) prog_11_method_36_code (6 : Nat) (Option.none : Option Jvm.ClassFile.FieldType)) ∈ ww := ww_mem (List.mem_append_right _ (List.mem_append_right _ (List.mem_append_right _ (List.mem_append_right _ (List.mem_append_left _ (List.mem_of_getElem? (i := 214) rfl)))))) rfl
theorem mw_935 : (Jvm.Cond.methodLink "SpanRulesModel" (267 : Nat) ({ cls := "SpanRulesModel", name := "newSpan", desc := "(IJJ)I" } : Jvm.MethodName)) ∈ ww := ww_mem (List.mem_append_right _ (List.mem_append_right _ (List.mem_append_right _ (List.mem_append_right _ (List.mem_append_left _ (List.mem_of_getElem? (i := 215) rfl)))))) rfl
theorem mw_937 : (Jvm.Cond.instanceMethod ({ cls := "SpanRulesModel", name := "newSpan", desc := "(IJJ)I" } : Jvm.MethodName)) ∈ ww := ww_mem (List.mem_append_right _ (List.mem_append_right _ (List.mem_append_right _ (List.mem_append_right _ (List.mem_append_left _ (List.mem_of_getElem? (i := 217) rfl)))))) rfl
theorem mw_938 : (Jvm.Cond.code ({ cls := "SpanRulesModel", name := "newSpan", desc := "(IJJ)I" } : Jvm.MethodName) prog_11_method_24_code (8 : Nat) (Option.some Jvm.ClassFile.FieldType.int)) ∈ ww := ww_mem (List.mem_append_right _ (List.mem_append_right _ (List.mem_append_right _ (List.mem_append_right _ (List.mem_append_left _ (List.mem_of_getElem? (i := 218) rfl)))))) rfl
theorem mw_939 : (Jvm.Cond.methodLink "SpanRulesModel" (270 : Nat) ({ cls := "SpanRulesModel", name := "putInto", desc := "(II)V" } : Jvm.MethodName)) ∈ ww := ww_mem (List.mem_append_right _ (List.mem_append_right _ (List.mem_append_right _ (List.mem_append_right _ (List.mem_append_left _ (List.mem_of_getElem? (i := 219) rfl)))))) rfl
theorem mw_941 : (Jvm.Cond.instanceMethod ({ cls := "SpanRulesModel", name := "putInto", desc := "(II)V" } : Jvm.MethodName)) ∈ ww := ww_mem (List.mem_append_right _ (List.mem_append_right _ (List.mem_append_right _ (List.mem_append_right _ (List.mem_append_left _ (List.mem_of_getElem? (i := 221) rfl)))))) rfl
theorem mw_942 : (Jvm.Cond.code ({ cls := "SpanRulesModel", name := "putInto", desc := "(II)V" } : Jvm.MethodName) prog_11_method_30_code (3 : Nat) (Option.none : Option Jvm.ClassFile.FieldType)) ∈ ww := ww_mem (List.mem_append_right _ (List.mem_append_right _ (List.mem_append_right _ (List.mem_append_right _ (List.mem_append_left _ (List.mem_of_getElem? (i := 222) rfl)))))) rfl
theorem mw_943 : (Jvm.Cond.methodLink "SpanRulesModel" (231 : Nat) ({ cls := "SpanRulesModel", name := "fire", desc := "(II)V" } : Jvm.MethodName)) ∈ ww := ww_mem (List.mem_append_right _ (List.mem_append_right _ (List.mem_append_right _ (List.mem_append_right _ (List.mem_append_left _ (List.mem_of_getElem? (i := 223) rfl)))))) rfl
theorem mw_945 : (Jvm.Cond.instanceMethod ({ cls := "SpanRulesModel", name := "fire", desc := "(II)V" } : Jvm.MethodName)) ∈ ww := ww_mem (List.mem_append_right _ (List.mem_append_right _ (List.mem_append_right _ (List.mem_append_right _ (List.mem_append_left _ (List.mem_of_getElem? (i := 225) rfl)))))) rfl
theorem mw_946 : (Jvm.Cond.code ({ cls := "SpanRulesModel", name := "fire", desc := "(II)V" } : Jvm.MethodName) prog_11_method_29_code (5 : Nat) (Option.none : Option Jvm.ClassFile.FieldType)) ∈ ww := ww_mem (List.mem_append_right _ (List.mem_append_right _ (List.mem_append_right _ (List.mem_append_right _ (List.mem_append_left _ (List.mem_of_getElem? (i := 226) rfl)))))) rfl
theorem mw_947 : (Jvm.Cond.methodLink "SpanRulesModel" (224 : Nat) ({ cls := "SpanRulesModel", name := "contents", desc := "()V" } : Jvm.MethodName)) ∈ ww := ww_mem (List.mem_append_right _ (List.mem_append_right _ (List.mem_append_right _ (List.mem_append_right _ (List.mem_append_left _ (List.mem_of_getElem? (i := 227) rfl)))))) rfl
theorem mw_949 : (Jvm.Cond.instanceMethod ({ cls := "SpanRulesModel", name := "contents", desc := "()V" } : Jvm.MethodName)) ∈ ww := ww_mem (List.mem_append_right _ (List.mem_append_right _ (List.mem_append_right _ (List.mem_append_right _ (List.mem_append_left _ (List.mem_of_getElem? (i := 229) rfl)))))) rfl
theorem mw_950 : (Jvm.Cond.code ({ cls := "SpanRulesModel", name := "contents", desc := "()V" } : Jvm.MethodName) prog_11_method_27_code (4 : Nat) (Option.none : Option Jvm.ClassFile.FieldType)) ∈ ww := ww_mem (List.mem_append_right _ (List.mem_append_right _ (List.mem_append_right _ (List.mem_append_right _ (List.mem_append_left _ (List.mem_of_getElem? (i := 230) rfl)))))) rfl
theorem mw_951 : (Jvm.Cond.methodLink "SpanRulesModel" (206 : Nat) ({ cls := "SpanRulesModel", name := "isBefore", desc := "(II)Z" } : Jvm.MethodName)) ∈ ww := ww_mem (List.mem_append_right _ (List.mem_append_right _ (List.mem_append_right _ (List.mem_append_right _ (List.mem_append_left _ (List.mem_of_getElem? (i := 231) rfl)))))) rfl
theorem mw_953 : (Jvm.Cond.instanceMethod ({ cls := "SpanRulesModel", name := "isBefore", desc := "(II)Z" } : Jvm.MethodName)) ∈ ww := ww_mem (List.mem_append_right _ (List.mem_append_right _ (List.mem_append_right _ (List.mem_append_right _ (List.mem_append_left _ (List.mem_of_getElem? (i := 233) rfl)))))) rfl
theorem mw_954 : (Jvm.Cond.code ({ cls := "SpanRulesModel", name := "isBefore", desc := "(II)Z" } : Jvm.MethodName) prog_11_method_26_code (3 : Nat) (Option.some Jvm.ClassFile.FieldType.boolean)) ∈ ww := ww_mem (List.mem_append_right _ (List.mem_append_right _ (List.mem_append_right _ (List.mem_append_right _ (List.mem_append_left _ (List.mem_of_getElem? (i := 234) rfl)))))) rfl
theorem mw_955 : (Jvm.Cond.constantLong "SpanRulesModel" (210 : Nat) (31 : Int64)) ∈ ww := ww_mem (List.mem_append_right _ (List.mem_append_right _ (List.mem_append_right _ (List.mem_append_right _ (List.mem_append_left _ (List.mem_of_getElem? (i := 235) rfl)))))) rfl
theorem mw_956 : (Jvm.Cond.methodLink "SpanRulesModel" (227 : Nat) ({ cls := "SpanRulesModel", name := "tell", desc := "(IJJII)V" } : Jvm.MethodName)) ∈ ww := ww_mem (List.mem_append_right _ (List.mem_append_right _ (List.mem_append_right _ (List.mem_append_right _ (List.mem_append_left _ (List.mem_of_getElem? (i := 236) rfl)))))) rfl
theorem mw_958 : (Jvm.Cond.instanceMethod ({ cls := "SpanRulesModel", name := "tell", desc := "(IJJII)V" } : Jvm.MethodName)) ∈ ww := ww_mem (List.mem_append_right _ (List.mem_append_right _ (List.mem_append_right _ (List.mem_append_right _ (List.mem_append_left _ (List.mem_of_getElem? (i := 238) rfl)))))) rfl
theorem mw_959 : (Jvm.Cond.code ({ cls := "SpanRulesModel", name := "tell", desc := "(IJJII)V" } : Jvm.MethodName) prog_11_method_28_code (10 : Nat) (Option.none : Option Jvm.ClassFile.FieldType)) ∈ ww := ww_mem (List.mem_append_right _ (List.mem_append_right _ (List.mem_append_right _ (List.mem_append_right _ (List.mem_append_left _ (List.mem_of_getElem? (i := 239) rfl)))))) rfl
theorem mw_960 : (Jvm.Cond.methodLink "SpanRulesModel" (251 : Nat) ({ cls := "SpanRulesModel", name := "plain", desc := "(IJJ)I" } : Jvm.MethodName)) ∈ ww := ww_mem (List.mem_append_right _ (List.mem_append_right _ (List.mem_append_right _ (List.mem_append_right _ (List.mem_append_right _ (List.mem_of_getElem? (i := 0) rfl)))))) rfl
theorem mw_962 : (Jvm.Cond.instanceMethod ({ cls := "SpanRulesModel", name := "plain", desc := "(IJJ)I" } : Jvm.MethodName)) ∈ ww := ww_mem (List.mem_append_right _ (List.mem_append_right _ (List.mem_append_right _ (List.mem_append_right _ (List.mem_append_right _ (List.mem_of_getElem? (i := 2) rfl)))))) rfl
theorem mw_963 : (Jvm.Cond.code ({ cls := "SpanRulesModel", name := "plain", desc := "(IJJ)I" } : Jvm.MethodName) prog_11_method_34_code (11 : Nat) (Option.some Jvm.ClassFile.FieldType.int)) ∈ ww := ww_mem (List.mem_append_right _ (List.mem_append_right _ (List.mem_append_right _ (List.mem_append_right _ (List.mem_append_right _ (List.mem_of_getElem? (i := 3) rfl)))))) rfl
theorem mw_964 : (Jvm.Cond.methodLink "SpanRulesModel" (264 : Nat) ({ cls := "SpanRulesModel", name := "spanAt", desc := "(IJJ)I" } : Jvm.MethodName)) ∈ ww := ww_mem (List.mem_append_right _ (List.mem_append_right _ (List.mem_append_right _ (List.mem_append_right _ (List.mem_append_right _ (List.mem_of_getElem? (i := 4) rfl)))))) rfl
theorem mw_966 : (Jvm.Cond.instanceMethod ({ cls := "SpanRulesModel", name := "spanAt", desc := "(IJJ)I" } : Jvm.MethodName)) ∈ ww := ww_mem (List.mem_append_right _ (List.mem_append_right _ (List.mem_append_right _ (List.mem_append_right _ (List.mem_append_right _ (List.mem_of_getElem? (i := 6) rfl)))))) rfl
theorem mw_967 : (Jvm.Cond.code ({ cls := "SpanRulesModel", name := "spanAt", desc := "(IJJ)I" } : Jvm.MethodName) prog_11_method_23_code (7 : Nat) (Option.some Jvm.ClassFile.FieldType.int)) ∈ ww := ww_mem (List.mem_append_right _ (List.mem_append_right _ (List.mem_append_right _ (List.mem_append_right _ (List.mem_append_right _ (List.mem_of_getElem? (i := 7) rfl)))))) rfl
theorem mw_972 : (Jvm.Cond.constantLong "SpanRulesModel" (276 : Nat) (10000000000000 : Int64)) ∈ ww := ww_mem (List.mem_append_right _ (List.mem_append_right _ (List.mem_append_right _ (List.mem_append_right _ (List.mem_append_right _ (List.mem_of_getElem? (i := 12) rfl)))))) rfl
theorem mw_973 : (Jvm.Cond.methodLink "SpanRulesModel" (278 : Nat) ({ cls := "SpanRulesModel", name := "countedMark", desc := "()I" } : Jvm.MethodName)) ∈ ww := ww_mem (List.mem_append_right _ (List.mem_append_right _ (List.mem_append_right _ (List.mem_append_right _ (List.mem_append_right _ (List.mem_of_getElem? (i := 13) rfl)))))) rfl
theorem mw_975 : (Jvm.Cond.instanceMethod ({ cls := "SpanRulesModel", name := "countedMark", desc := "()I" } : Jvm.MethodName)) ∈ ww := ww_mem (List.mem_append_right _ (List.mem_append_right _ (List.mem_append_right _ (List.mem_append_right _ (List.mem_append_right _ (List.mem_of_getElem? (i := 15) rfl)))))) rfl
theorem mw_976 : (Jvm.Cond.code ({ cls := "SpanRulesModel", name := "countedMark", desc := "()I" } : Jvm.MethodName) prog_11_method_39_code (6 : Nat) (Option.some Jvm.ClassFile.FieldType.int)) ∈ ww := ww_mem (List.mem_append_right _ (List.mem_append_right _ (List.mem_append_right _ (List.mem_append_right _ (List.mem_append_right _ (List.mem_of_getElem? (i := 16) rfl)))))) rfl
theorem mw_977 : (Jvm.Cond.methodLink "SpanRulesModel" (284 : Nat) ({ cls := "SpanRulesModel", name := "isWanted", desc := "(II)Z" } : Jvm.MethodName)) ∈ ww := ww_mem (List.mem_append_right _ (List.mem_append_right _ (List.mem_append_right _ (List.mem_append_right _ (List.mem_append_right _ (List.mem_of_getElem? (i := 17) rfl)))))) rfl
theorem mw_979 : (Jvm.Cond.instanceMethod ({ cls := "SpanRulesModel", name := "isWanted", desc := "(II)Z" } : Jvm.MethodName)) ∈ ww := ww_mem (List.mem_append_right _ (List.mem_append_right _ (List.mem_append_right _ (List.mem_append_right _ (List.mem_append_right _ (List.mem_of_getElem? (i := 19) rfl)))))) rfl
theorem mw_980 : (Jvm.Cond.code ({ cls := "SpanRulesModel", name := "isWanted", desc := "(II)Z" } : Jvm.MethodName) prog_11_method_40_code (5 : Nat) (Option.some Jvm.ClassFile.FieldType.boolean)) ∈ ww := ww_mem (List.mem_append_right _ (List.mem_append_right _ (List.mem_append_right _ (List.mem_append_right _ (List.mem_append_right _ (List.mem_of_getElem? (i := 20) rfl)))))) rfl
theorem mw_981 : (Jvm.Cond.methodLink "SpanRulesModel" (281 : Nat) ({ cls := "SpanRulesModel", name := "isFirst", desc := "(II)Z" } : Jvm.MethodName)) ∈ ww := ww_mem (List.mem_append_right _ (List.mem_append_right _ (List.mem_append_right _ (List.mem_append_right _ (List.mem_append_right _ (List.mem_of_getElem? (i := 21) rfl)))))) rfl
theorem mw_983 : (Jvm.Cond.instanceMethod ({ cls := "SpanRulesModel", name := "isFirst", desc := "(II)Z" } : Jvm.MethodName)) ∈ ww := ww_mem (List.mem_append_right _ (List.mem_append_right _ (List.mem_append_right _ (List.mem_append_right _ (List.mem_append_right _ (List.mem_of_getElem? (i := 23) rfl)))))) rfl
theorem mw_984 : (Jvm.Cond.code ({ cls := "SpanRulesModel", name := "isFirst", desc := "(II)Z" } : Jvm.MethodName) prog_11_method_37_code (3 : Nat) (Option.some Jvm.ClassFile.FieldType.boolean)) ∈ ww := ww_mem (List.mem_append_right _ (List.mem_append_right _ (List.mem_append_right _ (List.mem_append_right _ (List.mem_append_right _ (List.mem_of_getElem? (i := 24) rfl)))))) rfl
theorem mw_993 : (Jvm.Cond.constantLong "SpanRulesModel" (287 : Nat) (-1000000000000001 : Int64)) ∈ ww := ww_mem (List.mem_append_right _ (List.mem_append_right _ (List.mem_append_right _ (List.mem_append_right _ (List.mem_append_right _ (List.mem_of_getElem? (i := 33) rfl)))))) rfl
theorem mw_994 : (Jvm.Cond.constantLong "SpanRulesModel" (289 : Nat) (-1000000000000002 : Int64)) ∈ ww := ww_mem (List.mem_append_right _ (List.mem_append_right _ (List.mem_append_right _ (List.mem_append_right _ (List.mem_append_right _ (List.mem_of_getElem? (i := 34) rfl)))))) rfl
theorem ms_SR_dropLate : (Jvm.Cond.selects "SpanRules" ({ cls := "SpanRules", name := "dropLate", desc := "()I" } : Jvm.MethodName) ({ cls := "SpanRules", name := "dropLate", desc := "()I" } : Jvm.MethodName)) ∈ ww := ww_mem (List.mem_append_left _ (List.mem_map.mpr ⟨(({ cls := "SpanRules", name := "dropLate", desc := "()I" } : Jvm.MethodName), 14), List.mem_of_getElem? (i := 12) (by decide +kernel), rfl⟩)) rfl
theorem ms_SR_endCounted : (Jvm.Cond.selects "SpanRules" ({ cls := "SpanRules", name := "endCounted", desc := "()I" } : Jvm.MethodName) ({ cls := "SpanRules", name := "endCounted", desc := "()I" } : Jvm.MethodName)) ∈ ww := ww_mem (List.mem_append_left _ (List.mem_map.mpr ⟨(({ cls := "SpanRules", name := "endCounted", desc := "()I" } : Jvm.MethodName), 14), List.mem_of_getElem? (i := 0) (by decide +kernel), rfl⟩)) rfl
theorem ms_SR_endSpans : (Jvm.Cond.selects "SpanRules" ({ cls := "SpanRules", name := "endSpans", desc := "()I" } : Jvm.MethodName) ({ cls := "SpanRules", name := "endSpans", desc := "()I" } : Jvm.MethodName)) ∈ ww := ww_mem (List.mem_append_left _ (List.mem_map.mpr ⟨(({ cls := "SpanRules", name := "endSpans", desc := "()I" } : Jvm.MethodName), 14), List.mem_of_getElem? (i := 6) (by decide +kernel), rfl⟩)) rfl
theorem ms_SR_fire : (Jvm.Cond.selects "SpanRules" ({ cls := "SpanRules", name := "fire", desc := "(II)V" } : Jvm.MethodName) ({ cls := "SpanRules", name := "fire", desc := "(II)V" } : Jvm.MethodName)) ∈ ww := ww_mem (List.mem_append_left _ (List.mem_map.mpr ⟨(({ cls := "SpanRules", name := "fire", desc := "(II)V" } : Jvm.MethodName), 14), List.mem_of_getElem? (i := 7) (by decide +kernel), rfl⟩)) rfl
theorem ms_SR_fireCounted : (Jvm.Cond.selects "SpanRules" ({ cls := "SpanRules", name := "fireCounted", desc := "(I)I" } : Jvm.MethodName) ({ cls := "SpanRules", name := "fireCounted", desc := "(I)I" } : Jvm.MethodName)) ∈ ww := ww_mem (List.mem_append_left _ (List.mem_map.mpr ⟨(({ cls := "SpanRules", name := "fireCounted", desc := "(I)I" } : Jvm.MethodName), 14), List.mem_of_getElem? (i := 3) (by decide +kernel), rfl⟩)) rfl
theorem ms_SR_gather : (Jvm.Cond.selects "SpanRules" ({ cls := "SpanRules", name := "gather", desc := "(I[J)V" } : Jvm.MethodName) ({ cls := "SpanRules", name := "gather", desc := "(I[J)V" } : Jvm.MethodName)) ∈ ww := ww_mem (List.mem_append_left _ (List.mem_map.mpr ⟨(({ cls := "SpanRules", name := "gather", desc := "(I[J)V" } : Jvm.MethodName), 14), List.mem_of_getElem? (i := 8) (by decide +kernel), rfl⟩)) rfl
theorem ms_SR_gatherCounted : (Jvm.Cond.selects "SpanRules" ({ cls := "SpanRules", name := "gatherCounted", desc := "(IJ)V" } : Jvm.MethodName) ({ cls := "SpanRules", name := "gatherCounted", desc := "(IJ)V" } : Jvm.MethodName)) ∈ ww := ww_mem (List.mem_append_left _ (List.mem_map.mpr ⟨(({ cls := "SpanRules", name := "gatherCounted", desc := "(IJ)V" } : Jvm.MethodName), 14), List.mem_of_getElem? (i := 4) (by decide +kernel), rfl⟩)) rfl
theorem ms_SR_isGone : (Jvm.Cond.selects "SpanRules" ({ cls := "SpanRules", name := "isGone", desc := "(J)Z" } : Jvm.MethodName) ({ cls := "SpanRules", name := "isGone", desc := "(J)Z" } : Jvm.MethodName)) ∈ ww := ww_mem (List.mem_append_left _ (List.mem_map.mpr ⟨(({ cls := "SpanRules", name := "isGone", desc := "(J)Z" } : Jvm.MethodName), 14), List.mem_of_getElem? (i := 15) (by decide +kernel), rfl⟩)) rfl
theorem ms_SR_isNumbered : (Jvm.Cond.selects "SpanRules" ({ cls := "SpanRules", name := "isNumbered", desc := "(I)Z" } : Jvm.MethodName) ({ cls := "SpanRules", name := "isNumbered", desc := "(I)Z" } : Jvm.MethodName)) ∈ ww := ww_mem (List.mem_append_left _ (List.mem_map.mpr ⟨(({ cls := "SpanRules", name := "isNumbered", desc := "(I)Z" } : Jvm.MethodName), 14), List.mem_of_getElem? (i := 2) (by decide +kernel), rfl⟩)) rfl
theorem ms_SR_isWaitedFor : (Jvm.Cond.selects "SpanRules" ({ cls := "SpanRules", name := "isWaitedFor", desc := "(I)Z" } : Jvm.MethodName) ({ cls := "SpanRules", name := "isWaitedFor", desc := "(I)Z" } : Jvm.MethodName)) ∈ ww := ww_mem (List.mem_append_left _ (List.mem_map.mpr ⟨(({ cls := "SpanRules", name := "isWaitedFor", desc := "(I)Z" } : Jvm.MethodName), 14), List.mem_of_getElem? (i := 5) (by decide +kernel), rfl⟩)) rfl
theorem ms_SR_newOnes : (Jvm.Cond.selects "SpanRules" ({ cls := "SpanRules", name := "newOnes", desc := "(I)I" } : Jvm.MethodName) ({ cls := "SpanRules", name := "newOnes", desc := "(I)I" } : Jvm.MethodName)) ∈ ww := ww_mem (List.mem_append_left _ (List.mem_map.mpr ⟨(({ cls := "SpanRules", name := "newOnes", desc := "(I)I" } : Jvm.MethodName), 14), List.mem_of_getElem? (i := 27) (by decide +kernel), rfl⟩)) rfl
theorem ms_SR_numberRows : (Jvm.Cond.selects "SpanRules" ({ cls := "SpanRules", name := "numberRows", desc := "()V" } : Jvm.MethodName) ({ cls := "SpanRules", name := "numberRows", desc := "()V" } : Jvm.MethodName)) ∈ ww := ww_mem (List.mem_append_left _ (List.mem_map.mpr ⟨(({ cls := "SpanRules", name := "numberRows", desc := "()V" } : Jvm.MethodName), 14), List.mem_of_getElem? (i := 1) (by decide +kernel), rfl⟩)) rfl
theorem ms_SR_putAndFire : (Jvm.Cond.selects "SpanRules" ({ cls := "SpanRules", name := "putAndFire", desc := "(II)V" } : Jvm.MethodName) ({ cls := "SpanRules", name := "putAndFire", desc := "(II)V" } : Jvm.MethodName)) ∈ ww := ww_mem (List.mem_append_left _ (List.mem_map.mpr ⟨(({ cls := "SpanRules", name := "putAndFire", desc := "(II)V" } : Jvm.MethodName), 14), List.mem_of_getElem? (i := 18) (by decide +kernel), rfl⟩)) rfl
theorem ms_LA_add : (Jvm.Cond.selects "SpanRules$Layout" ({ cls := "SpanRules$Layout", name := "add", desc := "(JJ)V" } : Jvm.MethodName) ({ cls := "SpanRules$Layout", name := "add", desc := "(JJ)V" } : Jvm.MethodName)) ∈ ww := ww_mem (List.mem_append_left _ (List.mem_map.mpr ⟨(({ cls := "SpanRules$Layout", name := "add", desc := "(JJ)V" } : Jvm.MethodName), 8), List.mem_of_getElem? (i := 21) (by decide +kernel), rfl⟩)) rfl
theorem ms_LA_beside : (Jvm.Cond.selects "SpanRules$Layout" ({ cls := "SpanRules$Layout", name := "beside", desc := "(JJ)V" } : Jvm.MethodName) ({ cls := "SpanRules$Layout", name := "beside", desc := "(JJ)V" } : Jvm.MethodName)) ∈ ww := ww_mem (List.mem_append_left _ (List.mem_map.mpr ⟨(({ cls := "SpanRules$Layout", name := "beside", desc := "(JJ)V" } : Jvm.MethodName), 8), List.mem_of_getElem? (i := 25) (by decide +kernel), rfl⟩)) rfl
theorem ms_LA_byOwnRule : (Jvm.Cond.selects "SpanRules$Layout" ({ cls := "SpanRules$Layout", name := "byOwnRule", desc := "(JJ)V" } : Jvm.MethodName) ({ cls := "SpanRules$Layout", name := "byOwnRule", desc := "(JJ)V" } : Jvm.MethodName)) ∈ ww := ww_mem (List.mem_append_left _ (List.mem_map.mpr ⟨(({ cls := "SpanRules$Layout", name := "byOwnRule", desc := "(JJ)V" } : Jvm.MethodName), 8), List.mem_of_getElem? (i := 23) (by decide +kernel), rfl⟩)) rfl
theorem ms_LA_byTurns : (Jvm.Cond.selects "SpanRules$Layout" ({ cls := "SpanRules$Layout", name := "byTurns", desc := "(J)V" } : Jvm.MethodName) ({ cls := "SpanRules$Layout", name := "byTurns", desc := "(J)V" } : Jvm.MethodName)) ∈ ww := ww_mem (List.mem_append_left _ (List.mem_map.mpr ⟨(({ cls := "SpanRules$Layout", name := "byTurns", desc := "(J)V" } : Jvm.MethodName), 8), List.mem_of_getElem? (i := 24) (by decide +kernel), rfl⟩)) rfl
theorem ms_LA_doubling : (Jvm.Cond.selects "SpanRules$Layout" ({ cls := "SpanRules$Layout", name := "doubling", desc := "(J)V" } : Jvm.MethodName) ({ cls := "SpanRules$Layout", name := "doubling", desc := "(J)V" } : Jvm.MethodName)) ∈ ww := ww_mem (List.mem_append_left _ (List.mem_map.mpr ⟨(({ cls := "SpanRules$Layout", name := "doubling", desc := "(J)V" } : Jvm.MethodName), 8), List.mem_of_getElem? (i := 26) (by decide +kernel), rfl⟩)) rfl
theorem ms_LA_inMonths : (Jvm.Cond.selects "SpanRules$Layout" ({ cls := "SpanRules$Layout", name := "inMonths", desc := "(J)V" } : Jvm.MethodName) ({ cls := "SpanRules$Layout", name := "inMonths", desc := "(J)V" } : Jvm.MethodName)) ∈ ww := ww_mem (List.mem_append_left _ (List.mem_map.mpr ⟨(({ cls := "SpanRules$Layout", name := "inMonths", desc := "(J)V" } : Jvm.MethodName), 8), List.mem_of_getElem? (i := 22) (by decide +kernel), rfl⟩)) rfl
theorem ms_LA_slide : (Jvm.Cond.selects "SpanRules$Layout" ({ cls := "SpanRules$Layout", name := "slide", desc := "(J)V" } : Jvm.MethodName) ({ cls := "SpanRules$Layout", name := "slide", desc := "(J)V" } : Jvm.MethodName)) ∈ ww := ww_mem (List.mem_append_left _ (List.mem_map.mpr ⟨(({ cls := "SpanRules$Layout", name := "slide", desc := "(J)V" } : Jvm.MethodName), 8), List.mem_of_getElem? (i := 20) (by decide +kernel), rfl⟩)) rfl
theorem ms_SS_absorb : (Jvm.Cond.selects "SpanRules$SpanStore" ({ cls := "SpanRules$SpanStore", name := "absorb", desc := "(II)V" } : Jvm.MethodName) ({ cls := "SpanRules$SpanStore", name := "absorb", desc := "(II)V" } : Jvm.MethodName)) ∈ ww := ww_mem (List.mem_append_left _ (List.mem_map.mpr ⟨(({ cls := "SpanRules$SpanStore", name := "absorb", desc := "(II)V" } : Jvm.MethodName), 12), List.mem_of_getElem? (i := 16) (by decide +kernel), rfl⟩)) rfl
theorem ms_SS_isBehind : (Jvm.Cond.selects "SpanRules$SpanStore" ({ cls := "SpanRules$SpanStore", name := "isBehind", desc := "(II)Z" } : Jvm.MethodName) ({ cls := "SpanRules$SpanStore", name := "isBehind", desc := "(II)Z" } : Jvm.MethodName)) ∈ ww := ww_mem (List.mem_append_left _ (List.mem_map.mpr ⟨(({ cls := "SpanRules$SpanStore", name := "isBehind", desc := "(II)Z" } : Jvm.MethodName), 12), List.mem_of_getElem? (i := 17) (by decide +kernel), rfl⟩)) rfl
theorem ms_SS_shares : (Jvm.Cond.selects "SpanRules$SpanStore" ({ cls := "SpanRules$SpanStore", name := "shares", desc := "(IIJJ)Z" } : Jvm.MethodName) ({ cls := "SpanRules$SpanStore", name := "shares", desc := "(IIJJ)Z" } : Jvm.MethodName)) ∈ ww := ww_mem (List.mem_append_left _ (List.mem_map.mpr ⟨(({ cls := "SpanRules$SpanStore", name := "shares", desc := "(IIJJ)Z" } : Jvm.MethodName), 12), List.mem_of_getElem? (i := 14) (by decide +kernel), rfl⟩)) rfl
theorem ms_SS_sweep : (Jvm.Cond.selects "SpanRules$SpanStore" ({ cls := "SpanRules$SpanStore", name := "sweep", desc := "()V" } : Jvm.MethodName) ({ cls := "SpanRules$SpanStore", name := "sweep", desc := "()V" } : Jvm.MethodName)) ∈ ww := ww_mem (List.mem_append_left _ (List.mem_map.mpr ⟨(({ cls := "SpanRules$SpanStore", name := "sweep", desc := "()V" } : Jvm.MethodName), 12), List.mem_of_getElem? (i := 9) (by decide +kernel), rfl⟩)) rfl
theorem ms_MO_beside : (Jvm.Cond.selects "SpanRulesModel" ({ cls := "SpanRulesModel", name := "beside", desc := "(JJ)V" } : Jvm.MethodName) ({ cls := "SpanRulesModel", name := "beside", desc := "(JJ)V" } : Jvm.MethodName)) ∈ ww := ww_mem (List.mem_append_left _ (List.mem_map.mpr ⟨(({ cls := "SpanRulesModel", name := "beside", desc := "(JJ)V" } : Jvm.MethodName), 42), List.mem_of_getElem? (i := 33) (by decide +kernel), rfl⟩)) rfl
theorem ms_MO_contents : (Jvm.Cond.selects "SpanRulesModel" ({ cls := "SpanRulesModel", name := "contents", desc := "()V" } : Jvm.MethodName) ({ cls := "SpanRulesModel", name := "contents", desc := "()V" } : Jvm.MethodName)) ∈ ww := ww_mem (List.mem_append_left _ (List.mem_map.mpr ⟨(({ cls := "SpanRulesModel", name := "contents", desc := "()V" } : Jvm.MethodName), 42), List.mem_of_getElem? (i := 41) (by decide +kernel), rfl⟩)) rfl
theorem ms_MO_counted : (Jvm.Cond.selects "SpanRulesModel" ({ cls := "SpanRulesModel", name := "counted", desc := "(IJJ)I" } : Jvm.MethodName) ({ cls := "SpanRulesModel", name := "counted", desc := "(IJJ)I" } : Jvm.MethodName)) ∈ ww := ww_mem (List.mem_append_left _ (List.mem_map.mpr ⟨(({ cls := "SpanRulesModel", name := "counted", desc := "(IJJ)I" } : Jvm.MethodName), 42), List.mem_of_getElem? (i := 29) (by decide +kernel), rfl⟩)) rfl
theorem ms_MO_countedMark : (Jvm.Cond.selects "SpanRulesModel" ({ cls := "SpanRulesModel", name := "countedMark", desc := "()I" } : Jvm.MethodName) ({ cls := "SpanRulesModel", name := "countedMark", desc := "()I" } : Jvm.MethodName)) ∈ ww := ww_mem (List.mem_append_left _ (List.mem_map.mpr ⟨(({ cls := "SpanRulesModel", name := "countedMark", desc := "()I" } : Jvm.MethodName), 42), List.mem_of_getElem? (i := 46) (by decide +kernel), rfl⟩)) rfl
theorem ms_MO_double0 : (Jvm.Cond.selects "SpanRulesModel" ({ cls := "SpanRulesModel", name := "double0", desc := "(J)V" } : Jvm.MethodName) ({ cls := "SpanRulesModel", name := "double0", desc := "(J)V" } : Jvm.MethodName)) ∈ ww := ww_mem (List.mem_append_left _ (List.mem_map.mpr ⟨(({ cls := "SpanRulesModel", name := "double0", desc := "(J)V" } : Jvm.MethodName), 42), List.mem_of_getElem? (i := 35) (by decide +kernel), rfl⟩)) rfl
theorem ms_MO_drop : (Jvm.Cond.selects "SpanRulesModel" ({ cls := "SpanRulesModel", name := "drop", desc := "()I" } : Jvm.MethodName) ({ cls := "SpanRulesModel", name := "drop", desc := "()I" } : Jvm.MethodName)) ∈ ww := ww_mem (List.mem_append_left _ (List.mem_map.mpr ⟨(({ cls := "SpanRulesModel", name := "drop", desc := "()I" } : Jvm.MethodName), 42), List.mem_of_getElem? (i := 30) (by decide +kernel), rfl⟩)) rfl
theorem ms_MO_fire : (Jvm.Cond.selects "SpanRulesModel" ({ cls := "SpanRulesModel", name := "fire", desc := "(II)V" } : Jvm.MethodName) ({ cls := "SpanRulesModel", name := "fire", desc := "(II)V" } : Jvm.MethodName)) ∈ ww := ww_mem (List.mem_append_left _ (List.mem_map.mpr ⟨(({ cls := "SpanRulesModel", name := "fire", desc := "(II)V" } : Jvm.MethodName), 42), List.mem_of_getElem? (i := 40) (by decide +kernel), rfl⟩)) rfl
theorem ms_MO_gap : (Jvm.Cond.selects "SpanRulesModel" ({ cls := "SpanRulesModel", name := "gap", desc := "(IJJ)I" } : Jvm.MethodName) ({ cls := "SpanRulesModel", name := "gap", desc := "(IJJ)I" } : Jvm.MethodName)) ∈ ww := ww_mem (List.mem_append_left _ (List.mem_map.mpr ⟨(({ cls := "SpanRulesModel", name := "gap", desc := "(IJJ)I" } : Jvm.MethodName), 42), List.mem_of_getElem? (i := 36) (by decide +kernel), rfl⟩)) rfl
theorem ms_MO_isBefore : (Jvm.Cond.selects "SpanRulesModel" ({ cls := "SpanRulesModel", name := "isBefore", desc := "(II)Z" } : Jvm.MethodName) ({ cls := "SpanRulesModel", name := "isBefore", desc := "(II)Z" } : Jvm.MethodName)) ∈ ww := ww_mem (List.mem_append_left _ (List.mem_map.mpr ⟨(({ cls := "SpanRulesModel", name := "isBefore", desc := "(II)Z" } : Jvm.MethodName), 42), List.mem_of_getElem? (i := 42) (by decide +kernel), rfl⟩)) rfl
theorem ms_MO_isFirst : (Jvm.Cond.selects "SpanRulesModel" ({ cls := "SpanRulesModel", name := "isFirst", desc := "(II)Z" } : Jvm.MethodName) ({ cls := "SpanRulesModel", name := "isFirst", desc := "(II)Z" } : Jvm.MethodName)) ∈ ww := ww_mem (List.mem_append_left _ (List.mem_map.mpr ⟨(({ cls := "SpanRulesModel", name := "isFirst", desc := "(II)Z" } : Jvm.MethodName), 42), List.mem_of_getElem? (i := 48) (by decide +kernel), rfl⟩)) rfl
theorem ms_MO_isForbidden : (Jvm.Cond.selects "SpanRulesModel" ({ cls := "SpanRulesModel", name := "isForbidden", desc := "(IJ)Z" } : Jvm.MethodName) ({ cls := "SpanRulesModel", name := "isForbidden", desc := "(IJ)Z" } : Jvm.MethodName)) ∈ ww := ww_mem (List.mem_append_left _ (List.mem_map.mpr ⟨(({ cls := "SpanRulesModel", name := "isForbidden", desc := "(IJ)Z" } : Jvm.MethodName), 42), List.mem_of_getElem? (i := 28) (by decide +kernel), rfl⟩)) rfl
theorem ms_MO_isWanted : (Jvm.Cond.selects "SpanRulesModel" ({ cls := "SpanRulesModel", name := "isWanted", desc := "(II)Z" } : Jvm.MethodName) ({ cls := "SpanRulesModel", name := "isWanted", desc := "(II)Z" } : Jvm.MethodName)) ∈ ww := ww_mem (List.mem_append_left _ (List.mem_map.mpr ⟨(({ cls := "SpanRulesModel", name := "isWanted", desc := "(II)Z" } : Jvm.MethodName), 42), List.mem_of_getElem? (i := 47) (by decide +kernel), rfl⟩)) rfl
theorem ms_MO_join : (Jvm.Cond.selects "SpanRulesModel" ({ cls := "SpanRulesModel", name := "join", desc := "(II)V" } : Jvm.MethodName) ({ cls := "SpanRulesModel", name := "join", desc := "(II)V" } : Jvm.MethodName)) ∈ ww := ww_mem (List.mem_append_left _ (List.mem_map.mpr ⟨(({ cls := "SpanRulesModel", name := "join", desc := "(II)V" } : Jvm.MethodName), 42), List.mem_of_getElem? (i := 37) (by decide +kernel), rfl⟩)) rfl
theorem ms_MO_newRow : (Jvm.Cond.selects "SpanRulesModel" ({ cls := "SpanRulesModel", name := "newRow", desc := "(IJJ)I" } : Jvm.MethodName) ({ cls := "SpanRulesModel", name := "newRow", desc := "(IJJ)I" } : Jvm.MethodName)) ∈ ww := ww_mem (List.mem_append_left _ (List.mem_map.mpr ⟨(({ cls := "SpanRulesModel", name := "newRow", desc := "(IJJ)I" } : Jvm.MethodName), 42), List.mem_of_getElem? (i := 31) (by decide +kernel), rfl⟩)) rfl
theorem ms_MO_newSpan : (Jvm.Cond.selects "SpanRulesModel" ({ cls := "SpanRulesModel", name := "newSpan", desc := "(IJJ)I" } : Jvm.MethodName) ({ cls := "SpanRulesModel", name := "newSpan", desc := "(IJJ)I" } : Jvm.MethodName)) ∈ ww := ww_mem (List.mem_append_left _ (List.mem_map.mpr ⟨(({ cls := "SpanRulesModel", name := "newSpan", desc := "(IJJ)I" } : Jvm.MethodName), 42), List.mem_of_getElem? (i := 38) (by decide +kernel), rfl⟩)) rfl
theorem ms_MO_plain : (Jvm.Cond.selects "SpanRulesModel" ({ cls := "SpanRulesModel", name := "plain", desc := "(IJJ)I" } : Jvm.MethodName) ({ cls := "SpanRulesModel", name := "plain", desc := "(IJJ)I" } : Jvm.MethodName)) ∈ ww := ww_mem (List.mem_append_left _ (List.mem_map.mpr ⟨(({ cls := "SpanRulesModel", name := "plain", desc := "(IJJ)I" } : Jvm.MethodName), 42), List.mem_of_getElem? (i := 44) (by decide +kernel), rfl⟩)) rfl
theorem ms_MO_putInto : (Jvm.Cond.selects "SpanRulesModel" ({ cls := "SpanRulesModel", name := "putInto", desc := "(II)V" } : Jvm.MethodName) ({ cls := "SpanRulesModel", name := "putInto", desc := "(II)V" } : Jvm.MethodName)) ∈ ww := ww_mem (List.mem_append_left _ (List.mem_map.mpr ⟨(({ cls := "SpanRulesModel", name := "putInto", desc := "(II)V" } : Jvm.MethodName), 42), List.mem_of_getElem? (i := 39) (by decide +kernel), rfl⟩)) rfl
theorem ms_MO_spanAt : (Jvm.Cond.selects "SpanRulesModel" ({ cls := "SpanRulesModel", name := "spanAt", desc := "(IJJ)I" } : Jvm.MethodName) ({ cls := "SpanRulesModel", name := "spanAt", desc := "(IJJ)I" } : Jvm.MethodName)) ∈ ww := ww_mem (List.mem_append_left _ (List.mem_map.mpr ⟨(({ cls := "SpanRulesModel", name := "spanAt", desc := "(IJJ)I" } : Jvm.MethodName), 42), List.mem_of_getElem? (i := 45) (by decide +kernel), rfl⟩)) rfl
theorem ms_MO_tell : (Jvm.Cond.selects "SpanRulesModel" ({ cls := "SpanRulesModel", name := "tell", desc := "(IJJII)V" } : Jvm.MethodName) ({ cls := "SpanRulesModel", name := "tell", desc := "(IJJII)V" } : Jvm.MethodName)) ∈ ww := ww_mem (List.mem_append_left _ (List.mem_map.mpr ⟨(({ cls := "SpanRulesModel", name := "tell", desc := "(IJJII)V" } : Jvm.MethodName), 42), List.mem_of_getElem? (i := 43) (by decide +kernel), rfl⟩)) rfl
theorem ms_MO_want : (Jvm.Cond.selects "SpanRulesModel" ({ cls := "SpanRulesModel", name := "want", desc := "(JJ)V" } : Jvm.MethodName) ({ cls := "SpanRulesModel", name := "want", desc := "(JJ)V" } : Jvm.MethodName)) ∈ ww := ww_mem (List.mem_append_left _ (List.mem_map.mpr ⟨(({ cls := "SpanRulesModel", name := "want", desc := "(JJ)V" } : Jvm.MethodName), 42), List.mem_of_getElem? (i := 34) (by decide +kernel), rfl⟩)) rfl
theorem ms_MO_wantFor : (Jvm.Cond.selects "SpanRulesModel" ({ cls := "SpanRulesModel", name := "wantFor", desc := "(JJ)V" } : Jvm.MethodName) ({ cls := "SpanRulesModel", name := "wantFor", desc := "(JJ)V" } : Jvm.MethodName)) ∈ ww := ww_mem (List.mem_append_left _ (List.mem_map.mpr ⟨(({ cls := "SpanRulesModel", name := "wantFor", desc := "(JJ)V" } : Jvm.MethodName), 42), List.mem_of_getElem? (i := 32) (by decide +kernel), rfl⟩)) rfl
theorem in_SR (cd : Cond) : ∀ w ∈ u_ws R_SR F_SR 14, w ∈ cd :: ww := by
  intro w hw
  obtain ⟨k, hk, rfl⟩ := List.mem_map.mp hw
  have hk := List.mem_range.mp hk
  match k, hk with
  | 0, _ => exact List.mem_cons_of_mem _ mw_246
  | 1, _ => exact List.mem_cons_of_mem _ mw_248
  | 2, _ => exact List.mem_cons_of_mem _ mw_250
  | 3, _ => exact List.mem_cons_of_mem _ mw_252
  | 4, _ => exact List.mem_cons_of_mem _ mw_254
  | 5, _ => exact List.mem_cons_of_mem _ mw_256
  | 6, _ => exact List.mem_cons_of_mem _ mw_258
  | 7, _ => exact List.mem_cons_of_mem _ mw_260
  | 8, _ => exact List.mem_cons_of_mem _ mw_262
  | 9, _ => exact List.mem_cons_of_mem _ mw_264
  | 10, _ => exact List.mem_cons_of_mem _ mw_266
  | 11, _ => exact List.mem_cons_of_mem _ mw_268
  | 12, _ => exact List.mem_cons_of_mem _ mw_270
  | 13, _ => exact List.mem_cons_of_mem _ mw_272
  | k + 14, h => exact absurd h (by omega)
theorem in_LA (cd : Cond) : ∀ w ∈ u_ws R_LA F_LA 8, w ∈ cd :: ww := by
  intro w hw
  obtain ⟨k, hk, rfl⟩ := List.mem_map.mp hw
  have hk := List.mem_range.mp hk
  match k, hk with
  | 0, _ => exact List.mem_cons_of_mem _ mw_215
  | 1, _ => exact List.mem_cons_of_mem _ mw_217
  | 2, _ => exact List.mem_cons_of_mem _ mw_219
  | 3, _ => exact List.mem_cons_of_mem _ mw_221
  | 4, _ => exact List.mem_cons_of_mem _ mw_223
  | 5, _ => exact List.mem_cons_of_mem _ mw_225
  | 6, _ => exact List.mem_cons_of_mem _ mw_227
  | 7, _ => exact List.mem_cons_of_mem _ mw_229
  | k + 8, h => exact absurd h (by omega)
theorem in_FB (cd : Cond) : ∀ w ∈ u_ws R_FB F_FB 2, w ∈ cd :: ww := by
  intro w hw
  obtain ⟨k, hk, rfl⟩ := List.mem_map.mp hw
  have hk := List.mem_range.mp hk
  match k, hk with
  | 0, _ => exact List.mem_cons_of_mem _ mw_32
  | 1, _ => exact List.mem_cons_of_mem _ mw_34
  | k + 2, h => exact absurd h (by omega)
theorem in_RS (cd : Cond) : ∀ w ∈ u_ws R_RS F_RS 7, w ∈ cd :: ww := by
  intro w hw
  obtain ⟨k, hk, rfl⟩ := List.mem_map.mp hw
  have hk := List.mem_range.mp hk
  match k, hk with
  | 0, _ => exact List.mem_cons_of_mem _ mw_59
  | 1, _ => exact List.mem_cons_of_mem _ mw_61
  | 2, _ => exact List.mem_cons_of_mem _ mw_63
  | 3, _ => exact List.mem_cons_of_mem _ mw_65
  | 4, _ => exact List.mem_cons_of_mem _ mw_67
  | 5, _ => exact List.mem_cons_of_mem _ mw_69
  | 6, _ => exact List.mem_cons_of_mem _ mw_71
  | k + 7, h => exact absurd h (by omega)
theorem in_SS (cd : Cond) : ∀ w ∈ u_ws R_SS F_SS 12, w ∈ cd :: ww := by
  intro w hw
  obtain ⟨k, hk, rfl⟩ := List.mem_map.mp hw
  have hk := List.mem_range.mp hk
  match k, hk with
  | 0, _ => exact List.mem_cons_of_mem _ mw_104
  | 1, _ => exact List.mem_cons_of_mem _ mw_106
  | 2, _ => exact List.mem_cons_of_mem _ mw_108
  | 3, _ => exact List.mem_cons_of_mem _ mw_110
  | 4, _ => exact List.mem_cons_of_mem _ mw_112
  | 5, _ => exact List.mem_cons_of_mem _ mw_114
  | 6, _ => exact List.mem_cons_of_mem _ mw_116
  | 7, _ => exact List.mem_cons_of_mem _ mw_118
  | 8, _ => exact List.mem_cons_of_mem _ mw_120
  | 9, _ => exact List.mem_cons_of_mem _ mw_122
  | 10, _ => exact List.mem_cons_of_mem _ mw_124
  | 11, _ => exact List.mem_cons_of_mem _ mw_126
  | k + 12, h => exact absurd h (by omega)
theorem in_NU (cd : Cond) : ∀ w ∈ u_ws R_NU F_NU 2, w ∈ cd :: ww := by
  intro w hw
  obtain ⟨k, hk, rfl⟩ := List.mem_map.mp hw
  have hk := List.mem_range.mp hk
  match k, hk with
  | 0, _ => exact List.mem_cons_of_mem _ mw_139
  | 1, _ => exact List.mem_cons_of_mem _ mw_141
  | k + 2, h => exact absurd h (by omega)
theorem in_FS (cd : Cond) : ∀ w ∈ u_ws R_FS F_FS 4, w ∈ cd :: ww := by
  intro w hw
  obtain ⟨k, hk, rfl⟩ := List.mem_map.mp hw
  have hk := List.mem_range.mp hk
  match k, hk with
  | 0, _ => exact List.mem_cons_of_mem _ mw_157
  | 1, _ => exact List.mem_cons_of_mem _ mw_159
  | 2, _ => exact List.mem_cons_of_mem _ mw_161
  | 3, _ => exact List.mem_cons_of_mem _ mw_163
  | k + 4, h => exact absurd h (by omega)
theorem in_CO (cd : Cond) : ∀ w ∈ u_ws R_CO F_CO 5, w ∈ cd :: ww := by
  intro w hw
  obtain ⟨k, hk, rfl⟩ := List.mem_map.mp hw
  have hk := List.mem_range.mp hk
  match k, hk with
  | 0, _ => exact List.mem_cons_of_mem _ mw_177
  | 1, _ => exact List.mem_cons_of_mem _ mw_179
  | 2, _ => exact List.mem_cons_of_mem _ mw_181
  | 3, _ => exact List.mem_cons_of_mem _ mw_183
  | 4, _ => exact List.mem_cons_of_mem _ mw_185
  | k + 5, h => exact absurd h (by omega)
theorem in_MO (cd : Cond) : ∀ w ∈ u_ws R_MO F_MO 42, w ∈ cd :: ww := by
  intro w hw
  obtain ⟨k, hk, rfl⟩ := List.mem_map.mp hw
  have hk := List.mem_range.mp hk
  match k, hk with
  | 0, _ => exact List.mem_cons_of_mem _ mw_734
  | 1, _ => exact List.mem_cons_of_mem _ mw_736
  | 2, _ => exact List.mem_cons_of_mem _ mw_738
  | 3, _ => exact List.mem_cons_of_mem _ mw_740
  | 4, _ => exact List.mem_cons_of_mem _ mw_742
  | 5, _ => exact List.mem_cons_of_mem _ mw_744
  | 6, _ => exact List.mem_cons_of_mem _ mw_746
  | 7, _ => exact List.mem_cons_of_mem _ mw_748
  | 8, _ => exact List.mem_cons_of_mem _ mw_750
  | 9, _ => exact List.mem_cons_of_mem _ mw_752
  | 10, _ => exact List.mem_cons_of_mem _ mw_754
  | 11, _ => exact List.mem_cons_of_mem _ mw_756
  | 12, _ => exact List.mem_cons_of_mem _ mw_758
  | 13, _ => exact List.mem_cons_of_mem _ mw_760
  | 14, _ => exact List.mem_cons_of_mem _ mw_762
  | 15, _ => exact List.mem_cons_of_mem _ mw_764
  | 16, _ => exact List.mem_cons_of_mem _ mw_766
  | 17, _ => exact List.mem_cons_of_mem _ mw_768
  | 18, _ => exact List.mem_cons_of_mem _ mw_770
  | 19, _ => exact List.mem_cons_of_mem _ mw_772
  | 20, _ => exact List.mem_cons_of_mem _ mw_774
  | 21, _ => exact List.mem_cons_of_mem _ mw_776
  | 22, _ => exact List.mem_cons_of_mem _ mw_778
  | 23, _ => exact List.mem_cons_of_mem _ mw_780
  | 24, _ => exact List.mem_cons_of_mem _ mw_782
  | 25, _ => exact List.mem_cons_of_mem _ mw_784
  | 26, _ => exact List.mem_cons_of_mem _ mw_786
  | 27, _ => exact List.mem_cons_of_mem _ mw_788
  | 28, _ => exact List.mem_cons_of_mem _ mw_790
  | 29, _ => exact List.mem_cons_of_mem _ mw_792
  | 30, _ => exact List.mem_cons_of_mem _ mw_794
  | 31, _ => exact List.mem_cons_of_mem _ mw_796
  | 32, _ => exact List.mem_cons_of_mem _ mw_798
  | 33, _ => exact List.mem_cons_of_mem _ mw_800
  | 34, _ => exact List.mem_cons_of_mem _ mw_802
  | 35, _ => exact List.mem_cons_of_mem _ mw_804
  | 36, _ => exact List.mem_cons_of_mem _ mw_806
  | 37, _ => exact List.mem_cons_of_mem _ mw_808
  | 38, _ => exact List.mem_cons_of_mem _ mw_810
  | 39, _ => exact List.mem_cons_of_mem _ mw_812
  | 40, _ => exact List.mem_cons_of_mem _ mw_814
  | 41, _ => exact List.mem_cons_of_mem _ mw_816
  | k + 42, h => exact absurd h (by omega)
theorem k_CA_13 {R : Room} {s : State} {args : Array Value} {cd : Cond} (hts : ∀ w ∈ cd :: ww, w.before args s = true) (hR : 0 + 1 ≤ R.frames ∧ 8 + (6 + 11) + 0 ≤ R.locals) : CallB R s args R_CA 13 y_MA_floorDiv b_MA_floorDiv 6 (some .long) w_MA_floorDiv { frames := 0, cells := 0, slots := 0, locals := 0 } 0 0 2 ∧ (Cond.static y_MA_floorDiv).before args s = true := va_cwS 2 hts (gi_S mw_466 mw_370 mw_14 mw_371) rfl rfl rfl (by decide +kernel) hR
theorem k_CA_39 {R : Room} {s : State} {args : Array Value} {cd : Cond} (hts : ∀ w ∈ cd :: ww, w.before args s = true) (hR : 1 + 1 ≤ R.frames ∧ 8 + (10 + 11) + 25 ≤ R.locals) : CallB R s args R_CA 39 y_CA_firstDay b_CA_firstDay 10 (some .long) w_CA_firstDay { frames := 1, cells := 0, slots := 0, locals := 25 } 0 0 1 ∧ (Cond.static y_CA_firstDay).before args s = true := va_cwS 1 hts (gi_S mw_647 mw_462 mw_15 mw_463) rfl rfl rfl (by decide +kernel) hR
theorem k_FB_19 {R : Room} {s : State} {args : Array Value} {cd : Cond} (hts : ∀ w ∈ cd :: ww, w.before args s = true) (hR : 0 + 1 ≤ R.frames ∧ 8 + (5 + 11) + 0 ≤ R.locals) : CallW R s args R_FB R_FB 19 y_FB_has b_FB_has 5 (some .boolean) w_FB_has { frames := 0, cells := 0, slots := 0, locals := 0 } 0 0 2 := cwV 2 hts (gi_V mw_310 mw_311 mw_312 mw_2 mw_313) rfl rfl rfl (by decide +kernel) hR
theorem k_FS_31 {R : Room} {s : State} {args : Array Value} {cd : Cond} (hts : ∀ w ∈ cd :: ww, w.before args s = true) (hR : 1 + 1 ≤ R.frames ∧ 8 + (1 + 11) + 24 ≤ R.locals) : CallW R s args R_FS R_FS 31 y_FS_kept b_FS_kept 1 (some .int) w_FS_kept { frames := 1, cells := 0, slots := 0, locals := 24 } 0 0 0 := cwV 0 hts (gi_V mw_433 mw_416 mw_417 mw_6 mw_418) rfl rfl rfl (by decide +kernel) hR
theorem k_FS_35 {R : Room} {s : State} {args : Array Value} {cd : Cond} (hts : ∀ w ∈ cd :: ww, w.before args s = true) (hR : 0 + 1 ≤ R.frames ∧ 8 + (2 + 11) + 0 ≤ R.locals) : CallW R s args R_FS R_CO 35 y_CO_part b_CO_part 2 (some .long) w_CO_part { frames := 0, cells := 0, slots := 0, locals := 0 } 0 0 1 := cwV 1 hts (gi_V mw_358 mw_359 mw_360 mw_7 mw_361) rfl rfl rfl (by decide +kernel) hR
theorem k_LA_38 {R : Room} {s : State} {args : Array Value} {cd : Cond} (hts : ∀ w ∈ cd :: ww, w.before args s = true) (hR : 2 + 1 ≤ R.frames ∧ 8 + (7 + 11) + 48 ≤ R.locals) : CallW R s args R_LA R_LA 38 y_LA_slide b_LA_slide 7 (none) w_LA_slide { frames := 2, cells := 0, slots := 0, locals := 48 } 0 0 1 := cwV 1 hts (gi_V mw_629 mw_631 ms_LA_slide mw_8 mw_632) rfl rfl rfl (by decide +kernel) hR
theorem k_LA_42 {R : Room} {s : State} {args : Array Value} {cd : Cond} (hts : ∀ w ∈ cd :: ww, w.before args s = true) (hR : 3 + 1 ≤ R.frames ∧ 8 + (5 + 11) + 78 ≤ R.locals) : CallW R s args R_LA R_LA 42 y_LA_inMonths b_LA_inMonths 5 (none) w_LA_inMonths { frames := 3, cells := 0, slots := 0, locals := 78 } 0 0 1 := cwV 1 hts (gi_V mw_638 mw_640 ms_LA_inMonths mw_8 mw_641) rfl rfl rfl (by decide +kernel) hR
theorem k_LA_45 {R : Room} {s : State} {args : Array Value} {cd : Cond} (hts : ∀ w ∈ cd :: ww, w.before args s = true) (hR : 3 + 1 ≤ R.frames ∧ 8 + (5 + 11) + 74 ≤ R.locals) : CallW R s args R_LA R_LA 45 y_LA_byOwnRule b_LA_byOwnRule 5 (none) w_LA_byOwnRule { frames := 3, cells := 0, slots := 0, locals := 74 } 0 0 2 := cwV 2 hts (gi_V mw_649 mw_651 ms_LA_byOwnRule mw_8 mw_652) rfl rfl rfl (by decide +kernel) hR
theorem k_LA_49 {R : Room} {s : State} {args : Array Value} {cd : Cond} (hts : ∀ w ∈ cd :: ww, w.before args s = true) (hR : 2 + 1 ≤ R.frames ∧ 8 + (7 + 11) + 48 ≤ R.locals) : CallW R s args R_LA R_LA 49 y_LA_beside b_LA_beside 7 (none) w_LA_beside { frames := 2, cells := 0, slots := 0, locals := 48 } 0 0 2 := cwV 2 hts (gi_V mw_657 mw_659 ms_LA_beside mw_8 mw_660) rfl rfl rfl (by decide +kernel) hR
theorem k_LA_52 {R : Room} {s : State} {args : Array Value} {cd : Cond} (hts : ∀ w ∈ cd :: ww, w.before args s = true) (hN : cx_W s) (hR : 1 + 1 ≤ R.frames ∧ 8 + (4 + 11) + 25 ≤ R.locals) : va_CN R s args R_LA 52 y_SR_by "SpanRules" b_SR_by 4 (some .long) w_SR_by { frames := 1, cells := 0, slots := 0, locals := 25 } 0 0 2 ∧ (Cond.static y_SR_by).before args s = true ∧ True := ⟨va_cnB 2 hts (gi_C mw_368) rfl rfl rfl hN.2.2.2.2 (hts _ (List.mem_cons_of_mem _ mw_1)) (by decide +kernel) hR, hts _ (List.mem_cons_of_mem _ mw_367), trivial⟩
theorem k_LA_56 {R : Room} {s : State} {args : Array Value} {cd : Cond} (hts : ∀ w ∈ cd :: ww, w.before args s = true) (hR : 0 + 1 ≤ R.frames ∧ 8 + (5 + 11) + 0 ≤ R.locals) : CallW R s args R_LA R_LA 56 y_LA_add b_LA_add 5 (none) w_LA_add { frames := 0, cells := 0, slots := 0, locals := 0 } 0 0 2 := cwV 2 hts (gi_V mw_634 mw_636 ms_LA_add mw_8 mw_637) rfl rfl rfl (by decide +kernel) hR
theorem k_LA_59 {R : Room} {s : State} {args : Array Value} {cd : Cond} (hts : ∀ w ∈ cd :: ww, w.before args s = true) (hR : 2 + 1 ≤ R.frames ∧ 8 + (5 + 11) + 54 ≤ R.locals) : CallB R s args R_LA 59 y_CA_monthOf b_CA_monthOf 5 (some .long) w_CA_monthOf { frames := 2, cells := 0, slots := 0, locals := 54 } 0 0 1 ∧ (Cond.static y_CA_monthOf).before args s = true := va_cwS 1 hts (gi_S mw_642 mw_643 mw_15 mw_644) rfl rfl rfl (by decide +kernel) hR
theorem k_LA_65 {R : Room} {s : State} {args : Array Value} {cd : Cond} (hts : ∀ w ∈ cd :: ww, w.before args s = true) (hR : 1 + 1 ≤ R.frames ∧ 8 + (10 + 11) + 25 ≤ R.locals) : CallB R s args R_LA 65 y_CA_firstDay b_CA_firstDay 10 (some .long) w_CA_firstDay { frames := 1, cells := 0, slots := 0, locals := 25 } 0 0 1 ∧ (Cond.static y_CA_firstDay).before args s = true := va_cwS 1 hts (gi_S mw_648 mw_462 mw_15 mw_463) rfl rfl rfl (by decide +kernel) hR
theorem k_LA_68 {R : Room} {s : State} {args : Array Value} {cd : Cond} (hts : ∀ w ∈ cd :: ww, w.before args s = true) (hR : 2 + 1 ≤ R.frames ∧ 8 + (5 + 11) + 48 ≤ R.locals) : CallW R s args R_LA R_LA 68 y_LA_byTurns b_LA_byTurns 5 (none) w_LA_byTurns { frames := 2, cells := 0, slots := 0, locals := 48 } 0 0 1 := cwV 1 hts (gi_V mw_653 mw_655 ms_LA_byTurns mw_8 mw_656) rfl rfl rfl (by decide +kernel) hR
theorem k_LA_71 {R : Room} {s : State} {args : Array Value} {cd : Cond} (hts : ∀ w ∈ cd :: ww, w.before args s = true) (hR : 1 + 1 ≤ R.frames ∧ 8 + (12 + 11) + 24 ≤ R.locals) : CallW R s args R_LA R_LA 71 y_LA_doubling b_LA_doubling 12 (none) w_LA_doubling { frames := 1, cells := 0, slots := 0, locals := 24 } 0 0 1 := cwV 1 hts (gi_V mw_661 mw_663 ms_LA_doubling mw_8 mw_664) rfl rfl rfl (by decide +kernel) hR
theorem k_MO_111 {R : Room} {s : State} {args : Array Value} {cd : Cond} (hts : ∀ w ∈ cd :: ww, w.before args s = true) (hR : 0 + 1 ≤ R.frames ∧ 8 + (6 + 11) + 0 ≤ R.locals) : CallB R s args R_MO 111 y_MO_in b_MO_in 6 (some .boolean) w_MO_in { frames := 0, cells := 0, slots := 0, locals := 0 } 0 0 3 ∧ (Cond.static y_MO_in).before args s = true := va_cwS 3 hts (gi_S mw_829 mw_830 mw_9 mw_831) rfl rfl rfl (by decide +kernel) hR
theorem k_MO_137 {R : Room} {s : State} {args : Array Value} {cd : Cond} (hts : ∀ w ∈ cd :: ww, w.before args s = true) (hR : 0 + 1 ≤ R.frames ∧ 8 + (5 + 11) + 0 ≤ R.locals) : CallW R s args R_MO R_MO 137 y_MO_isForbidden b_MO_isForbidden 5 (some .boolean) w_MO_isForbidden { frames := 0, cells := 0, slots := 0, locals := 0 } 0 0 2 := cwV 2 hts (gi_V mw_854 mw_856 ms_MO_isForbidden mw_9 mw_857) rfl rfl rfl (by decide +kernel) hR
theorem k_MO_147 {R : Room} {s : State} {args : Array Value} {cd : Cond} (hts : ∀ w ∈ cd :: ww, w.before args s = true) (hR : 0 + 1 ≤ R.frames ∧ 8 + (6 + 11) + 0 ≤ R.locals) : CallB R s args R_MO 147 y_MO_by b_MO_by 6 (some .long) w_MO_by { frames := 0, cells := 0, slots := 0, locals := 0 } 0 0 2 ∧ (Cond.static y_MO_by).before args s = true := va_cwS 2 hts (gi_S mw_868 mw_869 mw_9 mw_870) rfl rfl rfl (by decide +kernel) hR
theorem k_MO_159 {R : Room} {s : State} {args : Array Value} {cd : Cond} (hts : ∀ w ∈ cd :: ww, w.before args s = true) (hR : 0 + 1 ≤ R.frames ∧ 8 + (2 + 11) + 0 ≤ R.locals) : CallB R s args R_MO 159 y_MO_isLeap b_MO_isLeap 2 (some .boolean) w_MO_isLeap { frames := 0, cells := 0, slots := 0, locals := 0 } 0 0 1 ∧ (Cond.static y_MO_isLeap).before args s = true := va_cwS 1 hts (gi_S mw_884 mw_885 mw_9 mw_886) rfl rfl rfl (by decide +kernel) hR
theorem k_MO_165 {R : Room} {s : State} {args : Array Value} {cd : Cond} (hts : ∀ w ∈ cd :: ww, w.before args s = true) (hR : 1 + 1 ≤ R.frames ∧ 8 + (4 + 11) + 25 ≤ R.locals) : CallB R s args R_MO 165 y_MO_yearAt b_MO_yearAt 4 (some .long) w_MO_yearAt { frames := 1, cells := 0, slots := 0, locals := 25 } 0 0 1 ∧ (Cond.static y_MO_yearAt).before args s = true := va_cwS 1 hts (gi_S mw_872 mw_873 mw_9 mw_874) rfl rfl rfl (by decide +kernel) hR
theorem k_MO_169 {R : Room} {s : State} {args : Array Value} {cd : Cond} (hts : ∀ w ∈ cd :: ww, w.before args s = true) (hR : 1 + 1 ≤ R.frames ∧ 8 + (3 + 11) + 21 ≤ R.locals) : CallB R s args R_MO 169 y_MO_daysIn b_MO_daysIn 3 (some .int) w_MO_daysIn { frames := 1, cells := 0, slots := 0, locals := 21 } 0 0 2 ∧ (Cond.static y_MO_daysIn).before args s = true := va_cwS 2 hts (gi_S mw_881 mw_882 mw_9 mw_883) rfl rfl rfl (by decide +kernel) hR
theorem k_MO_175 {R : Room} {s : State} {args : Array Value} {cd : Cond} (hts : ∀ w ∈ cd :: ww, w.before args s = true) (hR : 2 + 1 ≤ R.frames ∧ 8 + (8 + 11) + 48 ≤ R.locals) : CallB R s args R_MO 175 y_MO_monthAt b_MO_monthAt 8 (some .long) w_MO_monthAt { frames := 2, cells := 0, slots := 0, locals := 48 } 0 0 1 ∧ (Cond.static y_MO_monthAt).before args s = true := va_cwS 1 hts (gi_S mw_864 mw_865 mw_9 mw_866) rfl rfl rfl (by decide +kernel) hR
theorem k_MO_186 {R : Room} {s : State} {args : Array Value} {cd : Cond} (hts : ∀ w ∈ cd :: ww, w.before args s = true) (hR : 0 + 1 ≤ R.frames ∧ 8 + (5 + 11) + 0 ≤ R.locals) : CallW R s args R_MO R_MO 186 y_MO_want b_MO_want 5 (none) w_MO_want { frames := 0, cells := 0, slots := 0, locals := 0 } 0 0 2 := cwV 2 hts (gi_V mw_915 mw_917 ms_MO_want mw_9 mw_918) rfl rfl rfl (by decide +kernel) hR
theorem k_MO_190 {R : Room} {s : State} {args : Array Value} {cd : Cond} (hts : ∀ w ∈ cd :: ww, w.before args s = true) (hR : 1 + 1 ≤ R.frames ∧ 8 + (7 + 11) + 25 ≤ R.locals) : CallW R s args R_MO R_MO 190 y_MO_beside b_MO_beside 7 (none) w_MO_beside { frames := 1, cells := 0, slots := 0, locals := 25 } 0 0 2 := cwV 2 hts (gi_V mw_911 mw_913 ms_MO_beside mw_9 mw_914) rfl rfl rfl (by decide +kernel) hR
theorem k_MO_193 {R : Room} {s : State} {args : Array Value} {cd : Cond} (hts : ∀ w ∈ cd :: ww, w.before args s = true) (hR : 3 + 1 ≤ R.frames ∧ 8 + (4 + 11) + 75 ≤ R.locals) : CallB R s args R_MO 193 y_MO_monthOf b_MO_monthOf 4 (some .long) w_MO_monthOf { frames := 3, cells := 0, slots := 0, locals := 75 } 0 0 1 ∧ (Cond.static y_MO_monthOf).before args s = true := va_cwS 1 hts (gi_S mw_919 mw_920 mw_9 mw_921) rfl rfl rfl (by decide +kernel) hR
theorem k_MO_196 {R : Room} {s : State} {args : Array Value} {cd : Cond} (hts : ∀ w ∈ cd :: ww, w.before args s = true) (hR : 1 + 1 ≤ R.frames ∧ 8 + (7 + 11) + 24 ≤ R.locals) : CallW R s args R_MO R_MO 196 y_MO_double0 b_MO_double0 7 (none) w_MO_double0 { frames := 1, cells := 0, slots := 0, locals := 24 } 0 0 1 := cwV 1 hts (gi_V mw_923 mw_925 ms_MO_double0 mw_9 mw_926) rfl rfl rfl (by decide +kernel) hR
theorem k_MO_206 {R : Room} {s : State} {args : Array Value} {cd : Cond} (hts : ∀ w ∈ cd :: ww, w.before args s = true) (hR : 0 + 1 ≤ R.frames ∧ 8 + (3 + 11) + 0 ≤ R.locals) : CallW R s args R_MO R_MO 206 y_MO_isBefore b_MO_isBefore 3 (some .boolean) w_MO_isBefore { frames := 0, cells := 0, slots := 0, locals := 0 } 0 0 2 := cwV 2 hts (gi_V mw_951 mw_953 ms_MO_isBefore mw_9 mw_954) rfl rfl rfl (by decide +kernel) hR
theorem k_MO_224 {R : Room} {s : State} {args : Array Value} {cd : Cond} (hts : ∀ w ∈ cd :: ww, w.before args s = true) (hR : 1 + 1 ≤ R.frames ∧ 8 + (4 + 11) + 22 ≤ R.locals) : CallW R s args R_MO R_MO 224 y_MO_contents b_MO_contents 4 (none) w_MO_contents { frames := 1, cells := 0, slots := 0, locals := 22 } 0 0 0 := cwV 0 hts (gi_V mw_947 mw_949 ms_MO_contents mw_9 mw_950) rfl rfl rfl (by decide +kernel) hR
theorem k_MO_227 {R : Room} {s : State} {args : Array Value} {cd : Cond} (hts : ∀ w ∈ cd :: ww, w.before args s = true) (hR : 0 + 1 ≤ R.frames ∧ 8 + (10 + 11) + 0 ≤ R.locals) : CallW R s args R_MO R_MO 227 y_MO_tell b_MO_tell 10 (none) w_MO_tell { frames := 0, cells := 0, slots := 0, locals := 0 } 0 0 5 := cwV 5 hts (gi_V mw_956 mw_958 ms_MO_tell mw_9 mw_959) rfl rfl rfl (by decide +kernel) hR
theorem k_MO_231 {R : Room} {s : State} {args : Array Value} {cd : Cond} (hts : ∀ w ∈ cd :: ww, w.before args s = true) (hR : 2 + 1 ≤ R.frames ∧ 8 + (5 + 11) + 45 ≤ R.locals) : CallW R s args R_MO R_MO 231 y_MO_fire b_MO_fire 5 (none) w_MO_fire { frames := 2, cells := 0, slots := 0, locals := 45 } 0 0 2 := cwV 2 hts (gi_V mw_943 mw_945 ms_MO_fire mw_9 mw_946) rfl rfl rfl (by decide +kernel) hR
theorem k_MO_241 {R : Room} {s : State} {args : Array Value} {cd : Cond} (hts : ∀ w ∈ cd :: ww, w.before args s = true) (hR : 1 + 1 ≤ R.frames ∧ 8 + (7 + 11) + 26 ≤ R.locals) : CallW R s args R_MO R_MO 241 y_MO_counted b_MO_counted 7 (some .int) w_MO_counted { frames := 1, cells := 0, slots := 0, locals := 26 } 0 0 3 := cwV 3 hts (gi_V mw_895 mw_897 ms_MO_counted mw_9 mw_898) rfl rfl rfl (by decide +kernel) hR
theorem k_MO_245 {R : Room} {s : State} {args : Array Value} {cd : Cond} (hts : ∀ w ∈ cd :: ww, w.before args s = true) (hR : 4 + 1 ≤ R.frames ∧ 8 + (13 + 11) + 98 ≤ R.locals) : CallW R s args R_MO R_MO 245 y_MO_wantFor b_MO_wantFor 13 (none) w_MO_wantFor { frames := 4, cells := 0, slots := 0, locals := 98 } 0 0 2 := cwV 2 hts (gi_V mw_907 mw_909 ms_MO_wantFor mw_9 mw_910) rfl rfl rfl (by decide +kernel) hR
theorem k_MO_248 {R : Room} {s : State} {args : Array Value} {cd : Cond} (hts : ∀ w ∈ cd :: ww, w.before args s = true) (hR : 4 + 1 ≤ R.frames ∧ 8 + (14 + 11) + 91 ≤ R.locals) : CallW R s args R_MO R_MO 248 y_MO_gap b_MO_gap 14 (some .int) w_MO_gap { frames := 4, cells := 0, slots := 0, locals := 91 } 0 0 3 := cwV 3 hts (gi_V mw_927 mw_929 ms_MO_gap mw_9 mw_930) rfl rfl rfl (by decide +kernel) hR
theorem k_MO_251 {R : Room} {s : State} {args : Array Value} {cd : Cond} (hts : ∀ w ∈ cd :: ww, w.before args s = true) (hR : 4 + 1 ≤ R.frames ∧ 8 + (11 + 11) + 91 ≤ R.locals) : CallW R s args R_MO R_MO 251 y_MO_plain b_MO_plain 11 (some .int) w_MO_plain { frames := 4, cells := 0, slots := 0, locals := 91 } 0 0 3 := cwV 3 hts (gi_V mw_960 mw_962 ms_MO_plain mw_9 mw_963) rfl rfl rfl (by decide +kernel) hR
theorem k_MO_257 {R : Room} {s : State} {args : Array Value} {cd : Cond} (hts : ∀ w ∈ cd :: ww, w.before args s = true) (hR : 0 + 1 ≤ R.frames ∧ 8 + (1 + 11) + 0 ≤ R.locals) : CallW R s args R_MO R_MO 257 y_MO_drop b_MO_drop 1 (some .int) w_MO_drop { frames := 0, cells := 0, slots := 0, locals := 0 } 0 0 0 := cwV 0 hts (gi_V mw_899 mw_901 ms_MO_drop mw_9 mw_902) rfl rfl rfl (by decide +kernel) hR
theorem k_MO_261 {R : Room} {s : State} {args : Array Value} {cd : Cond} (hts : ∀ w ∈ cd :: ww, w.before args s = true) (hR : 0 + 1 ≤ R.frames ∧ 8 + (7 + 11) + 0 ≤ R.locals) : CallW R s args R_MO R_MO 261 y_MO_newRow b_MO_newRow 7 (some .int) w_MO_newRow { frames := 0, cells := 0, slots := 0, locals := 0 } 0 0 3 := cwV 3 hts (gi_V mw_903 mw_905 ms_MO_newRow mw_9 mw_906) rfl rfl rfl (by decide +kernel) hR
theorem k_MO_264 {R : Room} {s : State} {args : Array Value} {cd : Cond} (hts : ∀ w ∈ cd :: ww, w.before args s = true) (hR : 0 + 1 ≤ R.frames ∧ 8 + (7 + 11) + 0 ≤ R.locals) : CallW R s args R_MO R_MO 264 y_MO_spanAt b_MO_spanAt 7 (some .int) w_MO_spanAt { frames := 0, cells := 0, slots := 0, locals := 0 } 0 0 3 := cwV 3 hts (gi_V mw_964 mw_966 ms_MO_spanAt mw_9 mw_967) rfl rfl rfl (by decide +kernel) hR
theorem k_MO_267 {R : Room} {s : State} {args : Array Value} {cd : Cond} (hts : ∀ w ∈ cd :: ww, w.before args s = true) (hR : 0 + 1 ≤ R.frames ∧ 8 + (8 + 11) + 0 ≤ R.locals) : CallW R s args R_MO R_MO 267 y_MO_newSpan b_MO_newSpan 8 (some .int) w_MO_newSpan { frames := 0, cells := 0, slots := 0, locals := 0 } 0 0 3 := cwV 3 hts (gi_V mw_935 mw_937 ms_MO_newSpan mw_9 mw_938) rfl rfl rfl (by decide +kernel) hR
theorem k_MO_270 {R : Room} {s : State} {args : Array Value} {cd : Cond} (hts : ∀ w ∈ cd :: ww, w.before args s = true) (hR : 3 + 1 ≤ R.frames ∧ 8 + (3 + 11) + 69 ≤ R.locals) : CallW R s args R_MO R_MO 270 y_MO_putInto b_MO_putInto 3 (none) w_MO_putInto { frames := 3, cells := 0, slots := 0, locals := 69 } 0 0 2 := cwV 2 hts (gi_V mw_939 mw_941 ms_MO_putInto mw_9 mw_942) rfl rfl rfl (by decide +kernel) hR
theorem k_MO_273 {R : Room} {s : State} {args : Array Value} {cd : Cond} (hts : ∀ w ∈ cd :: ww, w.before args s = true) (hR : 0 + 1 ≤ R.frames ∧ 8 + (6 + 11) + 0 ≤ R.locals) : CallW R s args R_MO R_MO 273 y_MO_join b_MO_join 6 (none) w_MO_join { frames := 0, cells := 0, slots := 0, locals := 0 } 0 0 2 := cwV 2 hts (gi_V mw_931 mw_933 ms_MO_join mw_9 mw_934) rfl rfl rfl (by decide +kernel) hR
theorem k_MO_278 {R : Room} {s : State} {args : Array Value} {cd : Cond} (hts : ∀ w ∈ cd :: ww, w.before args s = true) (hR : 2 + 1 ≤ R.frames ∧ 8 + (6 + 11) + 45 ≤ R.locals) : CallW R s args R_MO R_MO 278 y_MO_countedMark b_MO_countedMark 6 (some .int) w_MO_countedMark { frames := 2, cells := 0, slots := 0, locals := 45 } 0 0 0 := cwV 0 hts (gi_V mw_973 mw_975 ms_MO_countedMark mw_9 mw_976) rfl rfl rfl (by decide +kernel) hR
theorem k_MO_281 {R : Room} {s : State} {args : Array Value} {cd : Cond} (hts : ∀ w ∈ cd :: ww, w.before args s = true) (hR : 0 + 1 ≤ R.frames ∧ 8 + (3 + 11) + 0 ≤ R.locals) : CallW R s args R_MO R_MO 281 y_MO_isFirst b_MO_isFirst 3 (some .boolean) w_MO_isFirst { frames := 0, cells := 0, slots := 0, locals := 0 } 0 0 2 := cwV 2 hts (gi_V mw_981 mw_983 ms_MO_isFirst mw_9 mw_984) rfl rfl rfl (by decide +kernel) hR
theorem k_MO_284 {R : Room} {s : State} {args : Array Value} {cd : Cond} (hts : ∀ w ∈ cd :: ww, w.before args s = true) (hR : 0 + 1 ≤ R.frames ∧ 8 + (5 + 11) + 0 ≤ R.locals) : CallW R s args R_MO R_MO 284 y_MO_isWanted b_MO_isWanted 5 (some .boolean) w_MO_isWanted { frames := 0, cells := 0, slots := 0, locals := 0 } 0 0 2 := cwV 2 hts (gi_V mw_977 mw_979 ms_MO_isWanted mw_9 mw_980) rfl rfl rfl (by decide +kernel) hR
theorem k_SR_112 {R : Room} {s : State} {args : Array Value} {cd : Cond} (hts : ∀ w ∈ cd :: ww, w.before args s = true) (hR : 1 + 1 ≤ R.frames ∧ 8 + (4 + 11) + 24 ≤ R.locals) : CallW R s args R_SR R_FB 112 y_FB_add b_FB_add 4 (some .int) w_FB_add { frames := 1, cells := 0, slots := 0, locals := 24 } 0 0 2 := cwV 2 hts (gi_V mw_306 mw_307 mw_308 mw_2 mw_309) rfl rfl rfl (by decide +kernel) hR
theorem k_SR_116 {R : Room} {s : State} {args : Array Value} {cd : Cond} (hts : ∀ w ∈ cd :: ww, w.before args s = true) (hR : 1 + 1 ≤ R.frames ∧ 8 + (1 + 11) + 25 ≤ R.locals) : CallB R s args R_SR 116 y_SR_isKey b_SR_isKey 1 (some .boolean) w_SR_isKey { frames := 1, cells := 0, slots := 0, locals := 25 } 0 0 1 ∧ (Cond.static y_SR_isKey).before args s = true := va_cwS 1 hts (gi_S mw_438 mw_439 mw_1 mw_440) rfl rfl rfl (by decide +kernel) hR
theorem k_SR_147 {R : Room} {s : State} {args : Array Value} {cd : Cond} (hts : ∀ w ∈ cd :: ww, w.before args s = true) (hR : 4 + 1 ≤ R.frames ∧ 8 + (4 + 11) + 95 ≤ R.locals) : CallW R s args R_SR R_SR 147 y_SR_endCounted b_SR_endCounted 4 (some .int) w_SR_endCounted { frames := 4, cells := 0, slots := 0, locals := 95 } 0 0 0 := cwV 0 hts (gi_V mw_319 mw_321 ms_SR_endCounted mw_1 mw_322) rfl rfl rfl (by decide +kernel) hR
theorem k_SR_151 {R : Room} {s : State} {args : Array Value} {cd : Cond} (hts : ∀ w ∈ cd :: ww, w.before args s = true) (hR : 4 + 1 ≤ R.frames ∧ 8 + (4 + 11) + 92 ≤ R.locals) : CallW R s args R_SR R_SR 151 y_SR_endSpans b_SR_endSpans 4 (some .int) w_SR_endSpans { frames := 4, cells := 0, slots := 0, locals := 92 } 0 0 0 := cwV 0 hts (gi_V mw_376 mw_378 ms_SR_endSpans mw_1 mw_379) rfl rfl rfl (by decide +kernel) hR
theorem k_SR_161 {R : Room} {s : State} {args : Array Value} {cd : Cond} (hts : ∀ w ∈ cd :: ww, w.before args s = true) (hR : 1 + 1 ≤ R.frames ∧ 8 + (1 + 11) + 24 ≤ R.locals) : CallW R s args R_SR R_FS 161 y_FS_kept b_FS_kept 1 (some .int) w_FS_kept { frames := 1, cells := 0, slots := 0, locals := 24 } 0 0 0 := cwV 0 hts (gi_V mw_415 mw_416 mw_417 mw_6 mw_418) rfl rfl rfl (by decide +kernel) hR
theorem k_SR_175 {R : Room} {s : State} {args : Array Value} {cd : Cond} (hts : ∀ w ∈ cd :: ww, w.before args s = true) (hR : 2 + 1 ≤ R.frames ∧ 8 + (3 + 11) + 44 ≤ R.locals) : CallW R s args R_SR R_FS 175 y_FS_cell b_FS_cell 3 (some .long) w_FS_cell { frames := 2, cells := 0, slots := 0, locals := 44 } 0 0 2 := cwV 2 hts (gi_V mw_429 mw_430 mw_431 mw_6 mw_432) rfl rfl rfl (by decide +kernel) hR
theorem k_SR_183 {R : Room} {s : State} {args : Array Value} {cd : Cond} (hts : ∀ w ∈ cd :: ww, w.before args s = true) (hR : 0 + 1 ≤ R.frames ∧ 8 + (4 + 11) + 0 ≤ R.locals) : CallW R s args R_SR R_SS 183 y_SS_ofKey b_SS_ofKey 4 (some .int) w_SS_ofKey { frames := 0, cells := 0, slots := 0, locals := 0 } 0 0 1 := cwV 1 hts (gi_V mw_442 mw_443 mw_444 mw_4 mw_445) rfl rfl rfl (by decide +kernel) hR
theorem k_SR_187 {R : Room} {s : State} {args : Array Value} {cd : Cond} (hts : ∀ w ∈ cd :: ww, w.before args s = true) (hR : 0 + 1 ≤ R.frames ∧ 8 + (6 + 11) + 0 ≤ R.locals) : CallW R s args R_SR R_SS 187 y_SS_nthOfKey b_SS_nthOfKey 6 (some .int) w_SS_nthOfKey { frames := 0, cells := 0, slots := 0, locals := 0 } 0 0 2 := cwV 2 hts (gi_V mw_450 mw_451 mw_452 mw_4 mw_453) rfl rfl rfl (by decide +kernel) hR
theorem k_SR_201 {R : Room} {s : State} {args : Array Value} {cd : Cond} (hts : ∀ w ∈ cd :: ww, w.before args s = true) (hR : 2 + 1 ≤ R.frames ∧ 8 + (5 + 11) + 46 ≤ R.locals) : CallW R s args R_SR R_SR 201 y_SR_gather b_SR_gather 5 (none) w_SR_gather { frames := 2, cells := 0, slots := 0, locals := 46 } 0 0 2 := cwV 2 hts (gi_V mw_388 mw_390 ms_SR_gather mw_1 mw_391) rfl rfl rfl (by decide +kernel) hR
theorem k_SR_205 {R : Room} {s : State} {args : Array Value} {cd : Cond} (hts : ∀ w ∈ cd :: ww, w.before args s = true) (hR : 0 + 1 ≤ R.frames ∧ 8 + (2 + 11) + 0 ≤ R.locals) : CallW R s args R_SR R_CO 205 y_CO_part b_CO_part 2 (some .long) w_CO_part { frames := 0, cells := 0, slots := 0, locals := 0 } 0 0 1 := cwV 1 hts (gi_V mw_454 mw_359 mw_360 mw_7 mw_361) rfl rfl rfl (by decide +kernel) hR
theorem k_SR_219 {R : Room} {s : State} {args : Array Value} {cd : Cond} (hts : ∀ w ∈ cd :: ww, w.before args s = true) (hR : 1 + 1 ≤ R.frames ∧ 8 + (10 + 11) + 25 ≤ R.locals) : CallB R s args R_SR 219 y_CA_firstDay b_CA_firstDay 10 (some .long) w_CA_firstDay { frames := 1, cells := 0, slots := 0, locals := 25 } 0 0 1 ∧ (Cond.static y_CA_firstDay).before args s = true := va_cwS 1 hts (gi_S mw_461 mw_462 mw_15 mw_463) rfl rfl rfl (by decide +kernel) hR
theorem k_SR_228 {R : Room} {s : State} {args : Array Value} {cd : Cond} (hts : ∀ w ∈ cd :: ww, w.before args s = true) (hR : 0 + 1 ≤ R.frames ∧ 8 + (6 + 11) + 0 ≤ R.locals) : CallB R s args R_SR 228 y_MA_floorDiv b_MA_floorDiv 6 (some .long) w_MA_floorDiv { frames := 0, cells := 0, slots := 0, locals := 0 } 0 0 2 ∧ (Cond.static y_MA_floorDiv).before args s = true := va_cwS 2 hts (gi_S mw_369 mw_370 mw_14 mw_371) rfl rfl rfl (by decide +kernel) hR
theorem k_SR_234 {R : Room} {s : State} {args : Array Value} {cd : Cond} (hts : ∀ w ∈ cd :: ww, w.before args s = true) (hR : 0 + 1 ≤ R.frames ∧ 8 + (1 + 11) + 0 ≤ R.locals) : CallW R s args R_SR R_SR 234 y_SR_dropLate b_SR_dropLate 1 (some .int) w_SR_dropLate { frames := 0, cells := 0, slots := 0, locals := 0 } 0 0 0 := cwV 0 hts (gi_V mw_560 mw_562 ms_SR_dropLate mw_1 mw_563) rfl rfl rfl (by decide +kernel) hR
theorem k_SR_237 {R : Room} {s : State} {args : Array Value} {cd : Cond} (hts : ∀ w ∈ cd :: ww, w.before args s = true) (hR : 0 + 1 ≤ R.frames ∧ 8 + (1 + 11) + 0 ≤ R.locals) : CallW R s args R_SR R_RS 237 y_RS_isFull b_RS_isFull 1 (some .boolean) w_RS_isFull { frames := 0, cells := 0, slots := 0, locals := 0 } 0 0 0 := cwV 0 hts (gi_V mw_564 mw_565 mw_566 mw_3 mw_567) rfl rfl rfl (by decide +kernel) hR
theorem k_SR_241 {R : Room} {s : State} {args : Array Value} {cd : Cond} (hts : ∀ w ∈ cd :: ww, w.before args s = true) (hR : 0 + 1 ≤ R.frames ∧ 8 + (8 + 11) + 0 ≤ R.locals) : CallW R s args R_SR R_RS 241 y_RS_add b_RS_add 8 (some .int) w_RS_add { frames := 0, cells := 0, slots := 0, locals := 0 } 0 0 3 := cwV 3 hts (gi_V mw_568 mw_569 mw_570 mw_3 mw_571) rfl rfl rfl (by decide +kernel) hR
theorem k_SR_246 {R : Room} {s : State} {args : Array Value} {cd : Cond} (hts : ∀ w ∈ cd :: ww, w.before args s = true) (hR : 1 + 1 ≤ R.frames ∧ 8 + (10 + 11) + 26 ≤ R.locals) : CallW R s args R_SR R_SS 246 y_SS_joinedEnd b_SS_joinedEnd 10 (some .long) w_SS_joinedEnd { frames := 1, cells := 0, slots := 0, locals := 26 } 0 0 3 := cwV 3 hts (gi_V mw_576 mw_577 mw_578 mw_4 mw_579) rfl rfl rfl (by decide +kernel) hR
theorem k_SR_250 {R : Room} {s : State} {args : Array Value} {cd : Cond} (hts : ∀ w ∈ cd :: ww, w.before args s = true) (hR : 0 + 1 ≤ R.frames ∧ 8 + (3 + 11) + 0 ≤ R.locals) : CallW R s args R_SR R_SR 250 y_SR_isGone b_SR_isGone 3 (some .boolean) w_SR_isGone { frames := 0, cells := 0, slots := 0, locals := 0 } 0 0 1 := cwV 1 hts (gi_V mw_585 mw_587 ms_SR_isGone mw_1 mw_588) rfl rfl rfl (by decide +kernel) hR
theorem k_SR_254 {R : Room} {s : State} {args : Array Value} {cd : Cond} (hts : ∀ w ∈ cd :: ww, w.before args s = true) (hR : 1 + 1 ≤ R.frames ∧ 8 + (8 + 11) + 26 ≤ R.locals) : CallW R s args R_SR R_SS 254 y_SS_sharing b_SS_sharing 8 (some .int) w_SS_sharing { frames := 1, cells := 0, slots := 0, locals := 26 } 0 0 3 := cwV 3 hts (gi_V mw_589 mw_590 mw_591 mw_4 mw_592) rfl rfl rfl (by decide +kernel) hR
theorem k_SR_257 {R : Room} {s : State} {args : Array Value} {cd : Cond} (hts : ∀ w ∈ cd :: ww, w.before args s = true) (hR : 2 + 1 ≤ R.frames ∧ 8 + (9 + 11) + 49 ≤ R.locals) : CallW R s args R_SR R_SS 257 y_SS_join b_SS_join 9 (some .int) w_SS_join { frames := 2, cells := 0, slots := 0, locals := 49 } 0 0 3 := cwV 3 hts (gi_V mw_593 mw_594 mw_595 mw_4 mw_596) rfl rfl rfl (by decide +kernel) hR
theorem k_SR_264 {R : Room} {s : State} {args : Array Value} {cd : Cond} (hts : ∀ w ∈ cd :: ww, w.before args s = true) (hR : 4 + 1 ≤ R.frames ∧ 8 + (3 + 11) + 92 ≤ R.locals) : CallW R s args R_SR R_SR 264 y_SR_putAndFire b_SR_putAndFire 3 (none) w_SR_putAndFire { frames := 4, cells := 0, slots := 0, locals := 92 } 0 0 2 := cwV 2 hts (gi_V mw_613 mw_615 ms_SR_putAndFire mw_1 mw_616) rfl rfl rfl (by decide +kernel) hR
theorem k_SR_268 {R : Room} {s : State} {args : Array Value} {cd : Cond} (hts : ∀ w ∈ cd :: ww, w.before args s = true) (hR : 4 + 1 ≤ R.frames ∧ 8 + (5 + 11) + 102 ≤ R.locals) : CallW R s args R_SR R_LA 268 y_LA_seek b_LA_seek 5 (none) w_LA_seek { frames := 4, cells := 0, slots := 0, locals := 102 } 0 0 2 := cwV 2 hts (gi_V mw_625 mw_626 mw_627 mw_8 mw_628) rfl rfl rfl (by decide +kernel) hR
theorem k_SR_272 {R : Room} {s : State} {args : Array Value} {cd : Cond} (hts : ∀ w ∈ cd :: ww, w.before args s = true) (hR : 0 + 1 ≤ R.frames ∧ 8 + (5 + 11) + 0 ≤ R.locals) : CallW R s args R_SR R_LA 272 y_LA_keepEndsAbove b_LA_keepEndsAbove 5 (none) w_LA_keepEndsAbove { frames := 0, cells := 0, slots := 0, locals := 0 } 0 0 1 := cwV 1 hts (gi_V mw_667 mw_668 mw_669 mw_8 mw_670) rfl rfl rfl (by decide +kernel) hR
theorem k_SR_279 {R : Room} {s : State} {args : Array Value} {cd : Cond} (hts : ∀ w ∈ cd :: ww, w.before args s = true) (hR : 1 + 1 ≤ R.frames ∧ 8 + (4 + 11) + 27 ≤ R.locals) : CallW R s args R_SR R_SR 279 y_SR_newOnes b_SR_newOnes 4 (some .int) w_SR_newOnes { frames := 1, cells := 0, slots := 0, locals := 27 } 0 0 1 := cwV 1 hts (gi_V mw_671 mw_673 ms_SR_newOnes mw_1 mw_674) rfl rfl rfl (by decide +kernel) hR
theorem k_SR_284 {R : Room} {s : State} {args : Array Value} {cd : Cond} (hts : ∀ w ∈ cd :: ww, w.before args s = true) (hR : 0 + 1 ≤ R.frames ∧ 8 + (8 + 11) + 0 ≤ R.locals) : CallW R s args R_SR R_SS 284 y_SS_find b_SS_find 8 (some .int) w_SS_find { frames := 0, cells := 0, slots := 0, locals := 0 } 0 0 3 := cwV 3 hts (gi_V mw_675 mw_676 mw_677 mw_4 mw_678) rfl rfl rfl (by decide +kernel) hR
theorem k_SR_287 {R : Room} {s : State} {args : Array Value} {cd : Cond} (hts : ∀ w ∈ cd :: ww, w.before args s = true) (hR : 1 + 1 ≤ R.frames ∧ 8 + (8 + 11) + 22 ≤ R.locals) : CallW R s args R_SR R_SS 287 y_SS_add b_SS_add 8 (some .int) w_SS_add { frames := 1, cells := 0, slots := 0, locals := 22 } 0 0 3 := cwV 3 hts (gi_V mw_679 mw_605 mw_606 mw_4 mw_607) rfl rfl rfl (by decide +kernel) hR
theorem k_SR_288 {R : Room} {s : State} {args : Array Value} {cd : Cond} (hts : ∀ w ∈ cd :: ww, w.before args s = true) (hR : 0 + 1 ≤ R.frames ∧ 8 + (4 + 11) + 0 ≤ R.locals) : CallW R s args R_SR R_SS 288 y_SS_put b_SS_put 4 (none) w_SS_put { frames := 0, cells := 0, slots := 0, locals := 0 } 0 0 2 := cwV 2 hts (gi_V mw_617 mw_618 mw_619 mw_4 mw_620) rfl rfl rfl (by decide +kernel) hR
theorem k_SR_291 {R : Room} {s : State} {args : Array Value} {cd : Cond} (hts : ∀ w ∈ cd :: ww, w.before args s = true) (hR : 3 + 1 ≤ R.frames ∧ 8 + (3 + 11) + 70 ≤ R.locals) : CallW R s args R_SR R_SR 291 y_SR_fire b_SR_fire 3 (none) w_SR_fire { frames := 3, cells := 0, slots := 0, locals := 70 } 0 0 2 := cwV 2 hts (gi_V mw_384 mw_386 ms_SR_fire mw_1 mw_387) rfl rfl rfl (by decide +kernel) hR
theorem k_SR_297 {R : Room} {s : State} {args : Array Value} {cd : Cond} (hts : ∀ w ∈ cd :: ww, w.before args s = true) (hR : 0 + 1 ≤ R.frames ∧ 8 + (4 + 11) + 0 ≤ R.locals) : CallW R s args R_SR R_SS 297 y_SS_noteFired b_SS_noteFired 4 (none) w_SS_noteFired { frames := 0, cells := 0, slots := 0, locals := 0 } 0 0 2 := cwV 2 hts (gi_V mw_395 mw_396 mw_397 mw_4 mw_398) rfl rfl rfl (by decide +kernel) hR
theorem k_SR_303 {R : Room} {s : State} {args : Array Value} {cd : Cond} (hts : ∀ w ∈ cd :: ww, w.before args s = true) (hR : 1 + 1 ≤ R.frames ∧ 8 + (11 + 11) + 21 ≤ R.locals) : CallW R s args R_SR R_FS 303 y_FS_add b_FS_add 11 (none) w_FS_add { frames := 1, cells := 0, slots := 0, locals := 21 } 0 0 6 := cwV 6 hts (gi_V mw_354 mw_355 mw_356 mw_6 mw_357) rfl rfl rfl (by decide +kernel) hR
theorem k_SR_306 {R : Room} {s : State} {args : Array Value} {cd : Cond} (hts : ∀ w ∈ cd :: ww, w.before args s = true) (hR : 0 + 1 ≤ R.frames ∧ 8 + (1 + 11) + 0 ≤ R.locals) : CallW R s args R_SR R_CO 306 y_CO_clear b_CO_clear 1 (none) w_CO_clear { frames := 0, cells := 0, slots := 0, locals := 0 } 0 0 0 := cwV 0 hts (gi_V mw_339 mw_340 mw_341 mw_7 mw_342) rfl rfl rfl (by decide +kernel) hR
theorem k_SR_312 {R : Room} {s : State} {args : Array Value} {cd : Cond} (hts : ∀ w ∈ cd :: ww, w.before args s = true) (hR : 0 + 1 ≤ R.frames ∧ 8 + (3 + 11) + 0 ≤ R.locals) : CallB R s args R_SR 312 y_SS_isIn b_SS_isIn 3 (some .boolean) w_SS_isIn { frames := 0, cells := 0, slots := 0, locals := 0 } 0 0 3 ∧ (Cond.static y_SS_isIn).before args s = true := va_cwS 3 hts (gi_S mw_392 mw_393 mw_4 mw_394) rfl rfl rfl (by decide +kernel) hR
theorem k_SR_319 {R : Room} {s : State} {args : Array Value} {cd : Cond} (hts : ∀ w ∈ cd :: ww, w.before args s = true) (hR : 1 + 1 ≤ R.frames ∧ 8 + (3 + 11) + 24 ≤ R.locals) : CallW R s args R_SR R_CO 319 y_CO_add b_CO_add 3 (none) w_CO_add { frames := 1, cells := 0, slots := 0, locals := 24 } 0 0 1 := cwV 1 hts (gi_V mw_343 mw_344 mw_345 mw_7 mw_346) rfl rfl rfl (by decide +kernel) hR
theorem k_SR_321 {R : Room} {s : State} {args : Array Value} {cd : Cond} (hts : ∀ w ∈ cd :: ww, w.before args s = true) (hR : 0 + 1 ≤ R.frames ∧ 8 + (7 + 11) + 0 ≤ R.locals) : CallW R s args R_SR R_SS 321 y_SS_seekDue b_SS_seekDue 7 (some .int) w_SS_seekDue { frames := 0, cells := 0, slots := 0, locals := 0 } 0 0 1 := cwV 1 hts (gi_V mw_380 mw_381 mw_382 mw_4 mw_383) rfl rfl rfl (by decide +kernel) hR
theorem k_SR_328 {R : Room} {s : State} {args : Array Value} {cd : Cond} (hts : ∀ w ∈ cd :: ww, w.before args s = true) (hR : 1 + 1 ≤ R.frames ∧ 8 + (5 + 11) + 23 ≤ R.locals) : CallW R s args R_SR R_SS 328 y_SS_dropEndsUpTo b_SS_dropEndsUpTo 5 (none) w_SS_dropEndsUpTo { frames := 1, cells := 0, slots := 0, locals := 23 } 0 0 1 := cwV 1 hts (gi_V mw_399 mw_400 mw_401 mw_4 mw_402) rfl rfl rfl (by decide +kernel) hR
theorem k_SR_331 {R : Room} {s : State} {args : Array Value} {cd : Cond} (hts : ∀ w ∈ cd :: ww, w.before args s = true) (hR : 0 + 1 ≤ R.frames ∧ 8 + (3 + 11) + 0 ≤ R.locals) : CallW R s args R_SR R_SS 331 y_SS_uniteRows b_SS_uniteRows 3 (none) w_SS_uniteRows { frames := 0, cells := 0, slots := 0, locals := 0 } 0 0 0 := cwV 0 hts (gi_V mw_407 mw_408 mw_409 mw_4 mw_410) rfl rfl rfl (by decide +kernel) hR
theorem k_SR_340 {R : Room} {s : State} {args : Array Value} {cd : Cond} (hts : ∀ w ∈ cd :: ww, w.before args s = true) (hR : 0 + 1 ≤ R.frames ∧ 8 + (4 + 11) + 0 ≤ R.locals) : CallW R s args R_SR R_RS 340 y_RS_sweep b_RS_sweep 4 (none) w_RS_sweep { frames := 0, cells := 0, slots := 0, locals := 0 } 0 0 0 := cwV 0 hts (gi_V mw_372 mw_373 mw_374 mw_3 mw_375) rfl rfl rfl (by decide +kernel) hR
theorem k_SR_343 {R : Room} {s : State} {args : Array Value} {cd : Cond} (hts : ∀ w ∈ cd :: ww, w.before args s = true) (hR : 1 + 1 ≤ R.frames ∧ 8 + (3 + 11) + 21 ≤ R.locals) : CallW R s args R_SR R_SR 343 y_SR_numberRows b_SR_numberRows 3 (none) w_SR_numberRows { frames := 1, cells := 0, slots := 0, locals := 21 } 0 0 0 := cwV 0 hts (gi_V mw_323 mw_325 ms_SR_numberRows mw_1 mw_326) rfl rfl rfl (by decide +kernel) hR
theorem k_SR_346 {R : Room} {s : State} {args : Array Value} {cd : Cond} (hts : ∀ w ∈ cd :: ww, w.before args s = true) (hR : 3 + 1 ≤ R.frames ∧ 8 + (5 + 11) + 71 ≤ R.locals) : CallW R s args R_SR R_SR 346 y_SR_fireCounted b_SR_fireCounted 5 (some .int) w_SR_fireCounted { frames := 3, cells := 0, slots := 0, locals := 71 } 0 0 1 := cwV 1 hts (gi_V mw_331 mw_333 ms_SR_fireCounted mw_1 mw_334) rfl rfl rfl (by decide +kernel) hR
theorem k_SR_349 {R : Room} {s : State} {args : Array Value} {cd : Cond} (hts : ∀ w ∈ cd :: ww, w.before args s = true) (hR : 0 + 1 ≤ R.frames ∧ 8 + (2 + 11) + 0 ≤ R.locals) : CallW R s args R_SR R_SR 349 y_SR_isNumbered b_SR_isNumbered 2 (some .boolean) w_SR_isNumbered { frames := 0, cells := 0, slots := 0, locals := 0 } 0 0 1 := cwV 1 hts (gi_V mw_327 mw_329 ms_SR_isNumbered mw_1 mw_330) rfl rfl rfl (by decide +kernel) hR
theorem k_SR_352 {R : Room} {s : State} {args : Array Value} {cd : Cond} (hts : ∀ w ∈ cd :: ww, w.before args s = true) (hR : 2 + 1 ≤ R.frames ∧ 8 + (4 + 11) + 48 ≤ R.locals) : CallW R s args R_SR R_SR 352 y_SR_isWaitedFor b_SR_isWaitedFor 4 (some .boolean) w_SR_isWaitedFor { frames := 2, cells := 0, slots := 0, locals := 48 } 0 0 1 := cwV 1 hts (gi_V mw_362 mw_364 ms_SR_isWaitedFor mw_1 mw_365) rfl rfl rfl (by decide +kernel) hR
theorem k_SR_361 {R : Room} {s : State} {args : Array Value} {cd : Cond} (hts : ∀ w ∈ cd :: ww, w.before args s = true) (hR : 1 + 1 ≤ R.frames ∧ 8 + (4 + 11) + 25 ≤ R.locals) : CallB R s args R_SR 361 y_SR_by b_SR_by 4 (some .long) w_SR_by { frames := 1, cells := 0, slots := 0, locals := 25 } 0 0 2 ∧ (Cond.static y_SR_by).before args s = true := va_cwS 2 hts (gi_S mw_366 mw_367 mw_1 mw_368) rfl rfl rfl (by decide +kernel) hR
theorem k_SR_369 {R : Room} {s : State} {args : Array Value} {cd : Cond} (hts : ∀ w ∈ cd :: ww, w.before args s = true) (hR : 2 + 1 ≤ R.frames ∧ 8 + (6 + 11) + 46 ≤ R.locals) : CallW R s args R_SR R_SR 369 y_SR_gatherCounted b_SR_gatherCounted 6 (none) w_SR_gatherCounted { frames := 2, cells := 0, slots := 0, locals := 46 } 0 0 2 := cwV 2 hts (gi_V mw_335 mw_337 ms_SR_gatherCounted mw_1 mw_338) rfl rfl rfl (by decide +kernel) hR
theorem k_SR_95 {R : Room} {s : State} {args : Array Value} {cd : Cond} (hts : ∀ w ∈ cd :: ww, w.before args s = true) (hR : 0 + 1 ≤ R.frames ∧ 8 + (6 + 11) + 0 ≤ R.locals) : CallB R s args R_SR 95 y_SR_isWithin b_SR_isWithin 6 (some .boolean) w_SR_isWithin { frames := 0, cells := 0, slots := 0, locals := 0 } 0 0 3 ∧ (Cond.static y_SR_isWithin).before args s = true := va_cwS 3 hts (gi_S mw_281 mw_282 mw_1 mw_283) rfl rfl rfl (by decide +kernel) hR
theorem k_SS_51 {R : Room} {s : State} {args : Array Value} {cd : Cond} (hts : ∀ w ∈ cd :: ww, w.before args s = true) (hR : 0 + 1 ≤ R.frames ∧ 8 + (3 + 11) + 0 ≤ R.locals) : CallW R s args R_SS R_SS 51 y_SS_isBehind b_SS_isBehind 3 (some .boolean) w_SS_isBehind { frames := 0, cells := 0, slots := 0, locals := 0 } 0 0 2 := cwV 2 hts (gi_V mw_608 mw_610 ms_SS_isBehind mw_4 mw_611) rfl rfl rfl (by decide +kernel) hR
theorem k_SS_55 {R : Room} {s : State} {args : Array Value} {cd : Cond} (hts : ∀ w ∈ cd :: ww, w.before args s = true) (hR : 0 + 1 ≤ R.frames ∧ 8 + (7 + 11) + 0 ≤ R.locals) : CallW R s args R_SS R_SS 55 y_SS_shares b_SS_shares 7 (some .boolean) w_SS_shares { frames := 0, cells := 0, slots := 0, locals := 0 } 0 0 4 := cwV 4 hts (gi_V mw_580 mw_582 ms_SS_shares mw_4 mw_583) rfl rfl rfl (by decide +kernel) hR
theorem k_SS_65 {R : Room} {s : State} {args : Array Value} {cd : Cond} (hts : ∀ w ∈ cd :: ww, w.before args s = true) (hR : 1 + 1 ≤ R.frames ∧ 8 + (4 + 11) + 24 ≤ R.locals) : CallW R s args R_SS R_SS 65 y_SS_absorb b_SS_absorb 4 (none) w_SS_absorb { frames := 1, cells := 0, slots := 0, locals := 24 } 0 0 2 := cwV 2 hts (gi_V mw_597 mw_599 ms_SS_absorb mw_4 mw_600) rfl rfl rfl (by decide +kernel) hR
theorem k_SS_69 {R : Room} {s : State} {args : Array Value} {cd : Cond} (hts : ∀ w ∈ cd :: ww, w.before args s = true) (hR : 1 + 1 ≤ R.frames ∧ 8 + (8 + 11) + 22 ≤ R.locals) : CallW R s args R_SS R_SS 69 y_SS_add b_SS_add 8 (some .int) w_SS_add { frames := 1, cells := 0, slots := 0, locals := 22 } 0 0 3 := cwV 3 hts (gi_V mw_604 mw_605 mw_606 mw_4 mw_607) rfl rfl rfl (by decide +kernel) hR
theorem k_SS_76 {R : Room} {s : State} {args : Array Value} {cd : Cond} (hts : ∀ w ∈ cd :: ww, w.before args s = true) (hR : 0 + 1 ≤ R.frames ∧ 8 + (4 + 11) + 0 ≤ R.locals) : CallW R s args R_SS R_SS 76 y_SS_sweep b_SS_sweep 4 (none) w_SS_sweep { frames := 0, cells := 0, slots := 0, locals := 0 } 0 0 0 := cwV 0 hts (gi_V mw_403 mw_405 ms_SS_sweep mw_4 mw_406) rfl rfl rfl (by decide +kernel) hR
end
section
theorem d_MA_floorDiv_0 : decode b_MA_floorDiv 0 = .ok (.lload_n 0, 1) := by decide +kernel
theorem d_MA_floorDiv_1 : decode b_MA_floorDiv 1 = .ok (.lload_n 2, 1) := by decide +kernel
theorem d_MA_floorDiv_2 : decode b_MA_floorDiv 2 = .ok (.ldiv, 1) := by decide +kernel
theorem d_MA_floorDiv_3 : decode b_MA_floorDiv 3 = .ok (.lstore 4, 2) := by decide +kernel
theorem d_MA_floorDiv_5 : decode b_MA_floorDiv 5 = .ok (.lload_n 0, 1) := by decide +kernel
theorem d_MA_floorDiv_6 : decode b_MA_floorDiv 6 = .ok (.lload_n 2, 1) := by decide +kernel
theorem d_MA_floorDiv_7 : decode b_MA_floorDiv 7 = .ok (.lxor, 1) := by decide +kernel
theorem d_MA_floorDiv_8 : decode b_MA_floorDiv 8 = .ok (.lconst 0, 1) := by decide +kernel
theorem d_MA_floorDiv_9 : decode b_MA_floorDiv 9 = .ok (.lcmp, 1) := by decide +kernel
theorem d_MA_floorDiv_10 : decode b_MA_floorDiv 10 = .ok (.ifCond .ge 17, 3) := by decide +kernel
theorem d_MA_floorDiv_13 : decode b_MA_floorDiv 13 = .ok (.lload 4, 2) := by decide +kernel
theorem d_MA_floorDiv_15 : decode b_MA_floorDiv 15 = .ok (.lload_n 2, 1) := by decide +kernel
theorem d_MA_floorDiv_16 : decode b_MA_floorDiv 16 = .ok (.lmul, 1) := by decide +kernel
theorem d_MA_floorDiv_17 : decode b_MA_floorDiv 17 = .ok (.lload_n 0, 1) := by decide +kernel
theorem d_MA_floorDiv_18 : decode b_MA_floorDiv 18 = .ok (.lcmp, 1) := by decide +kernel
theorem d_MA_floorDiv_19 : decode b_MA_floorDiv 19 = .ok (.ifCond .eq 8, 3) := by decide +kernel
theorem d_MA_floorDiv_22 : decode b_MA_floorDiv 22 = .ok (.lload 4, 2) := by decide +kernel
theorem d_MA_floorDiv_24 : decode b_MA_floorDiv 24 = .ok (.lconst 1, 1) := by decide +kernel
theorem d_MA_floorDiv_25 : decode b_MA_floorDiv 25 = .ok (.lsub, 1) := by decide +kernel
theorem d_MA_floorDiv_26 : decode b_MA_floorDiv 26 = .ok (.lreturn, 1) := by decide +kernel
theorem d_MA_floorDiv_27 : decode b_MA_floorDiv 27 = .ok (.lload 4, 2) := by decide +kernel
theorem d_MA_floorDiv_29 : decode b_MA_floorDiv 29 = .ok (.lreturn, 1) := by decide +kernel
theorem d_CA_firstDay_0 : decode b_CA_firstDay 0 = .ok (.lload_n 0, 1) := by decide +kernel
theorem d_CA_firstDay_1 : decode b_CA_firstDay 1 = .ok (.ldc2_w 9, 3) := by decide +kernel
theorem d_CA_firstDay_4 : decode b_CA_firstDay 4 = .ok (.ladd, 1) := by decide +kernel
theorem d_CA_firstDay_5 : decode b_CA_firstDay 5 = .ok (.lstore_n 2, 1) := by decide +kernel
theorem d_CA_firstDay_6 : decode b_CA_firstDay 6 = .ok (.lload_n 2, 1) := by decide +kernel
theorem d_CA_firstDay_7 : decode b_CA_firstDay 7 = .ok (.ldc2_w 11, 3) := by decide +kernel
theorem d_CA_firstDay_10 : decode b_CA_firstDay 10 = .ok (.invokestatic 13, 3) := by decide +kernel
theorem d_CA_firstDay_13 : decode b_CA_firstDay 13 = .ok (.lstore 4, 2) := by decide +kernel
theorem d_CA_firstDay_15 : decode b_CA_firstDay 15 = .ok (.lload 4, 2) := by decide +kernel
theorem d_CA_firstDay_17 : decode b_CA_firstDay 17 = .ok (.ldc2_w 19, 3) := by decide +kernel
theorem d_CA_firstDay_20 : decode b_CA_firstDay 20 = .ok (.invokestatic 13, 3) := by decide +kernel
theorem d_CA_firstDay_23 : decode b_CA_firstDay 23 = .ok (.lload 4, 2) := by decide +kernel
theorem d_CA_firstDay_25 : decode b_CA_firstDay 25 = .ok (.ldc2_w 21, 3) := by decide +kernel
theorem d_CA_firstDay_28 : decode b_CA_firstDay 28 = .ok (.invokestatic 13, 3) := by decide +kernel
theorem d_CA_firstDay_31 : decode b_CA_firstDay 31 = .ok (.lsub, 1) := by decide +kernel
theorem d_CA_firstDay_32 : decode b_CA_firstDay 32 = .ok (.lload 4, 2) := by decide +kernel
theorem d_CA_firstDay_34 : decode b_CA_firstDay 34 = .ok (.ldc2_w 23, 3) := by decide +kernel
theorem d_CA_firstDay_37 : decode b_CA_firstDay 37 = .ok (.invokestatic 13, 3) := by decide +kernel
theorem d_CA_firstDay_40 : decode b_CA_firstDay 40 = .ok (.ladd, 1) := by decide +kernel
theorem d_CA_firstDay_41 : decode b_CA_firstDay 41 = .ok (.lstore 6, 2) := by decide +kernel
theorem d_CA_firstDay_43 : decode b_CA_firstDay 43 = .ok (.ldc2_w 25, 3) := by decide +kernel
theorem d_CA_firstDay_46 : decode b_CA_firstDay 46 = .ok (.lload_n 2, 1) := by decide +kernel
theorem d_CA_firstDay_47 : decode b_CA_firstDay 47 = .ok (.ldc2_w 11, 3) := by decide +kernel
theorem d_CA_firstDay_50 : decode b_CA_firstDay 50 = .ok (.lload 4, 2) := by decide +kernel
theorem d_CA_firstDay_52 : decode b_CA_firstDay 52 = .ok (.lmul, 1) := by decide +kernel
theorem d_CA_firstDay_53 : decode b_CA_firstDay 53 = .ok (.lsub, 1) := by decide +kernel
theorem d_CA_firstDay_54 : decode b_CA_firstDay 54 = .ok (.lmul, 1) := by decide +kernel
theorem d_CA_firstDay_55 : decode b_CA_firstDay 55 = .ok (.ldc2_w 27, 3) := by decide +kernel
theorem d_CA_firstDay_58 : decode b_CA_firstDay 58 = .ok (.ladd, 1) := by decide +kernel
theorem d_CA_firstDay_59 : decode b_CA_firstDay 59 = .ok (.ldc2_w 29, 3) := by decide +kernel
theorem d_CA_firstDay_62 : decode b_CA_firstDay 62 = .ok (.ldiv, 1) := by decide +kernel
theorem d_CA_firstDay_63 : decode b_CA_firstDay 63 = .ok (.lstore 8, 2) := by decide +kernel
theorem d_CA_firstDay_65 : decode b_CA_firstDay 65 = .ok (.ldc2_w 31, 3) := by decide +kernel
theorem d_CA_firstDay_68 : decode b_CA_firstDay 68 = .ok (.lload 4, 2) := by decide +kernel
theorem d_CA_firstDay_70 : decode b_CA_firstDay 70 = .ok (.lmul, 1) := by decide +kernel
theorem d_CA_firstDay_71 : decode b_CA_firstDay 71 = .ok (.lload 6, 2) := by decide +kernel
theorem d_CA_firstDay_73 : decode b_CA_firstDay 73 = .ok (.ladd, 1) := by decide +kernel
theorem d_CA_firstDay_74 : decode b_CA_firstDay 74 = .ok (.lload 8, 2) := by decide +kernel
theorem d_CA_firstDay_76 : decode b_CA_firstDay 76 = .ok (.ladd, 1) := by decide +kernel
theorem d_CA_firstDay_77 : decode b_CA_firstDay 77 = .ok (.ldc2_w 33, 3) := by decide +kernel
theorem d_CA_firstDay_80 : decode b_CA_firstDay 80 = .ok (.lsub, 1) := by decide +kernel
theorem d_CA_firstDay_81 : decode b_CA_firstDay 81 = .ok (.lreturn, 1) := by decide +kernel
theorem d_CA_monthOf_0 : decode b_CA_monthOf 0 = .ok (.lload_n 0, 1) := by decide +kernel
theorem d_CA_monthOf_1 : decode b_CA_monthOf 1 = .ok (.ldc2_w 35, 3) := by decide +kernel
theorem d_CA_monthOf_4 : decode b_CA_monthOf 4 = .ok (.lmul, 1) := by decide +kernel
theorem d_CA_monthOf_5 : decode b_CA_monthOf 5 = .ok (.ldc2_w 37, 3) := by decide +kernel
theorem d_CA_monthOf_8 : decode b_CA_monthOf 8 = .ok (.invokestatic 13, 3) := by decide +kernel
theorem d_CA_monthOf_11 : decode b_CA_monthOf 11 = .ok (.ldc2_w 27, 3) := by decide +kernel
theorem d_CA_monthOf_14 : decode b_CA_monthOf 14 = .ok (.lsub, 1) := by decide +kernel
theorem d_CA_monthOf_15 : decode b_CA_monthOf 15 = .ok (.lstore_n 2, 1) := by decide +kernel
theorem d_CA_monthOf_16 : decode b_CA_monthOf 16 = .ok (.iconst 0, 1) := by decide +kernel
theorem d_CA_monthOf_17 : decode b_CA_monthOf 17 = .ok (.istore 4, 2) := by decide +kernel
theorem d_CA_monthOf_19 : decode b_CA_monthOf 19 = .ok (.iload 4, 2) := by decide +kernel
theorem d_CA_monthOf_21 : decode b_CA_monthOf 21 = .ok (.iconst 5, 1) := by decide +kernel
theorem d_CA_monthOf_22 : decode b_CA_monthOf 22 = .ok (.if_icmp .ge 24, 3) := by decide +kernel
theorem d_CA_monthOf_25 : decode b_CA_monthOf 25 = .ok (.lload_n 2, 1) := by decide +kernel
theorem d_CA_monthOf_26 : decode b_CA_monthOf 26 = .ok (.lconst 1, 1) := by decide +kernel
theorem d_CA_monthOf_27 : decode b_CA_monthOf 27 = .ok (.ladd, 1) := by decide +kernel
theorem d_CA_monthOf_28 : decode b_CA_monthOf 28 = .ok (.invokestatic 39, 3) := by decide +kernel
theorem d_CA_monthOf_31 : decode b_CA_monthOf 31 = .ok (.lload_n 0, 1) := by decide +kernel
theorem d_CA_monthOf_32 : decode b_CA_monthOf 32 = .ok (.lcmp, 1) := by decide +kernel
theorem d_CA_monthOf_33 : decode b_CA_monthOf 33 = .ok (.ifCond .gt 13, 3) := by decide +kernel
theorem d_CA_monthOf_36 : decode b_CA_monthOf 36 = .ok (.lload_n 2, 1) := by decide +kernel
theorem d_CA_monthOf_37 : decode b_CA_monthOf 37 = .ok (.lconst 1, 1) := by decide +kernel
theorem d_CA_monthOf_38 : decode b_CA_monthOf 38 = .ok (.ladd, 1) := by decide +kernel
theorem d_CA_monthOf_39 : decode b_CA_monthOf 39 = .ok (.lstore_n 2, 1) := by decide +kernel
theorem d_CA_monthOf_40 : decode b_CA_monthOf 40 = .ok (.iinc 4 1, 3) := by decide +kernel
theorem d_CA_monthOf_43 : decode b_CA_monthOf 43 = .ok (.goto (-24), 3) := by decide +kernel
theorem d_CA_monthOf_46 : decode b_CA_monthOf 46 = .ok (.lload_n 2, 1) := by decide +kernel
theorem d_CA_monthOf_47 : decode b_CA_monthOf 47 = .ok (.lreturn, 1) := by decide +kernel
theorem d_CO_clear_0 : decode b_CO_clear 0 = .ok (.aload_n 0, 1) := by decide +kernel
theorem d_CO_clear_1 : decode b_CO_clear 1 = .ok (.iconst 0, 1) := by decide +kernel
theorem d_CO_clear_2 : decode b_CO_clear 2 = .ok (.putfield 7, 3) := by decide +kernel
theorem d_CO_clear_5 : decode b_CO_clear 5 = .ok (.aload_n 0, 1) := by decide +kernel
theorem d_CO_clear_6 : decode b_CO_clear 6 = .ok (.lconst 0, 1) := by decide +kernel
theorem d_CO_clear_7 : decode b_CO_clear 7 = .ok (.putfield 13, 3) := by decide +kernel
theorem d_CO_clear_10 : decode b_CO_clear 10 = .ok (.aload_n 0, 1) := by decide +kernel
theorem d_CO_clear_11 : decode b_CO_clear 11 = .ok (.lconst 0, 1) := by decide +kernel
theorem d_CO_clear_12 : decode b_CO_clear 12 = .ok (.putfield 17, 3) := by decide +kernel
theorem d_CO_clear_15 : decode b_CO_clear 15 = .ok (.aload_n 0, 1) := by decide +kernel
theorem d_CO_clear_16 : decode b_CO_clear 16 = .ok (.lconst 0, 1) := by decide +kernel
theorem d_CO_clear_17 : decode b_CO_clear 17 = .ok (.putfield 20, 3) := by decide +kernel
theorem d_CO_clear_20 : decode b_CO_clear 20 = .ok (.aload_n 0, 1) := by decide +kernel
theorem d_CO_clear_21 : decode b_CO_clear 21 = .ok (.lconst 0, 1) := by decide +kernel
theorem d_CO_clear_22 : decode b_CO_clear 22 = .ok (.putfield 23, 3) := by decide +kernel
theorem d_CO_clear_25 : decode b_CO_clear 25 = .ok (.return_, 1) := by decide +kernel
theorem d_CO_add_0 : decode b_CO_add 0 = .ok (.aload_n 0, 1) := by decide +kernel
theorem d_CO_add_1 : decode b_CO_add 1 = .ok (.aload_n 0, 1) := by decide +kernel
theorem d_CO_add_2 : decode b_CO_add 2 = .ok (.getfield 7, 3) := by decide +kernel
theorem d_CO_add_5 : decode b_CO_add 5 = .ok (.ifCond .ne 7, 3) := by decide +kernel
theorem d_CO_add_8 : decode b_CO_add 8 = .ok (.lload_n 1, 1) := by decide +kernel
theorem d_CO_add_9 : decode b_CO_add 9 = .ok (.goto 11, 3) := by decide +kernel
theorem d_CO_add_12 : decode b_CO_add 12 = .ok (.aload_n 0, 1) := by decide +kernel
theorem d_CO_add_13 : decode b_CO_add 13 = .ok (.getfield 17, 3) := by decide +kernel
theorem d_CO_add_16 : decode b_CO_add 16 = .ok (.lload_n 1, 1) := by decide +kernel
theorem d_CO_add_17 : decode b_CO_add 17 = .ok (.invokestatic 26, 3) := by decide +kernel
theorem d_CO_add_20 : decode b_CO_add 20 = .ok (.putfield 17, 3) := by decide +kernel
theorem d_CO_add_23 : decode b_CO_add 23 = .ok (.aload_n 0, 1) := by decide +kernel
theorem d_CO_add_24 : decode b_CO_add 24 = .ok (.aload_n 0, 1) := by decide +kernel
theorem d_CO_add_25 : decode b_CO_add 25 = .ok (.getfield 7, 3) := by decide +kernel
theorem d_CO_add_28 : decode b_CO_add 28 = .ok (.ifCond .ne 7, 3) := by decide +kernel
theorem d_CO_add_31 : decode b_CO_add 31 = .ok (.lload_n 1, 1) := by decide +kernel
theorem d_CO_add_32 : decode b_CO_add 32 = .ok (.goto 11, 3) := by decide +kernel
theorem d_CO_add_35 : decode b_CO_add 35 = .ok (.aload_n 0, 1) := by decide +kernel
theorem d_CO_add_36 : decode b_CO_add 36 = .ok (.getfield 20, 3) := by decide +kernel
theorem d_CO_add_39 : decode b_CO_add 39 = .ok (.lload_n 1, 1) := by decide +kernel
theorem d_CO_add_40 : decode b_CO_add 40 = .ok (.invokestatic 32, 3) := by decide +kernel
theorem d_CO_add_43 : decode b_CO_add 43 = .ok (.putfield 20, 3) := by decide +kernel
theorem d_CO_add_46 : decode b_CO_add 46 = .ok (.aload_n 0, 1) := by decide +kernel
theorem d_CO_add_47 : decode b_CO_add 47 = .ok (.dup, 1) := by decide +kernel
theorem d_CO_add_48 : decode b_CO_add 48 = .ok (.getfield 7, 3) := by decide +kernel
theorem d_CO_add_51 : decode b_CO_add 51 = .ok (.iconst 1, 1) := by decide +kernel
theorem d_CO_add_52 : decode b_CO_add 52 = .ok (.iadd, 1) := by decide +kernel
theorem d_CO_add_53 : decode b_CO_add 53 = .ok (.putfield 7, 3) := by decide +kernel
theorem d_CO_add_56 : decode b_CO_add 56 = .ok (.aload_n 0, 1) := by decide +kernel
theorem d_CO_add_57 : decode b_CO_add 57 = .ok (.dup, 1) := by decide +kernel
theorem d_CO_add_58 : decode b_CO_add 58 = .ok (.getfield 13, 3) := by decide +kernel
theorem d_CO_add_61 : decode b_CO_add 61 = .ok (.lload_n 1, 1) := by decide +kernel
theorem d_CO_add_62 : decode b_CO_add 62 = .ok (.ladd, 1) := by decide +kernel
theorem d_CO_add_63 : decode b_CO_add 63 = .ok (.putfield 13, 3) := by decide +kernel
theorem d_CO_add_66 : decode b_CO_add 66 = .ok (.aload_n 0, 1) := by decide +kernel
theorem d_CO_add_67 : decode b_CO_add 67 = .ok (.ldc2_w 35, 3) := by decide +kernel
theorem d_CO_add_70 : decode b_CO_add 70 = .ok (.aload_n 0, 1) := by decide +kernel
theorem d_CO_add_71 : decode b_CO_add 71 = .ok (.getfield 23, 3) := by decide +kernel
theorem d_CO_add_74 : decode b_CO_add 74 = .ok (.lmul, 1) := by decide +kernel
theorem d_CO_add_75 : decode b_CO_add 75 = .ok (.lload_n 1, 1) := by decide +kernel
theorem d_CO_add_76 : decode b_CO_add 76 = .ok (.ladd, 1) := by decide +kernel
theorem d_CO_add_77 : decode b_CO_add 77 = .ok (.putfield 23, 3) := by decide +kernel
theorem d_CO_add_80 : decode b_CO_add 80 = .ok (.return_, 1) := by decide +kernel
theorem d_CO_part_0 : decode b_CO_part 0 = .ok (.iload_n 1, 1) := by decide +kernel
theorem d_CO_part_1 : decode b_CO_part 1 = .ok (.tableswitch 52 4 7 #[31, 37, 42, 47], 31) := by decide +kernel
theorem d_CO_part_32 : decode b_CO_part 32 = .ok (.aload_n 0, 1) := by decide +kernel
theorem d_CO_part_33 : decode b_CO_part 33 = .ok (.getfield 7, 3) := by decide +kernel
theorem d_CO_part_36 : decode b_CO_part 36 = .ok (.i2l, 1) := by decide +kernel
theorem d_CO_part_37 : decode b_CO_part 37 = .ok (.lreturn, 1) := by decide +kernel
theorem d_CO_part_38 : decode b_CO_part 38 = .ok (.aload_n 0, 1) := by decide +kernel
theorem d_CO_part_39 : decode b_CO_part 39 = .ok (.getfield 13, 3) := by decide +kernel
theorem d_CO_part_42 : decode b_CO_part 42 = .ok (.lreturn, 1) := by decide +kernel
theorem d_CO_part_43 : decode b_CO_part 43 = .ok (.aload_n 0, 1) := by decide +kernel
theorem d_CO_part_44 : decode b_CO_part 44 = .ok (.getfield 17, 3) := by decide +kernel
theorem d_CO_part_47 : decode b_CO_part 47 = .ok (.lreturn, 1) := by decide +kernel
theorem d_CO_part_48 : decode b_CO_part 48 = .ok (.aload_n 0, 1) := by decide +kernel
theorem d_CO_part_49 : decode b_CO_part 49 = .ok (.getfield 20, 3) := by decide +kernel
theorem d_CO_part_52 : decode b_CO_part 52 = .ok (.lreturn, 1) := by decide +kernel
theorem d_CO_part_53 : decode b_CO_part 53 = .ok (.aload_n 0, 1) := by decide +kernel
theorem d_CO_part_54 : decode b_CO_part 54 = .ok (.getfield 23, 3) := by decide +kernel
theorem d_CO_part_57 : decode b_CO_part 57 = .ok (.lreturn, 1) := by decide +kernel
theorem d_FS_kept_0 : decode b_FS_kept 0 = .ok (.aload_n 0, 1) := by decide +kernel
theorem d_FS_kept_1 : decode b_FS_kept 1 = .ok (.getfield 15, 3) := by decide +kernel
theorem d_FS_kept_4 : decode b_FS_kept 4 = .ok (.sipush 400, 3) := by decide +kernel
theorem d_FS_kept_7 : decode b_FS_kept 7 = .ok (.invokestatic 25, 3) := by decide +kernel
theorem d_FS_kept_10 : decode b_FS_kept 10 = .ok (.ireturn, 1) := by decide +kernel
theorem d_FS_cell_0 : decode b_FS_cell 0 = .ok (.aload_n 0, 1) := by decide +kernel
theorem d_FS_cell_1 : decode b_FS_cell 1 = .ok (.getfield 11, 3) := by decide +kernel
theorem d_FS_cell_4 : decode b_FS_cell 4 = .ok (.aload_n 0, 1) := by decide +kernel
theorem d_FS_cell_5 : decode b_FS_cell 5 = .ok (.getfield 15, 3) := by decide +kernel
theorem d_FS_cell_8 : decode b_FS_cell 8 = .ok (.aload_n 0, 1) := by decide +kernel
theorem d_FS_cell_9 : decode b_FS_cell 9 = .ok (.invokevirtual 31, 3) := by decide +kernel
theorem d_FS_cell_12 : decode b_FS_cell 12 = .ok (.isub, 1) := by decide +kernel
theorem d_FS_cell_13 : decode b_FS_cell 13 = .ok (.iload_n 1, 1) := by decide +kernel
theorem d_FS_cell_14 : decode b_FS_cell 14 = .ok (.iadd, 1) := by decide +kernel
theorem d_FS_cell_15 : decode b_FS_cell 15 = .ok (.sipush 400, 3) := by decide +kernel
theorem d_FS_cell_18 : decode b_FS_cell 18 = .ok (.irem, 1) := by decide +kernel
theorem d_FS_cell_19 : decode b_FS_cell 19 = .ok (.bipush 10, 2) := by decide +kernel
theorem d_FS_cell_21 : decode b_FS_cell 21 = .ok (.imul, 1) := by decide +kernel
theorem d_FS_cell_22 : decode b_FS_cell 22 = .ok (.iload_n 2, 1) := by decide +kernel
theorem d_FS_cell_23 : decode b_FS_cell 23 = .ok (.iadd, 1) := by decide +kernel
theorem d_FS_cell_24 : decode b_FS_cell 24 = .ok (.laload, 1) := by decide +kernel
theorem d_FS_cell_25 : decode b_FS_cell 25 = .ok (.lreturn, 1) := by decide +kernel
theorem d_FS_add_0 : decode b_FS_add 0 = .ok (.aload_n 0, 1) := by decide +kernel
theorem d_FS_add_1 : decode b_FS_add 1 = .ok (.getfield 15, 3) := by decide +kernel
theorem d_FS_add_4 : decode b_FS_add 4 = .ok (.sipush 400, 3) := by decide +kernel
theorem d_FS_add_7 : decode b_FS_add 7 = .ok (.irem, 1) := by decide +kernel
theorem d_FS_add_8 : decode b_FS_add 8 = .ok (.bipush 10, 2) := by decide +kernel
theorem d_FS_add_10 : decode b_FS_add 10 = .ok (.imul, 1) := by decide +kernel
theorem d_FS_add_11 : decode b_FS_add 11 = .ok (.istore 9, 2) := by decide +kernel
theorem d_FS_add_13 : decode b_FS_add 13 = .ok (.aload_n 0, 1) := by decide +kernel
theorem d_FS_add_14 : decode b_FS_add 14 = .ok (.getfield 11, 3) := by decide +kernel
theorem d_FS_add_17 : decode b_FS_add 17 = .ok (.iload 9, 2) := by decide +kernel
theorem d_FS_add_19 : decode b_FS_add 19 = .ok (.iload_n 1, 1) := by decide +kernel
theorem d_FS_add_20 : decode b_FS_add 20 = .ok (.i2l, 1) := by decide +kernel
theorem d_FS_add_21 : decode b_FS_add 21 = .ok (.lastore, 1) := by decide +kernel
theorem d_FS_add_22 : decode b_FS_add 22 = .ok (.aload_n 0, 1) := by decide +kernel
theorem d_FS_add_23 : decode b_FS_add 23 = .ok (.getfield 11, 3) := by decide +kernel
theorem d_FS_add_26 : decode b_FS_add 26 = .ok (.iload 9, 2) := by decide +kernel
theorem d_FS_add_28 : decode b_FS_add 28 = .ok (.iconst 1, 1) := by decide +kernel
theorem d_FS_add_29 : decode b_FS_add 29 = .ok (.iadd, 1) := by decide +kernel
theorem d_FS_add_30 : decode b_FS_add 30 = .ok (.lload_n 2, 1) := by decide +kernel
theorem d_FS_add_31 : decode b_FS_add 31 = .ok (.lastore, 1) := by decide +kernel
theorem d_FS_add_32 : decode b_FS_add 32 = .ok (.aload_n 0, 1) := by decide +kernel
theorem d_FS_add_33 : decode b_FS_add 33 = .ok (.getfield 11, 3) := by decide +kernel
theorem d_FS_add_36 : decode b_FS_add 36 = .ok (.iload 9, 2) := by decide +kernel
theorem d_FS_add_38 : decode b_FS_add 38 = .ok (.iconst 2, 1) := by decide +kernel
theorem d_FS_add_39 : decode b_FS_add 39 = .ok (.iadd, 1) := by decide +kernel
theorem d_FS_add_40 : decode b_FS_add 40 = .ok (.lload 4, 2) := by decide +kernel
theorem d_FS_add_42 : decode b_FS_add 42 = .ok (.lastore, 1) := by decide +kernel
theorem d_FS_add_43 : decode b_FS_add 43 = .ok (.aload_n 0, 1) := by decide +kernel
theorem d_FS_add_44 : decode b_FS_add 44 = .ok (.getfield 11, 3) := by decide +kernel
theorem d_FS_add_47 : decode b_FS_add 47 = .ok (.iload 9, 2) := by decide +kernel
theorem d_FS_add_49 : decode b_FS_add 49 = .ok (.iconst 3, 1) := by decide +kernel
theorem d_FS_add_50 : decode b_FS_add 50 = .ok (.iadd, 1) := by decide +kernel
theorem d_FS_add_51 : decode b_FS_add 51 = .ok (.iload 6, 2) := by decide +kernel
theorem d_FS_add_53 : decode b_FS_add 53 = .ok (.i2l, 1) := by decide +kernel
theorem d_FS_add_54 : decode b_FS_add 54 = .ok (.lastore, 1) := by decide +kernel
theorem d_FS_add_55 : decode b_FS_add 55 = .ok (.iconst 4, 1) := by decide +kernel
theorem d_FS_add_56 : decode b_FS_add 56 = .ok (.istore 10, 2) := by decide +kernel
theorem d_FS_add_58 : decode b_FS_add 58 = .ok (.iload 10, 2) := by decide +kernel
theorem d_FS_add_60 : decode b_FS_add 60 = .ok (.bipush 8, 2) := by decide +kernel
theorem d_FS_add_62 : decode b_FS_add 62 = .ok (.if_icmp .gt 26, 3) := by decide +kernel
theorem d_FS_add_65 : decode b_FS_add 65 = .ok (.aload_n 0, 1) := by decide +kernel
theorem d_FS_add_66 : decode b_FS_add 66 = .ok (.getfield 11, 3) := by decide +kernel
theorem d_FS_add_69 : decode b_FS_add 69 = .ok (.iload 9, 2) := by decide +kernel
theorem d_FS_add_71 : decode b_FS_add 71 = .ok (.iload 10, 2) := by decide +kernel
theorem d_FS_add_73 : decode b_FS_add 73 = .ok (.iadd, 1) := by decide +kernel
theorem d_FS_add_74 : decode b_FS_add 74 = .ok (.aload 8, 2) := by decide +kernel
theorem d_FS_add_76 : decode b_FS_add 76 = .ok (.iload 10, 2) := by decide +kernel
theorem d_FS_add_78 : decode b_FS_add 78 = .ok (.invokevirtual 35, 3) := by decide +kernel
theorem d_FS_add_81 : decode b_FS_add 81 = .ok (.lastore, 1) := by decide +kernel
theorem d_FS_add_82 : decode b_FS_add 82 = .ok (.iinc 10 1, 3) := by decide +kernel
theorem d_FS_add_85 : decode b_FS_add 85 = .ok (.goto (-27), 3) := by decide +kernel
theorem d_FS_add_88 : decode b_FS_add 88 = .ok (.aload_n 0, 1) := by decide +kernel
theorem d_FS_add_89 : decode b_FS_add 89 = .ok (.getfield 11, 3) := by decide +kernel
theorem d_FS_add_92 : decode b_FS_add 92 = .ok (.iload 9, 2) := by decide +kernel
theorem d_FS_add_94 : decode b_FS_add 94 = .ok (.bipush 9, 2) := by decide +kernel
theorem d_FS_add_96 : decode b_FS_add 96 = .ok (.iadd, 1) := by decide +kernel
theorem d_FS_add_97 : decode b_FS_add 97 = .ok (.iload 7, 2) := by decide +kernel
theorem d_FS_add_99 : decode b_FS_add 99 = .ok (.i2l, 1) := by decide +kernel
theorem d_FS_add_100 : decode b_FS_add 100 = .ok (.lastore, 1) := by decide +kernel
theorem d_FS_add_101 : decode b_FS_add 101 = .ok (.aload_n 0, 1) := by decide +kernel
theorem d_FS_add_102 : decode b_FS_add 102 = .ok (.dup, 1) := by decide +kernel
theorem d_FS_add_103 : decode b_FS_add 103 = .ok (.getfield 15, 3) := by decide +kernel
theorem d_FS_add_106 : decode b_FS_add 106 = .ok (.iconst 1, 1) := by decide +kernel
theorem d_FS_add_107 : decode b_FS_add 107 = .ok (.iadd, 1) := by decide +kernel
theorem d_FS_add_108 : decode b_FS_add 108 = .ok (.putfield 15, 3) := by decide +kernel
theorem d_FS_add_111 : decode b_FS_add 111 = .ok (.iload 6, 2) := by decide +kernel
theorem d_FS_add_113 : decode b_FS_add 113 = .ok (.ifCond .ne 16, 3) := by decide +kernel
theorem d_FS_add_116 : decode b_FS_add 116 = .ok (.aload_n 0, 1) := by decide +kernel
theorem d_FS_add_117 : decode b_FS_add 117 = .ok (.dup, 1) := by decide +kernel
theorem d_FS_add_118 : decode b_FS_add 118 = .ok (.getfield 19, 3) := by decide +kernel
theorem d_FS_add_121 : decode b_FS_add 121 = .ok (.iconst 1, 1) := by decide +kernel
theorem d_FS_add_122 : decode b_FS_add 122 = .ok (.iadd, 1) := by decide +kernel
theorem d_FS_add_123 : decode b_FS_add 123 = .ok (.putfield 19, 3) := by decide +kernel
theorem d_FS_add_126 : decode b_FS_add 126 = .ok (.goto 19, 3) := by decide +kernel
theorem d_FS_add_129 : decode b_FS_add 129 = .ok (.iload 6, 2) := by decide +kernel
theorem d_FS_add_131 : decode b_FS_add 131 = .ok (.iconst 2, 1) := by decide +kernel
theorem d_FS_add_132 : decode b_FS_add 132 = .ok (.if_icmp .ne 13, 3) := by decide +kernel
theorem d_FS_add_135 : decode b_FS_add 135 = .ok (.aload_n 0, 1) := by decide +kernel
theorem d_FS_add_136 : decode b_FS_add 136 = .ok (.dup, 1) := by decide +kernel
theorem d_FS_add_137 : decode b_FS_add 137 = .ok (.getfield 22, 3) := by decide +kernel
theorem d_FS_add_140 : decode b_FS_add 140 = .ok (.iconst 1, 1) := by decide +kernel
theorem d_FS_add_141 : decode b_FS_add 141 = .ok (.iadd, 1) := by decide +kernel
theorem d_FS_add_142 : decode b_FS_add 142 = .ok (.putfield 22, 3) := by decide +kernel
theorem d_FS_add_145 : decode b_FS_add 145 = .ok (.return_, 1) := by decide +kernel
theorem d_FB_has_0 : decode b_FB_has 0 = .ok (.iconst 0, 1) := by decide +kernel
theorem d_FB_has_1 : decode b_FB_has 1 = .ok (.istore 4, 2) := by decide +kernel
theorem d_FB_has_3 : decode b_FB_has 3 = .ok (.iload 4, 2) := by decide +kernel
theorem d_FB_has_5 : decode b_FB_has 5 = .ok (.aload_n 0, 1) := by decide +kernel
theorem d_FB_has_6 : decode b_FB_has 6 = .ok (.getfield 15, 3) := by decide +kernel
theorem d_FB_has_9 : decode b_FB_has 9 = .ok (.iload_n 1, 1) := by decide +kernel
theorem d_FB_has_10 : decode b_FB_has 10 = .ok (.iaload, 1) := by decide +kernel
theorem d_FB_has_11 : decode b_FB_has 11 = .ok (.if_icmp .ge 28, 3) := by decide +kernel
theorem d_FB_has_14 : decode b_FB_has 14 = .ok (.aload_n 0, 1) := by decide +kernel
theorem d_FB_has_15 : decode b_FB_has 15 = .ok (.getfield 9, 3) := by decide +kernel
theorem d_FB_has_18 : decode b_FB_has 18 = .ok (.iload_n 1, 1) := by decide +kernel
theorem d_FB_has_19 : decode b_FB_has 19 = .ok (.bipush 8, 2) := by decide +kernel
theorem d_FB_has_21 : decode b_FB_has 21 = .ok (.imul, 1) := by decide +kernel
theorem d_FB_has_22 : decode b_FB_has 22 = .ok (.iload 4, 2) := by decide +kernel
theorem d_FB_has_24 : decode b_FB_has 24 = .ok (.iadd, 1) := by decide +kernel
theorem d_FB_has_25 : decode b_FB_has 25 = .ok (.laload, 1) := by decide +kernel
theorem d_FB_has_26 : decode b_FB_has 26 = .ok (.lload_n 2, 1) := by decide +kernel
theorem d_FB_has_27 : decode b_FB_has 27 = .ok (.lcmp, 1) := by decide +kernel
theorem d_FB_has_28 : decode b_FB_has 28 = .ok (.ifCond .ne 5, 3) := by decide +kernel
theorem d_FB_has_31 : decode b_FB_has 31 = .ok (.iconst 1, 1) := by decide +kernel
theorem d_FB_has_32 : decode b_FB_has 32 = .ok (.ireturn, 1) := by decide +kernel
theorem d_FB_has_33 : decode b_FB_has 33 = .ok (.iinc 4 1, 3) := by decide +kernel
theorem d_FB_has_36 : decode b_FB_has 36 = .ok (.goto (-33), 3) := by decide +kernel
theorem d_FB_has_39 : decode b_FB_has 39 = .ok (.iconst 0, 1) := by decide +kernel
theorem d_FB_has_40 : decode b_FB_has 40 = .ok (.ireturn, 1) := by decide +kernel
theorem d_FB_add_0 : decode b_FB_add 0 = .ok (.aload_n 0, 1) := by decide +kernel
theorem d_FB_add_1 : decode b_FB_add 1 = .ok (.iload_n 1, 1) := by decide +kernel
theorem d_FB_add_2 : decode b_FB_add 2 = .ok (.lload_n 2, 1) := by decide +kernel
theorem d_FB_add_3 : decode b_FB_add 3 = .ok (.invokevirtual 19, 3) := by decide +kernel
theorem d_FB_add_6 : decode b_FB_add 6 = .ok (.ifCond .eq 10, 3) := by decide +kernel
theorem d_FB_add_9 : decode b_FB_add 9 = .ok (.aload_n 0, 1) := by decide +kernel
theorem d_FB_add_10 : decode b_FB_add 10 = .ok (.getfield 15, 3) := by decide +kernel
theorem d_FB_add_13 : decode b_FB_add 13 = .ok (.iload_n 1, 1) := by decide +kernel
theorem d_FB_add_14 : decode b_FB_add 14 = .ok (.iaload, 1) := by decide +kernel
theorem d_FB_add_15 : decode b_FB_add 15 = .ok (.ireturn, 1) := by decide +kernel
theorem d_FB_add_16 : decode b_FB_add 16 = .ok (.aload_n 0, 1) := by decide +kernel
theorem d_FB_add_17 : decode b_FB_add 17 = .ok (.getfield 15, 3) := by decide +kernel
theorem d_FB_add_20 : decode b_FB_add 20 = .ok (.iload_n 1, 1) := by decide +kernel
theorem d_FB_add_21 : decode b_FB_add 21 = .ok (.iaload, 1) := by decide +kernel
theorem d_FB_add_22 : decode b_FB_add 22 = .ok (.bipush 8, 2) := by decide +kernel
theorem d_FB_add_24 : decode b_FB_add 24 = .ok (.if_icmp .lt 6, 3) := by decide +kernel
theorem d_FB_add_27 : decode b_FB_add 27 = .ok (.bipush (-4), 2) := by decide +kernel
theorem d_FB_add_29 : decode b_FB_add 29 = .ok (.ireturn, 1) := by decide +kernel
theorem d_FB_add_30 : decode b_FB_add 30 = .ok (.aload_n 0, 1) := by decide +kernel
theorem d_FB_add_31 : decode b_FB_add 31 = .ok (.getfield 9, 3) := by decide +kernel
theorem d_FB_add_34 : decode b_FB_add 34 = .ok (.iload_n 1, 1) := by decide +kernel
theorem d_FB_add_35 : decode b_FB_add 35 = .ok (.bipush 8, 2) := by decide +kernel
theorem d_FB_add_37 : decode b_FB_add 37 = .ok (.imul, 1) := by decide +kernel
theorem d_FB_add_38 : decode b_FB_add 38 = .ok (.aload_n 0, 1) := by decide +kernel
theorem d_FB_add_39 : decode b_FB_add 39 = .ok (.getfield 15, 3) := by decide +kernel
theorem d_FB_add_42 : decode b_FB_add 42 = .ok (.iload_n 1, 1) := by decide +kernel
theorem d_FB_add_43 : decode b_FB_add 43 = .ok (.iaload, 1) := by decide +kernel
theorem d_FB_add_44 : decode b_FB_add 44 = .ok (.iadd, 1) := by decide +kernel
theorem d_FB_add_45 : decode b_FB_add 45 = .ok (.lload_n 2, 1) := by decide +kernel
theorem d_FB_add_46 : decode b_FB_add 46 = .ok (.lastore, 1) := by decide +kernel
theorem d_FB_add_47 : decode b_FB_add 47 = .ok (.aload_n 0, 1) := by decide +kernel
theorem d_FB_add_48 : decode b_FB_add 48 = .ok (.getfield 15, 3) := by decide +kernel
theorem d_FB_add_51 : decode b_FB_add 51 = .ok (.iload_n 1, 1) := by decide +kernel
theorem d_FB_add_52 : decode b_FB_add 52 = .ok (.dup2, 1) := by decide +kernel
theorem d_FB_add_53 : decode b_FB_add 53 = .ok (.iaload, 1) := by decide +kernel
theorem d_FB_add_54 : decode b_FB_add 54 = .ok (.iconst 1, 1) := by decide +kernel
theorem d_FB_add_55 : decode b_FB_add 55 = .ok (.iadd, 1) := by decide +kernel
theorem d_FB_add_56 : decode b_FB_add 56 = .ok (.iastore, 1) := by decide +kernel
theorem d_FB_add_57 : decode b_FB_add 57 = .ok (.aload_n 0, 1) := by decide +kernel
theorem d_FB_add_58 : decode b_FB_add 58 = .ok (.getfield 15, 3) := by decide +kernel
theorem d_FB_add_61 : decode b_FB_add 61 = .ok (.iload_n 1, 1) := by decide +kernel
theorem d_FB_add_62 : decode b_FB_add 62 = .ok (.iaload, 1) := by decide +kernel
theorem d_FB_add_63 : decode b_FB_add 63 = .ok (.ireturn, 1) := by decide +kernel
theorem d_SR_isWithin_0 : decode b_SR_isWithin 0 = .ok (.lload_n 0, 1) := by decide +kernel
theorem d_SR_isWithin_1 : decode b_SR_isWithin 1 = .ok (.lload_n 2, 1) := by decide +kernel
theorem d_SR_isWithin_2 : decode b_SR_isWithin 2 = .ok (.lcmp, 1) := by decide +kernel
theorem d_SR_isWithin_3 : decode b_SR_isWithin 3 = .ok (.ifCond .lt 14, 3) := by decide +kernel
theorem d_SR_isWithin_6 : decode b_SR_isWithin 6 = .ok (.lload_n 0, 1) := by decide +kernel
theorem d_SR_isWithin_7 : decode b_SR_isWithin 7 = .ok (.lload 4, 2) := by decide +kernel
theorem d_SR_isWithin_9 : decode b_SR_isWithin 9 = .ok (.lcmp, 1) := by decide +kernel
theorem d_SR_isWithin_10 : decode b_SR_isWithin 10 = .ok (.ifCond .gt 7, 3) := by decide +kernel
theorem d_SR_isWithin_13 : decode b_SR_isWithin 13 = .ok (.iconst 1, 1) := by decide +kernel
theorem d_SR_isWithin_14 : decode b_SR_isWithin 14 = .ok (.goto 4, 3) := by decide +kernel
theorem d_SR_isWithin_17 : decode b_SR_isWithin 17 = .ok (.iconst 0, 1) := by decide +kernel
theorem d_SR_isWithin_18 : decode b_SR_isWithin 18 = .ok (.ireturn, 1) := by decide +kernel
theorem d_SR_offset_0 : decode b_SR_offset 0 = .ok (.lload_n 1, 1) := by decide +kernel
theorem d_SR_offset_1 : decode b_SR_offset 1 = .ok (.ldc2_w 91, 3) := by decide +kernel
theorem d_SR_offset_4 : decode b_SR_offset 4 = .ok (.ldc2_w 93, 3) := by decide +kernel
theorem d_SR_offset_7 : decode b_SR_offset 7 = .ok (.invokestatic 95, 3) := by decide +kernel
theorem d_SR_offset_10 : decode b_SR_offset 10 = .ok (.ifCond .ne 6, 3) := by decide +kernel
theorem d_SR_offset_13 : decode b_SR_offset 13 = .ok (.bipush (-2), 2) := by decide +kernel
theorem d_SR_offset_15 : decode b_SR_offset 15 = .ok (.ireturn, 1) := by decide +kernel
theorem d_SR_offset_16 : decode b_SR_offset 16 = .ok (.aload_n 0, 1) := by decide +kernel
theorem d_SR_offset_17 : decode b_SR_offset 17 = .ok (.getfield 71, 3) := by decide +kernel
theorem d_SR_offset_20 : decode b_SR_offset 20 = .ok (.ifCond .le 6, 3) := by decide +kernel
theorem d_SR_offset_23 : decode b_SR_offset 23 = .ok (.bipush (-3), 2) := by decide +kernel
theorem d_SR_offset_25 : decode b_SR_offset 25 = .ok (.ireturn, 1) := by decide +kernel
theorem d_SR_offset_26 : decode b_SR_offset 26 = .ok (.aload_n 0, 1) := by decide +kernel
theorem d_SR_offset_27 : decode b_SR_offset 27 = .ok (.getfield 87, 3) := by decide +kernel
theorem d_SR_offset_30 : decode b_SR_offset 30 = .ok (.lload_n 1, 1) := by decide +kernel
theorem d_SR_offset_31 : decode b_SR_offset 31 = .ok (.putfield 99, 3) := by decide +kernel
theorem d_SR_offset_34 : decode b_SR_offset 34 = .ok (.iconst 1, 1) := by decide +kernel
theorem d_SR_offset_35 : decode b_SR_offset 35 = .ok (.ireturn, 1) := by decide +kernel
theorem d_SR_lateness_0 : decode b_SR_lateness 0 = .ok (.lload_n 1, 1) := by decide +kernel
theorem d_SR_lateness_1 : decode b_SR_lateness 1 = .ok (.lconst 0, 1) := by decide +kernel
theorem d_SR_lateness_2 : decode b_SR_lateness 2 = .ok (.ldc2_w 93, 3) := by decide +kernel
theorem d_SR_lateness_5 : decode b_SR_lateness 5 = .ok (.invokestatic 95, 3) := by decide +kernel
theorem d_SR_lateness_8 : decode b_SR_lateness 8 = .ok (.ifCond .ne 6, 3) := by decide +kernel
theorem d_SR_lateness_11 : decode b_SR_lateness 11 = .ok (.bipush (-2), 2) := by decide +kernel
theorem d_SR_lateness_13 : decode b_SR_lateness 13 = .ok (.ireturn, 1) := by decide +kernel
theorem d_SR_lateness_14 : decode b_SR_lateness 14 = .ok (.aload_n 0, 1) := by decide +kernel
theorem d_SR_lateness_15 : decode b_SR_lateness 15 = .ok (.getfield 71, 3) := by decide +kernel
theorem d_SR_lateness_18 : decode b_SR_lateness 18 = .ok (.ifCond .gt 14, 3) := by decide +kernel
theorem d_SR_lateness_21 : decode b_SR_lateness 21 = .ok (.aload_n 0, 1) := by decide +kernel
theorem d_SR_lateness_22 : decode b_SR_lateness 22 = .ok (.getfield 87, 3) := by decide +kernel
theorem d_SR_lateness_25 : decode b_SR_lateness 25 = .ok (.getfield 102, 3) := by decide +kernel
theorem d_SR_lateness_28 : decode b_SR_lateness 28 = .ok (.iconst 3, 1) := by decide +kernel
theorem d_SR_lateness_29 : decode b_SR_lateness 29 = .ok (.if_icmp .ne 6, 3) := by decide +kernel
theorem d_SR_lateness_32 : decode b_SR_lateness 32 = .ok (.bipush (-3), 2) := by decide +kernel
theorem d_SR_lateness_34 : decode b_SR_lateness 34 = .ok (.ireturn, 1) := by decide +kernel
theorem d_SR_lateness_35 : decode b_SR_lateness 35 = .ok (.aload_n 0, 1) := by decide +kernel
theorem d_SR_lateness_36 : decode b_SR_lateness 36 = .ok (.lload_n 1, 1) := by decide +kernel
theorem d_SR_lateness_37 : decode b_SR_lateness 37 = .ok (.putfield 51, 3) := by decide +kernel
theorem d_SR_lateness_40 : decode b_SR_lateness 40 = .ok (.iconst 1, 1) := by decide +kernel
theorem d_SR_lateness_41 : decode b_SR_lateness 41 = .ok (.ireturn, 1) := by decide +kernel
theorem d_SR_trigger_0 : decode b_SR_trigger 0 = .ok (.iload_n 1, 1) := by decide +kernel
theorem d_SR_trigger_1 : decode b_SR_trigger 1 = .ok (.i2l, 1) := by decide +kernel
theorem d_SR_trigger_2 : decode b_SR_trigger 2 = .ok (.lconst 0, 1) := by decide +kernel
theorem d_SR_trigger_3 : decode b_SR_trigger 3 = .ok (.ldc2_w 105, 3) := by decide +kernel
theorem d_SR_trigger_6 : decode b_SR_trigger 6 = .ok (.invokestatic 95, 3) := by decide +kernel
theorem d_SR_trigger_9 : decode b_SR_trigger 9 = .ok (.ifCond .ne 6, 3) := by decide +kernel
theorem d_SR_trigger_12 : decode b_SR_trigger 12 = .ok (.bipush (-2), 2) := by decide +kernel
theorem d_SR_trigger_14 : decode b_SR_trigger 14 = .ok (.ireturn, 1) := by decide +kernel
theorem d_SR_trigger_15 : decode b_SR_trigger 15 = .ok (.aload_n 0, 1) := by decide +kernel
theorem d_SR_trigger_16 : decode b_SR_trigger 16 = .ok (.getfield 87, 3) := by decide +kernel
theorem d_SR_trigger_19 : decode b_SR_trigger 19 = .ok (.getfield 102, 3) := by decide +kernel
theorem d_SR_trigger_22 : decode b_SR_trigger 22 = .ok (.iconst 3, 1) := by decide +kernel
theorem d_SR_trigger_23 : decode b_SR_trigger 23 = .ok (.if_icmp .ne 6, 3) := by decide +kernel
theorem d_SR_trigger_26 : decode b_SR_trigger 26 = .ok (.bipush (-3), 2) := by decide +kernel
theorem d_SR_trigger_28 : decode b_SR_trigger 28 = .ok (.ireturn, 1) := by decide +kernel
theorem d_SR_trigger_29 : decode b_SR_trigger 29 = .ok (.aload_n 0, 1) := by decide +kernel
theorem d_SR_trigger_30 : decode b_SR_trigger 30 = .ok (.iload_n 1, 1) := by decide +kernel
theorem d_SR_trigger_31 : decode b_SR_trigger 31 = .ok (.putfield 60, 3) := by decide +kernel
theorem d_SR_trigger_34 : decode b_SR_trigger 34 = .ok (.aload_n 0, 1) := by decide +kernel
theorem d_SR_trigger_35 : decode b_SR_trigger 35 = .ok (.iload_n 2, 1) := by decide +kernel
theorem d_SR_trigger_36 : decode b_SR_trigger 36 = .ok (.putfield 64, 3) := by decide +kernel
theorem d_SR_trigger_39 : decode b_SR_trigger 39 = .ok (.iconst 1, 1) := by decide +kernel
theorem d_SR_trigger_40 : decode b_SR_trigger 40 = .ok (.ireturn, 1) := by decide +kernel
theorem d_SR_clears_0 : decode b_SR_clears 0 = .ok (.aload_n 0, 1) := by decide +kernel
theorem d_SR_clears_1 : decode b_SR_clears 1 = .ok (.getfield 87, 3) := by decide +kernel
theorem d_SR_clears_4 : decode b_SR_clears 4 = .ok (.getfield 102, 3) := by decide +kernel
theorem d_SR_clears_7 : decode b_SR_clears 7 = .ok (.iconst 3, 1) := by decide +kernel
theorem d_SR_clears_8 : decode b_SR_clears 8 = .ok (.if_icmp .ne 6, 3) := by decide +kernel
theorem d_SR_clears_11 : decode b_SR_clears 11 = .ok (.bipush (-3), 2) := by decide +kernel
theorem d_SR_clears_13 : decode b_SR_clears 13 = .ok (.ireturn, 1) := by decide +kernel
theorem d_SR_clears_14 : decode b_SR_clears 14 = .ok (.aload_n 0, 1) := by decide +kernel
theorem d_SR_clears_15 : decode b_SR_clears 15 = .ok (.getfield 68, 3) := by decide +kernel
theorem d_SR_clears_18 : decode b_SR_clears 18 = .ok (.iload_n 1, 1) := by decide +kernel
theorem d_SR_clears_19 : decode b_SR_clears 19 = .ok (.if_icmp .ne 5, 3) := by decide +kernel
theorem d_SR_clears_22 : decode b_SR_clears 22 = .ok (.iconst 0, 1) := by decide +kernel
theorem d_SR_clears_23 : decode b_SR_clears 23 = .ok (.ireturn, 1) := by decide +kernel
theorem d_SR_clears_24 : decode b_SR_clears 24 = .ok (.aload_n 0, 1) := by decide +kernel
theorem d_SR_clears_25 : decode b_SR_clears 25 = .ok (.iload_n 1, 1) := by decide +kernel
theorem d_SR_clears_26 : decode b_SR_clears 26 = .ok (.putfield 68, 3) := by decide +kernel
theorem d_SR_clears_29 : decode b_SR_clears 29 = .ok (.iconst 1, 1) := by decide +kernel
theorem d_SR_clears_30 : decode b_SR_clears 30 = .ok (.ireturn, 1) := by decide +kernel
theorem d_SR_rule_0 : decode b_SR_rule 0 = .ok (.iload_n 1, 1) := by decide +kernel
theorem d_SR_rule_1 : decode b_SR_rule 1 = .ok (.i2l, 1) := by decide +kernel
theorem d_SR_rule_2 : decode b_SR_rule 2 = .ok (.lconst 0, 1) := by decide +kernel
theorem d_SR_rule_3 : decode b_SR_rule 3 = .ok (.ldc2_w 107, 3) := by decide +kernel
theorem d_SR_rule_6 : decode b_SR_rule 6 = .ok (.invokestatic 95, 3) := by decide +kernel
theorem d_SR_rule_9 : decode b_SR_rule 9 = .ok (.ifCond .ne 6, 3) := by decide +kernel
theorem d_SR_rule_12 : decode b_SR_rule 12 = .ok (.bipush (-2), 2) := by decide +kernel
theorem d_SR_rule_14 : decode b_SR_rule 14 = .ok (.ireturn, 1) := by decide +kernel
theorem d_SR_rule_15 : decode b_SR_rule 15 = .ok (.aload_n 0, 1) := by decide +kernel
theorem d_SR_rule_16 : decode b_SR_rule 16 = .ok (.getfield 87, 3) := by decide +kernel
theorem d_SR_rule_19 : decode b_SR_rule 19 = .ok (.getfield 102, 3) := by decide +kernel
theorem d_SR_rule_22 : decode b_SR_rule 22 = .ok (.iconst 5, 1) := by decide +kernel
theorem d_SR_rule_23 : decode b_SR_rule 23 = .ok (.if_icmp .eq 6, 3) := by decide +kernel
theorem d_SR_rule_26 : decode b_SR_rule 26 = .ok (.bipush (-3), 2) := by decide +kernel
theorem d_SR_rule_28 : decode b_SR_rule 28 = .ok (.ireturn, 1) := by decide +kernel
theorem d_SR_rule_29 : decode b_SR_rule 29 = .ok (.aload_n 0, 1) := by decide +kernel
theorem d_SR_rule_30 : decode b_SR_rule 30 = .ok (.getfield 87, 3) := by decide +kernel
theorem d_SR_rule_33 : decode b_SR_rule 33 = .ok (.getfield 109, 3) := by decide +kernel
theorem d_SR_rule_36 : decode b_SR_rule 36 = .ok (.istore_n 2, 1) := by decide +kernel
theorem d_SR_rule_37 : decode b_SR_rule 37 = .ok (.aload_n 0, 1) := by decide +kernel
theorem d_SR_rule_38 : decode b_SR_rule 38 = .ok (.getfield 87, 3) := by decide +kernel
theorem d_SR_rule_41 : decode b_SR_rule 41 = .ok (.iload_n 1, 1) := by decide +kernel
theorem d_SR_rule_42 : decode b_SR_rule 42 = .ok (.putfield 109, 3) := by decide +kernel
theorem d_SR_rule_45 : decode b_SR_rule 45 = .ok (.iload_n 2, 1) := by decide +kernel
theorem d_SR_rule_46 : decode b_SR_rule 46 = .ok (.ireturn, 1) := by decide +kernel
theorem d_SR_forbid_0 : decode b_SR_forbid 0 = .ok (.iload_n 1, 1) := by decide +kernel
theorem d_SR_forbid_1 : decode b_SR_forbid 1 = .ok (.i2l, 1) := by decide +kernel
theorem d_SR_forbid_2 : decode b_SR_forbid 2 = .ok (.lconst 0, 1) := by decide +kernel
theorem d_SR_forbid_3 : decode b_SR_forbid 3 = .ok (.ldc2_w 107, 3) := by decide +kernel
theorem d_SR_forbid_6 : decode b_SR_forbid 6 = .ok (.invokestatic 95, 3) := by decide +kernel
theorem d_SR_forbid_9 : decode b_SR_forbid 9 = .ok (.ifCond .ne 6, 3) := by decide +kernel
theorem d_SR_forbid_12 : decode b_SR_forbid 12 = .ok (.bipush (-2), 2) := by decide +kernel
theorem d_SR_forbid_14 : decode b_SR_forbid 14 = .ok (.ireturn, 1) := by decide +kernel
theorem d_SR_forbid_15 : decode b_SR_forbid 15 = .ok (.aload_n 0, 1) := by decide +kernel
theorem d_SR_forbid_16 : decode b_SR_forbid 16 = .ok (.getfield 87, 3) := by decide +kernel
theorem d_SR_forbid_19 : decode b_SR_forbid 19 = .ok (.getfield 102, 3) := by decide +kernel
theorem d_SR_forbid_22 : decode b_SR_forbid 22 = .ok (.iconst 5, 1) := by decide +kernel
theorem d_SR_forbid_23 : decode b_SR_forbid 23 = .ok (.if_icmp .eq 6, 3) := by decide +kernel
theorem d_SR_forbid_26 : decode b_SR_forbid 26 = .ok (.bipush (-3), 2) := by decide +kernel
theorem d_SR_forbid_28 : decode b_SR_forbid 28 = .ok (.ireturn, 1) := by decide +kernel
theorem d_SR_forbid_29 : decode b_SR_forbid 29 = .ok (.aload_n 0, 1) := by decide +kernel
theorem d_SR_forbid_30 : decode b_SR_forbid 30 = .ok (.getfield 10, 3) := by decide +kernel
theorem d_SR_forbid_33 : decode b_SR_forbid 33 = .ok (.iload_n 1, 1) := by decide +kernel
theorem d_SR_forbid_34 : decode b_SR_forbid 34 = .ok (.lload_n 2, 1) := by decide +kernel
theorem d_SR_forbid_35 : decode b_SR_forbid 35 = .ok (.invokevirtual 112, 3) := by decide +kernel
theorem d_SR_forbid_38 : decode b_SR_forbid 38 = .ok (.ireturn, 1) := by decide +kernel
theorem d_SR_isNumbered_0 : decode b_SR_isNumbered 0 = .ok (.aload_n 0, 1) := by decide +kernel
theorem d_SR_isNumbered_1 : decode b_SR_isNumbered 1 = .ok (.getfield 19, 3) := by decide +kernel
theorem d_SR_isNumbered_4 : decode b_SR_isNumbered 4 = .ok (.getfield 355, 3) := by decide +kernel
theorem d_SR_isNumbered_7 : decode b_SR_isNumbered 7 = .ok (.iload_n 1, 1) := by decide +kernel
theorem d_SR_isNumbered_8 : decode b_SR_isNumbered 8 = .ok (.iaload, 1) := by decide +kernel
theorem d_SR_isNumbered_9 : decode b_SR_isNumbered 9 = .ok (.iconst (-1), 1) := by decide +kernel
theorem d_SR_isNumbered_10 : decode b_SR_isNumbered 10 = .ok (.if_icmp .eq 7, 3) := by decide +kernel
theorem d_SR_isNumbered_13 : decode b_SR_isNumbered 13 = .ok (.iconst 1, 1) := by decide +kernel
theorem d_SR_isNumbered_14 : decode b_SR_isNumbered 14 = .ok (.goto 4, 3) := by decide +kernel
theorem d_SR_isNumbered_17 : decode b_SR_isNumbered 17 = .ok (.iconst 0, 1) := by decide +kernel
theorem d_SR_isNumbered_18 : decode b_SR_isNumbered 18 = .ok (.ireturn, 1) := by decide +kernel
theorem d_SR_numberRows_0 : decode b_SR_numberRows 0 = .ok (.iconst 0, 1) := by decide +kernel
theorem d_SR_numberRows_1 : decode b_SR_numberRows 1 = .ok (.istore_n 1, 1) := by decide +kernel
theorem d_SR_numberRows_2 : decode b_SR_numberRows 2 = .ok (.iload_n 1, 1) := by decide +kernel
theorem d_SR_numberRows_3 : decode b_SR_numberRows 3 = .ok (.aload_n 0, 1) := by decide +kernel
theorem d_SR_numberRows_4 : decode b_SR_numberRows 4 = .ok (.getfield 19, 3) := by decide +kernel
theorem d_SR_numberRows_7 : decode b_SR_numberRows 7 = .ok (.getfield 154, 3) := by decide +kernel
theorem d_SR_numberRows_10 : decode b_SR_numberRows 10 = .ok (.if_icmp .ge 75, 3) := by decide +kernel
theorem d_SR_numberRows_13 : decode b_SR_numberRows 13 = .ok (.aload_n 0, 1) := by decide +kernel
theorem d_SR_numberRows_14 : decode b_SR_numberRows 14 = .ok (.getfield 19, 3) := by decide +kernel
theorem d_SR_numberRows_17 : decode b_SR_numberRows 17 = .ok (.getfield 309, 3) := by decide +kernel
theorem d_SR_numberRows_20 : decode b_SR_numberRows 20 = .ok (.iload_n 1, 1) := by decide +kernel
theorem d_SR_numberRows_21 : decode b_SR_numberRows 21 = .ok (.iaload, 1) := by decide +kernel
theorem d_SR_numberRows_22 : decode b_SR_numberRows 22 = .ok (.istore_n 2, 1) := by decide +kernel
theorem d_SR_numberRows_23 : decode b_SR_numberRows 23 = .ok (.aload_n 0, 1) := by decide +kernel
theorem d_SR_numberRows_24 : decode b_SR_numberRows 24 = .ok (.iload_n 2, 1) := by decide +kernel
theorem d_SR_numberRows_25 : decode b_SR_numberRows 25 = .ok (.invokevirtual 349, 3) := by decide +kernel
theorem d_SR_numberRows_28 : decode b_SR_numberRows 28 = .ok (.ifCond .ne 51, 3) := by decide +kernel
theorem d_SR_numberRows_31 : decode b_SR_numberRows 31 = .ok (.aload_n 0, 1) := by decide +kernel
theorem d_SR_numberRows_32 : decode b_SR_numberRows 32 = .ok (.getfield 19, 3) := by decide +kernel
theorem d_SR_numberRows_35 : decode b_SR_numberRows 35 = .ok (.getfield 365, 3) := by decide +kernel
theorem d_SR_numberRows_38 : decode b_SR_numberRows 38 = .ok (.iload_n 2, 1) := by decide +kernel
theorem d_SR_numberRows_39 : decode b_SR_numberRows 39 = .ok (.laload, 1) := by decide +kernel
theorem d_SR_numberRows_40 : decode b_SR_numberRows 40 = .ok (.aload_n 0, 1) := by decide +kernel
theorem d_SR_numberRows_41 : decode b_SR_numberRows 41 = .ok (.getfield 57, 3) := by decide +kernel
theorem d_SR_numberRows_44 : decode b_SR_numberRows 44 = .ok (.lcmp, 1) := by decide +kernel
theorem d_SR_numberRows_45 : decode b_SR_numberRows 45 = .ok (.ifCond .ge 34, 3) := by decide +kernel
theorem d_SR_numberRows_48 : decode b_SR_numberRows 48 = .ok (.aload_n 0, 1) := by decide +kernel
theorem d_SR_numberRows_49 : decode b_SR_numberRows 49 = .ok (.getfield 19, 3) := by decide +kernel
theorem d_SR_numberRows_52 : decode b_SR_numberRows 52 = .ok (.getfield 355, 3) := by decide +kernel
theorem d_SR_numberRows_55 : decode b_SR_numberRows 55 = .ok (.iload_n 2, 1) := by decide +kernel
theorem d_SR_numberRows_56 : decode b_SR_numberRows 56 = .ok (.aload_n 0, 1) := by decide +kernel
theorem d_SR_numberRows_57 : decode b_SR_numberRows 57 = .ok (.getfield 33, 3) := by decide +kernel
theorem d_SR_numberRows_60 : decode b_SR_numberRows 60 = .ok (.getfield 179, 3) := by decide +kernel
theorem d_SR_numberRows_63 : decode b_SR_numberRows 63 = .ok (.aload_n 0, 1) := by decide +kernel
theorem d_SR_numberRows_64 : decode b_SR_numberRows 64 = .ok (.getfield 19, 3) := by decide +kernel
theorem d_SR_numberRows_67 : decode b_SR_numberRows 67 = .ok (.getfield 364, 3) := by decide +kernel
theorem d_SR_numberRows_70 : decode b_SR_numberRows 70 = .ok (.iload_n 2, 1) := by decide +kernel
theorem d_SR_numberRows_71 : decode b_SR_numberRows 71 = .ok (.iaload, 1) := by decide +kernel
theorem d_SR_numberRows_72 : decode b_SR_numberRows 72 = .ok (.dup2, 1) := by decide +kernel
theorem d_SR_numberRows_73 : decode b_SR_numberRows 73 = .ok (.iaload, 1) := by decide +kernel
theorem d_SR_numberRows_74 : decode b_SR_numberRows 74 = .ok (.dup_x2, 1) := by decide +kernel
theorem d_SR_numberRows_75 : decode b_SR_numberRows 75 = .ok (.iconst 1, 1) := by decide +kernel
theorem d_SR_numberRows_76 : decode b_SR_numberRows 76 = .ok (.iadd, 1) := by decide +kernel
theorem d_SR_numberRows_77 : decode b_SR_numberRows 77 = .ok (.iastore, 1) := by decide +kernel
theorem d_SR_numberRows_78 : decode b_SR_numberRows 78 = .ok (.iastore, 1) := by decide +kernel
theorem d_SR_numberRows_79 : decode b_SR_numberRows 79 = .ok (.iinc 1 1, 3) := by decide +kernel
theorem d_SR_numberRows_82 : decode b_SR_numberRows 82 = .ok (.goto (-80), 3) := by decide +kernel
theorem d_SR_numberRows_85 : decode b_SR_numberRows 85 = .ok (.return_, 1) := by decide +kernel
theorem d_SR_gatherCounted_0 : decode b_SR_gatherCounted 0 = .ok (.aload_n 0, 1) := by decide +kernel
theorem d_SR_gatherCounted_1 : decode b_SR_gatherCounted 1 = .ok (.getfield 47, 3) := by decide +kernel
theorem d_SR_gatherCounted_4 : decode b_SR_gatherCounted 4 = .ok (.invokevirtual 306, 3) := by decide +kernel
theorem d_SR_gatherCounted_7 : decode b_SR_gatherCounted 7 = .ok (.iconst 0, 1) := by decide +kernel
theorem d_SR_gatherCounted_8 : decode b_SR_gatherCounted 8 = .ok (.istore 4, 2) := by decide +kernel
theorem d_SR_gatherCounted_10 : decode b_SR_gatherCounted 10 = .ok (.iload 4, 2) := by decide +kernel
theorem d_SR_gatherCounted_12 : decode b_SR_gatherCounted 12 = .ok (.aload_n 0, 1) := by decide +kernel
theorem d_SR_gatherCounted_13 : decode b_SR_gatherCounted 13 = .ok (.getfield 19, 3) := by decide +kernel
theorem d_SR_gatherCounted_16 : decode b_SR_gatherCounted 16 = .ok (.getfield 154, 3) := by decide +kernel
theorem d_SR_gatherCounted_19 : decode b_SR_gatherCounted 19 = .ok (.if_icmp .ge 81, 3) := by decide +kernel
theorem d_SR_gatherCounted_22 : decode b_SR_gatherCounted 22 = .ok (.aload_n 0, 1) := by decide +kernel
theorem d_SR_gatherCounted_23 : decode b_SR_gatherCounted 23 = .ok (.getfield 19, 3) := by decide +kernel
theorem d_SR_gatherCounted_26 : decode b_SR_gatherCounted 26 = .ok (.getfield 309, 3) := by decide +kernel
theorem d_SR_gatherCounted_29 : decode b_SR_gatherCounted 29 = .ok (.iload 4, 2) := by decide +kernel
theorem d_SR_gatherCounted_31 : decode b_SR_gatherCounted 31 = .ok (.iaload, 1) := by decide +kernel
theorem d_SR_gatherCounted_32 : decode b_SR_gatherCounted 32 = .ok (.istore 5, 2) := by decide +kernel
theorem d_SR_gatherCounted_34 : decode b_SR_gatherCounted 34 = .ok (.aload_n 0, 1) := by decide +kernel
theorem d_SR_gatherCounted_35 : decode b_SR_gatherCounted 35 = .ok (.getfield 19, 3) := by decide +kernel
theorem d_SR_gatherCounted_38 : decode b_SR_gatherCounted 38 = .ok (.getfield 364, 3) := by decide +kernel
theorem d_SR_gatherCounted_41 : decode b_SR_gatherCounted 41 = .ok (.iload 5, 2) := by decide +kernel
theorem d_SR_gatherCounted_43 : decode b_SR_gatherCounted 43 = .ok (.iaload, 1) := by decide +kernel
theorem d_SR_gatherCounted_44 : decode b_SR_gatherCounted 44 = .ok (.iload_n 1, 1) := by decide +kernel
theorem d_SR_gatherCounted_45 : decode b_SR_gatherCounted 45 = .ok (.if_icmp .ne 49, 3) := by decide +kernel
theorem d_SR_gatherCounted_48 : decode b_SR_gatherCounted 48 = .ok (.aload_n 0, 1) := by decide +kernel
theorem d_SR_gatherCounted_49 : decode b_SR_gatherCounted 49 = .ok (.getfield 19, 3) := by decide +kernel
theorem d_SR_gatherCounted_52 : decode b_SR_gatherCounted 52 = .ok (.getfield 355, 3) := by decide +kernel
theorem d_SR_gatherCounted_55 : decode b_SR_gatherCounted 55 = .ok (.iload 5, 2) := by decide +kernel
theorem d_SR_gatherCounted_57 : decode b_SR_gatherCounted 57 = .ok (.iaload, 1) := by decide +kernel
theorem d_SR_gatherCounted_58 : decode b_SR_gatherCounted 58 = .ok (.i2l, 1) := by decide +kernel
theorem d_SR_gatherCounted_59 : decode b_SR_gatherCounted 59 = .ok (.lload_n 2, 1) := by decide +kernel
theorem d_SR_gatherCounted_60 : decode b_SR_gatherCounted 60 = .ok (.lload_n 2, 1) := by decide +kernel
theorem d_SR_gatherCounted_61 : decode b_SR_gatherCounted 61 = .ok (.aload_n 0, 1) := by decide +kernel
theorem d_SR_gatherCounted_62 : decode b_SR_gatherCounted 62 = .ok (.getfield 87, 3) := by decide +kernel
theorem d_SR_gatherCounted_65 : decode b_SR_gatherCounted 65 = .ok (.getfield 243, 3) := by decide +kernel
theorem d_SR_gatherCounted_68 : decode b_SR_gatherCounted 68 = .ok (.ladd, 1) := by decide +kernel
theorem d_SR_gatherCounted_69 : decode b_SR_gatherCounted 69 = .ok (.lconst 1, 1) := by decide +kernel
theorem d_SR_gatherCounted_70 : decode b_SR_gatherCounted 70 = .ok (.lsub, 1) := by decide +kernel
theorem d_SR_gatherCounted_71 : decode b_SR_gatherCounted 71 = .ok (.invokestatic 95, 3) := by decide +kernel
theorem d_SR_gatherCounted_74 : decode b_SR_gatherCounted 74 = .ok (.ifCond .eq 20, 3) := by decide +kernel
theorem d_SR_gatherCounted_77 : decode b_SR_gatherCounted 77 = .ok (.aload_n 0, 1) := by decide +kernel
theorem d_SR_gatherCounted_78 : decode b_SR_gatherCounted 78 = .ok (.getfield 47, 3) := by decide +kernel
theorem d_SR_gatherCounted_81 : decode b_SR_gatherCounted 81 = .ok (.aload_n 0, 1) := by decide +kernel
theorem d_SR_gatherCounted_82 : decode b_SR_gatherCounted 82 = .ok (.getfield 19, 3) := by decide +kernel
theorem d_SR_gatherCounted_85 : decode b_SR_gatherCounted 85 = .ok (.getfield 316, 3) := by decide +kernel
theorem d_SR_gatherCounted_88 : decode b_SR_gatherCounted 88 = .ok (.iload 5, 2) := by decide +kernel
theorem d_SR_gatherCounted_90 : decode b_SR_gatherCounted 90 = .ok (.laload, 1) := by decide +kernel
theorem d_SR_gatherCounted_91 : decode b_SR_gatherCounted 91 = .ok (.invokevirtual 319, 3) := by decide +kernel
theorem d_SR_gatherCounted_94 : decode b_SR_gatherCounted 94 = .ok (.iinc 4 1, 3) := by decide +kernel
theorem d_SR_gatherCounted_97 : decode b_SR_gatherCounted 97 = .ok (.goto (-87), 3) := by decide +kernel
theorem d_SR_gatherCounted_100 : decode b_SR_gatherCounted 100 = .ok (.return_, 1) := by decide +kernel
theorem d_SR_fireCounted_0 : decode b_SR_fireCounted 0 = .ok (.iconst 0, 1) := by decide +kernel
theorem d_SR_fireCounted_1 : decode b_SR_fireCounted 1 = .ok (.istore_n 2, 1) := by decide +kernel
theorem d_SR_fireCounted_2 : decode b_SR_fireCounted 2 = .ok (.aload_n 0, 1) := by decide +kernel
theorem d_SR_fireCounted_3 : decode b_SR_fireCounted 3 = .ok (.getfield 33, 3) := by decide +kernel
theorem d_SR_fireCounted_6 : decode b_SR_fireCounted 6 = .ok (.getfield 368, 3) := by decide +kernel
theorem d_SR_fireCounted_9 : decode b_SR_fireCounted 9 = .ok (.iload_n 1, 1) := by decide +kernel
theorem d_SR_fireCounted_10 : decode b_SR_fireCounted 10 = .ok (.laload, 1) := by decide +kernel
theorem d_SR_fireCounted_11 : decode b_SR_fireCounted 11 = .ok (.lstore_n 3, 1) := by decide +kernel
theorem d_SR_fireCounted_12 : decode b_SR_fireCounted 12 = .ok (.lload_n 3, 1) := by decide +kernel
theorem d_SR_fireCounted_13 : decode b_SR_fireCounted 13 = .ok (.aload_n 0, 1) := by decide +kernel
theorem d_SR_fireCounted_14 : decode b_SR_fireCounted 14 = .ok (.getfield 87, 3) := by decide +kernel
theorem d_SR_fireCounted_17 : decode b_SR_fireCounted 17 = .ok (.getfield 243, 3) := by decide +kernel
theorem d_SR_fireCounted_20 : decode b_SR_fireCounted 20 = .ok (.ladd, 1) := by decide +kernel
theorem d_SR_fireCounted_21 : decode b_SR_fireCounted 21 = .ok (.aload_n 0, 1) := by decide +kernel
theorem d_SR_fireCounted_22 : decode b_SR_fireCounted 22 = .ok (.getfield 33, 3) := by decide +kernel
theorem d_SR_fireCounted_25 : decode b_SR_fireCounted 25 = .ok (.getfield 179, 3) := by decide +kernel
theorem d_SR_fireCounted_28 : decode b_SR_fireCounted 28 = .ok (.iload_n 1, 1) := by decide +kernel
theorem d_SR_fireCounted_29 : decode b_SR_fireCounted 29 = .ok (.iaload, 1) := by decide +kernel
theorem d_SR_fireCounted_30 : decode b_SR_fireCounted 30 = .ok (.i2l, 1) := by decide +kernel
theorem d_SR_fireCounted_31 : decode b_SR_fireCounted 31 = .ok (.lcmp, 1) := by decide +kernel
theorem d_SR_fireCounted_32 : decode b_SR_fireCounted 32 = .ok (.ifCond .gt 49, 3) := by decide +kernel
theorem d_SR_fireCounted_35 : decode b_SR_fireCounted 35 = .ok (.aload_n 0, 1) := by decide +kernel
theorem d_SR_fireCounted_36 : decode b_SR_fireCounted 36 = .ok (.iload_n 1, 1) := by decide +kernel
theorem d_SR_fireCounted_37 : decode b_SR_fireCounted 37 = .ok (.lload_n 3, 1) := by decide +kernel
theorem d_SR_fireCounted_38 : decode b_SR_fireCounted 38 = .ok (.invokevirtual 369, 3) := by decide +kernel
theorem d_SR_fireCounted_41 : decode b_SR_fireCounted 41 = .ok (.aload_n 0, 1) := by decide +kernel
theorem d_SR_fireCounted_42 : decode b_SR_fireCounted 42 = .ok (.getfield 40, 3) := by decide +kernel
theorem d_SR_fireCounted_45 : decode b_SR_fireCounted 45 = .ok (.iload_n 1, 1) := by decide +kernel
theorem d_SR_fireCounted_46 : decode b_SR_fireCounted 46 = .ok (.lload_n 3, 1) := by decide +kernel
theorem d_SR_fireCounted_47 : decode b_SR_fireCounted 47 = .ok (.lload_n 3, 1) := by decide +kernel
theorem d_SR_fireCounted_48 : decode b_SR_fireCounted 48 = .ok (.aload_n 0, 1) := by decide +kernel
theorem d_SR_fireCounted_49 : decode b_SR_fireCounted 49 = .ok (.getfield 87, 3) := by decide +kernel
theorem d_SR_fireCounted_52 : decode b_SR_fireCounted 52 = .ok (.getfield 243, 3) := by decide +kernel
theorem d_SR_fireCounted_55 : decode b_SR_fireCounted 55 = .ok (.ladd, 1) := by decide +kernel
theorem d_SR_fireCounted_56 : decode b_SR_fireCounted 56 = .ok (.iconst 1, 1) := by decide +kernel
theorem d_SR_fireCounted_57 : decode b_SR_fireCounted 57 = .ok (.iconst 1, 1) := by decide +kernel
theorem d_SR_fireCounted_58 : decode b_SR_fireCounted 58 = .ok (.aload_n 0, 1) := by decide +kernel
theorem d_SR_fireCounted_59 : decode b_SR_fireCounted 59 = .ok (.getfield 47, 3) := by decide +kernel
theorem d_SR_fireCounted_62 : decode b_SR_fireCounted 62 = .ok (.invokevirtual 303, 3) := by decide +kernel
theorem d_SR_fireCounted_65 : decode b_SR_fireCounted 65 = .ok (.iinc 2 1, 3) := by decide +kernel
theorem d_SR_fireCounted_68 : decode b_SR_fireCounted 68 = .ok (.lload_n 3, 1) := by decide +kernel
theorem d_SR_fireCounted_69 : decode b_SR_fireCounted 69 = .ok (.aload_n 0, 1) := by decide +kernel
theorem d_SR_fireCounted_70 : decode b_SR_fireCounted 70 = .ok (.getfield 87, 3) := by decide +kernel
theorem d_SR_fireCounted_73 : decode b_SR_fireCounted 73 = .ok (.getfield 358, 3) := by decide +kernel
theorem d_SR_fireCounted_76 : decode b_SR_fireCounted 76 = .ok (.ladd, 1) := by decide +kernel
theorem d_SR_fireCounted_77 : decode b_SR_fireCounted 77 = .ok (.lstore_n 3, 1) := by decide +kernel
theorem d_SR_fireCounted_78 : decode b_SR_fireCounted 78 = .ok (.goto (-66), 3) := by decide +kernel
theorem d_SR_fireCounted_81 : decode b_SR_fireCounted 81 = .ok (.aload_n 0, 1) := by decide +kernel
theorem d_SR_fireCounted_82 : decode b_SR_fireCounted 82 = .ok (.getfield 33, 3) := by decide +kernel
theorem d_SR_fireCounted_85 : decode b_SR_fireCounted 85 = .ok (.getfield 368, 3) := by decide +kernel
theorem d_SR_fireCounted_88 : decode b_SR_fireCounted 88 = .ok (.iload_n 1, 1) := by decide +kernel
theorem d_SR_fireCounted_89 : decode b_SR_fireCounted 89 = .ok (.lload_n 3, 1) := by decide +kernel
theorem d_SR_fireCounted_90 : decode b_SR_fireCounted 90 = .ok (.lastore, 1) := by decide +kernel
theorem d_SR_fireCounted_91 : decode b_SR_fireCounted 91 = .ok (.iload_n 2, 1) := by decide +kernel
theorem d_SR_fireCounted_92 : decode b_SR_fireCounted 92 = .ok (.ireturn, 1) := by decide +kernel
theorem d_SR_by_0 : decode b_SR_by 0 = .ok (.lload_n 2, 1) := by decide +kernel
theorem d_SR_by_1 : decode b_SR_by 1 = .ok (.lconst 1, 1) := by decide +kernel
theorem d_SR_by_2 : decode b_SR_by 2 = .ok (.lcmp, 1) := by decide +kernel
theorem d_SR_by_3 : decode b_SR_by 3 = .ok (.ifCond .ge 7, 3) := by decide +kernel
theorem d_SR_by_6 : decode b_SR_by 6 = .ok (.lconst 0, 1) := by decide +kernel
theorem d_SR_by_7 : decode b_SR_by 7 = .ok (.goto 8, 3) := by decide +kernel
theorem d_SR_by_10 : decode b_SR_by 10 = .ok (.lload_n 0, 1) := by decide +kernel
theorem d_SR_by_11 : decode b_SR_by 11 = .ok (.lload_n 2, 1) := by decide +kernel
theorem d_SR_by_12 : decode b_SR_by 12 = .ok (.invokestatic 228, 3) := by decide +kernel
theorem d_SR_by_15 : decode b_SR_by 15 = .ok (.lreturn, 1) := by decide +kernel
theorem d_SR_isWaitedFor_0 : decode b_SR_isWaitedFor 0 = .ok (.aload_n 0, 1) := by decide +kernel
theorem d_SR_isWaitedFor_1 : decode b_SR_isWaitedFor 1 = .ok (.getfield 87, 3) := by decide +kernel
theorem d_SR_isWaitedFor_4 : decode b_SR_isWaitedFor 4 = .ok (.getfield 358, 3) := by decide +kernel
theorem d_SR_isWaitedFor_7 : decode b_SR_isWaitedFor 7 = .ok (.aload_n 0, 1) := by decide +kernel
theorem d_SR_isWaitedFor_8 : decode b_SR_isWaitedFor 8 = .ok (.getfield 19, 3) := by decide +kernel
theorem d_SR_isWaitedFor_11 : decode b_SR_isWaitedFor 11 = .ok (.getfield 355, 3) := by decide +kernel
theorem d_SR_isWaitedFor_14 : decode b_SR_isWaitedFor 14 = .ok (.iload_n 1, 1) := by decide +kernel
theorem d_SR_isWaitedFor_15 : decode b_SR_isWaitedFor 15 = .ok (.iaload, 1) := by decide +kernel
theorem d_SR_isWaitedFor_16 : decode b_SR_isWaitedFor 16 = .ok (.i2l, 1) := by decide +kernel
theorem d_SR_isWaitedFor_17 : decode b_SR_isWaitedFor 17 = .ok (.aload_n 0, 1) := by decide +kernel
theorem d_SR_isWaitedFor_18 : decode b_SR_isWaitedFor 18 = .ok (.getfield 87, 3) := by decide +kernel
theorem d_SR_isWaitedFor_21 : decode b_SR_isWaitedFor 21 = .ok (.getfield 358, 3) := by decide +kernel
theorem d_SR_isWaitedFor_24 : decode b_SR_isWaitedFor 24 = .ok (.invokestatic 361, 3) := by decide +kernel
theorem d_SR_isWaitedFor_27 : decode b_SR_isWaitedFor 27 = .ok (.lmul, 1) := by decide +kernel
theorem d_SR_isWaitedFor_28 : decode b_SR_isWaitedFor 28 = .ok (.lstore_n 2, 1) := by decide +kernel
theorem d_SR_isWaitedFor_29 : decode b_SR_isWaitedFor 29 = .ok (.lload_n 2, 1) := by decide +kernel
theorem d_SR_isWaitedFor_30 : decode b_SR_isWaitedFor 30 = .ok (.aload_n 0, 1) := by decide +kernel
theorem d_SR_isWaitedFor_31 : decode b_SR_isWaitedFor 31 = .ok (.getfield 87, 3) := by decide +kernel
theorem d_SR_isWaitedFor_34 : decode b_SR_isWaitedFor 34 = .ok (.getfield 243, 3) := by decide +kernel
theorem d_SR_isWaitedFor_37 : decode b_SR_isWaitedFor 37 = .ok (.ladd, 1) := by decide +kernel
theorem d_SR_isWaitedFor_38 : decode b_SR_isWaitedFor 38 = .ok (.aload_n 0, 1) := by decide +kernel
theorem d_SR_isWaitedFor_39 : decode b_SR_isWaitedFor 39 = .ok (.getfield 33, 3) := by decide +kernel
theorem d_SR_isWaitedFor_42 : decode b_SR_isWaitedFor 42 = .ok (.getfield 179, 3) := by decide +kernel
theorem d_SR_isWaitedFor_45 : decode b_SR_isWaitedFor 45 = .ok (.aload_n 0, 1) := by decide +kernel
theorem d_SR_isWaitedFor_46 : decode b_SR_isWaitedFor 46 = .ok (.getfield 19, 3) := by decide +kernel
theorem d_SR_isWaitedFor_49 : decode b_SR_isWaitedFor 49 = .ok (.getfield 364, 3) := by decide +kernel
theorem d_SR_isWaitedFor_52 : decode b_SR_isWaitedFor 52 = .ok (.iload_n 1, 1) := by decide +kernel
theorem d_SR_isWaitedFor_53 : decode b_SR_isWaitedFor 53 = .ok (.iaload, 1) := by decide +kernel
theorem d_SR_isWaitedFor_54 : decode b_SR_isWaitedFor 54 = .ok (.iaload, 1) := by decide +kernel
theorem d_SR_isWaitedFor_55 : decode b_SR_isWaitedFor 55 = .ok (.i2l, 1) := by decide +kernel
theorem d_SR_isWaitedFor_56 : decode b_SR_isWaitedFor 56 = .ok (.lcmp, 1) := by decide +kernel
theorem d_SR_isWaitedFor_57 : decode b_SR_isWaitedFor 57 = .ok (.ifCond .le 7, 3) := by decide +kernel
theorem d_SR_isWaitedFor_60 : decode b_SR_isWaitedFor 60 = .ok (.iconst 1, 1) := by decide +kernel
theorem d_SR_isWaitedFor_61 : decode b_SR_isWaitedFor 61 = .ok (.goto 4, 3) := by decide +kernel
theorem d_SR_isWaitedFor_64 : decode b_SR_isWaitedFor 64 = .ok (.iconst 0, 1) := by decide +kernel
theorem d_SR_isWaitedFor_65 : decode b_SR_isWaitedFor 65 = .ok (.ireturn, 1) := by decide +kernel
theorem d_RS_sweep_0 : decode b_RS_sweep 0 = .ok (.iconst 0, 1) := by decide +kernel
theorem d_RS_sweep_1 : decode b_RS_sweep 1 = .ok (.istore_n 1, 1) := by decide +kernel
theorem d_RS_sweep_2 : decode b_RS_sweep 2 = .ok (.iconst 0, 1) := by decide +kernel
theorem d_RS_sweep_3 : decode b_RS_sweep 3 = .ok (.istore_n 2, 1) := by decide +kernel
theorem d_RS_sweep_4 : decode b_RS_sweep 4 = .ok (.iload_n 2, 1) := by decide +kernel
theorem d_RS_sweep_5 : decode b_RS_sweep 5 = .ok (.aload_n 0, 1) := by decide +kernel
theorem d_RS_sweep_6 : decode b_RS_sweep 6 = .ok (.getfield 32, 3) := by decide +kernel
theorem d_RS_sweep_9 : decode b_RS_sweep 9 = .ok (.if_icmp .ge 47, 3) := by decide +kernel
theorem d_RS_sweep_12 : decode b_RS_sweep 12 = .ok (.aload_n 0, 1) := by decide +kernel
theorem d_RS_sweep_13 : decode b_RS_sweep 13 = .ok (.getfield 29, 3) := by decide +kernel
theorem d_RS_sweep_16 : decode b_RS_sweep 16 = .ok (.iload_n 2, 1) := by decide +kernel
theorem d_RS_sweep_17 : decode b_RS_sweep 17 = .ok (.iaload, 1) := by decide +kernel
theorem d_RS_sweep_18 : decode b_RS_sweep 18 = .ok (.istore_n 3, 1) := by decide +kernel
theorem d_RS_sweep_19 : decode b_RS_sweep 19 = .ok (.aload_n 0, 1) := by decide +kernel
theorem d_RS_sweep_20 : decode b_RS_sweep 20 = .ok (.getfield 25, 3) := by decide +kernel
theorem d_RS_sweep_23 : decode b_RS_sweep 23 = .ok (.iload_n 3, 1) := by decide +kernel
theorem d_RS_sweep_24 : decode b_RS_sweep 24 = .ok (.baload, 1) := by decide +kernel
theorem d_RS_sweep_25 : decode b_RS_sweep 25 = .ok (.ifCond .ne 25, 3) := by decide +kernel
theorem d_RS_sweep_28 : decode b_RS_sweep 28 = .ok (.aload_n 0, 1) := by decide +kernel
theorem d_RS_sweep_29 : decode b_RS_sweep 29 = .ok (.getfield 29, 3) := by decide +kernel
theorem d_RS_sweep_32 : decode b_RS_sweep 32 = .ok (.iload_n 2, 1) := by decide +kernel
theorem d_RS_sweep_33 : decode b_RS_sweep 33 = .ok (.aload_n 0, 1) := by decide +kernel
theorem d_RS_sweep_34 : decode b_RS_sweep 34 = .ok (.getfield 29, 3) := by decide +kernel
theorem d_RS_sweep_37 : decode b_RS_sweep 37 = .ok (.iload_n 1, 1) := by decide +kernel
theorem d_RS_sweep_38 : decode b_RS_sweep 38 = .ok (.iaload, 1) := by decide +kernel
theorem d_RS_sweep_39 : decode b_RS_sweep 39 = .ok (.iastore, 1) := by decide +kernel
theorem d_RS_sweep_40 : decode b_RS_sweep 40 = .ok (.aload_n 0, 1) := by decide +kernel
theorem d_RS_sweep_41 : decode b_RS_sweep 41 = .ok (.getfield 29, 3) := by decide +kernel
theorem d_RS_sweep_44 : decode b_RS_sweep 44 = .ok (.iload_n 1, 1) := by decide +kernel
theorem d_RS_sweep_45 : decode b_RS_sweep 45 = .ok (.iload_n 3, 1) := by decide +kernel
theorem d_RS_sweep_46 : decode b_RS_sweep 46 = .ok (.iastore, 1) := by decide +kernel
theorem d_RS_sweep_47 : decode b_RS_sweep 47 = .ok (.iinc 1 1, 3) := by decide +kernel
theorem d_RS_sweep_50 : decode b_RS_sweep 50 = .ok (.iinc 2 1, 3) := by decide +kernel
theorem d_RS_sweep_53 : decode b_RS_sweep 53 = .ok (.goto (-49), 3) := by decide +kernel
theorem d_RS_sweep_56 : decode b_RS_sweep 56 = .ok (.aload_n 0, 1) := by decide +kernel
theorem d_RS_sweep_57 : decode b_RS_sweep 57 = .ok (.iload_n 1, 1) := by decide +kernel
theorem d_RS_sweep_58 : decode b_RS_sweep 58 = .ok (.putfield 32, 3) := by decide +kernel
theorem d_RS_sweep_61 : decode b_RS_sweep 61 = .ok (.return_, 1) := by decide +kernel
theorem d_SR_endCounted_0 : decode b_SR_endCounted 0 = .ok (.aload_n 0, 1) := by decide +kernel
theorem d_SR_endCounted_1 : decode b_SR_endCounted 1 = .ok (.invokevirtual 343, 3) := by decide +kernel
theorem d_SR_endCounted_4 : decode b_SR_endCounted 4 = .ok (.iconst 0, 1) := by decide +kernel
theorem d_SR_endCounted_5 : decode b_SR_endCounted 5 = .ok (.istore_n 1, 1) := by decide +kernel
theorem d_SR_endCounted_6 : decode b_SR_endCounted 6 = .ok (.iconst 0, 1) := by decide +kernel
theorem d_SR_endCounted_7 : decode b_SR_endCounted 7 = .ok (.istore_n 2, 1) := by decide +kernel
theorem d_SR_endCounted_8 : decode b_SR_endCounted 8 = .ok (.iload_n 2, 1) := by decide +kernel
theorem d_SR_endCounted_9 : decode b_SR_endCounted 9 = .ok (.bipush 8, 2) := by decide +kernel
theorem d_SR_endCounted_11 : decode b_SR_endCounted 11 = .ok (.if_icmp .ge 17, 3) := by decide +kernel
theorem d_SR_endCounted_14 : decode b_SR_endCounted 14 = .ok (.iload_n 1, 1) := by decide +kernel
theorem d_SR_endCounted_15 : decode b_SR_endCounted 15 = .ok (.aload_n 0, 1) := by decide +kernel
theorem d_SR_endCounted_16 : decode b_SR_endCounted 16 = .ok (.iload_n 2, 1) := by decide +kernel
theorem d_SR_endCounted_17 : decode b_SR_endCounted 17 = .ok (.invokevirtual 346, 3) := by decide +kernel
theorem d_SR_endCounted_20 : decode b_SR_endCounted 20 = .ok (.iadd, 1) := by decide +kernel
theorem d_SR_endCounted_21 : decode b_SR_endCounted 21 = .ok (.istore_n 1, 1) := by decide +kernel
theorem d_SR_endCounted_22 : decode b_SR_endCounted 22 = .ok (.iinc 2 1, 3) := by decide +kernel
theorem d_SR_endCounted_25 : decode b_SR_endCounted 25 = .ok (.goto (-17), 3) := by decide +kernel
theorem d_SR_endCounted_28 : decode b_SR_endCounted 28 = .ok (.iconst 0, 1) := by decide +kernel
theorem d_SR_endCounted_29 : decode b_SR_endCounted 29 = .ok (.istore_n 2, 1) := by decide +kernel
theorem d_SR_endCounted_30 : decode b_SR_endCounted 30 = .ok (.iload_n 2, 1) := by decide +kernel
theorem d_SR_endCounted_31 : decode b_SR_endCounted 31 = .ok (.aload_n 0, 1) := by decide +kernel
theorem d_SR_endCounted_32 : decode b_SR_endCounted 32 = .ok (.getfield 19, 3) := by decide +kernel
theorem d_SR_endCounted_35 : decode b_SR_endCounted 35 = .ok (.getfield 154, 3) := by decide +kernel
theorem d_SR_endCounted_38 : decode b_SR_endCounted 38 = .ok (.if_icmp .ge 49, 3) := by decide +kernel
theorem d_SR_endCounted_41 : decode b_SR_endCounted 41 = .ok (.aload_n 0, 1) := by decide +kernel
theorem d_SR_endCounted_42 : decode b_SR_endCounted 42 = .ok (.getfield 19, 3) := by decide +kernel
theorem d_SR_endCounted_45 : decode b_SR_endCounted 45 = .ok (.getfield 309, 3) := by decide +kernel
theorem d_SR_endCounted_48 : decode b_SR_endCounted 48 = .ok (.iload_n 2, 1) := by decide +kernel
theorem d_SR_endCounted_49 : decode b_SR_endCounted 49 = .ok (.iaload, 1) := by decide +kernel
theorem d_SR_endCounted_50 : decode b_SR_endCounted 50 = .ok (.istore_n 3, 1) := by decide +kernel
theorem d_SR_endCounted_51 : decode b_SR_endCounted 51 = .ok (.aload_n 0, 1) := by decide +kernel
theorem d_SR_endCounted_52 : decode b_SR_endCounted 52 = .ok (.getfield 19, 3) := by decide +kernel
theorem d_SR_endCounted_55 : decode b_SR_endCounted 55 = .ok (.getfield 334, 3) := by decide +kernel
theorem d_SR_endCounted_58 : decode b_SR_endCounted 58 = .ok (.iload_n 3, 1) := by decide +kernel
theorem d_SR_endCounted_59 : decode b_SR_endCounted 59 = .ok (.aload_n 0, 1) := by decide +kernel
theorem d_SR_endCounted_60 : decode b_SR_endCounted 60 = .ok (.iload_n 3, 1) := by decide +kernel
theorem d_SR_endCounted_61 : decode b_SR_endCounted 61 = .ok (.invokevirtual 349, 3) := by decide +kernel
theorem d_SR_endCounted_64 : decode b_SR_endCounted 64 = .ok (.ifCond .eq 15, 3) := by decide +kernel
theorem d_SR_endCounted_67 : decode b_SR_endCounted 67 = .ok (.aload_n 0, 1) := by decide +kernel
theorem d_SR_endCounted_68 : decode b_SR_endCounted 68 = .ok (.iload_n 3, 1) := by decide +kernel
theorem d_SR_endCounted_69 : decode b_SR_endCounted 69 = .ok (.invokevirtual 352, 3) := by decide +kernel
theorem d_SR_endCounted_72 : decode b_SR_endCounted 72 = .ok (.ifCond .ne 7, 3) := by decide +kernel
theorem d_SR_endCounted_75 : decode b_SR_endCounted 75 = .ok (.iconst 1, 1) := by decide +kernel
theorem d_SR_endCounted_76 : decode b_SR_endCounted 76 = .ok (.goto 4, 3) := by decide +kernel
theorem d_SR_endCounted_79 : decode b_SR_endCounted 79 = .ok (.iconst 0, 1) := by decide +kernel
theorem d_SR_endCounted_80 : decode b_SR_endCounted 80 = .ok (.bastore, 1) := by decide +kernel
theorem d_SR_endCounted_81 : decode b_SR_endCounted 81 = .ok (.iinc 2 1, 3) := by decide +kernel
theorem d_SR_endCounted_84 : decode b_SR_endCounted 84 = .ok (.goto (-54), 3) := by decide +kernel
theorem d_SR_endCounted_87 : decode b_SR_endCounted 87 = .ok (.aload_n 0, 1) := by decide +kernel
theorem d_SR_endCounted_88 : decode b_SR_endCounted 88 = .ok (.getfield 19, 3) := by decide +kernel
theorem d_SR_endCounted_91 : decode b_SR_endCounted 91 = .ok (.invokevirtual 340, 3) := by decide +kernel
theorem d_SR_endCounted_94 : decode b_SR_endCounted 94 = .ok (.iload_n 1, 1) := by decide +kernel
theorem d_SR_endCounted_95 : decode b_SR_endCounted 95 = .ok (.ireturn, 1) := by decide +kernel
theorem d_SS_seekDue_0 : decode b_SS_seekDue 0 = .ok (.iconst 0, 1) := by decide +kernel
theorem d_SS_seekDue_1 : decode b_SS_seekDue 1 = .ok (.istore_n 3, 1) := by decide +kernel
theorem d_SS_seekDue_2 : decode b_SS_seekDue 2 = .ok (.iconst 0, 1) := by decide +kernel
theorem d_SS_seekDue_3 : decode b_SS_seekDue 3 = .ok (.istore 4, 2) := by decide +kernel
theorem d_SS_seekDue_5 : decode b_SS_seekDue 5 = .ok (.iload 4, 2) := by decide +kernel
theorem d_SS_seekDue_7 : decode b_SS_seekDue 7 = .ok (.aload_n 0, 1) := by decide +kernel
theorem d_SS_seekDue_8 : decode b_SS_seekDue 8 = .ok (.getfield 47, 3) := by decide +kernel
theorem d_SS_seekDue_11 : decode b_SS_seekDue 11 = .ok (.if_icmp .ge 107, 3) := by decide +kernel
theorem d_SS_seekDue_14 : decode b_SS_seekDue 14 = .ok (.aload_n 0, 1) := by decide +kernel
theorem d_SS_seekDue_15 : decode b_SS_seekDue 15 = .ok (.getfield 44, 3) := by decide +kernel
theorem d_SS_seekDue_18 : decode b_SS_seekDue 18 = .ok (.iload 4, 2) := by decide +kernel
theorem d_SS_seekDue_20 : decode b_SS_seekDue 20 = .ok (.iaload, 1) := by decide +kernel
theorem d_SS_seekDue_21 : decode b_SS_seekDue 21 = .ok (.istore 5, 2) := by decide +kernel
theorem d_SS_seekDue_23 : decode b_SS_seekDue 23 = .ok (.aload_n 0, 1) := by decide +kernel
theorem d_SS_seekDue_24 : decode b_SS_seekDue 24 = .ok (.getfield 28, 3) := by decide +kernel
theorem d_SS_seekDue_27 : decode b_SS_seekDue 27 = .ok (.iload 5, 2) := by decide +kernel
theorem d_SS_seekDue_29 : decode b_SS_seekDue 29 = .ok (.baload, 1) := by decide +kernel
theorem d_SS_seekDue_30 : decode b_SS_seekDue 30 = .ok (.ifCond .ne 82, 3) := by decide +kernel
theorem d_SS_seekDue_33 : decode b_SS_seekDue 33 = .ok (.aload_n 0, 1) := by decide +kernel
theorem d_SS_seekDue_34 : decode b_SS_seekDue 34 = .ok (.getfield 19, 3) := by decide +kernel
theorem d_SS_seekDue_37 : decode b_SS_seekDue 37 = .ok (.iload 5, 2) := by decide +kernel
theorem d_SS_seekDue_39 : decode b_SS_seekDue 39 = .ok (.laload, 1) := by decide +kernel
theorem d_SS_seekDue_40 : decode b_SS_seekDue 40 = .ok (.lload_n 1, 1) := by decide +kernel
theorem d_SS_seekDue_41 : decode b_SS_seekDue 41 = .ok (.lcmp, 1) := by decide +kernel
theorem d_SS_seekDue_42 : decode b_SS_seekDue 42 = .ok (.ifCond .gt 70, 3) := by decide +kernel
theorem d_SS_seekDue_45 : decode b_SS_seekDue 45 = .ok (.iload_n 3, 1) := by decide +kernel
theorem d_SS_seekDue_46 : decode b_SS_seekDue 46 = .ok (.istore 6, 2) := by decide +kernel
theorem d_SS_seekDue_48 : decode b_SS_seekDue 48 = .ok (.iload 6, 2) := by decide +kernel
theorem d_SS_seekDue_50 : decode b_SS_seekDue 50 = .ok (.ifCond .le 50, 3) := by decide +kernel
theorem d_SS_seekDue_53 : decode b_SS_seekDue 53 = .ok (.aload_n 0, 1) := by decide +kernel
theorem d_SS_seekDue_54 : decode b_SS_seekDue 54 = .ok (.getfield 19, 3) := by decide +kernel
theorem d_SS_seekDue_57 : decode b_SS_seekDue 57 = .ok (.aload_n 0, 1) := by decide +kernel
theorem d_SS_seekDue_58 : decode b_SS_seekDue 58 = .ok (.getfield 41, 3) := by decide +kernel
theorem d_SS_seekDue_61 : decode b_SS_seekDue 61 = .ok (.iload 6, 2) := by decide +kernel
theorem d_SS_seekDue_63 : decode b_SS_seekDue 63 = .ok (.iconst 1, 1) := by decide +kernel
theorem d_SS_seekDue_64 : decode b_SS_seekDue 64 = .ok (.isub, 1) := by decide +kernel
theorem d_SS_seekDue_65 : decode b_SS_seekDue 65 = .ok (.iaload, 1) := by decide +kernel
theorem d_SS_seekDue_66 : decode b_SS_seekDue 66 = .ok (.laload, 1) := by decide +kernel
theorem d_SS_seekDue_67 : decode b_SS_seekDue 67 = .ok (.aload_n 0, 1) := by decide +kernel
theorem d_SS_seekDue_68 : decode b_SS_seekDue 68 = .ok (.getfield 19, 3) := by decide +kernel
theorem d_SS_seekDue_71 : decode b_SS_seekDue 71 = .ok (.iload 5, 2) := by decide +kernel
theorem d_SS_seekDue_73 : decode b_SS_seekDue 73 = .ok (.laload, 1) := by decide +kernel
theorem d_SS_seekDue_74 : decode b_SS_seekDue 74 = .ok (.lcmp, 1) := by decide +kernel
theorem d_SS_seekDue_75 : decode b_SS_seekDue 75 = .ok (.ifCond .le 25, 3) := by decide +kernel
theorem d_SS_seekDue_78 : decode b_SS_seekDue 78 = .ok (.aload_n 0, 1) := by decide +kernel
theorem d_SS_seekDue_79 : decode b_SS_seekDue 79 = .ok (.getfield 41, 3) := by decide +kernel
theorem d_SS_seekDue_82 : decode b_SS_seekDue 82 = .ok (.iload 6, 2) := by decide +kernel
theorem d_SS_seekDue_84 : decode b_SS_seekDue 84 = .ok (.aload_n 0, 1) := by decide +kernel
theorem d_SS_seekDue_85 : decode b_SS_seekDue 85 = .ok (.getfield 41, 3) := by decide +kernel
theorem d_SS_seekDue_88 : decode b_SS_seekDue 88 = .ok (.iload 6, 2) := by decide +kernel
theorem d_SS_seekDue_90 : decode b_SS_seekDue 90 = .ok (.iconst 1, 1) := by decide +kernel
theorem d_SS_seekDue_91 : decode b_SS_seekDue 91 = .ok (.isub, 1) := by decide +kernel
theorem d_SS_seekDue_92 : decode b_SS_seekDue 92 = .ok (.iaload, 1) := by decide +kernel
theorem d_SS_seekDue_93 : decode b_SS_seekDue 93 = .ok (.iastore, 1) := by decide +kernel
theorem d_SS_seekDue_94 : decode b_SS_seekDue 94 = .ok (.iinc 6 (-1), 3) := by decide +kernel
theorem d_SS_seekDue_97 : decode b_SS_seekDue 97 = .ok (.goto (-49), 3) := by decide +kernel
theorem d_SS_seekDue_100 : decode b_SS_seekDue 100 = .ok (.aload_n 0, 1) := by decide +kernel
theorem d_SS_seekDue_101 : decode b_SS_seekDue 101 = .ok (.getfield 41, 3) := by decide +kernel
theorem d_SS_seekDue_104 : decode b_SS_seekDue 104 = .ok (.iload 6, 2) := by decide +kernel
theorem d_SS_seekDue_106 : decode b_SS_seekDue 106 = .ok (.iload 5, 2) := by decide +kernel
theorem d_SS_seekDue_108 : decode b_SS_seekDue 108 = .ok (.iastore, 1) := by decide +kernel
theorem d_SS_seekDue_109 : decode b_SS_seekDue 109 = .ok (.iinc 3 1, 3) := by decide +kernel
theorem d_SS_seekDue_112 : decode b_SS_seekDue 112 = .ok (.iinc 4 1, 3) := by decide +kernel
theorem d_SS_seekDue_115 : decode b_SS_seekDue 115 = .ok (.goto (-110), 3) := by decide +kernel
theorem d_SS_seekDue_118 : decode b_SS_seekDue 118 = .ok (.iload_n 3, 1) := by decide +kernel
theorem d_SS_seekDue_119 : decode b_SS_seekDue 119 = .ok (.ireturn, 1) := by decide +kernel
theorem d_SS_isIn_0 : decode b_SS_isIn 0 = .ok (.aload_n 0, 1) := by decide +kernel
theorem d_SS_isIn_1 : decode b_SS_isIn 1 = .ok (.iload_n 1, 1) := by decide +kernel
theorem d_SS_isIn_2 : decode b_SS_isIn 2 = .ok (.iconst 5, 1) := by decide +kernel
theorem d_SS_isIn_3 : decode b_SS_isIn 3 = .ok (.imul, 1) := by decide +kernel
theorem d_SS_isIn_4 : decode b_SS_isIn 4 = .ok (.iload_n 2, 1) := by decide +kernel
theorem d_SS_isIn_5 : decode b_SS_isIn 5 = .ok (.bipush 64, 2) := by decide +kernel
theorem d_SS_isIn_7 : decode b_SS_isIn 7 = .ok (.idiv, 1) := by decide +kernel
theorem d_SS_isIn_8 : decode b_SS_isIn 8 = .ok (.iadd, 1) := by decide +kernel
theorem d_SS_isIn_9 : decode b_SS_isIn 9 = .ok (.laload, 1) := by decide +kernel
theorem d_SS_isIn_10 : decode b_SS_isIn 10 = .ok (.lconst 1, 1) := by decide +kernel
theorem d_SS_isIn_11 : decode b_SS_isIn 11 = .ok (.iload_n 2, 1) := by decide +kernel
theorem d_SS_isIn_12 : decode b_SS_isIn 12 = .ok (.bipush 64, 2) := by decide +kernel
theorem d_SS_isIn_14 : decode b_SS_isIn 14 = .ok (.irem, 1) := by decide +kernel
theorem d_SS_isIn_15 : decode b_SS_isIn 15 = .ok (.lshl, 1) := by decide +kernel
theorem d_SS_isIn_16 : decode b_SS_isIn 16 = .ok (.land, 1) := by decide +kernel
theorem d_SS_isIn_17 : decode b_SS_isIn 17 = .ok (.lconst 0, 1) := by decide +kernel
theorem d_SS_isIn_18 : decode b_SS_isIn 18 = .ok (.lcmp, 1) := by decide +kernel
theorem d_SS_isIn_19 : decode b_SS_isIn 19 = .ok (.ifCond .eq 7, 3) := by decide +kernel
theorem d_SS_isIn_22 : decode b_SS_isIn 22 = .ok (.iconst 1, 1) := by decide +kernel
theorem d_SS_isIn_23 : decode b_SS_isIn 23 = .ok (.goto 4, 3) := by decide +kernel
theorem d_SS_isIn_26 : decode b_SS_isIn 26 = .ok (.iconst 0, 1) := by decide +kernel
theorem d_SS_isIn_27 : decode b_SS_isIn 27 = .ok (.ireturn, 1) := by decide +kernel
theorem d_SR_gather_0 : decode b_SR_gather 0 = .ok (.aload_n 0, 1) := by decide +kernel
theorem d_SR_gather_1 : decode b_SR_gather 1 = .ok (.getfield 47, 3) := by decide +kernel
theorem d_SR_gather_4 : decode b_SR_gather 4 = .ok (.invokevirtual 306, 3) := by decide +kernel
theorem d_SR_gather_7 : decode b_SR_gather 7 = .ok (.iconst 0, 1) := by decide +kernel
theorem d_SR_gather_8 : decode b_SR_gather 8 = .ok (.istore_n 3, 1) := by decide +kernel
theorem d_SR_gather_9 : decode b_SR_gather 9 = .ok (.iload_n 3, 1) := by decide +kernel
theorem d_SR_gather_10 : decode b_SR_gather 10 = .ok (.aload_n 0, 1) := by decide +kernel
theorem d_SR_gather_11 : decode b_SR_gather 11 = .ok (.getfield 19, 3) := by decide +kernel
theorem d_SR_gather_14 : decode b_SR_gather 14 = .ok (.getfield 154, 3) := by decide +kernel
theorem d_SR_gather_17 : decode b_SR_gather 17 = .ok (.if_icmp .ge 47, 3) := by decide +kernel
theorem d_SR_gather_20 : decode b_SR_gather 20 = .ok (.aload_n 0, 1) := by decide +kernel
theorem d_SR_gather_21 : decode b_SR_gather 21 = .ok (.getfield 19, 3) := by decide +kernel
theorem d_SR_gather_24 : decode b_SR_gather 24 = .ok (.getfield 309, 3) := by decide +kernel
theorem d_SR_gather_27 : decode b_SR_gather 27 = .ok (.iload_n 3, 1) := by decide +kernel
theorem d_SR_gather_28 : decode b_SR_gather 28 = .ok (.iaload, 1) := by decide +kernel
theorem d_SR_gather_29 : decode b_SR_gather 29 = .ok (.istore 4, 2) := by decide +kernel
theorem d_SR_gather_31 : decode b_SR_gather 31 = .ok (.aload_n 2, 1) := by decide +kernel
theorem d_SR_gather_32 : decode b_SR_gather 32 = .ok (.iload_n 1, 1) := by decide +kernel
theorem d_SR_gather_33 : decode b_SR_gather 33 = .ok (.iload 4, 2) := by decide +kernel
theorem d_SR_gather_35 : decode b_SR_gather 35 = .ok (.invokestatic 312, 3) := by decide +kernel
theorem d_SR_gather_38 : decode b_SR_gather 38 = .ok (.ifCond .eq 20, 3) := by decide +kernel
theorem d_SR_gather_41 : decode b_SR_gather 41 = .ok (.aload_n 0, 1) := by decide +kernel
theorem d_SR_gather_42 : decode b_SR_gather 42 = .ok (.getfield 47, 3) := by decide +kernel
theorem d_SR_gather_45 : decode b_SR_gather 45 = .ok (.aload_n 0, 1) := by decide +kernel
theorem d_SR_gather_46 : decode b_SR_gather 46 = .ok (.getfield 19, 3) := by decide +kernel
theorem d_SR_gather_49 : decode b_SR_gather 49 = .ok (.getfield 316, 3) := by decide +kernel
theorem d_SR_gather_52 : decode b_SR_gather 52 = .ok (.iload 4, 2) := by decide +kernel
theorem d_SR_gather_54 : decode b_SR_gather 54 = .ok (.laload, 1) := by decide +kernel
theorem d_SR_gather_55 : decode b_SR_gather 55 = .ok (.invokevirtual 319, 3) := by decide +kernel
end
section
theorem d_SR_gather_58 : decode b_SR_gather 58 = .ok (.iinc 3 1, 3) := by decide +kernel
theorem d_SR_gather_61 : decode b_SR_gather 61 = .ok (.goto (-52), 3) := by decide +kernel
theorem d_SR_gather_64 : decode b_SR_gather 64 = .ok (.return_, 1) := by decide +kernel
theorem d_SS_noteFired_0 : decode b_SS_noteFired 0 = .ok (.aload_n 0, 1) := by decide +kernel
theorem d_SS_noteFired_1 : decode b_SS_noteFired 1 = .ok (.getfield 22, 3) := by decide +kernel
theorem d_SS_noteFired_4 : decode b_SS_noteFired 4 = .ok (.iload_n 1, 1) := by decide +kernel
theorem d_SS_noteFired_5 : decode b_SS_noteFired 5 = .ok (.dup2, 1) := by decide +kernel
theorem d_SS_noteFired_6 : decode b_SS_noteFired 6 = .ok (.iaload, 1) := by decide +kernel
theorem d_SS_noteFired_7 : decode b_SS_noteFired 7 = .ok (.iconst 1, 1) := by decide +kernel
theorem d_SS_noteFired_8 : decode b_SS_noteFired 8 = .ok (.iadd, 1) := by decide +kernel
theorem d_SS_noteFired_9 : decode b_SS_noteFired 9 = .ok (.iastore, 1) := by decide +kernel
theorem d_SS_noteFired_10 : decode b_SS_noteFired 10 = .ok (.aload_n 0, 1) := by decide +kernel
theorem d_SS_noteFired_11 : decode b_SS_noteFired 11 = .ok (.getfield 25, 3) := by decide +kernel
theorem d_SS_noteFired_14 : decode b_SS_noteFired 14 = .ok (.iload_n 1, 1) := by decide +kernel
theorem d_SS_noteFired_15 : decode b_SS_noteFired 15 = .ok (.iconst 0, 1) := by decide +kernel
theorem d_SS_noteFired_16 : decode b_SS_noteFired 16 = .ok (.iastore, 1) := by decide +kernel
theorem d_SS_noteFired_17 : decode b_SS_noteFired 17 = .ok (.iload_n 2, 1) := by decide +kernel
theorem d_SS_noteFired_18 : decode b_SS_noteFired 18 = .ok (.ifCond .eq 10, 3) := by decide +kernel
theorem d_SS_noteFired_21 : decode b_SS_noteFired 21 = .ok (.aload_n 0, 1) := by decide +kernel
theorem d_SS_noteFired_22 : decode b_SS_noteFired 22 = .ok (.getfield 28, 3) := by decide +kernel
theorem d_SS_noteFired_25 : decode b_SS_noteFired 25 = .ok (.iload_n 1, 1) := by decide +kernel
theorem d_SS_noteFired_26 : decode b_SS_noteFired 26 = .ok (.iconst 1, 1) := by decide +kernel
theorem d_SS_noteFired_27 : decode b_SS_noteFired 27 = .ok (.bastore, 1) := by decide +kernel
theorem d_SS_noteFired_28 : decode b_SS_noteFired 28 = .ok (.iload_n 1, 1) := by decide +kernel
theorem d_SS_noteFired_29 : decode b_SS_noteFired 29 = .ok (.iconst 5, 1) := by decide +kernel
theorem d_SS_noteFired_30 : decode b_SS_noteFired 30 = .ok (.imul, 1) := by decide +kernel
theorem d_SS_noteFired_31 : decode b_SS_noteFired 31 = .ok (.istore_n 3, 1) := by decide +kernel
theorem d_SS_noteFired_32 : decode b_SS_noteFired 32 = .ok (.iload_n 3, 1) := by decide +kernel
theorem d_SS_noteFired_33 : decode b_SS_noteFired 33 = .ok (.iload_n 1, 1) := by decide +kernel
theorem d_SS_noteFired_34 : decode b_SS_noteFired 34 = .ok (.iconst 5, 1) := by decide +kernel
theorem d_SS_noteFired_35 : decode b_SS_noteFired 35 = .ok (.imul, 1) := by decide +kernel
theorem d_SS_noteFired_36 : decode b_SS_noteFired 36 = .ok (.iconst 5, 1) := by decide +kernel
theorem d_SS_noteFired_37 : decode b_SS_noteFired 37 = .ok (.iadd, 1) := by decide +kernel
theorem d_SS_noteFired_38 : decode b_SS_noteFired 38 = .ok (.if_icmp .ge 16, 3) := by decide +kernel
theorem d_SS_noteFired_41 : decode b_SS_noteFired 41 = .ok (.aload_n 0, 1) := by decide +kernel
theorem d_SS_noteFired_42 : decode b_SS_noteFired 42 = .ok (.getfield 35, 3) := by decide +kernel
theorem d_SS_noteFired_45 : decode b_SS_noteFired 45 = .ok (.iload_n 3, 1) := by decide +kernel
theorem d_SS_noteFired_46 : decode b_SS_noteFired 46 = .ok (.lconst 0, 1) := by decide +kernel
theorem d_SS_noteFired_47 : decode b_SS_noteFired 47 = .ok (.lastore, 1) := by decide +kernel
theorem d_SS_noteFired_48 : decode b_SS_noteFired 48 = .ok (.iinc 3 1, 3) := by decide +kernel
theorem d_SS_noteFired_51 : decode b_SS_noteFired 51 = .ok (.goto (-19), 3) := by decide +kernel
theorem d_SS_noteFired_54 : decode b_SS_noteFired 54 = .ok (.return_, 1) := by decide +kernel
theorem d_SR_fire_0 : decode b_SR_fire 0 = .ok (.aload_n 0, 1) := by decide +kernel
theorem d_SR_fire_1 : decode b_SR_fire 1 = .ok (.iload_n 1, 1) := by decide +kernel
theorem d_SR_fire_2 : decode b_SR_fire 2 = .ok (.aload_n 0, 1) := by decide +kernel
theorem d_SR_fire_3 : decode b_SR_fire 3 = .ok (.getfield 68, 3) := by decide +kernel
theorem d_SR_fire_6 : decode b_SR_fire 6 = .ok (.ifCond .eq 13, 3) := by decide +kernel
theorem d_SR_fire_9 : decode b_SR_fire 9 = .ok (.aload_n 0, 1) := by decide +kernel
theorem d_SR_fire_10 : decode b_SR_fire 10 = .ok (.getfield 26, 3) := by decide +kernel
theorem d_SR_fire_13 : decode b_SR_fire 13 = .ok (.getfield 294, 3) := by decide +kernel
theorem d_SR_fire_16 : decode b_SR_fire 16 = .ok (.goto 10, 3) := by decide +kernel
theorem d_SR_fire_19 : decode b_SR_fire 19 = .ok (.aload_n 0, 1) := by decide +kernel
theorem d_SR_fire_20 : decode b_SR_fire 20 = .ok (.getfield 26, 3) := by decide +kernel
theorem d_SR_fire_23 : decode b_SR_fire 23 = .ok (.getfield 198, 3) := by decide +kernel
theorem d_SR_fire_26 : decode b_SR_fire 26 = .ok (.invokevirtual 201, 3) := by decide +kernel
theorem d_SR_fire_29 : decode b_SR_fire 29 = .ok (.aload_n 0, 1) := by decide +kernel
theorem d_SR_fire_30 : decode b_SR_fire 30 = .ok (.getfield 26, 3) := by decide +kernel
theorem d_SR_fire_33 : decode b_SR_fire 33 = .ok (.iload_n 1, 1) := by decide +kernel
theorem d_SR_fire_34 : decode b_SR_fire 34 = .ok (.iload_n 2, 1) := by decide +kernel
theorem d_SR_fire_35 : decode b_SR_fire 35 = .ok (.invokevirtual 297, 3) := by decide +kernel
theorem d_SR_fire_38 : decode b_SR_fire 38 = .ok (.aload_n 0, 1) := by decide +kernel
theorem d_SR_fire_39 : decode b_SR_fire 39 = .ok (.getfield 40, 3) := by decide +kernel
theorem d_SR_fire_42 : decode b_SR_fire 42 = .ok (.aload_n 0, 1) := by decide +kernel
theorem d_SR_fire_43 : decode b_SR_fire 43 = .ok (.getfield 26, 3) := by decide +kernel
theorem d_SR_fire_46 : decode b_SR_fire 46 = .ok (.getfield 300, 3) := by decide +kernel
theorem d_SR_fire_49 : decode b_SR_fire 49 = .ok (.iload_n 1, 1) := by decide +kernel
theorem d_SR_fire_50 : decode b_SR_fire 50 = .ok (.iaload, 1) := by decide +kernel
theorem d_SR_fire_51 : decode b_SR_fire 51 = .ok (.aload_n 0, 1) := by decide +kernel
theorem d_SR_fire_52 : decode b_SR_fire 52 = .ok (.getfield 26, 3) := by decide +kernel
theorem d_SR_fire_55 : decode b_SR_fire 55 = .ok (.getfield 191, 3) := by decide +kernel
theorem d_SR_fire_58 : decode b_SR_fire 58 = .ok (.iload_n 1, 1) := by decide +kernel
theorem d_SR_fire_59 : decode b_SR_fire 59 = .ok (.laload, 1) := by decide +kernel
theorem d_SR_fire_60 : decode b_SR_fire 60 = .ok (.aload_n 0, 1) := by decide +kernel
theorem d_SR_fire_61 : decode b_SR_fire 61 = .ok (.getfield 26, 3) := by decide +kernel
theorem d_SR_fire_64 : decode b_SR_fire 64 = .ok (.getfield 195, 3) := by decide +kernel
theorem d_SR_fire_67 : decode b_SR_fire 67 = .ok (.iload_n 1, 1) := by decide +kernel
theorem d_SR_fire_68 : decode b_SR_fire 68 = .ok (.laload, 1) := by decide +kernel
theorem d_SR_fire_69 : decode b_SR_fire 69 = .ok (.iload_n 2, 1) := by decide +kernel
theorem d_SR_fire_70 : decode b_SR_fire 70 = .ok (.aload_n 0, 1) := by decide +kernel
theorem d_SR_fire_71 : decode b_SR_fire 71 = .ok (.getfield 26, 3) := by decide +kernel
theorem d_SR_fire_74 : decode b_SR_fire 74 = .ok (.getfield 209, 3) := by decide +kernel
theorem d_SR_fire_77 : decode b_SR_fire 77 = .ok (.iload_n 1, 1) := by decide +kernel
theorem d_SR_fire_78 : decode b_SR_fire 78 = .ok (.iaload, 1) := by decide +kernel
theorem d_SR_fire_79 : decode b_SR_fire 79 = .ok (.aload_n 0, 1) := by decide +kernel
theorem d_SR_fire_80 : decode b_SR_fire 80 = .ok (.getfield 47, 3) := by decide +kernel
theorem d_SR_fire_83 : decode b_SR_fire 83 = .ok (.invokevirtual 303, 3) := by decide +kernel
theorem d_SR_fire_86 : decode b_SR_fire 86 = .ok (.return_, 1) := by decide +kernel
theorem d_SS_sweep_0 : decode b_SS_sweep 0 = .ok (.iconst 0, 1) := by decide +kernel
theorem d_SS_sweep_1 : decode b_SS_sweep 1 = .ok (.istore_n 1, 1) := by decide +kernel
theorem d_SS_sweep_2 : decode b_SS_sweep 2 = .ok (.iconst 0, 1) := by decide +kernel
theorem d_SS_sweep_3 : decode b_SS_sweep 3 = .ok (.istore_n 2, 1) := by decide +kernel
theorem d_SS_sweep_4 : decode b_SS_sweep 4 = .ok (.iload_n 2, 1) := by decide +kernel
theorem d_SS_sweep_5 : decode b_SS_sweep 5 = .ok (.aload_n 0, 1) := by decide +kernel
theorem d_SS_sweep_6 : decode b_SS_sweep 6 = .ok (.getfield 47, 3) := by decide +kernel
theorem d_SS_sweep_9 : decode b_SS_sweep 9 = .ok (.if_icmp .ge 48, 3) := by decide +kernel
theorem d_SS_sweep_12 : decode b_SS_sweep 12 = .ok (.aload_n 0, 1) := by decide +kernel
theorem d_SS_sweep_13 : decode b_SS_sweep 13 = .ok (.getfield 44, 3) := by decide +kernel
theorem d_SS_sweep_16 : decode b_SS_sweep 16 = .ok (.iload_n 2, 1) := by decide +kernel
theorem d_SS_sweep_17 : decode b_SS_sweep 17 = .ok (.iaload, 1) := by decide +kernel
theorem d_SS_sweep_18 : decode b_SS_sweep 18 = .ok (.istore_n 3, 1) := by decide +kernel
theorem d_SS_sweep_19 : decode b_SS_sweep 19 = .ok (.aload_n 0, 1) := by decide +kernel
theorem d_SS_sweep_20 : decode b_SS_sweep 20 = .ok (.getfield 9, 3) := by decide +kernel
theorem d_SS_sweep_23 : decode b_SS_sweep 23 = .ok (.iload_n 3, 1) := by decide +kernel
theorem d_SS_sweep_24 : decode b_SS_sweep 24 = .ok (.iaload, 1) := by decide +kernel
theorem d_SS_sweep_25 : decode b_SS_sweep 25 = .ok (.iconst (-1), 1) := by decide +kernel
theorem d_SS_sweep_26 : decode b_SS_sweep 26 = .ok (.if_icmp .eq 25, 3) := by decide +kernel
theorem d_SS_sweep_29 : decode b_SS_sweep 29 = .ok (.aload_n 0, 1) := by decide +kernel
theorem d_SS_sweep_30 : decode b_SS_sweep 30 = .ok (.getfield 44, 3) := by decide +kernel
theorem d_SS_sweep_33 : decode b_SS_sweep 33 = .ok (.iload_n 2, 1) := by decide +kernel
theorem d_SS_sweep_34 : decode b_SS_sweep 34 = .ok (.aload_n 0, 1) := by decide +kernel
theorem d_SS_sweep_35 : decode b_SS_sweep 35 = .ok (.getfield 44, 3) := by decide +kernel
theorem d_SS_sweep_38 : decode b_SS_sweep 38 = .ok (.iload_n 1, 1) := by decide +kernel
theorem d_SS_sweep_39 : decode b_SS_sweep 39 = .ok (.iaload, 1) := by decide +kernel
theorem d_SS_sweep_40 : decode b_SS_sweep 40 = .ok (.iastore, 1) := by decide +kernel
theorem d_SS_sweep_41 : decode b_SS_sweep 41 = .ok (.aload_n 0, 1) := by decide +kernel
theorem d_SS_sweep_42 : decode b_SS_sweep 42 = .ok (.getfield 44, 3) := by decide +kernel
theorem d_SS_sweep_45 : decode b_SS_sweep 45 = .ok (.iload_n 1, 1) := by decide +kernel
theorem d_SS_sweep_46 : decode b_SS_sweep 46 = .ok (.iload_n 3, 1) := by decide +kernel
theorem d_SS_sweep_47 : decode b_SS_sweep 47 = .ok (.iastore, 1) := by decide +kernel
theorem d_SS_sweep_48 : decode b_SS_sweep 48 = .ok (.iinc 1 1, 3) := by decide +kernel
theorem d_SS_sweep_51 : decode b_SS_sweep 51 = .ok (.iinc 2 1, 3) := by decide +kernel
theorem d_SS_sweep_54 : decode b_SS_sweep 54 = .ok (.goto (-50), 3) := by decide +kernel
theorem d_SS_sweep_57 : decode b_SS_sweep 57 = .ok (.aload_n 0, 1) := by decide +kernel
theorem d_SS_sweep_58 : decode b_SS_sweep 58 = .ok (.iload_n 1, 1) := by decide +kernel
theorem d_SS_sweep_59 : decode b_SS_sweep 59 = .ok (.putfield 47, 3) := by decide +kernel
theorem d_SS_sweep_62 : decode b_SS_sweep 62 = .ok (.return_, 1) := by decide +kernel
theorem d_SS_dropEndsUpTo_0 : decode b_SS_dropEndsUpTo 0 = .ok (.iconst 0, 1) := by decide +kernel
theorem d_SS_dropEndsUpTo_1 : decode b_SS_dropEndsUpTo 1 = .ok (.istore_n 3, 1) := by decide +kernel
theorem d_SS_dropEndsUpTo_2 : decode b_SS_dropEndsUpTo 2 = .ok (.iload_n 3, 1) := by decide +kernel
theorem d_SS_dropEndsUpTo_3 : decode b_SS_dropEndsUpTo 3 = .ok (.aload_n 0, 1) := by decide +kernel
theorem d_SS_dropEndsUpTo_4 : decode b_SS_dropEndsUpTo 4 = .ok (.getfield 47, 3) := by decide +kernel
theorem d_SS_dropEndsUpTo_7 : decode b_SS_dropEndsUpTo 7 = .ok (.if_icmp .ge 37, 3) := by decide +kernel
theorem d_SS_dropEndsUpTo_10 : decode b_SS_dropEndsUpTo 10 = .ok (.aload_n 0, 1) := by decide +kernel
theorem d_SS_dropEndsUpTo_11 : decode b_SS_dropEndsUpTo 11 = .ok (.getfield 44, 3) := by decide +kernel
theorem d_SS_dropEndsUpTo_14 : decode b_SS_dropEndsUpTo 14 = .ok (.iload_n 3, 1) := by decide +kernel
theorem d_SS_dropEndsUpTo_15 : decode b_SS_dropEndsUpTo 15 = .ok (.iaload, 1) := by decide +kernel
theorem d_SS_dropEndsUpTo_16 : decode b_SS_dropEndsUpTo 16 = .ok (.istore 4, 2) := by decide +kernel
theorem d_SS_dropEndsUpTo_18 : decode b_SS_dropEndsUpTo 18 = .ok (.aload_n 0, 1) := by decide +kernel
theorem d_SS_dropEndsUpTo_19 : decode b_SS_dropEndsUpTo 19 = .ok (.getfield 19, 3) := by decide +kernel
theorem d_SS_dropEndsUpTo_22 : decode b_SS_dropEndsUpTo 22 = .ok (.iload 4, 2) := by decide +kernel
theorem d_SS_dropEndsUpTo_24 : decode b_SS_dropEndsUpTo 24 = .ok (.laload, 1) := by decide +kernel
theorem d_SS_dropEndsUpTo_25 : decode b_SS_dropEndsUpTo 25 = .ok (.lload_n 1, 1) := by decide +kernel
theorem d_SS_dropEndsUpTo_26 : decode b_SS_dropEndsUpTo 26 = .ok (.lcmp, 1) := by decide +kernel
theorem d_SS_dropEndsUpTo_27 : decode b_SS_dropEndsUpTo 27 = .ok (.ifCond .gt 11, 3) := by decide +kernel
theorem d_SS_dropEndsUpTo_30 : decode b_SS_dropEndsUpTo 30 = .ok (.aload_n 0, 1) := by decide +kernel
theorem d_SS_dropEndsUpTo_31 : decode b_SS_dropEndsUpTo 31 = .ok (.getfield 9, 3) := by decide +kernel
theorem d_SS_dropEndsUpTo_34 : decode b_SS_dropEndsUpTo 34 = .ok (.iload 4, 2) := by decide +kernel
theorem d_SS_dropEndsUpTo_36 : decode b_SS_dropEndsUpTo 36 = .ok (.iconst (-1), 1) := by decide +kernel
theorem d_SS_dropEndsUpTo_37 : decode b_SS_dropEndsUpTo 37 = .ok (.iastore, 1) := by decide +kernel
theorem d_SS_dropEndsUpTo_38 : decode b_SS_dropEndsUpTo 38 = .ok (.iinc 3 1, 3) := by decide +kernel
theorem d_SS_dropEndsUpTo_41 : decode b_SS_dropEndsUpTo 41 = .ok (.goto (-39), 3) := by decide +kernel
theorem d_SS_dropEndsUpTo_44 : decode b_SS_dropEndsUpTo 44 = .ok (.aload_n 0, 1) := by decide +kernel
theorem d_SS_dropEndsUpTo_45 : decode b_SS_dropEndsUpTo 45 = .ok (.invokevirtual 76, 3) := by decide +kernel
theorem d_SS_dropEndsUpTo_48 : decode b_SS_dropEndsUpTo 48 = .ok (.return_, 1) := by decide +kernel
theorem d_SS_uniteRows_0 : decode b_SS_uniteRows 0 = .ok (.iconst 0, 1) := by decide +kernel
theorem d_SS_uniteRows_1 : decode b_SS_uniteRows 1 = .ok (.istore_n 1, 1) := by decide +kernel
theorem d_SS_uniteRows_2 : decode b_SS_uniteRows 2 = .ok (.iload_n 1, 1) := by decide +kernel
theorem d_SS_uniteRows_3 : decode b_SS_uniteRows 3 = .ok (.iconst 5, 1) := by decide +kernel
theorem d_SS_uniteRows_4 : decode b_SS_uniteRows 4 = .ok (.if_icmp .ge 56, 3) := by decide +kernel
theorem d_SS_uniteRows_7 : decode b_SS_uniteRows 7 = .ok (.aload_n 0, 1) := by decide +kernel
theorem d_SS_uniteRows_8 : decode b_SS_uniteRows 8 = .ok (.getfield 38, 3) := by decide +kernel
theorem d_SS_uniteRows_11 : decode b_SS_uniteRows 11 = .ok (.iload_n 1, 1) := by decide +kernel
theorem d_SS_uniteRows_12 : decode b_SS_uniteRows 12 = .ok (.lconst 0, 1) := by decide +kernel
theorem d_SS_uniteRows_13 : decode b_SS_uniteRows 13 = .ok (.lastore, 1) := by decide +kernel
theorem d_SS_uniteRows_14 : decode b_SS_uniteRows 14 = .ok (.iconst 0, 1) := by decide +kernel
theorem d_SS_uniteRows_15 : decode b_SS_uniteRows 15 = .ok (.istore_n 2, 1) := by decide +kernel
theorem d_SS_uniteRows_16 : decode b_SS_uniteRows 16 = .ok (.iload_n 2, 1) := by decide +kernel
theorem d_SS_uniteRows_17 : decode b_SS_uniteRows 17 = .ok (.aload_n 0, 1) := by decide +kernel
theorem d_SS_uniteRows_18 : decode b_SS_uniteRows 18 = .ok (.getfield 47, 3) := by decide +kernel
theorem d_SS_uniteRows_21 : decode b_SS_uniteRows 21 = .ok (.if_icmp .ge 33, 3) := by decide +kernel
theorem d_SS_uniteRows_24 : decode b_SS_uniteRows 24 = .ok (.aload_n 0, 1) := by decide +kernel
theorem d_SS_uniteRows_25 : decode b_SS_uniteRows 25 = .ok (.getfield 38, 3) := by decide +kernel
theorem d_SS_uniteRows_28 : decode b_SS_uniteRows 28 = .ok (.iload_n 1, 1) := by decide +kernel
theorem d_SS_uniteRows_29 : decode b_SS_uniteRows 29 = .ok (.dup2, 1) := by decide +kernel
theorem d_SS_uniteRows_30 : decode b_SS_uniteRows 30 = .ok (.laload, 1) := by decide +kernel
theorem d_SS_uniteRows_31 : decode b_SS_uniteRows 31 = .ok (.aload_n 0, 1) := by decide +kernel
theorem d_SS_uniteRows_32 : decode b_SS_uniteRows 32 = .ok (.getfield 32, 3) := by decide +kernel
theorem d_SS_uniteRows_35 : decode b_SS_uniteRows 35 = .ok (.aload_n 0, 1) := by decide +kernel
theorem d_SS_uniteRows_36 : decode b_SS_uniteRows 36 = .ok (.getfield 44, 3) := by decide +kernel
theorem d_SS_uniteRows_39 : decode b_SS_uniteRows 39 = .ok (.iload_n 2, 1) := by decide +kernel
theorem d_SS_uniteRows_40 : decode b_SS_uniteRows 40 = .ok (.iaload, 1) := by decide +kernel
theorem d_SS_uniteRows_41 : decode b_SS_uniteRows 41 = .ok (.iconst 5, 1) := by decide +kernel
theorem d_SS_uniteRows_42 : decode b_SS_uniteRows 42 = .ok (.imul, 1) := by decide +kernel
theorem d_SS_uniteRows_43 : decode b_SS_uniteRows 43 = .ok (.iload_n 1, 1) := by decide +kernel
theorem d_SS_uniteRows_44 : decode b_SS_uniteRows 44 = .ok (.iadd, 1) := by decide +kernel
theorem d_SS_uniteRows_45 : decode b_SS_uniteRows 45 = .ok (.laload, 1) := by decide +kernel
theorem d_SS_uniteRows_46 : decode b_SS_uniteRows 46 = .ok (.lor, 1) := by decide +kernel
theorem d_SS_uniteRows_47 : decode b_SS_uniteRows 47 = .ok (.lastore, 1) := by decide +kernel
theorem d_SS_uniteRows_48 : decode b_SS_uniteRows 48 = .ok (.iinc 2 1, 3) := by decide +kernel
theorem d_SS_uniteRows_51 : decode b_SS_uniteRows 51 = .ok (.goto (-35), 3) := by decide +kernel
theorem d_SS_uniteRows_54 : decode b_SS_uniteRows 54 = .ok (.iinc 1 1, 3) := by decide +kernel
theorem d_SS_uniteRows_57 : decode b_SS_uniteRows 57 = .ok (.goto (-55), 3) := by decide +kernel
theorem d_SS_uniteRows_60 : decode b_SS_uniteRows 60 = .ok (.return_, 1) := by decide +kernel
theorem d_SR_endSpans_0 : decode b_SR_endSpans 0 = .ok (.aload_n 0, 1) := by decide +kernel
theorem d_SR_endSpans_1 : decode b_SR_endSpans 1 = .ok (.getfield 26, 3) := by decide +kernel
theorem d_SR_endSpans_4 : decode b_SR_endSpans 4 = .ok (.aload_n 0, 1) := by decide +kernel
theorem d_SR_endSpans_5 : decode b_SR_endSpans 5 = .ok (.getfield 57, 3) := by decide +kernel
theorem d_SR_endSpans_8 : decode b_SR_endSpans 8 = .ok (.invokevirtual 321, 3) := by decide +kernel
theorem d_SR_endSpans_11 : decode b_SR_endSpans 11 = .ok (.istore_n 1, 1) := by decide +kernel
theorem d_SR_endSpans_12 : decode b_SR_endSpans 12 = .ok (.iconst 0, 1) := by decide +kernel
theorem d_SR_endSpans_13 : decode b_SR_endSpans 13 = .ok (.istore_n 2, 1) := by decide +kernel
theorem d_SR_endSpans_14 : decode b_SR_endSpans 14 = .ok (.iload_n 2, 1) := by decide +kernel
theorem d_SR_endSpans_15 : decode b_SR_endSpans 15 = .ok (.iload_n 1, 1) := by decide +kernel
theorem d_SR_endSpans_16 : decode b_SR_endSpans 16 = .ok (.if_icmp .ge 23, 3) := by decide +kernel
theorem d_SR_endSpans_19 : decode b_SR_endSpans 19 = .ok (.aload_n 0, 1) := by decide +kernel
theorem d_SR_endSpans_20 : decode b_SR_endSpans 20 = .ok (.aload_n 0, 1) := by decide +kernel
theorem d_SR_endSpans_21 : decode b_SR_endSpans 21 = .ok (.getfield 26, 3) := by decide +kernel
theorem d_SR_endSpans_24 : decode b_SR_endSpans 24 = .ok (.getfield 325, 3) := by decide +kernel
theorem d_SR_endSpans_27 : decode b_SR_endSpans 27 = .ok (.iload_n 2, 1) := by decide +kernel
theorem d_SR_endSpans_28 : decode b_SR_endSpans 28 = .ok (.iaload, 1) := by decide +kernel
theorem d_SR_endSpans_29 : decode b_SR_endSpans 29 = .ok (.iconst 1, 1) := by decide +kernel
theorem d_SR_endSpans_30 : decode b_SR_endSpans 30 = .ok (.invokevirtual 291, 3) := by decide +kernel
theorem d_SR_endSpans_33 : decode b_SR_endSpans 33 = .ok (.iinc 2 1, 3) := by decide +kernel
theorem d_SR_endSpans_36 : decode b_SR_endSpans 36 = .ok (.goto (-22), 3) := by decide +kernel
theorem d_SR_endSpans_39 : decode b_SR_endSpans 39 = .ok (.aload_n 0, 1) := by decide +kernel
theorem d_SR_endSpans_40 : decode b_SR_endSpans 40 = .ok (.getfield 26, 3) := by decide +kernel
theorem d_SR_endSpans_43 : decode b_SR_endSpans 43 = .ok (.aload_n 0, 1) := by decide +kernel
theorem d_SR_endSpans_44 : decode b_SR_endSpans 44 = .ok (.getfield 57, 3) := by decide +kernel
theorem d_SR_endSpans_47 : decode b_SR_endSpans 47 = .ok (.aload_n 0, 1) := by decide +kernel
theorem d_SR_endSpans_48 : decode b_SR_endSpans 48 = .ok (.getfield 51, 3) := by decide +kernel
theorem d_SR_endSpans_51 : decode b_SR_endSpans 51 = .ok (.lsub, 1) := by decide +kernel
theorem d_SR_endSpans_52 : decode b_SR_endSpans 52 = .ok (.invokevirtual 328, 3) := by decide +kernel
theorem d_SR_endSpans_55 : decode b_SR_endSpans 55 = .ok (.aload_n 0, 1) := by decide +kernel
theorem d_SR_endSpans_56 : decode b_SR_endSpans 56 = .ok (.getfield 26, 3) := by decide +kernel
theorem d_SR_endSpans_59 : decode b_SR_endSpans 59 = .ok (.invokevirtual 331, 3) := by decide +kernel
theorem d_SR_endSpans_62 : decode b_SR_endSpans 62 = .ok (.iconst 0, 1) := by decide +kernel
theorem d_SR_endSpans_63 : decode b_SR_endSpans 63 = .ok (.istore_n 2, 1) := by decide +kernel
theorem d_SR_endSpans_64 : decode b_SR_endSpans 64 = .ok (.iload_n 2, 1) := by decide +kernel
theorem d_SR_endSpans_65 : decode b_SR_endSpans 65 = .ok (.aload_n 0, 1) := by decide +kernel
theorem d_SR_endSpans_66 : decode b_SR_endSpans 66 = .ok (.getfield 19, 3) := by decide +kernel
theorem d_SR_endSpans_69 : decode b_SR_endSpans 69 = .ok (.getfield 154, 3) := by decide +kernel
theorem d_SR_endSpans_72 : decode b_SR_endSpans 72 = .ok (.if_icmp .ge 48, 3) := by decide +kernel
theorem d_SR_endSpans_75 : decode b_SR_endSpans 75 = .ok (.aload_n 0, 1) := by decide +kernel
theorem d_SR_endSpans_76 : decode b_SR_endSpans 76 = .ok (.getfield 19, 3) := by decide +kernel
theorem d_SR_endSpans_79 : decode b_SR_endSpans 79 = .ok (.getfield 309, 3) := by decide +kernel
theorem d_SR_endSpans_82 : decode b_SR_endSpans 82 = .ok (.iload_n 2, 1) := by decide +kernel
theorem d_SR_endSpans_83 : decode b_SR_endSpans 83 = .ok (.iaload, 1) := by decide +kernel
theorem d_SR_endSpans_84 : decode b_SR_endSpans 84 = .ok (.istore_n 3, 1) := by decide +kernel
theorem d_SR_endSpans_85 : decode b_SR_endSpans 85 = .ok (.aload_n 0, 1) := by decide +kernel
theorem d_SR_endSpans_86 : decode b_SR_endSpans 86 = .ok (.getfield 19, 3) := by decide +kernel
theorem d_SR_endSpans_89 : decode b_SR_endSpans 89 = .ok (.getfield 334, 3) := by decide +kernel
theorem d_SR_endSpans_92 : decode b_SR_endSpans 92 = .ok (.iload_n 3, 1) := by decide +kernel
theorem d_SR_endSpans_93 : decode b_SR_endSpans 93 = .ok (.aload_n 0, 1) := by decide +kernel
theorem d_SR_endSpans_94 : decode b_SR_endSpans 94 = .ok (.getfield 26, 3) := by decide +kernel
theorem d_SR_endSpans_97 : decode b_SR_endSpans 97 = .ok (.getfield 337, 3) := by decide +kernel
theorem d_SR_endSpans_100 : decode b_SR_endSpans 100 = .ok (.iconst 0, 1) := by decide +kernel
theorem d_SR_endSpans_101 : decode b_SR_endSpans 101 = .ok (.iload_n 3, 1) := by decide +kernel
theorem d_SR_endSpans_102 : decode b_SR_endSpans 102 = .ok (.invokestatic 312, 3) := by decide +kernel
theorem d_SR_endSpans_105 : decode b_SR_endSpans 105 = .ok (.ifCond .ne 7, 3) := by decide +kernel
theorem d_SR_endSpans_108 : decode b_SR_endSpans 108 = .ok (.iconst 1, 1) := by decide +kernel
theorem d_SR_endSpans_109 : decode b_SR_endSpans 109 = .ok (.goto 4, 3) := by decide +kernel
theorem d_SR_endSpans_112 : decode b_SR_endSpans 112 = .ok (.iconst 0, 1) := by decide +kernel
theorem d_SR_endSpans_113 : decode b_SR_endSpans 113 = .ok (.bastore, 1) := by decide +kernel
theorem d_SR_endSpans_114 : decode b_SR_endSpans 114 = .ok (.iinc 2 1, 3) := by decide +kernel
theorem d_SR_endSpans_117 : decode b_SR_endSpans 117 = .ok (.goto (-53), 3) := by decide +kernel
theorem d_SR_endSpans_120 : decode b_SR_endSpans 120 = .ok (.aload_n 0, 1) := by decide +kernel
theorem d_SR_endSpans_121 : decode b_SR_endSpans 121 = .ok (.getfield 19, 3) := by decide +kernel
theorem d_SR_endSpans_124 : decode b_SR_endSpans 124 = .ok (.invokevirtual 340, 3) := by decide +kernel
theorem d_SR_endSpans_127 : decode b_SR_endSpans 127 = .ok (.iload_n 1, 1) := by decide +kernel
theorem d_SR_endSpans_128 : decode b_SR_endSpans 128 = .ok (.ireturn, 1) := by decide +kernel
theorem d_SR_mark_0 : decode b_SR_mark 0 = .ok (.lload_n 1, 1) := by decide +kernel
theorem d_SR_mark_1 : decode b_SR_mark 1 = .ok (.ldc2_w 55, 3) := by decide +kernel
theorem d_SR_mark_4 : decode b_SR_mark 4 = .ok (.ldc2_w 145, 3) := by decide +kernel
theorem d_SR_mark_7 : decode b_SR_mark 7 = .ok (.invokestatic 95, 3) := by decide +kernel
theorem d_SR_mark_10 : decode b_SR_mark 10 = .ok (.ifCond .ne 6, 3) := by decide +kernel
theorem d_SR_mark_13 : decode b_SR_mark 13 = .ok (.bipush (-2), 2) := by decide +kernel
theorem d_SR_mark_15 : decode b_SR_mark 15 = .ok (.ireturn, 1) := by decide +kernel
theorem d_SR_mark_16 : decode b_SR_mark 16 = .ok (.lload_n 1, 1) := by decide +kernel
theorem d_SR_mark_17 : decode b_SR_mark 17 = .ok (.aload_n 0, 1) := by decide +kernel
theorem d_SR_mark_18 : decode b_SR_mark 18 = .ok (.getfield 57, 3) := by decide +kernel
theorem d_SR_mark_21 : decode b_SR_mark 21 = .ok (.lcmp, 1) := by decide +kernel
theorem d_SR_mark_22 : decode b_SR_mark 22 = .ok (.ifCond .ge 6, 3) := by decide +kernel
theorem d_SR_mark_25 : decode b_SR_mark 25 = .ok (.bipush (-3), 2) := by decide +kernel
theorem d_SR_mark_27 : decode b_SR_mark 27 = .ok (.ireturn, 1) := by decide +kernel
theorem d_SR_mark_28 : decode b_SR_mark 28 = .ok (.aload_n 0, 1) := by decide +kernel
theorem d_SR_mark_29 : decode b_SR_mark 29 = .ok (.lload_n 1, 1) := by decide +kernel
theorem d_SR_mark_30 : decode b_SR_mark 30 = .ok (.putfield 57, 3) := by decide +kernel
theorem d_SR_mark_33 : decode b_SR_mark 33 = .ok (.aload_n 0, 1) := by decide +kernel
theorem d_SR_mark_34 : decode b_SR_mark 34 = .ok (.getfield 87, 3) := by decide +kernel
theorem d_SR_mark_37 : decode b_SR_mark 37 = .ok (.getfield 102, 3) := by decide +kernel
theorem d_SR_mark_40 : decode b_SR_mark 40 = .ok (.iconst 3, 1) := by decide +kernel
theorem d_SR_mark_41 : decode b_SR_mark 41 = .ok (.if_icmp .ne 10, 3) := by decide +kernel
theorem d_SR_mark_44 : decode b_SR_mark 44 = .ok (.aload_n 0, 1) := by decide +kernel
theorem d_SR_mark_45 : decode b_SR_mark 45 = .ok (.invokevirtual 147, 3) := by decide +kernel
theorem d_SR_mark_48 : decode b_SR_mark 48 = .ok (.goto 7, 3) := by decide +kernel
theorem d_SR_mark_51 : decode b_SR_mark 51 = .ok (.aload_n 0, 1) := by decide +kernel
theorem d_SR_mark_52 : decode b_SR_mark 52 = .ok (.invokevirtual 151, 3) := by decide +kernel
theorem d_SR_mark_55 : decode b_SR_mark 55 = .ok (.ireturn, 1) := by decide +kernel
theorem d_SR_count_0 : decode b_SR_count 0 = .ok (.iload_n 1, 1) := by decide +kernel
theorem d_SR_count_1 : decode b_SR_count 1 = .ok (.tableswitch 105 0 7 #[47, 55, 63, 71, 76, 81, 89, 97], 47) := by decide +kernel
theorem d_SR_count_48 : decode b_SR_count 48 = .ok (.aload_n 0, 1) := by decide +kernel
theorem d_SR_count_49 : decode b_SR_count 49 = .ok (.getfield 19, 3) := by decide +kernel
theorem d_SR_count_52 : decode b_SR_count 52 = .ok (.getfield 154, 3) := by decide +kernel
theorem d_SR_count_55 : decode b_SR_count 55 = .ok (.ireturn, 1) := by decide +kernel
theorem d_SR_count_56 : decode b_SR_count 56 = .ok (.aload_n 0, 1) := by decide +kernel
theorem d_SR_count_57 : decode b_SR_count 57 = .ok (.getfield 26, 3) := by decide +kernel
theorem d_SR_count_60 : decode b_SR_count 60 = .ok (.getfield 157, 3) := by decide +kernel
theorem d_SR_count_63 : decode b_SR_count 63 = .ok (.ireturn, 1) := by decide +kernel
theorem d_SR_count_64 : decode b_SR_count 64 = .ok (.aload_n 0, 1) := by decide +kernel
theorem d_SR_count_65 : decode b_SR_count 65 = .ok (.getfield 40, 3) := by decide +kernel
theorem d_SR_count_68 : decode b_SR_count 68 = .ok (.getfield 158, 3) := by decide +kernel
theorem d_SR_count_71 : decode b_SR_count 71 = .ok (.ireturn, 1) := by decide +kernel
theorem d_SR_count_72 : decode b_SR_count 72 = .ok (.aload_n 0, 1) := by decide +kernel
theorem d_SR_count_73 : decode b_SR_count 73 = .ok (.getfield 74, 3) := by decide +kernel
theorem d_SR_count_76 : decode b_SR_count 76 = .ok (.ireturn, 1) := by decide +kernel
theorem d_SR_count_77 : decode b_SR_count 77 = .ok (.aload_n 0, 1) := by decide +kernel
theorem d_SR_count_78 : decode b_SR_count 78 = .ok (.getfield 71, 3) := by decide +kernel
theorem d_SR_count_81 : decode b_SR_count 81 = .ok (.ireturn, 1) := by decide +kernel
theorem d_SR_count_82 : decode b_SR_count 82 = .ok (.aload_n 0, 1) := by decide +kernel
theorem d_SR_count_83 : decode b_SR_count 83 = .ok (.getfield 40, 3) := by decide +kernel
theorem d_SR_count_86 : decode b_SR_count 86 = .ok (.invokevirtual 161, 3) := by decide +kernel
theorem d_SR_count_89 : decode b_SR_count 89 = .ok (.ireturn, 1) := by decide +kernel
theorem d_SR_count_90 : decode b_SR_count 90 = .ok (.aload_n 0, 1) := by decide +kernel
theorem d_SR_count_91 : decode b_SR_count 91 = .ok (.getfield 40, 3) := by decide +kernel
theorem d_SR_count_94 : decode b_SR_count 94 = .ok (.getfield 163, 3) := by decide +kernel
theorem d_SR_count_97 : decode b_SR_count 97 = .ok (.ireturn, 1) := by decide +kernel
theorem d_SR_count_98 : decode b_SR_count 98 = .ok (.aload_n 0, 1) := by decide +kernel
theorem d_SR_count_99 : decode b_SR_count 99 = .ok (.getfield 40, 3) := by decide +kernel
theorem d_SR_count_102 : decode b_SR_count 102 = .ok (.getfield 166, 3) := by decide +kernel
theorem d_SR_count_105 : decode b_SR_count 105 = .ok (.ireturn, 1) := by decide +kernel
theorem d_SR_count_106 : decode b_SR_count 106 = .ok (.bipush (-2), 2) := by decide +kernel
theorem d_SR_count_108 : decode b_SR_count 108 = .ok (.ireturn, 1) := by decide +kernel
theorem d_SR_fired_0 : decode b_SR_fired 0 = .ok (.iload_n 1, 1) := by decide +kernel
theorem d_SR_fired_1 : decode b_SR_fired 1 = .ok (.i2l, 1) := by decide +kernel
theorem d_SR_fired_2 : decode b_SR_fired 2 = .ok (.lconst 0, 1) := by decide +kernel
theorem d_SR_fired_3 : decode b_SR_fired 3 = .ok (.aload_n 0, 1) := by decide +kernel
theorem d_SR_fired_4 : decode b_SR_fired 4 = .ok (.getfield 40, 3) := by decide +kernel
theorem d_SR_fired_7 : decode b_SR_fired 7 = .ok (.invokevirtual 161, 3) := by decide +kernel
theorem d_SR_fired_10 : decode b_SR_fired 10 = .ok (.iconst 1, 1) := by decide +kernel
theorem d_SR_fired_11 : decode b_SR_fired 11 = .ok (.isub, 1) := by decide +kernel
theorem d_SR_fired_12 : decode b_SR_fired 12 = .ok (.i2l, 1) := by decide +kernel
theorem d_SR_fired_13 : decode b_SR_fired 13 = .ok (.invokestatic 95, 3) := by decide +kernel
theorem d_SR_fired_16 : decode b_SR_fired 16 = .ok (.ifCond .ne 7, 3) := by decide +kernel
theorem d_SR_fired_19 : decode b_SR_fired 19 = .ok (.ldc2_w 169, 3) := by decide +kernel
theorem d_SR_fired_22 : decode b_SR_fired 22 = .ok (.lreturn, 1) := by decide +kernel
theorem d_SR_fired_23 : decode b_SR_fired 23 = .ok (.iload_n 2, 1) := by decide +kernel
theorem d_SR_fired_24 : decode b_SR_fired 24 = .ok (.i2l, 1) := by decide +kernel
theorem d_SR_fired_25 : decode b_SR_fired 25 = .ok (.lconst 0, 1) := by decide +kernel
theorem d_SR_fired_26 : decode b_SR_fired 26 = .ok (.ldc2_w 171, 3) := by decide +kernel
theorem d_SR_fired_29 : decode b_SR_fired 29 = .ok (.invokestatic 95, 3) := by decide +kernel
theorem d_SR_fired_32 : decode b_SR_fired 32 = .ok (.ifCond .ne 7, 3) := by decide +kernel
theorem d_SR_fired_35 : decode b_SR_fired 35 = .ok (.ldc2_w 173, 3) := by decide +kernel
theorem d_SR_fired_38 : decode b_SR_fired 38 = .ok (.lreturn, 1) := by decide +kernel
theorem d_SR_fired_39 : decode b_SR_fired 39 = .ok (.aload_n 0, 1) := by decide +kernel
theorem d_SR_fired_40 : decode b_SR_fired 40 = .ok (.getfield 40, 3) := by decide +kernel
theorem d_SR_fired_43 : decode b_SR_fired 43 = .ok (.iload_n 1, 1) := by decide +kernel
theorem d_SR_fired_44 : decode b_SR_fired 44 = .ok (.iload_n 2, 1) := by decide +kernel
theorem d_SR_fired_45 : decode b_SR_fired 45 = .ok (.invokevirtual 175, 3) := by decide +kernel
theorem d_SR_fired_48 : decode b_SR_fired 48 = .ok (.lreturn, 1) := by decide +kernel
theorem d_SR_isKey_0 : decode b_SR_isKey 0 = .ok (.iload_n 0, 1) := by decide +kernel
theorem d_SR_isKey_1 : decode b_SR_isKey 1 = .ok (.i2l, 1) := by decide +kernel
theorem d_SR_isKey_2 : decode b_SR_isKey 2 = .ok (.lconst 0, 1) := by decide +kernel
theorem d_SR_isKey_3 : decode b_SR_isKey 3 = .ok (.ldc2_w 226, 3) := by decide +kernel
theorem d_SR_isKey_6 : decode b_SR_isKey 6 = .ok (.invokestatic 95, 3) := by decide +kernel
theorem d_SR_isKey_9 : decode b_SR_isKey 9 = .ok (.ireturn, 1) := by decide +kernel
theorem d_SS_ofKey_0 : decode b_SS_ofKey 0 = .ok (.iconst 0, 1) := by decide +kernel
theorem d_SS_ofKey_1 : decode b_SS_ofKey 1 = .ok (.istore_n 2, 1) := by decide +kernel
theorem d_SS_ofKey_2 : decode b_SS_ofKey 2 = .ok (.iconst 0, 1) := by decide +kernel
theorem d_SS_ofKey_3 : decode b_SS_ofKey 3 = .ok (.istore_n 3, 1) := by decide +kernel
theorem d_SS_ofKey_4 : decode b_SS_ofKey 4 = .ok (.iload_n 3, 1) := by decide +kernel
theorem d_SS_ofKey_5 : decode b_SS_ofKey 5 = .ok (.aload_n 0, 1) := by decide +kernel
theorem d_SS_ofKey_6 : decode b_SS_ofKey 6 = .ok (.getfield 47, 3) := by decide +kernel
theorem d_SS_ofKey_9 : decode b_SS_ofKey 9 = .ok (.if_icmp .ge 27, 3) := by decide +kernel
theorem d_SS_ofKey_12 : decode b_SS_ofKey 12 = .ok (.aload_n 0, 1) := by decide +kernel
theorem d_SS_ofKey_13 : decode b_SS_ofKey 13 = .ok (.getfield 9, 3) := by decide +kernel
theorem d_SS_ofKey_16 : decode b_SS_ofKey 16 = .ok (.aload_n 0, 1) := by decide +kernel
theorem d_SS_ofKey_17 : decode b_SS_ofKey 17 = .ok (.getfield 44, 3) := by decide +kernel
theorem d_SS_ofKey_20 : decode b_SS_ofKey 20 = .ok (.iload_n 3, 1) := by decide +kernel
theorem d_SS_ofKey_21 : decode b_SS_ofKey 21 = .ok (.iaload, 1) := by decide +kernel
theorem d_SS_ofKey_22 : decode b_SS_ofKey 22 = .ok (.iaload, 1) := by decide +kernel
theorem d_SS_ofKey_23 : decode b_SS_ofKey 23 = .ok (.iload_n 1, 1) := by decide +kernel
theorem d_SS_ofKey_24 : decode b_SS_ofKey 24 = .ok (.if_icmp .ne 6, 3) := by decide +kernel
theorem d_SS_ofKey_27 : decode b_SS_ofKey 27 = .ok (.iinc 2 1, 3) := by decide +kernel
theorem d_SS_ofKey_30 : decode b_SS_ofKey 30 = .ok (.iinc 3 1, 3) := by decide +kernel
theorem d_SS_ofKey_33 : decode b_SS_ofKey 33 = .ok (.goto (-29), 3) := by decide +kernel
theorem d_SS_ofKey_36 : decode b_SS_ofKey 36 = .ok (.iload_n 2, 1) := by decide +kernel
theorem d_SS_ofKey_37 : decode b_SS_ofKey 37 = .ok (.ireturn, 1) := by decide +kernel
theorem d_SR_spans_0 : decode b_SR_spans 0 = .ok (.iload_n 1, 1) := by decide +kernel
theorem d_SR_spans_1 : decode b_SR_spans 1 = .ok (.invokestatic 116, 3) := by decide +kernel
theorem d_SR_spans_4 : decode b_SR_spans 4 = .ok (.ifCond .ne 5, 3) := by decide +kernel
theorem d_SR_spans_7 : decode b_SR_spans 7 = .ok (.iconst (-1), 1) := by decide +kernel
theorem d_SR_spans_8 : decode b_SR_spans 8 = .ok (.ireturn, 1) := by decide +kernel
theorem d_SR_spans_9 : decode b_SR_spans 9 = .ok (.aload_n 0, 1) := by decide +kernel
theorem d_SR_spans_10 : decode b_SR_spans 10 = .ok (.getfield 87, 3) := by decide +kernel
theorem d_SR_spans_13 : decode b_SR_spans 13 = .ok (.getfield 102, 3) := by decide +kernel
theorem d_SR_spans_16 : decode b_SR_spans 16 = .ok (.iconst 3, 1) := by decide +kernel
theorem d_SR_spans_17 : decode b_SR_spans 17 = .ok (.if_icmp .ne 15, 3) := by decide +kernel
theorem d_SR_spans_20 : decode b_SR_spans 20 = .ok (.aload_n 0, 1) := by decide +kernel
theorem d_SR_spans_21 : decode b_SR_spans 21 = .ok (.getfield 33, 3) := by decide +kernel
theorem d_SR_spans_24 : decode b_SR_spans 24 = .ok (.getfield 179, 3) := by decide +kernel
theorem d_SR_spans_27 : decode b_SR_spans 27 = .ok (.iload_n 1, 1) := by decide +kernel
theorem d_SR_spans_28 : decode b_SR_spans 28 = .ok (.iaload, 1) := by decide +kernel
theorem d_SR_spans_29 : decode b_SR_spans 29 = .ok (.goto 11, 3) := by decide +kernel
theorem d_SR_spans_32 : decode b_SR_spans 32 = .ok (.aload_n 0, 1) := by decide +kernel
theorem d_SR_spans_33 : decode b_SR_spans 33 = .ok (.getfield 26, 3) := by decide +kernel
theorem d_SR_spans_36 : decode b_SR_spans 36 = .ok (.iload_n 1, 1) := by decide +kernel
theorem d_SR_spans_37 : decode b_SR_spans 37 = .ok (.invokevirtual 183, 3) := by decide +kernel
theorem d_SR_spans_40 : decode b_SR_spans 40 = .ok (.ireturn, 1) := by decide +kernel
theorem d_SS_nthOfKey_0 : decode b_SS_nthOfKey 0 = .ok (.iconst 0, 1) := by decide +kernel
theorem d_SS_nthOfKey_1 : decode b_SS_nthOfKey 1 = .ok (.istore_n 3, 1) := by decide +kernel
theorem d_SS_nthOfKey_2 : decode b_SS_nthOfKey 2 = .ok (.iconst 0, 1) := by decide +kernel
theorem d_SS_nthOfKey_3 : decode b_SS_nthOfKey 3 = .ok (.istore 4, 2) := by decide +kernel
theorem d_SS_nthOfKey_5 : decode b_SS_nthOfKey 5 = .ok (.iload 4, 2) := by decide +kernel
theorem d_SS_nthOfKey_7 : decode b_SS_nthOfKey 7 = .ok (.aload_n 0, 1) := by decide +kernel
theorem d_SS_nthOfKey_8 : decode b_SS_nthOfKey 8 = .ok (.getfield 47, 3) := by decide +kernel
theorem d_SS_nthOfKey_11 : decode b_SS_nthOfKey 11 = .ok (.if_icmp .ge 40, 3) := by decide +kernel
theorem d_SS_nthOfKey_14 : decode b_SS_nthOfKey 14 = .ok (.aload_n 0, 1) := by decide +kernel
theorem d_SS_nthOfKey_15 : decode b_SS_nthOfKey 15 = .ok (.getfield 44, 3) := by decide +kernel
theorem d_SS_nthOfKey_18 : decode b_SS_nthOfKey 18 = .ok (.iload 4, 2) := by decide +kernel
theorem d_SS_nthOfKey_20 : decode b_SS_nthOfKey 20 = .ok (.iaload, 1) := by decide +kernel
theorem d_SS_nthOfKey_21 : decode b_SS_nthOfKey 21 = .ok (.istore 5, 2) := by decide +kernel
theorem d_SS_nthOfKey_23 : decode b_SS_nthOfKey 23 = .ok (.aload_n 0, 1) := by decide +kernel
theorem d_SS_nthOfKey_24 : decode b_SS_nthOfKey 24 = .ok (.getfield 9, 3) := by decide +kernel
theorem d_SS_nthOfKey_27 : decode b_SS_nthOfKey 27 = .ok (.iload 5, 2) := by decide +kernel
theorem d_SS_nthOfKey_29 : decode b_SS_nthOfKey 29 = .ok (.iaload, 1) := by decide +kernel
theorem d_SS_nthOfKey_30 : decode b_SS_nthOfKey 30 = .ok (.iload_n 1, 1) := by decide +kernel
theorem d_SS_nthOfKey_31 : decode b_SS_nthOfKey 31 = .ok (.if_icmp .ne 14, 3) := by decide +kernel
theorem d_SS_nthOfKey_34 : decode b_SS_nthOfKey 34 = .ok (.iload_n 3, 1) := by decide +kernel
theorem d_SS_nthOfKey_35 : decode b_SS_nthOfKey 35 = .ok (.iload_n 2, 1) := by decide +kernel
theorem d_SS_nthOfKey_36 : decode b_SS_nthOfKey 36 = .ok (.if_icmp .ne 6, 3) := by decide +kernel
theorem d_SS_nthOfKey_39 : decode b_SS_nthOfKey 39 = .ok (.iload 5, 2) := by decide +kernel
theorem d_SS_nthOfKey_41 : decode b_SS_nthOfKey 41 = .ok (.ireturn, 1) := by decide +kernel
theorem d_SS_nthOfKey_42 : decode b_SS_nthOfKey 42 = .ok (.iinc 3 1, 3) := by decide +kernel
theorem d_SS_nthOfKey_45 : decode b_SS_nthOfKey 45 = .ok (.iinc 4 1, 3) := by decide +kernel
theorem d_SS_nthOfKey_48 : decode b_SS_nthOfKey 48 = .ok (.goto (-43), 3) := by decide +kernel
theorem d_SS_nthOfKey_51 : decode b_SS_nthOfKey 51 = .ok (.iconst (-1), 1) := by decide +kernel
theorem d_SS_nthOfKey_52 : decode b_SS_nthOfKey 52 = .ok (.ireturn, 1) := by decide +kernel
theorem d_SR_span_0 : decode b_SR_span 0 = .ok (.aload_n 0, 1) := by decide +kernel
theorem d_SR_span_1 : decode b_SR_span 1 = .ok (.getfield 26, 3) := by decide +kernel
theorem d_SR_span_4 : decode b_SR_span 4 = .ok (.iload_n 1, 1) := by decide +kernel
theorem d_SR_span_5 : decode b_SR_span 5 = .ok (.iload_n 2, 1) := by decide +kernel
theorem d_SR_span_6 : decode b_SR_span 6 = .ok (.invokevirtual 187, 3) := by decide +kernel
theorem d_SR_span_9 : decode b_SR_span 9 = .ok (.istore 4, 2) := by decide +kernel
theorem d_SR_span_11 : decode b_SR_span 11 = .ok (.iload 4, 2) := by decide +kernel
theorem d_SR_span_13 : decode b_SR_span 13 = .ok (.iconst (-1), 1) := by decide +kernel
theorem d_SR_span_14 : decode b_SR_span 14 = .ok (.if_icmp .ne 7, 3) := by decide +kernel
theorem d_SR_span_17 : decode b_SR_span 17 = .ok (.ldc2_w 169, 3) := by decide +kernel
theorem d_SR_span_20 : decode b_SR_span 20 = .ok (.lreturn, 1) := by decide +kernel
theorem d_SR_span_21 : decode b_SR_span 21 = .ok (.iload_n 3, 1) := by decide +kernel
theorem d_SR_span_22 : decode b_SR_span 22 = .ok (.tableswitch 122 1 10 #[54, 65, 122, 76, 76, 76, 76, 76, 98, 110], 54) := by decide +kernel
theorem d_SR_span_76 : decode b_SR_span 76 = .ok (.aload_n 0, 1) := by decide +kernel
theorem d_SR_span_77 : decode b_SR_span 77 = .ok (.getfield 26, 3) := by decide +kernel
theorem d_SR_span_80 : decode b_SR_span 80 = .ok (.getfield 191, 3) := by decide +kernel
theorem d_SR_span_83 : decode b_SR_span 83 = .ok (.iload 4, 2) := by decide +kernel
theorem d_SR_span_85 : decode b_SR_span 85 = .ok (.laload, 1) := by decide +kernel
theorem d_SR_span_86 : decode b_SR_span 86 = .ok (.lreturn, 1) := by decide +kernel
theorem d_SR_span_87 : decode b_SR_span 87 = .ok (.aload_n 0, 1) := by decide +kernel
theorem d_SR_span_88 : decode b_SR_span 88 = .ok (.getfield 26, 3) := by decide +kernel
theorem d_SR_span_91 : decode b_SR_span 91 = .ok (.getfield 195, 3) := by decide +kernel
theorem d_SR_span_94 : decode b_SR_span 94 = .ok (.iload 4, 2) := by decide +kernel
theorem d_SR_span_96 : decode b_SR_span 96 = .ok (.laload, 1) := by decide +kernel
theorem d_SR_span_97 : decode b_SR_span 97 = .ok (.lreturn, 1) := by decide +kernel
theorem d_SR_span_98 : decode b_SR_span 98 = .ok (.aload_n 0, 1) := by decide +kernel
theorem d_SR_span_99 : decode b_SR_span 99 = .ok (.iload 4, 2) := by decide +kernel
theorem d_SR_span_101 : decode b_SR_span 101 = .ok (.aload_n 0, 1) := by decide +kernel
theorem d_SR_span_102 : decode b_SR_span 102 = .ok (.getfield 26, 3) := by decide +kernel
theorem d_SR_span_105 : decode b_SR_span 105 = .ok (.getfield 198, 3) := by decide +kernel
theorem d_SR_span_108 : decode b_SR_span 108 = .ok (.invokevirtual 201, 3) := by decide +kernel
theorem d_SR_span_111 : decode b_SR_span 111 = .ok (.aload_n 0, 1) := by decide +kernel
theorem d_SR_span_112 : decode b_SR_span 112 = .ok (.getfield 47, 3) := by decide +kernel
theorem d_SR_span_115 : decode b_SR_span 115 = .ok (.iload_n 3, 1) := by decide +kernel
theorem d_SR_span_116 : decode b_SR_span 116 = .ok (.invokevirtual 205, 3) := by decide +kernel
theorem d_SR_span_119 : decode b_SR_span 119 = .ok (.lreturn, 1) := by decide +kernel
theorem d_SR_span_120 : decode b_SR_span 120 = .ok (.aload_n 0, 1) := by decide +kernel
theorem d_SR_span_121 : decode b_SR_span 121 = .ok (.getfield 26, 3) := by decide +kernel
theorem d_SR_span_124 : decode b_SR_span 124 = .ok (.getfield 209, 3) := by decide +kernel
theorem d_SR_span_127 : decode b_SR_span 127 = .ok (.iload 4, 2) := by decide +kernel
theorem d_SR_span_129 : decode b_SR_span 129 = .ok (.iaload, 1) := by decide +kernel
theorem d_SR_span_130 : decode b_SR_span 130 = .ok (.i2l, 1) := by decide +kernel
theorem d_SR_span_131 : decode b_SR_span 131 = .ok (.lreturn, 1) := by decide +kernel
theorem d_SR_span_132 : decode b_SR_span 132 = .ok (.aload_n 0, 1) := by decide +kernel
theorem d_SR_span_133 : decode b_SR_span 133 = .ok (.getfield 26, 3) := by decide +kernel
theorem d_SR_span_136 : decode b_SR_span 136 = .ok (.getfield 212, 3) := by decide +kernel
theorem d_SR_span_139 : decode b_SR_span 139 = .ok (.iload 4, 2) := by decide +kernel
theorem d_SR_span_141 : decode b_SR_span 141 = .ok (.iaload, 1) := by decide +kernel
theorem d_SR_span_142 : decode b_SR_span 142 = .ok (.i2l, 1) := by decide +kernel
theorem d_SR_span_143 : decode b_SR_span 143 = .ok (.lreturn, 1) := by decide +kernel
theorem d_SR_span_144 : decode b_SR_span 144 = .ok (.ldc2_w 173, 3) := by decide +kernel
theorem d_SR_span_147 : decode b_SR_span 147 = .ok (.lreturn, 1) := by decide +kernel
theorem d_SR_month_0 : decode b_SR_month 0 = .ok (.iload_n 1, 1) := by decide +kernel
theorem d_SR_month_1 : decode b_SR_month 1 = .ok (.i2l, 1) := by decide +kernel
theorem d_SR_month_2 : decode b_SR_month 2 = .ok (.ldc2_w 215, 3) := by decide +kernel
theorem d_SR_month_5 : decode b_SR_month 5 = .ok (.ldc2_w 217, 3) := by decide +kernel
theorem d_SR_month_8 : decode b_SR_month 8 = .ok (.invokestatic 95, 3) := by decide +kernel
theorem d_SR_month_11 : decode b_SR_month 11 = .ok (.ifCond .eq 12, 3) := by decide +kernel
theorem d_SR_month_14 : decode b_SR_month 14 = .ok (.iload_n 1, 1) := by decide +kernel
theorem d_SR_month_15 : decode b_SR_month 15 = .ok (.i2l, 1) := by decide +kernel
theorem d_SR_month_16 : decode b_SR_month 16 = .ok (.invokestatic 219, 3) := by decide +kernel
theorem d_SR_month_19 : decode b_SR_month 19 = .ok (.l2i, 1) := by decide +kernel
theorem d_SR_month_20 : decode b_SR_month 20 = .ok (.goto 5, 3) := by decide +kernel
theorem d_SR_month_23 : decode b_SR_month 23 = .ok (.ldc 225, 2) := by decide +kernel
theorem d_SR_month_25 : decode b_SR_month 25 = .ok (.ireturn, 1) := by decide +kernel
theorem d_SR_nearest_0 : decode b_SR_nearest 0 = .ok (.iload_n 0, 1) := by decide +kernel
theorem d_SR_nearest_1 : decode b_SR_nearest 1 = .ok (.iload_n 1, 1) := by decide +kernel
theorem d_SR_nearest_2 : decode b_SR_nearest 2 = .ok (.if_icmp .ge 7, 3) := by decide +kernel
theorem d_SR_nearest_5 : decode b_SR_nearest 5 = .ok (.iload_n 1, 1) := by decide +kernel
theorem d_SR_nearest_6 : decode b_SR_nearest 6 = .ok (.goto 13, 3) := by decide +kernel
theorem d_SR_nearest_9 : decode b_SR_nearest 9 = .ok (.iload_n 0, 1) := by decide +kernel
theorem d_SR_nearest_10 : decode b_SR_nearest 10 = .ok (.iload_n 2, 1) := by decide +kernel
theorem d_SR_nearest_11 : decode b_SR_nearest 11 = .ok (.if_icmp .le 7, 3) := by decide +kernel
theorem d_SR_nearest_14 : decode b_SR_nearest 14 = .ok (.iload_n 2, 1) := by decide +kernel
theorem d_SR_nearest_15 : decode b_SR_nearest 15 = .ok (.goto 4, 3) := by decide +kernel
theorem d_SR_nearest_18 : decode b_SR_nearest 18 = .ok (.iload_n 0, 1) := by decide +kernel
theorem d_SR_nearest_19 : decode b_SR_nearest 19 = .ok (.ireturn, 1) := by decide +kernel
theorem d_SR_isGone_0 : decode b_SR_isGone 0 = .ok (.lload_n 1, 1) := by decide +kernel
theorem d_SR_isGone_1 : decode b_SR_isGone 1 = .ok (.aload_n 0, 1) := by decide +kernel
theorem d_SR_isGone_2 : decode b_SR_isGone 2 = .ok (.getfield 51, 3) := by decide +kernel
theorem d_SR_isGone_5 : decode b_SR_isGone 5 = .ok (.ladd, 1) := by decide +kernel
theorem d_SR_isGone_6 : decode b_SR_isGone 6 = .ok (.aload_n 0, 1) := by decide +kernel
theorem d_SR_isGone_7 : decode b_SR_isGone 7 = .ok (.getfield 57, 3) := by decide +kernel
theorem d_SR_isGone_10 : decode b_SR_isGone 10 = .ok (.lcmp, 1) := by decide +kernel
theorem d_SR_isGone_11 : decode b_SR_isGone 11 = .ok (.ifCond .gt 7, 3) := by decide +kernel
theorem d_SR_isGone_14 : decode b_SR_isGone 14 = .ok (.iconst 1, 1) := by decide +kernel
theorem d_SR_isGone_15 : decode b_SR_isGone 15 = .ok (.goto 4, 3) := by decide +kernel
theorem d_SR_isGone_18 : decode b_SR_isGone 18 = .ok (.iconst 0, 1) := by decide +kernel
theorem d_SR_isGone_19 : decode b_SR_isGone 19 = .ok (.ireturn, 1) := by decide +kernel
theorem d_SR_dropLate_0 : decode b_SR_dropLate 0 = .ok (.aload_n 0, 1) := by decide +kernel
theorem d_SR_dropLate_1 : decode b_SR_dropLate 1 = .ok (.dup, 1) := by decide +kernel
theorem d_SR_dropLate_2 : decode b_SR_dropLate 2 = .ok (.getfield 71, 3) := by decide +kernel
theorem d_SR_dropLate_5 : decode b_SR_dropLate 5 = .ok (.iconst 1, 1) := by decide +kernel
theorem d_SR_dropLate_6 : decode b_SR_dropLate 6 = .ok (.iadd, 1) := by decide +kernel
theorem d_SR_dropLate_7 : decode b_SR_dropLate 7 = .ok (.putfield 71, 3) := by decide +kernel
theorem d_SR_dropLate_10 : decode b_SR_dropLate 10 = .ok (.aload_n 0, 1) := by decide +kernel
theorem d_SR_dropLate_11 : decode b_SR_dropLate 11 = .ok (.dup, 1) := by decide +kernel
theorem d_SR_dropLate_12 : decode b_SR_dropLate 12 = .ok (.getfield 74, 3) := by decide +kernel
theorem d_SR_dropLate_15 : decode b_SR_dropLate 15 = .ok (.iconst 1, 1) := by decide +kernel
theorem d_SR_dropLate_16 : decode b_SR_dropLate 16 = .ok (.iadd, 1) := by decide +kernel
theorem d_SR_dropLate_17 : decode b_SR_dropLate 17 = .ok (.putfield 74, 3) := by decide +kernel
theorem d_SR_dropLate_20 : decode b_SR_dropLate 20 = .ok (.iconst 0, 1) := by decide +kernel
theorem d_SR_dropLate_21 : decode b_SR_dropLate 21 = .ok (.ireturn, 1) := by decide +kernel
theorem d_RS_isFull_0 : decode b_RS_isFull 0 = .ok (.aload_n 0, 1) := by decide +kernel
theorem d_RS_isFull_1 : decode b_RS_isFull 1 = .ok (.getfield 32, 3) := by decide +kernel
theorem d_RS_isFull_4 : decode b_RS_isFull 4 = .ok (.sipush 300, 3) := by decide +kernel
theorem d_RS_isFull_7 : decode b_RS_isFull 7 = .ok (.if_icmp .lt 7, 3) := by decide +kernel
theorem d_RS_isFull_10 : decode b_RS_isFull 10 = .ok (.iconst 1, 1) := by decide +kernel
theorem d_RS_isFull_11 : decode b_RS_isFull 11 = .ok (.goto 4, 3) := by decide +kernel
theorem d_RS_isFull_14 : decode b_RS_isFull 14 = .ok (.iconst 0, 1) := by decide +kernel
theorem d_RS_isFull_15 : decode b_RS_isFull 15 = .ok (.ireturn, 1) := by decide +kernel
theorem d_RS_add_0 : decode b_RS_add 0 = .ok (.aload_n 0, 1) := by decide +kernel
theorem d_RS_add_1 : decode b_RS_add 1 = .ok (.getfield 29, 3) := by decide +kernel
theorem d_RS_add_4 : decode b_RS_add 4 = .ok (.aload_n 0, 1) := by decide +kernel
theorem d_RS_add_5 : decode b_RS_add 5 = .ok (.getfield 32, 3) := by decide +kernel
theorem d_RS_add_8 : decode b_RS_add 8 = .ok (.iaload, 1) := by decide +kernel
theorem d_RS_add_9 : decode b_RS_add 9 = .ok (.istore 6, 2) := by decide +kernel
theorem d_RS_add_11 : decode b_RS_add 11 = .ok (.aload_n 0, 1) := by decide +kernel
theorem d_RS_add_12 : decode b_RS_add 12 = .ok (.getfield 9, 3) := by decide +kernel
theorem d_RS_add_15 : decode b_RS_add 15 = .ok (.iload 6, 2) := by decide +kernel
theorem d_RS_add_17 : decode b_RS_add 17 = .ok (.iload_n 1, 1) := by decide +kernel
theorem d_RS_add_18 : decode b_RS_add 18 = .ok (.iastore, 1) := by decide +kernel
theorem d_RS_add_19 : decode b_RS_add 19 = .ok (.aload_n 0, 1) := by decide +kernel
theorem d_RS_add_20 : decode b_RS_add 20 = .ok (.getfield 15, 3) := by decide +kernel
theorem d_RS_add_23 : decode b_RS_add 23 = .ok (.iload 6, 2) := by decide +kernel
theorem d_RS_add_25 : decode b_RS_add 25 = .ok (.lload_n 2, 1) := by decide +kernel
theorem d_RS_add_26 : decode b_RS_add 26 = .ok (.lastore, 1) := by decide +kernel
theorem d_RS_add_27 : decode b_RS_add 27 = .ok (.aload_n 0, 1) := by decide +kernel
theorem d_RS_add_28 : decode b_RS_add 28 = .ok (.getfield 19, 3) := by decide +kernel
theorem d_RS_add_31 : decode b_RS_add 31 = .ok (.iload 6, 2) := by decide +kernel
theorem d_RS_add_33 : decode b_RS_add 33 = .ok (.lload 4, 2) := by decide +kernel
theorem d_RS_add_35 : decode b_RS_add 35 = .ok (.lastore, 1) := by decide +kernel
theorem d_RS_add_36 : decode b_RS_add 36 = .ok (.aload_n 0, 1) := by decide +kernel
theorem d_RS_add_37 : decode b_RS_add 37 = .ok (.getfield 22, 3) := by decide +kernel
theorem d_RS_add_40 : decode b_RS_add 40 = .ok (.iload 6, 2) := by decide +kernel
theorem d_RS_add_42 : decode b_RS_add 42 = .ok (.iconst (-1), 1) := by decide +kernel
theorem d_RS_add_43 : decode b_RS_add 43 = .ok (.iastore, 1) := by decide +kernel
theorem d_RS_add_44 : decode b_RS_add 44 = .ok (.aload_n 0, 1) := by decide +kernel
theorem d_RS_add_45 : decode b_RS_add 45 = .ok (.getfield 32, 3) := by decide +kernel
theorem d_RS_add_48 : decode b_RS_add 48 = .ok (.istore 7, 2) := by decide +kernel
theorem d_RS_add_50 : decode b_RS_add 50 = .ok (.iload 7, 2) := by decide +kernel
theorem d_RS_add_52 : decode b_RS_add 52 = .ok (.ifCond .le 44, 3) := by decide +kernel
theorem d_RS_add_55 : decode b_RS_add 55 = .ok (.aload_n 0, 1) := by decide +kernel
theorem d_RS_add_56 : decode b_RS_add 56 = .ok (.getfield 15, 3) := by decide +kernel
theorem d_RS_add_59 : decode b_RS_add 59 = .ok (.aload_n 0, 1) := by decide +kernel
theorem d_RS_add_60 : decode b_RS_add 60 = .ok (.getfield 29, 3) := by decide +kernel
theorem d_RS_add_63 : decode b_RS_add 63 = .ok (.iload 7, 2) := by decide +kernel
theorem d_RS_add_65 : decode b_RS_add 65 = .ok (.iconst 1, 1) := by decide +kernel
theorem d_RS_add_66 : decode b_RS_add 66 = .ok (.isub, 1) := by decide +kernel
theorem d_RS_add_67 : decode b_RS_add 67 = .ok (.iaload, 1) := by decide +kernel
theorem d_RS_add_68 : decode b_RS_add 68 = .ok (.laload, 1) := by decide +kernel
theorem d_RS_add_69 : decode b_RS_add 69 = .ok (.lload_n 2, 1) := by decide +kernel
theorem d_RS_add_70 : decode b_RS_add 70 = .ok (.lcmp, 1) := by decide +kernel
theorem d_RS_add_71 : decode b_RS_add 71 = .ok (.ifCond .le 25, 3) := by decide +kernel
theorem d_RS_add_74 : decode b_RS_add 74 = .ok (.aload_n 0, 1) := by decide +kernel
theorem d_RS_add_75 : decode b_RS_add 75 = .ok (.getfield 29, 3) := by decide +kernel
theorem d_RS_add_78 : decode b_RS_add 78 = .ok (.iload 7, 2) := by decide +kernel
theorem d_RS_add_80 : decode b_RS_add 80 = .ok (.aload_n 0, 1) := by decide +kernel
theorem d_RS_add_81 : decode b_RS_add 81 = .ok (.getfield 29, 3) := by decide +kernel
theorem d_RS_add_84 : decode b_RS_add 84 = .ok (.iload 7, 2) := by decide +kernel
theorem d_RS_add_86 : decode b_RS_add 86 = .ok (.iconst 1, 1) := by decide +kernel
theorem d_RS_add_87 : decode b_RS_add 87 = .ok (.isub, 1) := by decide +kernel
theorem d_RS_add_88 : decode b_RS_add 88 = .ok (.iaload, 1) := by decide +kernel
theorem d_RS_add_89 : decode b_RS_add 89 = .ok (.iastore, 1) := by decide +kernel
theorem d_RS_add_90 : decode b_RS_add 90 = .ok (.iinc 7 (-1), 3) := by decide +kernel
theorem d_RS_add_93 : decode b_RS_add 93 = .ok (.goto (-43), 3) := by decide +kernel
theorem d_RS_add_96 : decode b_RS_add 96 = .ok (.aload_n 0, 1) := by decide +kernel
theorem d_RS_add_97 : decode b_RS_add 97 = .ok (.getfield 29, 3) := by decide +kernel
theorem d_RS_add_100 : decode b_RS_add 100 = .ok (.iload 7, 2) := by decide +kernel
theorem d_RS_add_102 : decode b_RS_add 102 = .ok (.iload 6, 2) := by decide +kernel
theorem d_RS_add_104 : decode b_RS_add 104 = .ok (.iastore, 1) := by decide +kernel
theorem d_RS_add_105 : decode b_RS_add 105 = .ok (.aload_n 0, 1) := by decide +kernel
theorem d_RS_add_106 : decode b_RS_add 106 = .ok (.dup, 1) := by decide +kernel
theorem d_RS_add_107 : decode b_RS_add 107 = .ok (.getfield 32, 3) := by decide +kernel
theorem d_RS_add_110 : decode b_RS_add 110 = .ok (.iconst 1, 1) := by decide +kernel
theorem d_RS_add_111 : decode b_RS_add 111 = .ok (.iadd, 1) := by decide +kernel
theorem d_RS_add_112 : decode b_RS_add 112 = .ok (.putfield 32, 3) := by decide +kernel
theorem d_RS_add_115 : decode b_RS_add 115 = .ok (.iload 6, 2) := by decide +kernel
theorem d_RS_add_117 : decode b_RS_add 117 = .ok (.ireturn, 1) := by decide +kernel
theorem d_SR_putWaiting_0 : decode b_SR_putWaiting 0 = .ok (.lload_n 2, 1) := by decide +kernel
theorem d_SR_putWaiting_1 : decode b_SR_putWaiting 1 = .ok (.aload_n 0, 1) := by decide +kernel
theorem d_SR_putWaiting_2 : decode b_SR_putWaiting 2 = .ok (.getfield 57, 3) := by decide +kernel
theorem d_SR_putWaiting_5 : decode b_SR_putWaiting 5 = .ok (.lcmp, 1) := by decide +kernel
theorem d_SR_putWaiting_6 : decode b_SR_putWaiting 6 = .ok (.ifCond .ge 8, 3) := by decide +kernel
theorem d_SR_putWaiting_9 : decode b_SR_putWaiting 9 = .ok (.aload_n 0, 1) := by decide +kernel
theorem d_SR_putWaiting_10 : decode b_SR_putWaiting 10 = .ok (.invokevirtual 234, 3) := by decide +kernel
theorem d_SR_putWaiting_13 : decode b_SR_putWaiting 13 = .ok (.ireturn, 1) := by decide +kernel
theorem d_SR_putWaiting_14 : decode b_SR_putWaiting 14 = .ok (.aload_n 0, 1) := by decide +kernel
theorem d_SR_putWaiting_15 : decode b_SR_putWaiting 15 = .ok (.getfield 19, 3) := by decide +kernel
theorem d_SR_putWaiting_18 : decode b_SR_putWaiting 18 = .ok (.invokevirtual 237, 3) := by decide +kernel
theorem d_SR_putWaiting_21 : decode b_SR_putWaiting 21 = .ok (.ifCond .eq 6, 3) := by decide +kernel
theorem d_SR_putWaiting_24 : decode b_SR_putWaiting 24 = .ok (.bipush (-4), 2) := by decide +kernel
theorem d_SR_putWaiting_26 : decode b_SR_putWaiting 26 = .ok (.ireturn, 1) := by decide +kernel
theorem d_SR_putWaiting_27 : decode b_SR_putWaiting 27 = .ok (.aload_n 0, 1) := by decide +kernel
theorem d_SR_putWaiting_28 : decode b_SR_putWaiting 28 = .ok (.getfield 19, 3) := by decide +kernel
theorem d_SR_putWaiting_31 : decode b_SR_putWaiting 31 = .ok (.iload_n 1, 1) := by decide +kernel
theorem d_SR_putWaiting_32 : decode b_SR_putWaiting 32 = .ok (.lload_n 2, 1) := by decide +kernel
theorem d_SR_putWaiting_33 : decode b_SR_putWaiting 33 = .ok (.lload 4, 2) := by decide +kernel
theorem d_SR_putWaiting_35 : decode b_SR_putWaiting 35 = .ok (.invokevirtual 241, 3) := by decide +kernel
theorem d_SR_putWaiting_38 : decode b_SR_putWaiting 38 = .ok (.pop, 1) := by decide +kernel
theorem d_SR_putWaiting_39 : decode b_SR_putWaiting 39 = .ok (.aload_n 0, 1) := by decide +kernel
theorem d_SR_putWaiting_40 : decode b_SR_putWaiting 40 = .ok (.dup, 1) := by decide +kernel
theorem d_SR_putWaiting_41 : decode b_SR_putWaiting 41 = .ok (.getfield 71, 3) := by decide +kernel
theorem d_SR_putWaiting_44 : decode b_SR_putWaiting 44 = .ok (.iconst 1, 1) := by decide +kernel
theorem d_SR_putWaiting_45 : decode b_SR_putWaiting 45 = .ok (.iadd, 1) := by decide +kernel
theorem d_SR_putWaiting_46 : decode b_SR_putWaiting 46 = .ok (.putfield 71, 3) := by decide +kernel
theorem d_SR_putWaiting_49 : decode b_SR_putWaiting 49 = .ok (.iconst 1, 1) := by decide +kernel
theorem d_SR_putWaiting_50 : decode b_SR_putWaiting 50 = .ok (.ireturn, 1) := by decide +kernel
theorem d_SS_shares_0 : decode b_SS_shares 0 = .ok (.aload_n 0, 1) := by decide +kernel
theorem d_SS_shares_1 : decode b_SS_shares 1 = .ok (.getfield 9, 3) := by decide +kernel
theorem d_SS_shares_4 : decode b_SS_shares 4 = .ok (.iload_n 1, 1) := by decide +kernel
theorem d_SS_shares_5 : decode b_SS_shares 5 = .ok (.iaload, 1) := by decide +kernel
theorem d_SS_shares_6 : decode b_SS_shares 6 = .ok (.iload_n 2, 1) := by decide +kernel
theorem d_SS_shares_7 : decode b_SS_shares 7 = .ok (.if_icmp .ne 30, 3) := by decide +kernel
theorem d_SS_shares_10 : decode b_SS_shares 10 = .ok (.aload_n 0, 1) := by decide +kernel
theorem d_SS_shares_11 : decode b_SS_shares 11 = .ok (.getfield 15, 3) := by decide +kernel
theorem d_SS_shares_14 : decode b_SS_shares 14 = .ok (.iload_n 1, 1) := by decide +kernel
theorem d_SS_shares_15 : decode b_SS_shares 15 = .ok (.laload, 1) := by decide +kernel
theorem d_SS_shares_16 : decode b_SS_shares 16 = .ok (.lload 5, 2) := by decide +kernel
theorem d_SS_shares_18 : decode b_SS_shares 18 = .ok (.lcmp, 1) := by decide +kernel
theorem d_SS_shares_19 : decode b_SS_shares 19 = .ok (.ifCond .ge 18, 3) := by decide +kernel
theorem d_SS_shares_22 : decode b_SS_shares 22 = .ok (.lload_n 3, 1) := by decide +kernel
theorem d_SS_shares_23 : decode b_SS_shares 23 = .ok (.aload_n 0, 1) := by decide +kernel
theorem d_SS_shares_24 : decode b_SS_shares 24 = .ok (.getfield 19, 3) := by decide +kernel
theorem d_SS_shares_27 : decode b_SS_shares 27 = .ok (.iload_n 1, 1) := by decide +kernel
theorem d_SS_shares_28 : decode b_SS_shares 28 = .ok (.laload, 1) := by decide +kernel
theorem d_SS_shares_29 : decode b_SS_shares 29 = .ok (.lcmp, 1) := by decide +kernel
theorem d_SS_shares_30 : decode b_SS_shares 30 = .ok (.ifCond .ge 7, 3) := by decide +kernel
theorem d_SS_shares_33 : decode b_SS_shares 33 = .ok (.iconst 1, 1) := by decide +kernel
theorem d_SS_shares_34 : decode b_SS_shares 34 = .ok (.goto 4, 3) := by decide +kernel
theorem d_SS_shares_37 : decode b_SS_shares 37 = .ok (.iconst 0, 1) := by decide +kernel
theorem d_SS_shares_38 : decode b_SS_shares 38 = .ok (.ireturn, 1) := by decide +kernel
theorem d_SS_joinedEnd_0 : decode b_SS_joinedEnd 0 = .ok (.lload 4, 2) := by decide +kernel
theorem d_SS_joinedEnd_2 : decode b_SS_joinedEnd 2 = .ok (.lstore 6, 2) := by decide +kernel
theorem d_SS_joinedEnd_4 : decode b_SS_joinedEnd 4 = .ok (.iconst 0, 1) := by decide +kernel
theorem d_SS_joinedEnd_5 : decode b_SS_joinedEnd 5 = .ok (.istore 8, 2) := by decide +kernel
theorem d_SS_joinedEnd_7 : decode b_SS_joinedEnd 7 = .ok (.iload 8, 2) := by decide +kernel
theorem d_SS_joinedEnd_9 : decode b_SS_joinedEnd 9 = .ok (.aload_n 0, 1) := by decide +kernel
theorem d_SS_joinedEnd_10 : decode b_SS_joinedEnd 10 = .ok (.getfield 47, 3) := by decide +kernel
theorem d_SS_joinedEnd_13 : decode b_SS_joinedEnd 13 = .ok (.if_icmp .ge 45, 3) := by decide +kernel
theorem d_SS_joinedEnd_16 : decode b_SS_joinedEnd 16 = .ok (.aload_n 0, 1) := by decide +kernel
theorem d_SS_joinedEnd_17 : decode b_SS_joinedEnd 17 = .ok (.getfield 44, 3) := by decide +kernel
theorem d_SS_joinedEnd_20 : decode b_SS_joinedEnd 20 = .ok (.iload 8, 2) := by decide +kernel
theorem d_SS_joinedEnd_22 : decode b_SS_joinedEnd 22 = .ok (.iaload, 1) := by decide +kernel
theorem d_SS_joinedEnd_23 : decode b_SS_joinedEnd 23 = .ok (.istore 9, 2) := by decide +kernel
theorem d_SS_joinedEnd_25 : decode b_SS_joinedEnd 25 = .ok (.aload_n 0, 1) := by decide +kernel
theorem d_SS_joinedEnd_26 : decode b_SS_joinedEnd 26 = .ok (.iload 9, 2) := by decide +kernel
theorem d_SS_joinedEnd_28 : decode b_SS_joinedEnd 28 = .ok (.iload_n 1, 1) := by decide +kernel
theorem d_SS_joinedEnd_29 : decode b_SS_joinedEnd 29 = .ok (.lload_n 2, 1) := by decide +kernel
theorem d_SS_joinedEnd_30 : decode b_SS_joinedEnd 30 = .ok (.lload 4, 2) := by decide +kernel
theorem d_SS_joinedEnd_32 : decode b_SS_joinedEnd 32 = .ok (.invokevirtual 55, 3) := by decide +kernel
theorem d_SS_joinedEnd_35 : decode b_SS_joinedEnd 35 = .ok (.ifCond .eq 17, 3) := by decide +kernel
theorem d_SS_joinedEnd_38 : decode b_SS_joinedEnd 38 = .ok (.lload 6, 2) := by decide +kernel
theorem d_SS_joinedEnd_40 : decode b_SS_joinedEnd 40 = .ok (.aload_n 0, 1) := by decide +kernel
theorem d_SS_joinedEnd_41 : decode b_SS_joinedEnd 41 = .ok (.getfield 19, 3) := by decide +kernel
theorem d_SS_joinedEnd_44 : decode b_SS_joinedEnd 44 = .ok (.iload 9, 2) := by decide +kernel
theorem d_SS_joinedEnd_46 : decode b_SS_joinedEnd 46 = .ok (.laload, 1) := by decide +kernel
theorem d_SS_joinedEnd_47 : decode b_SS_joinedEnd 47 = .ok (.invokestatic 59, 3) := by decide +kernel
theorem d_SS_joinedEnd_50 : decode b_SS_joinedEnd 50 = .ok (.lstore 6, 2) := by decide +kernel
theorem d_SS_joinedEnd_52 : decode b_SS_joinedEnd 52 = .ok (.iinc 8 1, 3) := by decide +kernel
theorem d_SS_joinedEnd_55 : decode b_SS_joinedEnd 55 = .ok (.goto (-48), 3) := by decide +kernel
theorem d_SS_joinedEnd_58 : decode b_SS_joinedEnd 58 = .ok (.lload 6, 2) := by decide +kernel
theorem d_SS_joinedEnd_60 : decode b_SS_joinedEnd 60 = .ok (.lreturn, 1) := by decide +kernel
theorem d_SS_sharing_0 : decode b_SS_sharing 0 = .ok (.iconst 0, 1) := by decide +kernel
theorem d_SS_sharing_1 : decode b_SS_sharing 1 = .ok (.istore 6, 2) := by decide +kernel
theorem d_SS_sharing_3 : decode b_SS_sharing 3 = .ok (.iconst 0, 1) := by decide +kernel
theorem d_SS_sharing_4 : decode b_SS_sharing 4 = .ok (.istore 7, 2) := by decide +kernel
theorem d_SS_sharing_6 : decode b_SS_sharing 6 = .ok (.iload 7, 2) := by decide +kernel
theorem d_SS_sharing_8 : decode b_SS_sharing 8 = .ok (.aload_n 0, 1) := by decide +kernel
theorem d_SS_sharing_9 : decode b_SS_sharing 9 = .ok (.getfield 47, 3) := by decide +kernel
theorem d_SS_sharing_12 : decode b_SS_sharing 12 = .ok (.if_icmp .ge 30, 3) := by decide +kernel
theorem d_SS_sharing_15 : decode b_SS_sharing 15 = .ok (.aload_n 0, 1) := by decide +kernel
theorem d_SS_sharing_16 : decode b_SS_sharing 16 = .ok (.aload_n 0, 1) := by decide +kernel
theorem d_SS_sharing_17 : decode b_SS_sharing 17 = .ok (.getfield 44, 3) := by decide +kernel
theorem d_SS_sharing_20 : decode b_SS_sharing 20 = .ok (.iload 7, 2) := by decide +kernel
theorem d_SS_sharing_22 : decode b_SS_sharing 22 = .ok (.iaload, 1) := by decide +kernel
theorem d_SS_sharing_23 : decode b_SS_sharing 23 = .ok (.iload_n 1, 1) := by decide +kernel
theorem d_SS_sharing_24 : decode b_SS_sharing 24 = .ok (.lload_n 2, 1) := by decide +kernel
theorem d_SS_sharing_25 : decode b_SS_sharing 25 = .ok (.lload 4, 2) := by decide +kernel
theorem d_SS_sharing_27 : decode b_SS_sharing 27 = .ok (.invokevirtual 55, 3) := by decide +kernel
theorem d_SS_sharing_30 : decode b_SS_sharing 30 = .ok (.ifCond .eq 6, 3) := by decide +kernel
theorem d_SS_sharing_33 : decode b_SS_sharing 33 = .ok (.iinc 6 1, 3) := by decide +kernel
theorem d_SS_sharing_36 : decode b_SS_sharing 36 = .ok (.iinc 7 1, 3) := by decide +kernel
theorem d_SS_sharing_39 : decode b_SS_sharing 39 = .ok (.goto (-33), 3) := by decide +kernel
theorem d_SS_sharing_42 : decode b_SS_sharing 42 = .ok (.iload 6, 2) := by decide +kernel
theorem d_SS_sharing_44 : decode b_SS_sharing 44 = .ok (.ireturn, 1) := by decide +kernel
theorem d_SS_absorb_0 : decode b_SS_absorb 0 = .ok (.aload_n 0, 1) := by decide +kernel
theorem d_SS_absorb_1 : decode b_SS_absorb 1 = .ok (.getfield 19, 3) := by decide +kernel
theorem d_SS_absorb_4 : decode b_SS_absorb 4 = .ok (.iload_n 1, 1) := by decide +kernel
theorem d_SS_absorb_5 : decode b_SS_absorb 5 = .ok (.aload_n 0, 1) := by decide +kernel
theorem d_SS_absorb_6 : decode b_SS_absorb 6 = .ok (.getfield 19, 3) := by decide +kernel
theorem d_SS_absorb_9 : decode b_SS_absorb 9 = .ok (.iload_n 1, 1) := by decide +kernel
theorem d_SS_absorb_10 : decode b_SS_absorb 10 = .ok (.laload, 1) := by decide +kernel
theorem d_SS_absorb_11 : decode b_SS_absorb 11 = .ok (.aload_n 0, 1) := by decide +kernel
theorem d_SS_absorb_12 : decode b_SS_absorb 12 = .ok (.getfield 19, 3) := by decide +kernel
theorem d_SS_absorb_15 : decode b_SS_absorb 15 = .ok (.iload_n 2, 1) := by decide +kernel
theorem d_SS_absorb_16 : decode b_SS_absorb 16 = .ok (.laload, 1) := by decide +kernel
theorem d_SS_absorb_17 : decode b_SS_absorb 17 = .ok (.invokestatic 59, 3) := by decide +kernel
theorem d_SS_absorb_20 : decode b_SS_absorb 20 = .ok (.lastore, 1) := by decide +kernel
theorem d_SS_absorb_21 : decode b_SS_absorb 21 = .ok (.aload_n 0, 1) := by decide +kernel
theorem d_SS_absorb_22 : decode b_SS_absorb 22 = .ok (.getfield 22, 3) := by decide +kernel
theorem d_SS_absorb_25 : decode b_SS_absorb 25 = .ok (.iload_n 1, 1) := by decide +kernel
theorem d_SS_absorb_26 : decode b_SS_absorb 26 = .ok (.aload_n 0, 1) := by decide +kernel
theorem d_SS_absorb_27 : decode b_SS_absorb 27 = .ok (.getfield 22, 3) := by decide +kernel
theorem d_SS_absorb_30 : decode b_SS_absorb 30 = .ok (.iload_n 1, 1) := by decide +kernel
theorem d_SS_absorb_31 : decode b_SS_absorb 31 = .ok (.iaload, 1) := by decide +kernel
theorem d_SS_absorb_32 : decode b_SS_absorb 32 = .ok (.aload_n 0, 1) := by decide +kernel
theorem d_SS_absorb_33 : decode b_SS_absorb 33 = .ok (.getfield 22, 3) := by decide +kernel
theorem d_SS_absorb_36 : decode b_SS_absorb 36 = .ok (.iload_n 2, 1) := by decide +kernel
theorem d_SS_absorb_37 : decode b_SS_absorb 37 = .ok (.iaload, 1) := by decide +kernel
theorem d_SS_absorb_38 : decode b_SS_absorb 38 = .ok (.invokestatic 79, 3) := by decide +kernel
theorem d_SS_absorb_41 : decode b_SS_absorb 41 = .ok (.iastore, 1) := by decide +kernel
theorem d_SS_absorb_42 : decode b_SS_absorb 42 = .ok (.aload_n 0, 1) := by decide +kernel
theorem d_SS_absorb_43 : decode b_SS_absorb 43 = .ok (.getfield 25, 3) := by decide +kernel
theorem d_SS_absorb_46 : decode b_SS_absorb 46 = .ok (.iload_n 1, 1) := by decide +kernel
theorem d_SS_absorb_47 : decode b_SS_absorb 47 = .ok (.dup2, 1) := by decide +kernel
theorem d_SS_absorb_48 : decode b_SS_absorb 48 = .ok (.iaload, 1) := by decide +kernel
theorem d_SS_absorb_49 : decode b_SS_absorb 49 = .ok (.aload_n 0, 1) := by decide +kernel
theorem d_SS_absorb_50 : decode b_SS_absorb 50 = .ok (.getfield 25, 3) := by decide +kernel
theorem d_SS_absorb_53 : decode b_SS_absorb 53 = .ok (.iload_n 2, 1) := by decide +kernel
theorem d_SS_absorb_54 : decode b_SS_absorb 54 = .ok (.iaload, 1) := by decide +kernel
theorem d_SS_absorb_55 : decode b_SS_absorb 55 = .ok (.iadd, 1) := by decide +kernel
theorem d_SS_absorb_56 : decode b_SS_absorb 56 = .ok (.iastore, 1) := by decide +kernel
theorem d_SS_absorb_57 : decode b_SS_absorb 57 = .ok (.aload_n 0, 1) := by decide +kernel
theorem d_SS_absorb_58 : decode b_SS_absorb 58 = .ok (.getfield 28, 3) := by decide +kernel
theorem d_SS_absorb_61 : decode b_SS_absorb 61 = .ok (.iload_n 1, 1) := by decide +kernel
theorem d_SS_absorb_62 : decode b_SS_absorb 62 = .ok (.aload_n 0, 1) := by decide +kernel
theorem d_SS_absorb_63 : decode b_SS_absorb 63 = .ok (.getfield 28, 3) := by decide +kernel
theorem d_SS_absorb_66 : decode b_SS_absorb 66 = .ok (.iload_n 1, 1) := by decide +kernel
theorem d_SS_absorb_67 : decode b_SS_absorb 67 = .ok (.baload, 1) := by decide +kernel
theorem d_SS_absorb_68 : decode b_SS_absorb 68 = .ok (.ifCond .ne 12, 3) := by decide +kernel
theorem d_SS_absorb_71 : decode b_SS_absorb 71 = .ok (.aload_n 0, 1) := by decide +kernel
theorem d_SS_absorb_72 : decode b_SS_absorb 72 = .ok (.getfield 28, 3) := by decide +kernel
theorem d_SS_absorb_75 : decode b_SS_absorb 75 = .ok (.iload_n 2, 1) := by decide +kernel
theorem d_SS_absorb_76 : decode b_SS_absorb 76 = .ok (.baload, 1) := by decide +kernel
theorem d_SS_absorb_77 : decode b_SS_absorb 77 = .ok (.ifCond .eq 7, 3) := by decide +kernel
theorem d_SS_absorb_80 : decode b_SS_absorb 80 = .ok (.iconst 1, 1) := by decide +kernel
theorem d_SS_absorb_81 : decode b_SS_absorb 81 = .ok (.goto 4, 3) := by decide +kernel
theorem d_SS_absorb_84 : decode b_SS_absorb 84 = .ok (.iconst 0, 1) := by decide +kernel
theorem d_SS_absorb_85 : decode b_SS_absorb 85 = .ok (.bastore, 1) := by decide +kernel
theorem d_SS_absorb_86 : decode b_SS_absorb 86 = .ok (.iconst 0, 1) := by decide +kernel
theorem d_SS_absorb_87 : decode b_SS_absorb 87 = .ok (.istore_n 3, 1) := by decide +kernel
theorem d_SS_absorb_88 : decode b_SS_absorb 88 = .ok (.iload_n 3, 1) := by decide +kernel
theorem d_SS_absorb_89 : decode b_SS_absorb 89 = .ok (.iconst 5, 1) := by decide +kernel
theorem d_SS_absorb_90 : decode b_SS_absorb 90 = .ok (.if_icmp .ge 55, 3) := by decide +kernel
theorem d_SS_absorb_93 : decode b_SS_absorb 93 = .ok (.aload_n 0, 1) := by decide +kernel
theorem d_SS_absorb_94 : decode b_SS_absorb 94 = .ok (.getfield 32, 3) := by decide +kernel
theorem d_SS_absorb_97 : decode b_SS_absorb 97 = .ok (.iload_n 1, 1) := by decide +kernel
theorem d_SS_absorb_98 : decode b_SS_absorb 98 = .ok (.iconst 5, 1) := by decide +kernel
theorem d_SS_absorb_99 : decode b_SS_absorb 99 = .ok (.imul, 1) := by decide +kernel
theorem d_SS_absorb_100 : decode b_SS_absorb 100 = .ok (.iload_n 3, 1) := by decide +kernel
theorem d_SS_absorb_101 : decode b_SS_absorb 101 = .ok (.iadd, 1) := by decide +kernel
theorem d_SS_absorb_102 : decode b_SS_absorb 102 = .ok (.dup2, 1) := by decide +kernel
theorem d_SS_absorb_103 : decode b_SS_absorb 103 = .ok (.laload, 1) := by decide +kernel
theorem d_SS_absorb_104 : decode b_SS_absorb 104 = .ok (.aload_n 0, 1) := by decide +kernel
theorem d_SS_absorb_105 : decode b_SS_absorb 105 = .ok (.getfield 32, 3) := by decide +kernel
theorem d_SS_absorb_108 : decode b_SS_absorb 108 = .ok (.iload_n 2, 1) := by decide +kernel
theorem d_SS_absorb_109 : decode b_SS_absorb 109 = .ok (.iconst 5, 1) := by decide +kernel
theorem d_SS_absorb_110 : decode b_SS_absorb 110 = .ok (.imul, 1) := by decide +kernel
theorem d_SS_absorb_111 : decode b_SS_absorb 111 = .ok (.iload_n 3, 1) := by decide +kernel
theorem d_SS_absorb_112 : decode b_SS_absorb 112 = .ok (.iadd, 1) := by decide +kernel
theorem d_SS_absorb_113 : decode b_SS_absorb 113 = .ok (.laload, 1) := by decide +kernel
theorem d_SS_absorb_114 : decode b_SS_absorb 114 = .ok (.lor, 1) := by decide +kernel
theorem d_SS_absorb_115 : decode b_SS_absorb 115 = .ok (.lastore, 1) := by decide +kernel
theorem d_SS_absorb_116 : decode b_SS_absorb 116 = .ok (.aload_n 0, 1) := by decide +kernel
theorem d_SS_absorb_117 : decode b_SS_absorb 117 = .ok (.getfield 35, 3) := by decide +kernel
theorem d_SS_absorb_120 : decode b_SS_absorb 120 = .ok (.iload_n 1, 1) := by decide +kernel
theorem d_SS_absorb_121 : decode b_SS_absorb 121 = .ok (.iconst 5, 1) := by decide +kernel
theorem d_SS_absorb_122 : decode b_SS_absorb 122 = .ok (.imul, 1) := by decide +kernel
theorem d_SS_absorb_123 : decode b_SS_absorb 123 = .ok (.iload_n 3, 1) := by decide +kernel
theorem d_SS_absorb_124 : decode b_SS_absorb 124 = .ok (.iadd, 1) := by decide +kernel
theorem d_SS_absorb_125 : decode b_SS_absorb 125 = .ok (.dup2, 1) := by decide +kernel
theorem d_SS_absorb_126 : decode b_SS_absorb 126 = .ok (.laload, 1) := by decide +kernel
theorem d_SS_absorb_127 : decode b_SS_absorb 127 = .ok (.aload_n 0, 1) := by decide +kernel
theorem d_SS_absorb_128 : decode b_SS_absorb 128 = .ok (.getfield 35, 3) := by decide +kernel
theorem d_SS_absorb_131 : decode b_SS_absorb 131 = .ok (.iload_n 2, 1) := by decide +kernel
theorem d_SS_absorb_132 : decode b_SS_absorb 132 = .ok (.iconst 5, 1) := by decide +kernel
theorem d_SS_absorb_133 : decode b_SS_absorb 133 = .ok (.imul, 1) := by decide +kernel
theorem d_SS_absorb_134 : decode b_SS_absorb 134 = .ok (.iload_n 3, 1) := by decide +kernel
theorem d_SS_absorb_135 : decode b_SS_absorb 135 = .ok (.iadd, 1) := by decide +kernel
theorem d_SS_absorb_136 : decode b_SS_absorb 136 = .ok (.laload, 1) := by decide +kernel
theorem d_SS_absorb_137 : decode b_SS_absorb 137 = .ok (.lor, 1) := by decide +kernel
theorem d_SS_absorb_138 : decode b_SS_absorb 138 = .ok (.lastore, 1) := by decide +kernel
theorem d_SS_absorb_139 : decode b_SS_absorb 139 = .ok (.iinc 3 1, 3) := by decide +kernel
theorem d_SS_absorb_142 : decode b_SS_absorb 142 = .ok (.goto (-54), 3) := by decide +kernel
theorem d_SS_absorb_145 : decode b_SS_absorb 145 = .ok (.aload_n 0, 1) := by decide +kernel
theorem d_SS_absorb_146 : decode b_SS_absorb 146 = .ok (.getfield 9, 3) := by decide +kernel
theorem d_SS_absorb_149 : decode b_SS_absorb 149 = .ok (.iload_n 2, 1) := by decide +kernel
theorem d_SS_absorb_150 : decode b_SS_absorb 150 = .ok (.iconst (-1), 1) := by decide +kernel
theorem d_SS_absorb_151 : decode b_SS_absorb 151 = .ok (.iastore, 1) := by decide +kernel
theorem d_SS_absorb_152 : decode b_SS_absorb 152 = .ok (.return_, 1) := by decide +kernel
theorem d_SS_isBehind_0 : decode b_SS_isBehind 0 = .ok (.aload_n 0, 1) := by decide +kernel
theorem d_SS_isBehind_1 : decode b_SS_isBehind 1 = .ok (.getfield 9, 3) := by decide +kernel
theorem d_SS_isBehind_4 : decode b_SS_isBehind 4 = .ok (.iload_n 1, 1) := by decide +kernel
theorem d_SS_isBehind_5 : decode b_SS_isBehind 5 = .ok (.iaload, 1) := by decide +kernel
theorem d_SS_isBehind_6 : decode b_SS_isBehind 6 = .ok (.aload_n 0, 1) := by decide +kernel
theorem d_SS_isBehind_7 : decode b_SS_isBehind 7 = .ok (.getfield 9, 3) := by decide +kernel
theorem d_SS_isBehind_10 : decode b_SS_isBehind 10 = .ok (.iload_n 2, 1) := by decide +kernel
theorem d_SS_isBehind_11 : decode b_SS_isBehind 11 = .ok (.iaload, 1) := by decide +kernel
theorem d_SS_isBehind_12 : decode b_SS_isBehind 12 = .ok (.if_icmp .eq 24, 3) := by decide +kernel
theorem d_SS_isBehind_15 : decode b_SS_isBehind 15 = .ok (.aload_n 0, 1) := by decide +kernel
theorem d_SS_isBehind_16 : decode b_SS_isBehind 16 = .ok (.getfield 9, 3) := by decide +kernel
theorem d_SS_isBehind_19 : decode b_SS_isBehind 19 = .ok (.iload_n 1, 1) := by decide +kernel
theorem d_SS_isBehind_20 : decode b_SS_isBehind 20 = .ok (.iaload, 1) := by decide +kernel
theorem d_SS_isBehind_21 : decode b_SS_isBehind 21 = .ok (.aload_n 0, 1) := by decide +kernel
theorem d_SS_isBehind_22 : decode b_SS_isBehind 22 = .ok (.getfield 9, 3) := by decide +kernel
theorem d_SS_isBehind_25 : decode b_SS_isBehind 25 = .ok (.iload_n 2, 1) := by decide +kernel
theorem d_SS_isBehind_26 : decode b_SS_isBehind 26 = .ok (.iaload, 1) := by decide +kernel
theorem d_SS_isBehind_27 : decode b_SS_isBehind 27 = .ok (.if_icmp .le 7, 3) := by decide +kernel
theorem d_SS_isBehind_30 : decode b_SS_isBehind 30 = .ok (.iconst 1, 1) := by decide +kernel
theorem d_SS_isBehind_31 : decode b_SS_isBehind 31 = .ok (.goto 4, 3) := by decide +kernel
theorem d_SS_isBehind_34 : decode b_SS_isBehind 34 = .ok (.iconst 0, 1) := by decide +kernel
theorem d_SS_isBehind_35 : decode b_SS_isBehind 35 = .ok (.ireturn, 1) := by decide +kernel
theorem d_SS_isBehind_36 : decode b_SS_isBehind 36 = .ok (.aload_n 0, 1) := by decide +kernel
theorem d_SS_isBehind_37 : decode b_SS_isBehind 37 = .ok (.getfield 15, 3) := by decide +kernel
theorem d_SS_isBehind_40 : decode b_SS_isBehind 40 = .ok (.iload_n 1, 1) := by decide +kernel
theorem d_SS_isBehind_41 : decode b_SS_isBehind 41 = .ok (.laload, 1) := by decide +kernel
theorem d_SS_isBehind_42 : decode b_SS_isBehind 42 = .ok (.aload_n 0, 1) := by decide +kernel
theorem d_SS_isBehind_43 : decode b_SS_isBehind 43 = .ok (.getfield 15, 3) := by decide +kernel
theorem d_SS_isBehind_46 : decode b_SS_isBehind 46 = .ok (.iload_n 2, 1) := by decide +kernel
theorem d_SS_isBehind_47 : decode b_SS_isBehind 47 = .ok (.laload, 1) := by decide +kernel
theorem d_SS_isBehind_48 : decode b_SS_isBehind 48 = .ok (.lcmp, 1) := by decide +kernel
theorem d_SS_isBehind_49 : decode b_SS_isBehind 49 = .ok (.ifCond .eq 27, 3) := by decide +kernel
theorem d_SS_isBehind_52 : decode b_SS_isBehind 52 = .ok (.aload_n 0, 1) := by decide +kernel
theorem d_SS_isBehind_53 : decode b_SS_isBehind 53 = .ok (.getfield 15, 3) := by decide +kernel
theorem d_SS_isBehind_56 : decode b_SS_isBehind 56 = .ok (.iload_n 1, 1) := by decide +kernel
theorem d_SS_isBehind_57 : decode b_SS_isBehind 57 = .ok (.laload, 1) := by decide +kernel
theorem d_SS_isBehind_58 : decode b_SS_isBehind 58 = .ok (.aload_n 0, 1) := by decide +kernel
theorem d_SS_isBehind_59 : decode b_SS_isBehind 59 = .ok (.getfield 15, 3) := by decide +kernel
theorem d_SS_isBehind_62 : decode b_SS_isBehind 62 = .ok (.iload_n 2, 1) := by decide +kernel
theorem d_SS_isBehind_63 : decode b_SS_isBehind 63 = .ok (.laload, 1) := by decide +kernel
theorem d_SS_isBehind_64 : decode b_SS_isBehind 64 = .ok (.lcmp, 1) := by decide +kernel
theorem d_SS_isBehind_65 : decode b_SS_isBehind 65 = .ok (.ifCond .le 7, 3) := by decide +kernel
theorem d_SS_isBehind_68 : decode b_SS_isBehind 68 = .ok (.iconst 1, 1) := by decide +kernel
theorem d_SS_isBehind_69 : decode b_SS_isBehind 69 = .ok (.goto 28, 3) := by decide +kernel
theorem d_SS_isBehind_72 : decode b_SS_isBehind 72 = .ok (.iconst 0, 1) := by decide +kernel
theorem d_SS_isBehind_73 : decode b_SS_isBehind 73 = .ok (.goto 24, 3) := by decide +kernel
theorem d_SS_isBehind_76 : decode b_SS_isBehind 76 = .ok (.aload_n 0, 1) := by decide +kernel
theorem d_SS_isBehind_77 : decode b_SS_isBehind 77 = .ok (.getfield 19, 3) := by decide +kernel
theorem d_SS_isBehind_80 : decode b_SS_isBehind 80 = .ok (.iload_n 1, 1) := by decide +kernel
theorem d_SS_isBehind_81 : decode b_SS_isBehind 81 = .ok (.laload, 1) := by decide +kernel
theorem d_SS_isBehind_82 : decode b_SS_isBehind 82 = .ok (.aload_n 0, 1) := by decide +kernel
theorem d_SS_isBehind_83 : decode b_SS_isBehind 83 = .ok (.getfield 19, 3) := by decide +kernel
theorem d_SS_isBehind_86 : decode b_SS_isBehind 86 = .ok (.iload_n 2, 1) := by decide +kernel
theorem d_SS_isBehind_87 : decode b_SS_isBehind 87 = .ok (.laload, 1) := by decide +kernel
theorem d_SS_isBehind_88 : decode b_SS_isBehind 88 = .ok (.lcmp, 1) := by decide +kernel
theorem d_SS_isBehind_89 : decode b_SS_isBehind 89 = .ok (.ifCond .le 7, 3) := by decide +kernel
theorem d_SS_isBehind_92 : decode b_SS_isBehind 92 = .ok (.iconst 1, 1) := by decide +kernel
theorem d_SS_isBehind_93 : decode b_SS_isBehind 93 = .ok (.goto 4, 3) := by decide +kernel
theorem d_SS_isBehind_96 : decode b_SS_isBehind 96 = .ok (.iconst 0, 1) := by decide +kernel
theorem d_SS_isBehind_97 : decode b_SS_isBehind 97 = .ok (.ireturn, 1) := by decide +kernel
theorem d_SS_add_0 : decode b_SS_add 0 = .ok (.aload_n 0, 1) := by decide +kernel
theorem d_SS_add_1 : decode b_SS_add 1 = .ok (.getfield 44, 3) := by decide +kernel
theorem d_SS_add_4 : decode b_SS_add 4 = .ok (.aload_n 0, 1) := by decide +kernel
theorem d_SS_add_5 : decode b_SS_add 5 = .ok (.getfield 47, 3) := by decide +kernel
theorem d_SS_add_8 : decode b_SS_add 8 = .ok (.iaload, 1) := by decide +kernel
theorem d_SS_add_9 : decode b_SS_add 9 = .ok (.istore 6, 2) := by decide +kernel
theorem d_SS_add_11 : decode b_SS_add 11 = .ok (.aload_n 0, 1) := by decide +kernel
theorem d_SS_add_12 : decode b_SS_add 12 = .ok (.getfield 9, 3) := by decide +kernel
theorem d_SS_add_15 : decode b_SS_add 15 = .ok (.iload 6, 2) := by decide +kernel
theorem d_SS_add_17 : decode b_SS_add 17 = .ok (.iload_n 1, 1) := by decide +kernel
theorem d_SS_add_18 : decode b_SS_add 18 = .ok (.iastore, 1) := by decide +kernel
theorem d_SS_add_19 : decode b_SS_add 19 = .ok (.aload_n 0, 1) := by decide +kernel
theorem d_SS_add_20 : decode b_SS_add 20 = .ok (.getfield 15, 3) := by decide +kernel
theorem d_SS_add_23 : decode b_SS_add 23 = .ok (.iload 6, 2) := by decide +kernel
theorem d_SS_add_25 : decode b_SS_add 25 = .ok (.lload_n 2, 1) := by decide +kernel
theorem d_SS_add_26 : decode b_SS_add 26 = .ok (.lastore, 1) := by decide +kernel
theorem d_SS_add_27 : decode b_SS_add 27 = .ok (.aload_n 0, 1) := by decide +kernel
theorem d_SS_add_28 : decode b_SS_add 28 = .ok (.getfield 19, 3) := by decide +kernel
theorem d_SS_add_31 : decode b_SS_add 31 = .ok (.iload 6, 2) := by decide +kernel
theorem d_SS_add_33 : decode b_SS_add 33 = .ok (.lload 4, 2) := by decide +kernel
theorem d_SS_add_35 : decode b_SS_add 35 = .ok (.lastore, 1) := by decide +kernel
theorem d_SS_add_36 : decode b_SS_add 36 = .ok (.aload_n 0, 1) := by decide +kernel
end
section
theorem d_SS_add_37 : decode b_SS_add 37 = .ok (.getfield 22, 3) := by decide +kernel
theorem d_SS_add_40 : decode b_SS_add 40 = .ok (.iload 6, 2) := by decide +kernel
theorem d_SS_add_42 : decode b_SS_add 42 = .ok (.iconst 0, 1) := by decide +kernel
theorem d_SS_add_43 : decode b_SS_add 43 = .ok (.iastore, 1) := by decide +kernel
theorem d_SS_add_44 : decode b_SS_add 44 = .ok (.aload_n 0, 1) := by decide +kernel
theorem d_SS_add_45 : decode b_SS_add 45 = .ok (.getfield 25, 3) := by decide +kernel
theorem d_SS_add_48 : decode b_SS_add 48 = .ok (.iload 6, 2) := by decide +kernel
theorem d_SS_add_50 : decode b_SS_add 50 = .ok (.iconst 0, 1) := by decide +kernel
theorem d_SS_add_51 : decode b_SS_add 51 = .ok (.iastore, 1) := by decide +kernel
theorem d_SS_add_52 : decode b_SS_add 52 = .ok (.aload_n 0, 1) := by decide +kernel
theorem d_SS_add_53 : decode b_SS_add 53 = .ok (.getfield 28, 3) := by decide +kernel
theorem d_SS_add_56 : decode b_SS_add 56 = .ok (.iload 6, 2) := by decide +kernel
theorem d_SS_add_58 : decode b_SS_add 58 = .ok (.iconst 0, 1) := by decide +kernel
theorem d_SS_add_59 : decode b_SS_add 59 = .ok (.bastore, 1) := by decide +kernel
theorem d_SS_add_60 : decode b_SS_add 60 = .ok (.iload 6, 2) := by decide +kernel
theorem d_SS_add_62 : decode b_SS_add 62 = .ok (.iconst 5, 1) := by decide +kernel
theorem d_SS_add_63 : decode b_SS_add 63 = .ok (.imul, 1) := by decide +kernel
theorem d_SS_add_64 : decode b_SS_add 64 = .ok (.istore 7, 2) := by decide +kernel
theorem d_SS_add_66 : decode b_SS_add 66 = .ok (.iload 7, 2) := by decide +kernel
theorem d_SS_add_68 : decode b_SS_add 68 = .ok (.iload 6, 2) := by decide +kernel
theorem d_SS_add_70 : decode b_SS_add 70 = .ok (.iconst 5, 1) := by decide +kernel
theorem d_SS_add_71 : decode b_SS_add 71 = .ok (.imul, 1) := by decide +kernel
theorem d_SS_add_72 : decode b_SS_add 72 = .ok (.iconst 5, 1) := by decide +kernel
theorem d_SS_add_73 : decode b_SS_add 73 = .ok (.iadd, 1) := by decide +kernel
theorem d_SS_add_74 : decode b_SS_add 74 = .ok (.if_icmp .ge 25, 3) := by decide +kernel
theorem d_SS_add_77 : decode b_SS_add 77 = .ok (.aload_n 0, 1) := by decide +kernel
theorem d_SS_add_78 : decode b_SS_add 78 = .ok (.getfield 32, 3) := by decide +kernel
theorem d_SS_add_81 : decode b_SS_add 81 = .ok (.iload 7, 2) := by decide +kernel
theorem d_SS_add_83 : decode b_SS_add 83 = .ok (.lconst 0, 1) := by decide +kernel
theorem d_SS_add_84 : decode b_SS_add 84 = .ok (.lastore, 1) := by decide +kernel
theorem d_SS_add_85 : decode b_SS_add 85 = .ok (.aload_n 0, 1) := by decide +kernel
theorem d_SS_add_86 : decode b_SS_add 86 = .ok (.getfield 35, 3) := by decide +kernel
theorem d_SS_add_89 : decode b_SS_add 89 = .ok (.iload 7, 2) := by decide +kernel
theorem d_SS_add_91 : decode b_SS_add 91 = .ok (.lconst 0, 1) := by decide +kernel
theorem d_SS_add_92 : decode b_SS_add 92 = .ok (.lastore, 1) := by decide +kernel
theorem d_SS_add_93 : decode b_SS_add 93 = .ok (.iinc 7 1, 3) := by decide +kernel
theorem d_SS_add_96 : decode b_SS_add 96 = .ok (.goto (-30), 3) := by decide +kernel
theorem d_SS_add_99 : decode b_SS_add 99 = .ok (.aload_n 0, 1) := by decide +kernel
theorem d_SS_add_100 : decode b_SS_add 100 = .ok (.getfield 47, 3) := by decide +kernel
theorem d_SS_add_103 : decode b_SS_add 103 = .ok (.istore 7, 2) := by decide +kernel
theorem d_SS_add_105 : decode b_SS_add 105 = .ok (.iload 7, 2) := by decide +kernel
theorem d_SS_add_107 : decode b_SS_add 107 = .ok (.ifCond .le 43, 3) := by decide +kernel
theorem d_SS_add_110 : decode b_SS_add 110 = .ok (.aload_n 0, 1) := by decide +kernel
theorem d_SS_add_111 : decode b_SS_add 111 = .ok (.aload_n 0, 1) := by decide +kernel
theorem d_SS_add_112 : decode b_SS_add 112 = .ok (.getfield 44, 3) := by decide +kernel
theorem d_SS_add_115 : decode b_SS_add 115 = .ok (.iload 7, 2) := by decide +kernel
theorem d_SS_add_117 : decode b_SS_add 117 = .ok (.iconst 1, 1) := by decide +kernel
theorem d_SS_add_118 : decode b_SS_add 118 = .ok (.isub, 1) := by decide +kernel
theorem d_SS_add_119 : decode b_SS_add 119 = .ok (.iaload, 1) := by decide +kernel
theorem d_SS_add_120 : decode b_SS_add 120 = .ok (.iload 6, 2) := by decide +kernel
theorem d_SS_add_122 : decode b_SS_add 122 = .ok (.invokevirtual 51, 3) := by decide +kernel
theorem d_SS_add_125 : decode b_SS_add 125 = .ok (.ifCond .eq 25, 3) := by decide +kernel
theorem d_SS_add_128 : decode b_SS_add 128 = .ok (.aload_n 0, 1) := by decide +kernel
theorem d_SS_add_129 : decode b_SS_add 129 = .ok (.getfield 44, 3) := by decide +kernel
theorem d_SS_add_132 : decode b_SS_add 132 = .ok (.iload 7, 2) := by decide +kernel
theorem d_SS_add_134 : decode b_SS_add 134 = .ok (.aload_n 0, 1) := by decide +kernel
theorem d_SS_add_135 : decode b_SS_add 135 = .ok (.getfield 44, 3) := by decide +kernel
theorem d_SS_add_138 : decode b_SS_add 138 = .ok (.iload 7, 2) := by decide +kernel
theorem d_SS_add_140 : decode b_SS_add 140 = .ok (.iconst 1, 1) := by decide +kernel
theorem d_SS_add_141 : decode b_SS_add 141 = .ok (.isub, 1) := by decide +kernel
theorem d_SS_add_142 : decode b_SS_add 142 = .ok (.iaload, 1) := by decide +kernel
theorem d_SS_add_143 : decode b_SS_add 143 = .ok (.iastore, 1) := by decide +kernel
theorem d_SS_add_144 : decode b_SS_add 144 = .ok (.iinc 7 (-1), 3) := by decide +kernel
theorem d_SS_add_147 : decode b_SS_add 147 = .ok (.goto (-42), 3) := by decide +kernel
theorem d_SS_add_150 : decode b_SS_add 150 = .ok (.aload_n 0, 1) := by decide +kernel
theorem d_SS_add_151 : decode b_SS_add 151 = .ok (.getfield 44, 3) := by decide +kernel
theorem d_SS_add_154 : decode b_SS_add 154 = .ok (.iload 7, 2) := by decide +kernel
theorem d_SS_add_156 : decode b_SS_add 156 = .ok (.iload 6, 2) := by decide +kernel
theorem d_SS_add_158 : decode b_SS_add 158 = .ok (.iastore, 1) := by decide +kernel
theorem d_SS_add_159 : decode b_SS_add 159 = .ok (.aload_n 0, 1) := by decide +kernel
theorem d_SS_add_160 : decode b_SS_add 160 = .ok (.dup, 1) := by decide +kernel
theorem d_SS_add_161 : decode b_SS_add 161 = .ok (.getfield 47, 3) := by decide +kernel
theorem d_SS_add_164 : decode b_SS_add 164 = .ok (.iconst 1, 1) := by decide +kernel
theorem d_SS_add_165 : decode b_SS_add 165 = .ok (.iadd, 1) := by decide +kernel
theorem d_SS_add_166 : decode b_SS_add 166 = .ok (.putfield 47, 3) := by decide +kernel
theorem d_SS_add_169 : decode b_SS_add 169 = .ok (.iload 6, 2) := by decide +kernel
theorem d_SS_add_171 : decode b_SS_add 171 = .ok (.ireturn, 1) := by decide +kernel
theorem d_SS_join_0 : decode b_SS_join 0 = .ok (.iconst (-1), 1) := by decide +kernel
theorem d_SS_join_1 : decode b_SS_join 1 = .ok (.istore 6, 2) := by decide +kernel
theorem d_SS_join_3 : decode b_SS_join 3 = .ok (.iconst 0, 1) := by decide +kernel
theorem d_SS_join_4 : decode b_SS_join 4 = .ok (.istore 7, 2) := by decide +kernel
theorem d_SS_join_6 : decode b_SS_join 6 = .ok (.iload 7, 2) := by decide +kernel
theorem d_SS_join_8 : decode b_SS_join 8 = .ok (.aload_n 0, 1) := by decide +kernel
theorem d_SS_join_9 : decode b_SS_join 9 = .ok (.getfield 47, 3) := by decide +kernel
theorem d_SS_join_12 : decode b_SS_join 12 = .ok (.if_icmp .ge 52, 3) := by decide +kernel
theorem d_SS_join_15 : decode b_SS_join 15 = .ok (.aload_n 0, 1) := by decide +kernel
theorem d_SS_join_16 : decode b_SS_join 16 = .ok (.getfield 44, 3) := by decide +kernel
theorem d_SS_join_19 : decode b_SS_join 19 = .ok (.iload 7, 2) := by decide +kernel
theorem d_SS_join_21 : decode b_SS_join 21 = .ok (.iaload, 1) := by decide +kernel
theorem d_SS_join_22 : decode b_SS_join 22 = .ok (.istore 8, 2) := by decide +kernel
theorem d_SS_join_24 : decode b_SS_join 24 = .ok (.aload_n 0, 1) := by decide +kernel
theorem d_SS_join_25 : decode b_SS_join 25 = .ok (.iload 8, 2) := by decide +kernel
theorem d_SS_join_27 : decode b_SS_join 27 = .ok (.iload_n 1, 1) := by decide +kernel
theorem d_SS_join_28 : decode b_SS_join 28 = .ok (.lload_n 2, 1) := by decide +kernel
theorem d_SS_join_29 : decode b_SS_join 29 = .ok (.lload 4, 2) := by decide +kernel
theorem d_SS_join_31 : decode b_SS_join 31 = .ok (.invokevirtual 55, 3) := by decide +kernel
theorem d_SS_join_34 : decode b_SS_join 34 = .ok (.ifCond .eq 24, 3) := by decide +kernel
theorem d_SS_join_37 : decode b_SS_join 37 = .ok (.iload 6, 2) := by decide +kernel
theorem d_SS_join_39 : decode b_SS_join 39 = .ok (.iconst (-1), 1) := by decide +kernel
theorem d_SS_join_40 : decode b_SS_join 40 = .ok (.if_icmp .ne 10, 3) := by decide +kernel
theorem d_SS_join_43 : decode b_SS_join 43 = .ok (.iload 8, 2) := by decide +kernel
theorem d_SS_join_45 : decode b_SS_join 45 = .ok (.istore 6, 2) := by decide +kernel
theorem d_SS_join_47 : decode b_SS_join 47 = .ok (.goto 11, 3) := by decide +kernel
theorem d_SS_join_50 : decode b_SS_join 50 = .ok (.aload_n 0, 1) := by decide +kernel
theorem d_SS_join_51 : decode b_SS_join 51 = .ok (.iload 6, 2) := by decide +kernel
theorem d_SS_join_53 : decode b_SS_join 53 = .ok (.iload 8, 2) := by decide +kernel
theorem d_SS_join_55 : decode b_SS_join 55 = .ok (.invokevirtual 65, 3) := by decide +kernel
theorem d_SS_join_58 : decode b_SS_join 58 = .ok (.iinc 7 1, 3) := by decide +kernel
theorem d_SS_join_61 : decode b_SS_join 61 = .ok (.goto (-55), 3) := by decide +kernel
theorem d_SS_join_64 : decode b_SS_join 64 = .ok (.iload 6, 2) := by decide +kernel
theorem d_SS_join_66 : decode b_SS_join 66 = .ok (.iconst (-1), 1) := by decide +kernel
theorem d_SS_join_67 : decode b_SS_join 67 = .ok (.if_icmp .ne 12, 3) := by decide +kernel
theorem d_SS_join_70 : decode b_SS_join 70 = .ok (.aload_n 0, 1) := by decide +kernel
theorem d_SS_join_71 : decode b_SS_join 71 = .ok (.iload_n 1, 1) := by decide +kernel
theorem d_SS_join_72 : decode b_SS_join 72 = .ok (.lload_n 2, 1) := by decide +kernel
theorem d_SS_join_73 : decode b_SS_join 73 = .ok (.lload 4, 2) := by decide +kernel
theorem d_SS_join_75 : decode b_SS_join 75 = .ok (.invokevirtual 69, 3) := by decide +kernel
theorem d_SS_join_78 : decode b_SS_join 78 = .ok (.ireturn, 1) := by decide +kernel
theorem d_SS_join_79 : decode b_SS_join 79 = .ok (.aload_n 0, 1) := by decide +kernel
theorem d_SS_join_80 : decode b_SS_join 80 = .ok (.getfield 15, 3) := by decide +kernel
theorem d_SS_join_83 : decode b_SS_join 83 = .ok (.iload 6, 2) := by decide +kernel
theorem d_SS_join_85 : decode b_SS_join 85 = .ok (.aload_n 0, 1) := by decide +kernel
theorem d_SS_join_86 : decode b_SS_join 86 = .ok (.getfield 15, 3) := by decide +kernel
theorem d_SS_join_89 : decode b_SS_join 89 = .ok (.iload 6, 2) := by decide +kernel
theorem d_SS_join_91 : decode b_SS_join 91 = .ok (.laload, 1) := by decide +kernel
theorem d_SS_join_92 : decode b_SS_join 92 = .ok (.lload_n 2, 1) := by decide +kernel
theorem d_SS_join_93 : decode b_SS_join 93 = .ok (.invokestatic 73, 3) := by decide +kernel
theorem d_SS_join_96 : decode b_SS_join 96 = .ok (.lastore, 1) := by decide +kernel
theorem d_SS_join_97 : decode b_SS_join 97 = .ok (.aload_n 0, 1) := by decide +kernel
theorem d_SS_join_98 : decode b_SS_join 98 = .ok (.getfield 19, 3) := by decide +kernel
theorem d_SS_join_101 : decode b_SS_join 101 = .ok (.iload 6, 2) := by decide +kernel
theorem d_SS_join_103 : decode b_SS_join 103 = .ok (.aload_n 0, 1) := by decide +kernel
theorem d_SS_join_104 : decode b_SS_join 104 = .ok (.getfield 19, 3) := by decide +kernel
theorem d_SS_join_107 : decode b_SS_join 107 = .ok (.iload 6, 2) := by decide +kernel
theorem d_SS_join_109 : decode b_SS_join 109 = .ok (.laload, 1) := by decide +kernel
theorem d_SS_join_110 : decode b_SS_join 110 = .ok (.lload 4, 2) := by decide +kernel
theorem d_SS_join_112 : decode b_SS_join 112 = .ok (.invokestatic 59, 3) := by decide +kernel
theorem d_SS_join_115 : decode b_SS_join 115 = .ok (.lastore, 1) := by decide +kernel
theorem d_SS_join_116 : decode b_SS_join 116 = .ok (.aload_n 0, 1) := by decide +kernel
theorem d_SS_join_117 : decode b_SS_join 117 = .ok (.invokevirtual 76, 3) := by decide +kernel
theorem d_SS_join_120 : decode b_SS_join 120 = .ok (.iload 6, 2) := by decide +kernel
theorem d_SS_join_122 : decode b_SS_join 122 = .ok (.ireturn, 1) := by decide +kernel
theorem d_SS_put_0 : decode b_SS_put 0 = .ok (.iload_n 1, 1) := by decide +kernel
theorem d_SS_put_1 : decode b_SS_put 1 = .ok (.iconst 5, 1) := by decide +kernel
theorem d_SS_put_2 : decode b_SS_put 2 = .ok (.imul, 1) := by decide +kernel
theorem d_SS_put_3 : decode b_SS_put 3 = .ok (.iload_n 2, 1) := by decide +kernel
theorem d_SS_put_4 : decode b_SS_put 4 = .ok (.bipush 64, 2) := by decide +kernel
theorem d_SS_put_6 : decode b_SS_put 6 = .ok (.idiv, 1) := by decide +kernel
theorem d_SS_put_7 : decode b_SS_put 7 = .ok (.iadd, 1) := by decide +kernel
theorem d_SS_put_8 : decode b_SS_put 8 = .ok (.istore_n 3, 1) := by decide +kernel
theorem d_SS_put_9 : decode b_SS_put 9 = .ok (.aload_n 0, 1) := by decide +kernel
theorem d_SS_put_10 : decode b_SS_put 10 = .ok (.getfield 32, 3) := by decide +kernel
theorem d_SS_put_13 : decode b_SS_put 13 = .ok (.iload_n 3, 1) := by decide +kernel
theorem d_SS_put_14 : decode b_SS_put 14 = .ok (.dup2, 1) := by decide +kernel
theorem d_SS_put_15 : decode b_SS_put 15 = .ok (.laload, 1) := by decide +kernel
theorem d_SS_put_16 : decode b_SS_put 16 = .ok (.lconst 1, 1) := by decide +kernel
theorem d_SS_put_17 : decode b_SS_put 17 = .ok (.iload_n 2, 1) := by decide +kernel
theorem d_SS_put_18 : decode b_SS_put 18 = .ok (.bipush 64, 2) := by decide +kernel
theorem d_SS_put_20 : decode b_SS_put 20 = .ok (.irem, 1) := by decide +kernel
theorem d_SS_put_21 : decode b_SS_put 21 = .ok (.lshl, 1) := by decide +kernel
theorem d_SS_put_22 : decode b_SS_put 22 = .ok (.lor, 1) := by decide +kernel
theorem d_SS_put_23 : decode b_SS_put 23 = .ok (.lastore, 1) := by decide +kernel
theorem d_SS_put_24 : decode b_SS_put 24 = .ok (.aload_n 0, 1) := by decide +kernel
theorem d_SS_put_25 : decode b_SS_put 25 = .ok (.getfield 35, 3) := by decide +kernel
theorem d_SS_put_28 : decode b_SS_put 28 = .ok (.iload_n 3, 1) := by decide +kernel
theorem d_SS_put_29 : decode b_SS_put 29 = .ok (.dup2, 1) := by decide +kernel
theorem d_SS_put_30 : decode b_SS_put 30 = .ok (.laload, 1) := by decide +kernel
theorem d_SS_put_31 : decode b_SS_put 31 = .ok (.lconst 1, 1) := by decide +kernel
theorem d_SS_put_32 : decode b_SS_put 32 = .ok (.iload_n 2, 1) := by decide +kernel
theorem d_SS_put_33 : decode b_SS_put 33 = .ok (.bipush 64, 2) := by decide +kernel
theorem d_SS_put_35 : decode b_SS_put 35 = .ok (.irem, 1) := by decide +kernel
theorem d_SS_put_36 : decode b_SS_put 36 = .ok (.lshl, 1) := by decide +kernel
theorem d_SS_put_37 : decode b_SS_put 37 = .ok (.lor, 1) := by decide +kernel
theorem d_SS_put_38 : decode b_SS_put 38 = .ok (.lastore, 1) := by decide +kernel
theorem d_SS_put_39 : decode b_SS_put 39 = .ok (.aload_n 0, 1) := by decide +kernel
theorem d_SS_put_40 : decode b_SS_put 40 = .ok (.getfield 25, 3) := by decide +kernel
theorem d_SS_put_43 : decode b_SS_put 43 = .ok (.iload_n 1, 1) := by decide +kernel
theorem d_SS_put_44 : decode b_SS_put 44 = .ok (.dup2, 1) := by decide +kernel
theorem d_SS_put_45 : decode b_SS_put 45 = .ok (.iaload, 1) := by decide +kernel
theorem d_SS_put_46 : decode b_SS_put 46 = .ok (.iconst 1, 1) := by decide +kernel
theorem d_SS_put_47 : decode b_SS_put 47 = .ok (.iadd, 1) := by decide +kernel
theorem d_SS_put_48 : decode b_SS_put 48 = .ok (.iastore, 1) := by decide +kernel
theorem d_SS_put_49 : decode b_SS_put 49 = .ok (.return_, 1) := by decide +kernel
theorem d_SR_putAndFire_0 : decode b_SR_putAndFire 0 = .ok (.aload_n 0, 1) := by decide +kernel
theorem d_SR_putAndFire_1 : decode b_SR_putAndFire 1 = .ok (.getfield 26, 3) := by decide +kernel
theorem d_SR_putAndFire_4 : decode b_SR_putAndFire 4 = .ok (.iload_n 1, 1) := by decide +kernel
theorem d_SR_putAndFire_5 : decode b_SR_putAndFire 5 = .ok (.iload_n 2, 1) := by decide +kernel
theorem d_SR_putAndFire_6 : decode b_SR_putAndFire 6 = .ok (.invokevirtual 288, 3) := by decide +kernel
theorem d_SR_putAndFire_9 : decode b_SR_putAndFire 9 = .ok (.aload_n 0, 1) := by decide +kernel
theorem d_SR_putAndFire_10 : decode b_SR_putAndFire 10 = .ok (.getfield 26, 3) := by decide +kernel
theorem d_SR_putAndFire_13 : decode b_SR_putAndFire 13 = .ok (.getfield 195, 3) := by decide +kernel
theorem d_SR_putAndFire_16 : decode b_SR_putAndFire 16 = .ok (.iload_n 1, 1) := by decide +kernel
theorem d_SR_putAndFire_17 : decode b_SR_putAndFire 17 = .ok (.laload, 1) := by decide +kernel
theorem d_SR_putAndFire_18 : decode b_SR_putAndFire 18 = .ok (.aload_n 0, 1) := by decide +kernel
theorem d_SR_putAndFire_19 : decode b_SR_putAndFire 19 = .ok (.getfield 57, 3) := by decide +kernel
theorem d_SR_putAndFire_22 : decode b_SR_putAndFire 22 = .ok (.lcmp, 1) := by decide +kernel
theorem d_SR_putAndFire_23 : decode b_SR_putAndFire 23 = .ok (.ifCond .gt 19, 3) := by decide +kernel
theorem d_SR_putAndFire_26 : decode b_SR_putAndFire 26 = .ok (.aload_n 0, 1) := by decide +kernel
theorem d_SR_putAndFire_27 : decode b_SR_putAndFire 27 = .ok (.getfield 64, 3) := by decide +kernel
theorem d_SR_putAndFire_30 : decode b_SR_putAndFire 30 = .ok (.ifCond .eq 41, 3) := by decide +kernel
theorem d_SR_putAndFire_33 : decode b_SR_putAndFire 33 = .ok (.aload_n 0, 1) := by decide +kernel
theorem d_SR_putAndFire_34 : decode b_SR_putAndFire 34 = .ok (.iload_n 1, 1) := by decide +kernel
theorem d_SR_putAndFire_35 : decode b_SR_putAndFire 35 = .ok (.iconst 2, 1) := by decide +kernel
theorem d_SR_putAndFire_36 : decode b_SR_putAndFire 36 = .ok (.invokevirtual 291, 3) := by decide +kernel
theorem d_SR_putAndFire_39 : decode b_SR_putAndFire 39 = .ok (.goto 32, 3) := by decide +kernel
theorem d_SR_putAndFire_42 : decode b_SR_putAndFire 42 = .ok (.aload_n 0, 1) := by decide +kernel
theorem d_SR_putAndFire_43 : decode b_SR_putAndFire 43 = .ok (.getfield 60, 3) := by decide +kernel
theorem d_SR_putAndFire_46 : decode b_SR_putAndFire 46 = .ok (.ifCond .le 25, 3) := by decide +kernel
theorem d_SR_putAndFire_49 : decode b_SR_putAndFire 49 = .ok (.aload_n 0, 1) := by decide +kernel
theorem d_SR_putAndFire_50 : decode b_SR_putAndFire 50 = .ok (.getfield 26, 3) := by decide +kernel
theorem d_SR_putAndFire_53 : decode b_SR_putAndFire 53 = .ok (.getfield 212, 3) := by decide +kernel
theorem d_SR_putAndFire_56 : decode b_SR_putAndFire 56 = .ok (.iload_n 1, 1) := by decide +kernel
theorem d_SR_putAndFire_57 : decode b_SR_putAndFire 57 = .ok (.iaload, 1) := by decide +kernel
theorem d_SR_putAndFire_58 : decode b_SR_putAndFire 58 = .ok (.aload_n 0, 1) := by decide +kernel
theorem d_SR_putAndFire_59 : decode b_SR_putAndFire 59 = .ok (.getfield 60, 3) := by decide +kernel
theorem d_SR_putAndFire_62 : decode b_SR_putAndFire 62 = .ok (.if_icmp .lt 9, 3) := by decide +kernel
theorem d_SR_putAndFire_65 : decode b_SR_putAndFire 65 = .ok (.aload_n 0, 1) := by decide +kernel
theorem d_SR_putAndFire_66 : decode b_SR_putAndFire 66 = .ok (.iload_n 1, 1) := by decide +kernel
theorem d_SR_putAndFire_67 : decode b_SR_putAndFire 67 = .ok (.iconst 0, 1) := by decide +kernel
theorem d_SR_putAndFire_68 : decode b_SR_putAndFire 68 = .ok (.invokevirtual 291, 3) := by decide +kernel
theorem d_SR_putAndFire_71 : decode b_SR_putAndFire 71 = .ok (.return_, 1) := by decide +kernel
theorem d_SR_putByGap_0 : decode b_SR_putByGap 0 = .ok (.lload_n 2, 1) := by decide +kernel
theorem d_SR_putByGap_1 : decode b_SR_putByGap 1 = .ok (.aload_n 0, 1) := by decide +kernel
theorem d_SR_putByGap_2 : decode b_SR_putByGap 2 = .ok (.getfield 87, 3) := by decide +kernel
theorem d_SR_putByGap_5 : decode b_SR_putByGap 5 = .ok (.getfield 243, 3) := by decide +kernel
theorem d_SR_putByGap_8 : decode b_SR_putByGap 8 = .ok (.ladd, 1) := by decide +kernel
theorem d_SR_putByGap_9 : decode b_SR_putByGap 9 = .ok (.lstore 6, 2) := by decide +kernel
theorem d_SR_putByGap_11 : decode b_SR_putByGap 11 = .ok (.aload_n 0, 1) := by decide +kernel
theorem d_SR_putByGap_12 : decode b_SR_putByGap 12 = .ok (.aload_n 0, 1) := by decide +kernel
theorem d_SR_putByGap_13 : decode b_SR_putByGap 13 = .ok (.getfield 26, 3) := by decide +kernel
theorem d_SR_putByGap_16 : decode b_SR_putByGap 16 = .ok (.iload_n 1, 1) := by decide +kernel
theorem d_SR_putByGap_17 : decode b_SR_putByGap 17 = .ok (.lload_n 2, 1) := by decide +kernel
theorem d_SR_putByGap_18 : decode b_SR_putByGap 18 = .ok (.lload 6, 2) := by decide +kernel
theorem d_SR_putByGap_20 : decode b_SR_putByGap 20 = .ok (.invokevirtual 246, 3) := by decide +kernel
theorem d_SR_putByGap_23 : decode b_SR_putByGap 23 = .ok (.invokevirtual 250, 3) := by decide +kernel
theorem d_SR_putByGap_26 : decode b_SR_putByGap 26 = .ok (.ifCond .eq 8, 3) := by decide +kernel
theorem d_SR_putByGap_29 : decode b_SR_putByGap 29 = .ok (.aload_n 0, 1) := by decide +kernel
theorem d_SR_putByGap_30 : decode b_SR_putByGap 30 = .ok (.invokevirtual 234, 3) := by decide +kernel
theorem d_SR_putByGap_33 : decode b_SR_putByGap 33 = .ok (.ireturn, 1) := by decide +kernel
theorem d_SR_putByGap_34 : decode b_SR_putByGap 34 = .ok (.aload_n 0, 1) := by decide +kernel
theorem d_SR_putByGap_35 : decode b_SR_putByGap 35 = .ok (.getfield 19, 3) := by decide +kernel
theorem d_SR_putByGap_38 : decode b_SR_putByGap 38 = .ok (.invokevirtual 237, 3) := by decide +kernel
theorem d_SR_putByGap_41 : decode b_SR_putByGap 41 = .ok (.ifCond .ne 28, 3) := by decide +kernel
theorem d_SR_putByGap_44 : decode b_SR_putByGap 44 = .ok (.aload_n 0, 1) := by decide +kernel
theorem d_SR_putByGap_45 : decode b_SR_putByGap 45 = .ok (.getfield 26, 3) := by decide +kernel
theorem d_SR_putByGap_48 : decode b_SR_putByGap 48 = .ok (.getfield 157, 3) := by decide +kernel
theorem d_SR_putByGap_51 : decode b_SR_putByGap 51 = .ok (.aload_n 0, 1) := by decide +kernel
theorem d_SR_putByGap_52 : decode b_SR_putByGap 52 = .ok (.getfield 26, 3) := by decide +kernel
theorem d_SR_putByGap_55 : decode b_SR_putByGap 55 = .ok (.iload_n 1, 1) := by decide +kernel
theorem d_SR_putByGap_56 : decode b_SR_putByGap 56 = .ok (.lload_n 2, 1) := by decide +kernel
theorem d_SR_putByGap_57 : decode b_SR_putByGap 57 = .ok (.lload 6, 2) := by decide +kernel
theorem d_SR_putByGap_59 : decode b_SR_putByGap 59 = .ok (.invokevirtual 254, 3) := by decide +kernel
theorem d_SR_putByGap_62 : decode b_SR_putByGap 62 = .ok (.isub, 1) := by decide +kernel
theorem d_SR_putByGap_63 : decode b_SR_putByGap 63 = .ok (.sipush 200, 3) := by decide +kernel
theorem d_SR_putByGap_66 : decode b_SR_putByGap 66 = .ok (.if_icmp .lt 6, 3) := by decide +kernel
theorem d_SR_putByGap_69 : decode b_SR_putByGap 69 = .ok (.bipush (-4), 2) := by decide +kernel
theorem d_SR_putByGap_71 : decode b_SR_putByGap 71 = .ok (.ireturn, 1) := by decide +kernel
theorem d_SR_putByGap_72 : decode b_SR_putByGap 72 = .ok (.aload_n 0, 1) := by decide +kernel
theorem d_SR_putByGap_73 : decode b_SR_putByGap 73 = .ok (.getfield 26, 3) := by decide +kernel
theorem d_SR_putByGap_76 : decode b_SR_putByGap 76 = .ok (.iload_n 1, 1) := by decide +kernel
theorem d_SR_putByGap_77 : decode b_SR_putByGap 77 = .ok (.lload_n 2, 1) := by decide +kernel
theorem d_SR_putByGap_78 : decode b_SR_putByGap 78 = .ok (.lload 6, 2) := by decide +kernel
theorem d_SR_putByGap_80 : decode b_SR_putByGap 80 = .ok (.invokevirtual 257, 3) := by decide +kernel
theorem d_SR_putByGap_83 : decode b_SR_putByGap 83 = .ok (.istore 8, 2) := by decide +kernel
theorem d_SR_putByGap_85 : decode b_SR_putByGap 85 = .ok (.aload_n 0, 1) := by decide +kernel
theorem d_SR_putByGap_86 : decode b_SR_putByGap 86 = .ok (.getfield 26, 3) := by decide +kernel
theorem d_SR_putByGap_89 : decode b_SR_putByGap 89 = .ok (.getfield 195, 3) := by decide +kernel
theorem d_SR_putByGap_92 : decode b_SR_putByGap 92 = .ok (.iload 8, 2) := by decide +kernel
theorem d_SR_putByGap_94 : decode b_SR_putByGap 94 = .ok (.laload, 1) := by decide +kernel
theorem d_SR_putByGap_95 : decode b_SR_putByGap 95 = .ok (.aload_n 0, 1) := by decide +kernel
theorem d_SR_putByGap_96 : decode b_SR_putByGap 96 = .ok (.getfield 57, 3) := by decide +kernel
theorem d_SR_putByGap_99 : decode b_SR_putByGap 99 = .ok (.lcmp, 1) := by decide +kernel
theorem d_SR_putByGap_100 : decode b_SR_putByGap 100 = .ok (.ifCond .le 14, 3) := by decide +kernel
theorem d_SR_putByGap_103 : decode b_SR_putByGap 103 = .ok (.aload_n 0, 1) := by decide +kernel
theorem d_SR_putByGap_104 : decode b_SR_putByGap 104 = .ok (.getfield 26, 3) := by decide +kernel
theorem d_SR_putByGap_107 : decode b_SR_putByGap 107 = .ok (.getfield 260, 3) := by decide +kernel
theorem d_SR_putByGap_110 : decode b_SR_putByGap 110 = .ok (.iload 8, 2) := by decide +kernel
theorem d_SR_putByGap_112 : decode b_SR_putByGap 112 = .ok (.iconst 0, 1) := by decide +kernel
theorem d_SR_putByGap_113 : decode b_SR_putByGap 113 = .ok (.bastore, 1) := by decide +kernel
theorem d_SR_putByGap_114 : decode b_SR_putByGap 114 = .ok (.aload_n 0, 1) := by decide +kernel
theorem d_SR_putByGap_115 : decode b_SR_putByGap 115 = .ok (.dup, 1) := by decide +kernel
theorem d_SR_putByGap_116 : decode b_SR_putByGap 116 = .ok (.getfield 71, 3) := by decide +kernel
theorem d_SR_putByGap_119 : decode b_SR_putByGap 119 = .ok (.iconst 1, 1) := by decide +kernel
theorem d_SR_putByGap_120 : decode b_SR_putByGap 120 = .ok (.iadd, 1) := by decide +kernel
theorem d_SR_putByGap_121 : decode b_SR_putByGap 121 = .ok (.putfield 71, 3) := by decide +kernel
theorem d_SR_putByGap_124 : decode b_SR_putByGap 124 = .ok (.aload_n 0, 1) := by decide +kernel
theorem d_SR_putByGap_125 : decode b_SR_putByGap 125 = .ok (.iload 8, 2) := by decide +kernel
theorem d_SR_putByGap_127 : decode b_SR_putByGap 127 = .ok (.aload_n 0, 1) := by decide +kernel
theorem d_SR_putByGap_128 : decode b_SR_putByGap 128 = .ok (.getfield 19, 3) := by decide +kernel
theorem d_SR_putByGap_131 : decode b_SR_putByGap 131 = .ok (.iload_n 1, 1) := by decide +kernel
theorem d_SR_putByGap_132 : decode b_SR_putByGap 132 = .ok (.lload_n 2, 1) := by decide +kernel
theorem d_SR_putByGap_133 : decode b_SR_putByGap 133 = .ok (.lload 4, 2) := by decide +kernel
theorem d_SR_putByGap_135 : decode b_SR_putByGap 135 = .ok (.invokevirtual 241, 3) := by decide +kernel
theorem d_SR_putByGap_138 : decode b_SR_putByGap 138 = .ok (.invokevirtual 264, 3) := by decide +kernel
theorem d_SR_putByGap_141 : decode b_SR_putByGap 141 = .ok (.iconst 1, 1) := by decide +kernel
theorem d_SR_putByGap_142 : decode b_SR_putByGap 142 = .ok (.ireturn, 1) := by decide +kernel
theorem d_LA_add_0 : decode b_LA_add 0 = .ok (.aload_n 0, 1) := by decide +kernel
theorem d_LA_add_1 : decode b_LA_add 1 = .ok (.getfield 26, 3) := by decide +kernel
theorem d_LA_add_4 : decode b_LA_add 4 = .ok (.bipush 16, 2) := by decide +kernel
theorem d_LA_add_6 : decode b_LA_add 6 = .ok (.if_icmp .ge 33, 3) := by decide +kernel
theorem d_LA_add_9 : decode b_LA_add 9 = .ok (.aload_n 0, 1) := by decide +kernel
theorem d_LA_add_10 : decode b_LA_add 10 = .ok (.getfield 9, 3) := by decide +kernel
theorem d_LA_add_13 : decode b_LA_add 13 = .ok (.aload_n 0, 1) := by decide +kernel
theorem d_LA_add_14 : decode b_LA_add 14 = .ok (.getfield 26, 3) := by decide +kernel
theorem d_LA_add_17 : decode b_LA_add 17 = .ok (.lload_n 1, 1) := by decide +kernel
theorem d_LA_add_18 : decode b_LA_add 18 = .ok (.lastore, 1) := by decide +kernel
theorem d_LA_add_19 : decode b_LA_add 19 = .ok (.aload_n 0, 1) := by decide +kernel
theorem d_LA_add_20 : decode b_LA_add 20 = .ok (.getfield 15, 3) := by decide +kernel
theorem d_LA_add_23 : decode b_LA_add 23 = .ok (.aload_n 0, 1) := by decide +kernel
theorem d_LA_add_24 : decode b_LA_add 24 = .ok (.getfield 26, 3) := by decide +kernel
theorem d_LA_add_27 : decode b_LA_add 27 = .ok (.lload_n 3, 1) := by decide +kernel
theorem d_LA_add_28 : decode b_LA_add 28 = .ok (.lastore, 1) := by decide +kernel
theorem d_LA_add_29 : decode b_LA_add 29 = .ok (.aload_n 0, 1) := by decide +kernel
theorem d_LA_add_30 : decode b_LA_add 30 = .ok (.dup, 1) := by decide +kernel
theorem d_LA_add_31 : decode b_LA_add 31 = .ok (.getfield 26, 3) := by decide +kernel
theorem d_LA_add_34 : decode b_LA_add 34 = .ok (.iconst 1, 1) := by decide +kernel
theorem d_LA_add_35 : decode b_LA_add 35 = .ok (.iadd, 1) := by decide +kernel
theorem d_LA_add_36 : decode b_LA_add 36 = .ok (.putfield 26, 3) := by decide +kernel
theorem d_LA_add_39 : decode b_LA_add 39 = .ok (.return_, 1) := by decide +kernel
theorem d_LA_slide_0 : decode b_LA_slide 0 = .ok (.lload_n 1, 1) := by decide +kernel
theorem d_LA_slide_1 : decode b_LA_slide 1 = .ok (.aload_n 0, 1) := by decide +kernel
theorem d_LA_slide_2 : decode b_LA_slide 2 = .ok (.getfield 18, 3) := by decide +kernel
theorem d_LA_slide_5 : decode b_LA_slide 5 = .ok (.lsub, 1) := by decide +kernel
theorem d_LA_slide_6 : decode b_LA_slide 6 = .ok (.aload_n 0, 1) := by decide +kernel
theorem d_LA_slide_7 : decode b_LA_slide 7 = .ok (.getfield 35, 3) := by decide +kernel
theorem d_LA_slide_10 : decode b_LA_slide 10 = .ok (.invokestatic 52, 3) := by decide +kernel
theorem d_LA_slide_13 : decode b_LA_slide 13 = .ok (.lstore_n 3, 1) := by decide +kernel
theorem d_LA_slide_14 : decode b_LA_slide 14 = .ok (.lload_n 1, 1) := by decide +kernel
theorem d_LA_slide_15 : decode b_LA_slide 15 = .ok (.aload_n 0, 1) := by decide +kernel
theorem d_LA_slide_16 : decode b_LA_slide 16 = .ok (.getfield 18, 3) := by decide +kernel
theorem d_LA_slide_19 : decode b_LA_slide 19 = .ok (.lsub, 1) := by decide +kernel
theorem d_LA_slide_20 : decode b_LA_slide 20 = .ok (.aload_n 0, 1) := by decide +kernel
theorem d_LA_slide_21 : decode b_LA_slide 21 = .ok (.getfield 32, 3) := by decide +kernel
theorem d_LA_slide_24 : decode b_LA_slide 24 = .ok (.lsub, 1) := by decide +kernel
theorem d_LA_slide_25 : decode b_LA_slide 25 = .ok (.aload_n 0, 1) := by decide +kernel
theorem d_LA_slide_26 : decode b_LA_slide 26 = .ok (.getfield 35, 3) := by decide +kernel
theorem d_LA_slide_29 : decode b_LA_slide 29 = .ok (.invokestatic 52, 3) := by decide +kernel
theorem d_LA_slide_32 : decode b_LA_slide 32 = .ok (.lconst 1, 1) := by decide +kernel
theorem d_LA_slide_33 : decode b_LA_slide 33 = .ok (.ladd, 1) := by decide +kernel
theorem d_LA_slide_34 : decode b_LA_slide 34 = .ok (.lstore 5, 2) := by decide +kernel
theorem d_LA_slide_36 : decode b_LA_slide 36 = .ok (.lload 5, 2) := by decide +kernel
theorem d_LA_slide_38 : decode b_LA_slide 38 = .ok (.lload_n 3, 1) := by decide +kernel
theorem d_LA_slide_39 : decode b_LA_slide 39 = .ok (.lcmp, 1) := by decide +kernel
theorem d_LA_slide_40 : decode b_LA_slide 40 = .ok (.ifCond .gt 45, 3) := by decide +kernel
theorem d_LA_slide_43 : decode b_LA_slide 43 = .ok (.aload_n 0, 1) := by decide +kernel
theorem d_LA_slide_44 : decode b_LA_slide 44 = .ok (.aload_n 0, 1) := by decide +kernel
theorem d_LA_slide_45 : decode b_LA_slide 45 = .ok (.getfield 18, 3) := by decide +kernel
theorem d_LA_slide_48 : decode b_LA_slide 48 = .ok (.aload_n 0, 1) := by decide +kernel
theorem d_LA_slide_49 : decode b_LA_slide 49 = .ok (.getfield 35, 3) := by decide +kernel
theorem d_LA_slide_52 : decode b_LA_slide 52 = .ok (.lload 5, 2) := by decide +kernel
theorem d_LA_slide_54 : decode b_LA_slide 54 = .ok (.lmul, 1) := by decide +kernel
theorem d_LA_slide_55 : decode b_LA_slide 55 = .ok (.ladd, 1) := by decide +kernel
theorem d_LA_slide_56 : decode b_LA_slide 56 = .ok (.aload_n 0, 1) := by decide +kernel
theorem d_LA_slide_57 : decode b_LA_slide 57 = .ok (.getfield 18, 3) := by decide +kernel
theorem d_LA_slide_60 : decode b_LA_slide 60 = .ok (.aload_n 0, 1) := by decide +kernel
theorem d_LA_slide_61 : decode b_LA_slide 61 = .ok (.getfield 35, 3) := by decide +kernel
theorem d_LA_slide_64 : decode b_LA_slide 64 = .ok (.lload 5, 2) := by decide +kernel
theorem d_LA_slide_66 : decode b_LA_slide 66 = .ok (.lmul, 1) := by decide +kernel
theorem d_LA_slide_67 : decode b_LA_slide 67 = .ok (.ladd, 1) := by decide +kernel
theorem d_LA_slide_68 : decode b_LA_slide 68 = .ok (.aload_n 0, 1) := by decide +kernel
theorem d_LA_slide_69 : decode b_LA_slide 69 = .ok (.getfield 32, 3) := by decide +kernel
theorem d_LA_slide_72 : decode b_LA_slide 72 = .ok (.ladd, 1) := by decide +kernel
theorem d_LA_slide_73 : decode b_LA_slide 73 = .ok (.invokevirtual 56, 3) := by decide +kernel
theorem d_LA_slide_76 : decode b_LA_slide 76 = .ok (.lload 5, 2) := by decide +kernel
theorem d_LA_slide_78 : decode b_LA_slide 78 = .ok (.lconst 1, 1) := by decide +kernel
theorem d_LA_slide_79 : decode b_LA_slide 79 = .ok (.ladd, 1) := by decide +kernel
theorem d_LA_slide_80 : decode b_LA_slide 80 = .ok (.lstore 5, 2) := by decide +kernel
theorem d_LA_slide_82 : decode b_LA_slide 82 = .ok (.goto (-46), 3) := by decide +kernel
theorem d_LA_slide_85 : decode b_LA_slide 85 = .ok (.return_, 1) := by decide +kernel
theorem d_LA_inMonths_0 : decode b_LA_inMonths 0 = .ok (.aload_n 0, 1) := by decide +kernel
theorem d_LA_inMonths_1 : decode b_LA_inMonths 1 = .ok (.getfield 18, 3) := by decide +kernel
theorem d_LA_inMonths_4 : decode b_LA_inMonths 4 = .ok (.aload_n 0, 1) := by decide +kernel
theorem d_LA_inMonths_5 : decode b_LA_inMonths 5 = .ok (.getfield 32, 3) := by decide +kernel
theorem d_LA_inMonths_8 : decode b_LA_inMonths 8 = .ok (.lload_n 1, 1) := by decide +kernel
theorem d_LA_inMonths_9 : decode b_LA_inMonths 9 = .ok (.invokestatic 59, 3) := by decide +kernel
theorem d_LA_inMonths_12 : decode b_LA_inMonths 12 = .ok (.aload_n 0, 1) := by decide +kernel
theorem d_LA_inMonths_13 : decode b_LA_inMonths 13 = .ok (.getfield 18, 3) := by decide +kernel
theorem d_LA_inMonths_16 : decode b_LA_inMonths 16 = .ok (.lsub, 1) := by decide +kernel
theorem d_LA_inMonths_17 : decode b_LA_inMonths 17 = .ok (.aload_n 0, 1) := by decide +kernel
theorem d_LA_inMonths_18 : decode b_LA_inMonths 18 = .ok (.getfield 32, 3) := by decide +kernel
theorem d_LA_inMonths_21 : decode b_LA_inMonths 21 = .ok (.invokestatic 52, 3) := by decide +kernel
theorem d_LA_inMonths_24 : decode b_LA_inMonths 24 = .ok (.lmul, 1) := by decide +kernel
theorem d_LA_inMonths_25 : decode b_LA_inMonths 25 = .ok (.ladd, 1) := by decide +kernel
theorem d_LA_inMonths_26 : decode b_LA_inMonths 26 = .ok (.lstore_n 3, 1) := by decide +kernel
theorem d_LA_inMonths_27 : decode b_LA_inMonths 27 = .ok (.aload_n 0, 1) := by decide +kernel
theorem d_LA_inMonths_28 : decode b_LA_inMonths 28 = .ok (.lload_n 3, 1) := by decide +kernel
theorem d_LA_inMonths_29 : decode b_LA_inMonths 29 = .ok (.invokestatic 65, 3) := by decide +kernel
theorem d_LA_inMonths_32 : decode b_LA_inMonths 32 = .ok (.lload_n 3, 1) := by decide +kernel
theorem d_LA_inMonths_33 : decode b_LA_inMonths 33 = .ok (.aload_n 0, 1) := by decide +kernel
theorem d_LA_inMonths_34 : decode b_LA_inMonths 34 = .ok (.getfield 32, 3) := by decide +kernel
theorem d_LA_inMonths_37 : decode b_LA_inMonths 37 = .ok (.ladd, 1) := by decide +kernel
theorem d_LA_inMonths_38 : decode b_LA_inMonths 38 = .ok (.invokestatic 65, 3) := by decide +kernel
theorem d_LA_inMonths_41 : decode b_LA_inMonths 41 = .ok (.invokevirtual 56, 3) := by decide +kernel
theorem d_LA_inMonths_44 : decode b_LA_inMonths 44 = .ok (.return_, 1) := by decide +kernel
theorem d_LA_byTurns_0 : decode b_LA_byTurns 0 = .ok (.aload_n 0, 1) := by decide +kernel
theorem d_LA_byTurns_1 : decode b_LA_byTurns 1 = .ok (.getfield 18, 3) := by decide +kernel
theorem d_LA_byTurns_4 : decode b_LA_byTurns 4 = .ok (.aload_n 0, 1) := by decide +kernel
theorem d_LA_byTurns_5 : decode b_LA_byTurns 5 = .ok (.getfield 32, 3) := by decide +kernel
theorem d_LA_byTurns_8 : decode b_LA_byTurns 8 = .ok (.aload_n 0, 1) := by decide +kernel
theorem d_LA_byTurns_9 : decode b_LA_byTurns 9 = .ok (.getfield 35, 3) := by decide +kernel
theorem d_LA_byTurns_12 : decode b_LA_byTurns 12 = .ok (.ladd, 1) := by decide +kernel
theorem d_LA_byTurns_13 : decode b_LA_byTurns 13 = .ok (.lload_n 1, 1) := by decide +kernel
theorem d_LA_byTurns_14 : decode b_LA_byTurns 14 = .ok (.aload_n 0, 1) := by decide +kernel
theorem d_LA_byTurns_15 : decode b_LA_byTurns 15 = .ok (.getfield 18, 3) := by decide +kernel
theorem d_LA_byTurns_18 : decode b_LA_byTurns 18 = .ok (.lsub, 1) := by decide +kernel
theorem d_LA_byTurns_19 : decode b_LA_byTurns 19 = .ok (.aload_n 0, 1) := by decide +kernel
theorem d_LA_byTurns_20 : decode b_LA_byTurns 20 = .ok (.getfield 32, 3) := by decide +kernel
theorem d_LA_byTurns_23 : decode b_LA_byTurns 23 = .ok (.aload_n 0, 1) := by decide +kernel
theorem d_LA_byTurns_24 : decode b_LA_byTurns 24 = .ok (.getfield 35, 3) := by decide +kernel
theorem d_LA_byTurns_27 : decode b_LA_byTurns 27 = .ok (.ladd, 1) := by decide +kernel
theorem d_LA_byTurns_28 : decode b_LA_byTurns 28 = .ok (.invokestatic 52, 3) := by decide +kernel
theorem d_LA_byTurns_31 : decode b_LA_byTurns 31 = .ok (.lmul, 1) := by decide +kernel
theorem d_LA_byTurns_32 : decode b_LA_byTurns 32 = .ok (.ladd, 1) := by decide +kernel
theorem d_LA_byTurns_33 : decode b_LA_byTurns 33 = .ok (.lstore_n 3, 1) := by decide +kernel
theorem d_LA_byTurns_34 : decode b_LA_byTurns 34 = .ok (.lload_n 1, 1) := by decide +kernel
theorem d_LA_byTurns_35 : decode b_LA_byTurns 35 = .ok (.lload_n 3, 1) := by decide +kernel
theorem d_LA_byTurns_36 : decode b_LA_byTurns 36 = .ok (.aload_n 0, 1) := by decide +kernel
theorem d_LA_byTurns_37 : decode b_LA_byTurns 37 = .ok (.getfield 32, 3) := by decide +kernel
theorem d_LA_byTurns_40 : decode b_LA_byTurns 40 = .ok (.ladd, 1) := by decide +kernel
theorem d_LA_byTurns_41 : decode b_LA_byTurns 41 = .ok (.lcmp, 1) := by decide +kernel
theorem d_LA_byTurns_42 : decode b_LA_byTurns 42 = .ok (.ifCond .ge 17, 3) := by decide +kernel
theorem d_LA_byTurns_45 : decode b_LA_byTurns 45 = .ok (.aload_n 0, 1) := by decide +kernel
theorem d_LA_byTurns_46 : decode b_LA_byTurns 46 = .ok (.lload_n 3, 1) := by decide +kernel
theorem d_LA_byTurns_47 : decode b_LA_byTurns 47 = .ok (.lload_n 3, 1) := by decide +kernel
theorem d_LA_byTurns_48 : decode b_LA_byTurns 48 = .ok (.aload_n 0, 1) := by decide +kernel
theorem d_LA_byTurns_49 : decode b_LA_byTurns 49 = .ok (.getfield 32, 3) := by decide +kernel
theorem d_LA_byTurns_52 : decode b_LA_byTurns 52 = .ok (.ladd, 1) := by decide +kernel
theorem d_LA_byTurns_53 : decode b_LA_byTurns 53 = .ok (.invokevirtual 56, 3) := by decide +kernel
theorem d_LA_byTurns_56 : decode b_LA_byTurns 56 = .ok (.goto 24, 3) := by decide +kernel
theorem d_LA_byTurns_59 : decode b_LA_byTurns 59 = .ok (.aload_n 0, 1) := by decide +kernel
theorem d_LA_byTurns_60 : decode b_LA_byTurns 60 = .ok (.lload_n 3, 1) := by decide +kernel
theorem d_LA_byTurns_61 : decode b_LA_byTurns 61 = .ok (.aload_n 0, 1) := by decide +kernel
theorem d_LA_byTurns_62 : decode b_LA_byTurns 62 = .ok (.getfield 32, 3) := by decide +kernel
theorem d_LA_byTurns_65 : decode b_LA_byTurns 65 = .ok (.ladd, 1) := by decide +kernel
theorem d_LA_byTurns_66 : decode b_LA_byTurns 66 = .ok (.lload_n 3, 1) := by decide +kernel
theorem d_LA_byTurns_67 : decode b_LA_byTurns 67 = .ok (.aload_n 0, 1) := by decide +kernel
theorem d_LA_byTurns_68 : decode b_LA_byTurns 68 = .ok (.getfield 32, 3) := by decide +kernel
theorem d_LA_byTurns_71 : decode b_LA_byTurns 71 = .ok (.ladd, 1) := by decide +kernel
theorem d_LA_byTurns_72 : decode b_LA_byTurns 72 = .ok (.aload_n 0, 1) := by decide +kernel
theorem d_LA_byTurns_73 : decode b_LA_byTurns 73 = .ok (.getfield 35, 3) := by decide +kernel
theorem d_LA_byTurns_76 : decode b_LA_byTurns 76 = .ok (.ladd, 1) := by decide +kernel
theorem d_LA_byTurns_77 : decode b_LA_byTurns 77 = .ok (.invokevirtual 56, 3) := by decide +kernel
theorem d_LA_byTurns_80 : decode b_LA_byTurns 80 = .ok (.return_, 1) := by decide +kernel
theorem d_LA_beside_0 : decode b_LA_beside 0 = .ok (.aload_n 0, 1) := by decide +kernel
theorem d_LA_beside_1 : decode b_LA_beside 1 = .ok (.getfield 18, 3) := by decide +kernel
theorem d_LA_beside_4 : decode b_LA_beside 4 = .ok (.lload_n 3, 1) := by decide +kernel
theorem d_LA_beside_5 : decode b_LA_beside 5 = .ok (.lload_n 1, 1) := by decide +kernel
theorem d_LA_beside_6 : decode b_LA_beside 6 = .ok (.aload_n 0, 1) := by decide +kernel
theorem d_LA_beside_7 : decode b_LA_beside 7 = .ok (.getfield 18, 3) := by decide +kernel
theorem d_LA_beside_10 : decode b_LA_beside 10 = .ok (.lsub, 1) := by decide +kernel
theorem d_LA_beside_11 : decode b_LA_beside 11 = .ok (.lload_n 3, 1) := by decide +kernel
theorem d_LA_beside_12 : decode b_LA_beside 12 = .ok (.invokestatic 52, 3) := by decide +kernel
theorem d_LA_beside_15 : decode b_LA_beside 15 = .ok (.lmul, 1) := by decide +kernel
theorem d_LA_beside_16 : decode b_LA_beside 16 = .ok (.ladd, 1) := by decide +kernel
theorem d_LA_beside_17 : decode b_LA_beside 17 = .ok (.lstore 5, 2) := by decide +kernel
theorem d_LA_beside_19 : decode b_LA_beside 19 = .ok (.aload_n 0, 1) := by decide +kernel
theorem d_LA_beside_20 : decode b_LA_beside 20 = .ok (.lload 5, 2) := by decide +kernel
theorem d_LA_beside_22 : decode b_LA_beside 22 = .ok (.lload 5, 2) := by decide +kernel
theorem d_LA_beside_24 : decode b_LA_beside 24 = .ok (.lload_n 3, 1) := by decide +kernel
theorem d_LA_beside_25 : decode b_LA_beside 25 = .ok (.ladd, 1) := by decide +kernel
theorem d_LA_beside_26 : decode b_LA_beside 26 = .ok (.invokevirtual 56, 3) := by decide +kernel
theorem d_LA_beside_29 : decode b_LA_beside 29 = .ok (.return_, 1) := by decide +kernel
theorem d_LA_doubling_0 : decode b_LA_doubling 0 = .ok (.lload_n 1, 1) := by decide +kernel
theorem d_LA_doubling_1 : decode b_LA_doubling 1 = .ok (.aload_n 0, 1) := by decide +kernel
theorem d_LA_doubling_2 : decode b_LA_doubling 2 = .ok (.getfield 18, 3) := by decide +kernel
theorem d_LA_doubling_5 : decode b_LA_doubling 5 = .ok (.lsub, 1) := by decide +kernel
theorem d_LA_doubling_6 : decode b_LA_doubling 6 = .ok (.lstore_n 3, 1) := by decide +kernel
theorem d_LA_doubling_7 : decode b_LA_doubling 7 = .ok (.lload_n 3, 1) := by decide +kernel
theorem d_LA_doubling_8 : decode b_LA_doubling 8 = .ok (.lconst 0, 1) := by decide +kernel
theorem d_LA_doubling_9 : decode b_LA_doubling 9 = .ok (.lcmp, 1) := by decide +kernel
theorem d_LA_doubling_10 : decode b_LA_doubling 10 = .ok (.ifCond .ge 11, 3) := by decide +kernel
theorem d_LA_doubling_13 : decode b_LA_doubling 13 = .ok (.ldc2_w 74, 3) := by decide +kernel
theorem d_LA_doubling_16 : decode b_LA_doubling 16 = .ok (.lload_n 3, 1) := by decide +kernel
theorem d_LA_doubling_17 : decode b_LA_doubling 17 = .ok (.lsub, 1) := by decide +kernel
theorem d_LA_doubling_18 : decode b_LA_doubling 18 = .ok (.goto 4, 3) := by decide +kernel
theorem d_LA_doubling_21 : decode b_LA_doubling 21 = .ok (.lload_n 3, 1) := by decide +kernel
theorem d_LA_doubling_22 : decode b_LA_doubling 22 = .ok (.lstore 5, 2) := by decide +kernel
theorem d_LA_doubling_24 : decode b_LA_doubling 24 = .ok (.lconst 0, 1) := by decide +kernel
theorem d_LA_doubling_25 : decode b_LA_doubling 25 = .ok (.lstore 7, 2) := by decide +kernel
theorem d_LA_doubling_27 : decode b_LA_doubling 27 = .ok (.lconst 1, 1) := by decide +kernel
theorem d_LA_doubling_28 : decode b_LA_doubling 28 = .ok (.lstore 9, 2) := by decide +kernel
theorem d_LA_doubling_30 : decode b_LA_doubling 30 = .ok (.iconst 0, 1) := by decide +kernel
theorem d_LA_doubling_31 : decode b_LA_doubling 31 = .ok (.istore 11, 2) := by decide +kernel
theorem d_LA_doubling_33 : decode b_LA_doubling 33 = .ok (.iload 11, 2) := by decide +kernel
theorem d_LA_doubling_35 : decode b_LA_doubling 35 = .ok (.bipush 62, 2) := by decide +kernel
theorem d_LA_doubling_37 : decode b_LA_doubling 37 = .ok (.if_icmp .ge 29, 3) := by decide +kernel
theorem d_LA_doubling_40 : decode b_LA_doubling 40 = .ok (.lload 9, 2) := by decide +kernel
theorem d_LA_doubling_42 : decode b_LA_doubling 42 = .ok (.lload 5, 2) := by decide +kernel
theorem d_LA_doubling_44 : decode b_LA_doubling 44 = .ok (.lcmp, 1) := by decide +kernel
theorem d_LA_doubling_45 : decode b_LA_doubling 45 = .ok (.ifCond .gt 21, 3) := by decide +kernel
theorem d_LA_doubling_48 : decode b_LA_doubling 48 = .ok (.lload 9, 2) := by decide +kernel
theorem d_LA_doubling_50 : decode b_LA_doubling 50 = .ok (.lstore 7, 2) := by decide +kernel
theorem d_LA_doubling_52 : decode b_LA_doubling 52 = .ok (.ldc2_w 76, 3) := by decide +kernel
theorem d_LA_doubling_55 : decode b_LA_doubling 55 = .ok (.lload 9, 2) := by decide +kernel
theorem d_LA_doubling_57 : decode b_LA_doubling 57 = .ok (.lmul, 1) := by decide +kernel
theorem d_LA_doubling_58 : decode b_LA_doubling 58 = .ok (.lstore 9, 2) := by decide +kernel
theorem d_LA_doubling_60 : decode b_LA_doubling 60 = .ok (.iinc 11 1, 3) := by decide +kernel
theorem d_LA_doubling_63 : decode b_LA_doubling 63 = .ok (.goto (-30), 3) := by decide +kernel
theorem d_LA_doubling_66 : decode b_LA_doubling 66 = .ok (.lload_n 3, 1) := by decide +kernel
theorem d_LA_doubling_67 : decode b_LA_doubling 67 = .ok (.lconst 0, 1) := by decide +kernel
theorem d_LA_doubling_68 : decode b_LA_doubling 68 = .ok (.lcmp, 1) := by decide +kernel
theorem d_LA_doubling_69 : decode b_LA_doubling 69 = .ok (.ifCond .ge 24, 3) := by decide +kernel
theorem d_LA_doubling_72 : decode b_LA_doubling 72 = .ok (.aload_n 0, 1) := by decide +kernel
theorem d_LA_doubling_73 : decode b_LA_doubling 73 = .ok (.aload_n 0, 1) := by decide +kernel
theorem d_LA_doubling_74 : decode b_LA_doubling 74 = .ok (.getfield 18, 3) := by decide +kernel
theorem d_LA_doubling_77 : decode b_LA_doubling 77 = .ok (.lload 9, 2) := by decide +kernel
theorem d_LA_doubling_79 : decode b_LA_doubling 79 = .ok (.lsub, 1) := by decide +kernel
theorem d_LA_doubling_80 : decode b_LA_doubling 80 = .ok (.aload_n 0, 1) := by decide +kernel
theorem d_LA_doubling_81 : decode b_LA_doubling 81 = .ok (.getfield 18, 3) := by decide +kernel
theorem d_LA_doubling_84 : decode b_LA_doubling 84 = .ok (.lload 7, 2) := by decide +kernel
theorem d_LA_doubling_86 : decode b_LA_doubling 86 = .ok (.lsub, 1) := by decide +kernel
theorem d_LA_doubling_87 : decode b_LA_doubling 87 = .ok (.invokevirtual 56, 3) := by decide +kernel
theorem d_LA_doubling_90 : decode b_LA_doubling 90 = .ok (.goto 21, 3) := by decide +kernel
theorem d_LA_doubling_93 : decode b_LA_doubling 93 = .ok (.aload_n 0, 1) := by decide +kernel
theorem d_LA_doubling_94 : decode b_LA_doubling 94 = .ok (.aload_n 0, 1) := by decide +kernel
theorem d_LA_doubling_95 : decode b_LA_doubling 95 = .ok (.getfield 18, 3) := by decide +kernel
theorem d_LA_doubling_98 : decode b_LA_doubling 98 = .ok (.lload 7, 2) := by decide +kernel
theorem d_LA_doubling_100 : decode b_LA_doubling 100 = .ok (.ladd, 1) := by decide +kernel
theorem d_LA_doubling_101 : decode b_LA_doubling 101 = .ok (.aload_n 0, 1) := by decide +kernel
theorem d_LA_doubling_102 : decode b_LA_doubling 102 = .ok (.getfield 18, 3) := by decide +kernel
theorem d_LA_doubling_105 : decode b_LA_doubling 105 = .ok (.lload 9, 2) := by decide +kernel
theorem d_LA_doubling_107 : decode b_LA_doubling 107 = .ok (.ladd, 1) := by decide +kernel
theorem d_LA_doubling_108 : decode b_LA_doubling 108 = .ok (.invokevirtual 56, 3) := by decide +kernel
theorem d_LA_doubling_111 : decode b_LA_doubling 111 = .ok (.return_, 1) := by decide +kernel
theorem d_LA_byOwnRule_0 : decode b_LA_byOwnRule 0 = .ok (.aload_n 0, 1) := by decide +kernel
theorem d_LA_byOwnRule_1 : decode b_LA_byOwnRule 1 = .ok (.getfield 22, 3) := by decide +kernel
theorem d_LA_byOwnRule_4 : decode b_LA_byOwnRule 4 = .ok (.ifCond .ne 11, 3) := by decide +kernel
theorem d_LA_byOwnRule_7 : decode b_LA_byOwnRule 7 = .ok (.aload_n 0, 1) := by decide +kernel
theorem d_LA_byOwnRule_8 : decode b_LA_byOwnRule 8 = .ok (.lload_n 1, 1) := by decide +kernel
theorem d_LA_byOwnRule_9 : decode b_LA_byOwnRule 9 = .ok (.invokevirtual 68, 3) := by decide +kernel
theorem d_LA_byOwnRule_12 : decode b_LA_byOwnRule 12 = .ok (.goto 41, 3) := by decide +kernel
theorem d_LA_byOwnRule_15 : decode b_LA_byOwnRule 15 = .ok (.aload_n 0, 1) := by decide +kernel
theorem d_LA_byOwnRule_16 : decode b_LA_byOwnRule 16 = .ok (.getfield 22, 3) := by decide +kernel
theorem d_LA_byOwnRule_19 : decode b_LA_byOwnRule 19 = .ok (.iconst 1, 1) := by decide +kernel
theorem d_LA_byOwnRule_20 : decode b_LA_byOwnRule 20 = .ok (.if_icmp .ne 28, 3) := by decide +kernel
theorem d_LA_byOwnRule_23 : decode b_LA_byOwnRule 23 = .ok (.aload_n 0, 1) := by decide +kernel
theorem d_LA_byOwnRule_24 : decode b_LA_byOwnRule 24 = .ok (.lload_n 1, 1) := by decide +kernel
theorem d_LA_byOwnRule_25 : decode b_LA_byOwnRule 25 = .ok (.lload_n 3, 1) := by decide +kernel
theorem d_LA_byOwnRule_26 : decode b_LA_byOwnRule 26 = .ok (.lconst 0, 1) := by decide +kernel
theorem d_LA_byOwnRule_27 : decode b_LA_byOwnRule 27 = .ok (.lcmp, 1) := by decide +kernel
theorem d_LA_byOwnRule_28 : decode b_LA_byOwnRule 28 = .ok (.ifCond .ge 10, 3) := by decide +kernel
theorem d_LA_byOwnRule_31 : decode b_LA_byOwnRule 31 = .ok (.aload_n 0, 1) := by decide +kernel
theorem d_LA_byOwnRule_32 : decode b_LA_byOwnRule 32 = .ok (.getfield 35, 3) := by decide +kernel
theorem d_LA_byOwnRule_35 : decode b_LA_byOwnRule 35 = .ok (.goto 7, 3) := by decide +kernel
theorem d_LA_byOwnRule_38 : decode b_LA_byOwnRule 38 = .ok (.aload_n 0, 1) := by decide +kernel
theorem d_LA_byOwnRule_39 : decode b_LA_byOwnRule 39 = .ok (.getfield 32, 3) := by decide +kernel
theorem d_LA_byOwnRule_42 : decode b_LA_byOwnRule 42 = .ok (.invokevirtual 49, 3) := by decide +kernel
theorem d_LA_byOwnRule_45 : decode b_LA_byOwnRule 45 = .ok (.goto 8, 3) := by decide +kernel
theorem d_LA_byOwnRule_48 : decode b_LA_byOwnRule 48 = .ok (.aload_n 0, 1) := by decide +kernel
theorem d_LA_byOwnRule_49 : decode b_LA_byOwnRule 49 = .ok (.lload_n 1, 1) := by decide +kernel
theorem d_LA_byOwnRule_50 : decode b_LA_byOwnRule 50 = .ok (.invokevirtual 71, 3) := by decide +kernel
theorem d_LA_byOwnRule_53 : decode b_LA_byOwnRule 53 = .ok (.return_, 1) := by decide +kernel
theorem d_LA_seek_0 : decode b_LA_seek 0 = .ok (.aload_n 0, 1) := by decide +kernel
theorem d_LA_seek_1 : decode b_LA_seek 1 = .ok (.iconst 0, 1) := by decide +kernel
theorem d_LA_seek_2 : decode b_LA_seek 2 = .ok (.putfield 26, 3) := by decide +kernel
theorem d_LA_seek_5 : decode b_LA_seek 5 = .ok (.aload_n 0, 1) := by decide +kernel
theorem d_LA_seek_6 : decode b_LA_seek 6 = .ok (.getfield 29, 3) := by decide +kernel
theorem d_LA_seek_9 : decode b_LA_seek 9 = .ok (.iconst 1, 1) := by decide +kernel
theorem d_LA_seek_10 : decode b_LA_seek 10 = .ok (.if_icmp .ne 11, 3) := by decide +kernel
theorem d_LA_seek_13 : decode b_LA_seek 13 = .ok (.aload_n 0, 1) := by decide +kernel
theorem d_LA_seek_14 : decode b_LA_seek 14 = .ok (.lload_n 1, 1) := by decide +kernel
theorem d_LA_seek_15 : decode b_LA_seek 15 = .ok (.invokevirtual 38, 3) := by decide +kernel
theorem d_LA_seek_18 : decode b_LA_seek 18 = .ok (.goto 45, 3) := by decide +kernel
theorem d_LA_seek_21 : decode b_LA_seek 21 = .ok (.aload_n 0, 1) := by decide +kernel
theorem d_LA_seek_22 : decode b_LA_seek 22 = .ok (.getfield 29, 3) := by decide +kernel
theorem d_LA_seek_25 : decode b_LA_seek 25 = .ok (.iconst 4, 1) := by decide +kernel
theorem d_LA_seek_26 : decode b_LA_seek 26 = .ok (.if_icmp .ne 11, 3) := by decide +kernel
theorem d_LA_seek_29 : decode b_LA_seek 29 = .ok (.aload_n 0, 1) := by decide +kernel
theorem d_LA_seek_30 : decode b_LA_seek 30 = .ok (.lload_n 1, 1) := by decide +kernel
theorem d_LA_seek_31 : decode b_LA_seek 31 = .ok (.invokevirtual 42, 3) := by decide +kernel
theorem d_LA_seek_34 : decode b_LA_seek 34 = .ok (.goto 29, 3) := by decide +kernel
theorem d_LA_seek_37 : decode b_LA_seek 37 = .ok (.aload_n 0, 1) := by decide +kernel
theorem d_LA_seek_38 : decode b_LA_seek 38 = .ok (.getfield 29, 3) := by decide +kernel
theorem d_LA_seek_41 : decode b_LA_seek 41 = .ok (.iconst 5, 1) := by decide +kernel
theorem d_LA_seek_42 : decode b_LA_seek 42 = .ok (.if_icmp .ne 12, 3) := by decide +kernel
theorem d_LA_seek_45 : decode b_LA_seek 45 = .ok (.aload_n 0, 1) := by decide +kernel
theorem d_LA_seek_46 : decode b_LA_seek 46 = .ok (.lload_n 1, 1) := by decide +kernel
theorem d_LA_seek_47 : decode b_LA_seek 47 = .ok (.lload_n 3, 1) := by decide +kernel
theorem d_LA_seek_48 : decode b_LA_seek 48 = .ok (.invokevirtual 45, 3) := by decide +kernel
theorem d_LA_seek_51 : decode b_LA_seek 51 = .ok (.goto 12, 3) := by decide +kernel
theorem d_LA_seek_54 : decode b_LA_seek 54 = .ok (.aload_n 0, 1) := by decide +kernel
theorem d_LA_seek_55 : decode b_LA_seek 55 = .ok (.lload_n 1, 1) := by decide +kernel
theorem d_LA_seek_56 : decode b_LA_seek 56 = .ok (.aload_n 0, 1) := by decide +kernel
theorem d_LA_seek_57 : decode b_LA_seek 57 = .ok (.getfield 32, 3) := by decide +kernel
theorem d_LA_seek_60 : decode b_LA_seek 60 = .ok (.invokevirtual 49, 3) := by decide +kernel
theorem d_LA_seek_63 : decode b_LA_seek 63 = .ok (.return_, 1) := by decide +kernel
theorem d_LA_keepEndsAbove_0 : decode b_LA_keepEndsAbove 0 = .ok (.iconst 0, 1) := by decide +kernel
theorem d_LA_keepEndsAbove_1 : decode b_LA_keepEndsAbove 1 = .ok (.istore_n 3, 1) := by decide +kernel
theorem d_LA_keepEndsAbove_2 : decode b_LA_keepEndsAbove 2 = .ok (.iconst 0, 1) := by decide +kernel
theorem d_LA_keepEndsAbove_3 : decode b_LA_keepEndsAbove 3 = .ok (.istore 4, 2) := by decide +kernel
theorem d_LA_keepEndsAbove_5 : decode b_LA_keepEndsAbove 5 = .ok (.iload 4, 2) := by decide +kernel
theorem d_LA_keepEndsAbove_7 : decode b_LA_keepEndsAbove 7 = .ok (.aload_n 0, 1) := by decide +kernel
theorem d_LA_keepEndsAbove_8 : decode b_LA_keepEndsAbove 8 = .ok (.getfield 26, 3) := by decide +kernel
theorem d_LA_keepEndsAbove_11 : decode b_LA_keepEndsAbove 11 = .ok (.if_icmp .ge 50, 3) := by decide +kernel
theorem d_LA_keepEndsAbove_14 : decode b_LA_keepEndsAbove 14 = .ok (.aload_n 0, 1) := by decide +kernel
theorem d_LA_keepEndsAbove_15 : decode b_LA_keepEndsAbove 15 = .ok (.getfield 15, 3) := by decide +kernel
theorem d_LA_keepEndsAbove_18 : decode b_LA_keepEndsAbove 18 = .ok (.iload 4, 2) := by decide +kernel
theorem d_LA_keepEndsAbove_20 : decode b_LA_keepEndsAbove 20 = .ok (.laload, 1) := by decide +kernel
theorem d_LA_keepEndsAbove_21 : decode b_LA_keepEndsAbove 21 = .ok (.lload_n 1, 1) := by decide +kernel
theorem d_LA_keepEndsAbove_22 : decode b_LA_keepEndsAbove 22 = .ok (.lcmp, 1) := by decide +kernel
theorem d_LA_keepEndsAbove_23 : decode b_LA_keepEndsAbove 23 = .ok (.ifCond .le 32, 3) := by decide +kernel
theorem d_LA_keepEndsAbove_26 : decode b_LA_keepEndsAbove 26 = .ok (.aload_n 0, 1) := by decide +kernel
theorem d_LA_keepEndsAbove_27 : decode b_LA_keepEndsAbove 27 = .ok (.getfield 9, 3) := by decide +kernel
theorem d_LA_keepEndsAbove_30 : decode b_LA_keepEndsAbove 30 = .ok (.iload_n 3, 1) := by decide +kernel
theorem d_LA_keepEndsAbove_31 : decode b_LA_keepEndsAbove 31 = .ok (.aload_n 0, 1) := by decide +kernel
theorem d_LA_keepEndsAbove_32 : decode b_LA_keepEndsAbove 32 = .ok (.getfield 9, 3) := by decide +kernel
theorem d_LA_keepEndsAbove_35 : decode b_LA_keepEndsAbove 35 = .ok (.iload 4, 2) := by decide +kernel
theorem d_LA_keepEndsAbove_37 : decode b_LA_keepEndsAbove 37 = .ok (.laload, 1) := by decide +kernel
theorem d_LA_keepEndsAbove_38 : decode b_LA_keepEndsAbove 38 = .ok (.lastore, 1) := by decide +kernel
theorem d_LA_keepEndsAbove_39 : decode b_LA_keepEndsAbove 39 = .ok (.aload_n 0, 1) := by decide +kernel
theorem d_LA_keepEndsAbove_40 : decode b_LA_keepEndsAbove 40 = .ok (.getfield 15, 3) := by decide +kernel
theorem d_LA_keepEndsAbove_43 : decode b_LA_keepEndsAbove 43 = .ok (.iload_n 3, 1) := by decide +kernel
theorem d_LA_keepEndsAbove_44 : decode b_LA_keepEndsAbove 44 = .ok (.aload_n 0, 1) := by decide +kernel
theorem d_LA_keepEndsAbove_45 : decode b_LA_keepEndsAbove 45 = .ok (.getfield 15, 3) := by decide +kernel
theorem d_LA_keepEndsAbove_48 : decode b_LA_keepEndsAbove 48 = .ok (.iload 4, 2) := by decide +kernel
theorem d_LA_keepEndsAbove_50 : decode b_LA_keepEndsAbove 50 = .ok (.laload, 1) := by decide +kernel
theorem d_LA_keepEndsAbove_51 : decode b_LA_keepEndsAbove 51 = .ok (.lastore, 1) := by decide +kernel
theorem d_LA_keepEndsAbove_52 : decode b_LA_keepEndsAbove 52 = .ok (.iinc 3 1, 3) := by decide +kernel
theorem d_LA_keepEndsAbove_55 : decode b_LA_keepEndsAbove 55 = .ok (.iinc 4 1, 3) := by decide +kernel
theorem d_LA_keepEndsAbove_58 : decode b_LA_keepEndsAbove 58 = .ok (.goto (-53), 3) := by decide +kernel
theorem d_LA_keepEndsAbove_61 : decode b_LA_keepEndsAbove 61 = .ok (.aload_n 0, 1) := by decide +kernel
theorem d_LA_keepEndsAbove_62 : decode b_LA_keepEndsAbove 62 = .ok (.iload_n 3, 1) := by decide +kernel
theorem d_LA_keepEndsAbove_63 : decode b_LA_keepEndsAbove 63 = .ok (.putfield 26, 3) := by decide +kernel
theorem d_LA_keepEndsAbove_66 : decode b_LA_keepEndsAbove 66 = .ok (.return_, 1) := by decide +kernel
theorem d_SS_find_0 : decode b_SS_find 0 = .ok (.iconst 0, 1) := by decide +kernel
theorem d_SS_find_1 : decode b_SS_find 1 = .ok (.istore 6, 2) := by decide +kernel
theorem d_SS_find_3 : decode b_SS_find 3 = .ok (.iload 6, 2) := by decide +kernel
theorem d_SS_find_5 : decode b_SS_find 5 = .ok (.aload_n 0, 1) := by decide +kernel
theorem d_SS_find_6 : decode b_SS_find 6 = .ok (.getfield 47, 3) := by decide +kernel
theorem d_SS_find_9 : decode b_SS_find 9 = .ok (.if_icmp .ge 57, 3) := by decide +kernel
theorem d_SS_find_12 : decode b_SS_find 12 = .ok (.aload_n 0, 1) := by decide +kernel
theorem d_SS_find_13 : decode b_SS_find 13 = .ok (.getfield 44, 3) := by decide +kernel
theorem d_SS_find_16 : decode b_SS_find 16 = .ok (.iload 6, 2) := by decide +kernel
theorem d_SS_find_18 : decode b_SS_find 18 = .ok (.iaload, 1) := by decide +kernel
theorem d_SS_find_19 : decode b_SS_find 19 = .ok (.istore 7, 2) := by decide +kernel
theorem d_SS_find_21 : decode b_SS_find 21 = .ok (.aload_n 0, 1) := by decide +kernel
theorem d_SS_find_22 : decode b_SS_find 22 = .ok (.getfield 9, 3) := by decide +kernel
theorem d_SS_find_25 : decode b_SS_find 25 = .ok (.iload 7, 2) := by decide +kernel
theorem d_SS_find_27 : decode b_SS_find 27 = .ok (.iaload, 1) := by decide +kernel
theorem d_SS_find_28 : decode b_SS_find 28 = .ok (.iload_n 1, 1) := by decide +kernel
theorem d_SS_find_29 : decode b_SS_find 29 = .ok (.if_icmp .ne 31, 3) := by decide +kernel
theorem d_SS_find_32 : decode b_SS_find 32 = .ok (.aload_n 0, 1) := by decide +kernel
theorem d_SS_find_33 : decode b_SS_find 33 = .ok (.getfield 15, 3) := by decide +kernel
theorem d_SS_find_36 : decode b_SS_find 36 = .ok (.iload 7, 2) := by decide +kernel
theorem d_SS_find_38 : decode b_SS_find 38 = .ok (.laload, 1) := by decide +kernel
theorem d_SS_find_39 : decode b_SS_find 39 = .ok (.lload_n 2, 1) := by decide +kernel
theorem d_SS_find_40 : decode b_SS_find 40 = .ok (.lcmp, 1) := by decide +kernel
theorem d_SS_find_41 : decode b_SS_find 41 = .ok (.ifCond .ne 19, 3) := by decide +kernel
theorem d_SS_find_44 : decode b_SS_find 44 = .ok (.aload_n 0, 1) := by decide +kernel
theorem d_SS_find_45 : decode b_SS_find 45 = .ok (.getfield 19, 3) := by decide +kernel
theorem d_SS_find_48 : decode b_SS_find 48 = .ok (.iload 7, 2) := by decide +kernel
theorem d_SS_find_50 : decode b_SS_find 50 = .ok (.laload, 1) := by decide +kernel
theorem d_SS_find_51 : decode b_SS_find 51 = .ok (.lload 4, 2) := by decide +kernel
theorem d_SS_find_53 : decode b_SS_find 53 = .ok (.lcmp, 1) := by decide +kernel
theorem d_SS_find_54 : decode b_SS_find 54 = .ok (.ifCond .ne 6, 3) := by decide +kernel
theorem d_SS_find_57 : decode b_SS_find 57 = .ok (.iload 7, 2) := by decide +kernel
theorem d_SS_find_59 : decode b_SS_find 59 = .ok (.ireturn, 1) := by decide +kernel
theorem d_SS_find_60 : decode b_SS_find 60 = .ok (.iinc 6 1, 3) := by decide +kernel
theorem d_SS_find_63 : decode b_SS_find 63 = .ok (.goto (-60), 3) := by decide +kernel
theorem d_SS_find_66 : decode b_SS_find 66 = .ok (.iconst (-1), 1) := by decide +kernel
theorem d_SS_find_67 : decode b_SS_find 67 = .ok (.ireturn, 1) := by decide +kernel
theorem d_SR_newOnes_0 : decode b_SR_newOnes 0 = .ok (.iconst 0, 1) := by decide +kernel
theorem d_SR_newOnes_1 : decode b_SR_newOnes 1 = .ok (.istore_n 2, 1) := by decide +kernel
theorem d_SR_newOnes_2 : decode b_SR_newOnes 2 = .ok (.iconst 0, 1) := by decide +kernel
theorem d_SR_newOnes_3 : decode b_SR_newOnes 3 = .ok (.istore_n 3, 1) := by decide +kernel
theorem d_SR_newOnes_4 : decode b_SR_newOnes 4 = .ok (.iload_n 3, 1) := by decide +kernel
theorem d_SR_newOnes_5 : decode b_SR_newOnes 5 = .ok (.aload_n 0, 1) := by decide +kernel
theorem d_SR_newOnes_6 : decode b_SR_newOnes 6 = .ok (.getfield 87, 3) := by decide +kernel
theorem d_SR_newOnes_9 : decode b_SR_newOnes 9 = .ok (.getfield 276, 3) := by decide +kernel
theorem d_SR_newOnes_12 : decode b_SR_newOnes 12 = .ok (.if_icmp .ge 42, 3) := by decide +kernel
theorem d_SR_newOnes_15 : decode b_SR_newOnes 15 = .ok (.aload_n 0, 1) := by decide +kernel
theorem d_SR_newOnes_16 : decode b_SR_newOnes 16 = .ok (.getfield 26, 3) := by decide +kernel
theorem d_SR_newOnes_19 : decode b_SR_newOnes 19 = .ok (.iload_n 1, 1) := by decide +kernel
theorem d_SR_newOnes_20 : decode b_SR_newOnes 20 = .ok (.aload_n 0, 1) := by decide +kernel
theorem d_SR_newOnes_21 : decode b_SR_newOnes 21 = .ok (.getfield 87, 3) := by decide +kernel
theorem d_SR_newOnes_24 : decode b_SR_newOnes 24 = .ok (.getfield 282, 3) := by decide +kernel
theorem d_SR_newOnes_27 : decode b_SR_newOnes 27 = .ok (.iload_n 3, 1) := by decide +kernel
theorem d_SR_newOnes_28 : decode b_SR_newOnes 28 = .ok (.laload, 1) := by decide +kernel
theorem d_SR_newOnes_29 : decode b_SR_newOnes 29 = .ok (.aload_n 0, 1) := by decide +kernel
theorem d_SR_newOnes_30 : decode b_SR_newOnes 30 = .ok (.getfield 87, 3) := by decide +kernel
theorem d_SR_newOnes_33 : decode b_SR_newOnes 33 = .ok (.getfield 283, 3) := by decide +kernel
theorem d_SR_newOnes_36 : decode b_SR_newOnes 36 = .ok (.iload_n 3, 1) := by decide +kernel
theorem d_SR_newOnes_37 : decode b_SR_newOnes 37 = .ok (.laload, 1) := by decide +kernel
theorem d_SR_newOnes_38 : decode b_SR_newOnes 38 = .ok (.invokevirtual 284, 3) := by decide +kernel
theorem d_SR_newOnes_41 : decode b_SR_newOnes 41 = .ok (.iconst (-1), 1) := by decide +kernel
theorem d_SR_newOnes_42 : decode b_SR_newOnes 42 = .ok (.if_icmp .ne 6, 3) := by decide +kernel
theorem d_SR_newOnes_45 : decode b_SR_newOnes 45 = .ok (.iinc 2 1, 3) := by decide +kernel
theorem d_SR_newOnes_48 : decode b_SR_newOnes 48 = .ok (.iinc 3 1, 3) := by decide +kernel
theorem d_SR_newOnes_51 : decode b_SR_newOnes 51 = .ok (.goto (-47), 3) := by decide +kernel
theorem d_SR_newOnes_54 : decode b_SR_newOnes 54 = .ok (.iload_n 2, 1) := by decide +kernel
theorem d_SR_newOnes_55 : decode b_SR_newOnes 55 = .ok (.ireturn, 1) := by decide +kernel
theorem d_SR_putByLayout_0 : decode b_SR_putByLayout 0 = .ok (.aload_n 0, 1) := by decide +kernel
theorem d_SR_putByLayout_1 : decode b_SR_putByLayout 1 = .ok (.getfield 87, 3) := by decide +kernel
theorem d_SR_putByLayout_4 : decode b_SR_putByLayout 4 = .ok (.lload_n 2, 1) := by decide +kernel
theorem d_SR_putByLayout_5 : decode b_SR_putByLayout 5 = .ok (.lload 4, 2) := by decide +kernel
theorem d_SR_putByLayout_7 : decode b_SR_putByLayout 7 = .ok (.invokevirtual 268, 3) := by decide +kernel
theorem d_SR_putByLayout_10 : decode b_SR_putByLayout 10 = .ok (.aload_n 0, 1) := by decide +kernel
theorem d_SR_putByLayout_11 : decode b_SR_putByLayout 11 = .ok (.getfield 87, 3) := by decide +kernel
theorem d_SR_putByLayout_14 : decode b_SR_putByLayout 14 = .ok (.aload_n 0, 1) := by decide +kernel
theorem d_SR_putByLayout_15 : decode b_SR_putByLayout 15 = .ok (.getfield 57, 3) := by decide +kernel
theorem d_SR_putByLayout_18 : decode b_SR_putByLayout 18 = .ok (.aload_n 0, 1) := by decide +kernel
theorem d_SR_putByLayout_19 : decode b_SR_putByLayout 19 = .ok (.getfield 51, 3) := by decide +kernel
theorem d_SR_putByLayout_22 : decode b_SR_putByLayout 22 = .ok (.lsub, 1) := by decide +kernel
theorem d_SR_putByLayout_23 : decode b_SR_putByLayout 23 = .ok (.invokevirtual 272, 3) := by decide +kernel
theorem d_SR_putByLayout_26 : decode b_SR_putByLayout 26 = .ok (.aload_n 0, 1) := by decide +kernel
theorem d_SR_putByLayout_27 : decode b_SR_putByLayout 27 = .ok (.getfield 87, 3) := by decide +kernel
theorem d_SR_putByLayout_30 : decode b_SR_putByLayout 30 = .ok (.getfield 276, 3) := by decide +kernel
theorem d_SR_putByLayout_33 : decode b_SR_putByLayout 33 = .ok (.ifCond .ne 8, 3) := by decide +kernel
theorem d_SR_putByLayout_36 : decode b_SR_putByLayout 36 = .ok (.aload_n 0, 1) := by decide +kernel
theorem d_SR_putByLayout_37 : decode b_SR_putByLayout 37 = .ok (.invokevirtual 234, 3) := by decide +kernel
theorem d_SR_putByLayout_40 : decode b_SR_putByLayout 40 = .ok (.ireturn, 1) := by decide +kernel
theorem d_SR_putByLayout_41 : decode b_SR_putByLayout 41 = .ok (.aload_n 0, 1) := by decide +kernel
theorem d_SR_putByLayout_42 : decode b_SR_putByLayout 42 = .ok (.getfield 19, 3) := by decide +kernel
theorem d_SR_putByLayout_45 : decode b_SR_putByLayout 45 = .ok (.invokevirtual 237, 3) := by decide +kernel
theorem d_SR_putByLayout_48 : decode b_SR_putByLayout 48 = .ok (.ifCond .ne 22, 3) := by decide +kernel
theorem d_SR_putByLayout_51 : decode b_SR_putByLayout 51 = .ok (.aload_n 0, 1) := by decide +kernel
theorem d_SR_putByLayout_52 : decode b_SR_putByLayout 52 = .ok (.getfield 26, 3) := by decide +kernel
theorem d_SR_putByLayout_55 : decode b_SR_putByLayout 55 = .ok (.getfield 157, 3) := by decide +kernel
theorem d_SR_putByLayout_58 : decode b_SR_putByLayout 58 = .ok (.aload_n 0, 1) := by decide +kernel
theorem d_SR_putByLayout_59 : decode b_SR_putByLayout 59 = .ok (.iload_n 1, 1) := by decide +kernel
theorem d_SR_putByLayout_60 : decode b_SR_putByLayout 60 = .ok (.invokevirtual 279, 3) := by decide +kernel
theorem d_SR_putByLayout_63 : decode b_SR_putByLayout 63 = .ok (.iadd, 1) := by decide +kernel
theorem d_SR_putByLayout_64 : decode b_SR_putByLayout 64 = .ok (.sipush 200, 3) := by decide +kernel
theorem d_SR_putByLayout_67 : decode b_SR_putByLayout 67 = .ok (.if_icmp .le 6, 3) := by decide +kernel
theorem d_SR_putByLayout_70 : decode b_SR_putByLayout 70 = .ok (.bipush (-4), 2) := by decide +kernel
theorem d_SR_putByLayout_72 : decode b_SR_putByLayout 72 = .ok (.ireturn, 1) := by decide +kernel
theorem d_SR_putByLayout_73 : decode b_SR_putByLayout 73 = .ok (.aload_n 0, 1) := by decide +kernel
theorem d_SR_putByLayout_74 : decode b_SR_putByLayout 74 = .ok (.dup, 1) := by decide +kernel
theorem d_SR_putByLayout_75 : decode b_SR_putByLayout 75 = .ok (.getfield 71, 3) := by decide +kernel
theorem d_SR_putByLayout_78 : decode b_SR_putByLayout 78 = .ok (.iconst 1, 1) := by decide +kernel
theorem d_SR_putByLayout_79 : decode b_SR_putByLayout 79 = .ok (.iadd, 1) := by decide +kernel
theorem d_SR_putByLayout_80 : decode b_SR_putByLayout 80 = .ok (.putfield 71, 3) := by decide +kernel
theorem d_SR_putByLayout_83 : decode b_SR_putByLayout 83 = .ok (.aload_n 0, 1) := by decide +kernel
theorem d_SR_putByLayout_84 : decode b_SR_putByLayout 84 = .ok (.getfield 19, 3) := by decide +kernel
theorem d_SR_putByLayout_87 : decode b_SR_putByLayout 87 = .ok (.iload_n 1, 1) := by decide +kernel
theorem d_SR_putByLayout_88 : decode b_SR_putByLayout 88 = .ok (.lload_n 2, 1) := by decide +kernel
theorem d_SR_putByLayout_89 : decode b_SR_putByLayout 89 = .ok (.lload 4, 2) := by decide +kernel
theorem d_SR_putByLayout_91 : decode b_SR_putByLayout 91 = .ok (.invokevirtual 241, 3) := by decide +kernel
theorem d_SR_putByLayout_94 : decode b_SR_putByLayout 94 = .ok (.istore 6, 2) := by decide +kernel
theorem d_SR_putByLayout_96 : decode b_SR_putByLayout 96 = .ok (.iconst 0, 1) := by decide +kernel
theorem d_SR_putByLayout_97 : decode b_SR_putByLayout 97 = .ok (.istore 7, 2) := by decide +kernel
theorem d_SR_putByLayout_99 : decode b_SR_putByLayout 99 = .ok (.iload 7, 2) := by decide +kernel
theorem d_SR_putByLayout_101 : decode b_SR_putByLayout 101 = .ok (.aload_n 0, 1) := by decide +kernel
theorem d_SR_putByLayout_102 : decode b_SR_putByLayout 102 = .ok (.getfield 87, 3) := by decide +kernel
theorem d_SR_putByLayout_105 : decode b_SR_putByLayout 105 = .ok (.getfield 276, 3) := by decide +kernel
theorem d_SR_putByLayout_108 : decode b_SR_putByLayout 108 = .ok (.if_icmp .ge 83, 3) := by decide +kernel
theorem d_SR_putByLayout_111 : decode b_SR_putByLayout 111 = .ok (.aload_n 0, 1) := by decide +kernel
theorem d_SR_putByLayout_112 : decode b_SR_putByLayout 112 = .ok (.getfield 26, 3) := by decide +kernel
theorem d_SR_putByLayout_115 : decode b_SR_putByLayout 115 = .ok (.iload_n 1, 1) := by decide +kernel
theorem d_SR_putByLayout_116 : decode b_SR_putByLayout 116 = .ok (.aload_n 0, 1) := by decide +kernel
theorem d_SR_putByLayout_117 : decode b_SR_putByLayout 117 = .ok (.getfield 87, 3) := by decide +kernel
theorem d_SR_putByLayout_120 : decode b_SR_putByLayout 120 = .ok (.getfield 282, 3) := by decide +kernel
theorem d_SR_putByLayout_123 : decode b_SR_putByLayout 123 = .ok (.iload 7, 2) := by decide +kernel
theorem d_SR_putByLayout_125 : decode b_SR_putByLayout 125 = .ok (.laload, 1) := by decide +kernel
theorem d_SR_putByLayout_126 : decode b_SR_putByLayout 126 = .ok (.aload_n 0, 1) := by decide +kernel
theorem d_SR_putByLayout_127 : decode b_SR_putByLayout 127 = .ok (.getfield 87, 3) := by decide +kernel
theorem d_SR_putByLayout_130 : decode b_SR_putByLayout 130 = .ok (.getfield 283, 3) := by decide +kernel
theorem d_SR_putByLayout_133 : decode b_SR_putByLayout 133 = .ok (.iload 7, 2) := by decide +kernel
theorem d_SR_putByLayout_135 : decode b_SR_putByLayout 135 = .ok (.laload, 1) := by decide +kernel
theorem d_SR_putByLayout_136 : decode b_SR_putByLayout 136 = .ok (.invokevirtual 284, 3) := by decide +kernel
theorem d_SR_putByLayout_139 : decode b_SR_putByLayout 139 = .ok (.istore 8, 2) := by decide +kernel
theorem d_SR_putByLayout_141 : decode b_SR_putByLayout 141 = .ok (.iload 8, 2) := by decide +kernel
theorem d_SR_putByLayout_143 : decode b_SR_putByLayout 143 = .ok (.iconst (-1), 1) := by decide +kernel
theorem d_SR_putByLayout_144 : decode b_SR_putByLayout 144 = .ok (.if_icmp .ne 33, 3) := by decide +kernel
theorem d_SR_putByLayout_147 : decode b_SR_putByLayout 147 = .ok (.aload_n 0, 1) := by decide +kernel
theorem d_SR_putByLayout_148 : decode b_SR_putByLayout 148 = .ok (.getfield 26, 3) := by decide +kernel
theorem d_SR_putByLayout_151 : decode b_SR_putByLayout 151 = .ok (.iload_n 1, 1) := by decide +kernel
theorem d_SR_putByLayout_152 : decode b_SR_putByLayout 152 = .ok (.aload_n 0, 1) := by decide +kernel
theorem d_SR_putByLayout_153 : decode b_SR_putByLayout 153 = .ok (.getfield 87, 3) := by decide +kernel
theorem d_SR_putByLayout_156 : decode b_SR_putByLayout 156 = .ok (.getfield 282, 3) := by decide +kernel
theorem d_SR_putByLayout_159 : decode b_SR_putByLayout 159 = .ok (.iload 7, 2) := by decide +kernel
theorem d_SR_putByLayout_161 : decode b_SR_putByLayout 161 = .ok (.laload, 1) := by decide +kernel
theorem d_SR_putByLayout_162 : decode b_SR_putByLayout 162 = .ok (.aload_n 0, 1) := by decide +kernel
theorem d_SR_putByLayout_163 : decode b_SR_putByLayout 163 = .ok (.getfield 87, 3) := by decide +kernel
theorem d_SR_putByLayout_166 : decode b_SR_putByLayout 166 = .ok (.getfield 283, 3) := by decide +kernel
theorem d_SR_putByLayout_169 : decode b_SR_putByLayout 169 = .ok (.iload 7, 2) := by decide +kernel
theorem d_SR_putByLayout_171 : decode b_SR_putByLayout 171 = .ok (.laload, 1) := by decide +kernel
theorem d_SR_putByLayout_172 : decode b_SR_putByLayout 172 = .ok (.invokevirtual 287, 3) := by decide +kernel
theorem d_SR_putByLayout_175 : decode b_SR_putByLayout 175 = .ok (.istore 8, 2) := by decide +kernel
theorem d_SR_putByLayout_177 : decode b_SR_putByLayout 177 = .ok (.aload_n 0, 1) := by decide +kernel
theorem d_SR_putByLayout_178 : decode b_SR_putByLayout 178 = .ok (.iload 8, 2) := by decide +kernel
theorem d_SR_putByLayout_180 : decode b_SR_putByLayout 180 = .ok (.iload 6, 2) := by decide +kernel
theorem d_SR_putByLayout_182 : decode b_SR_putByLayout 182 = .ok (.invokevirtual 264, 3) := by decide +kernel
theorem d_SR_putByLayout_185 : decode b_SR_putByLayout 185 = .ok (.iinc 7 1, 3) := by decide +kernel
theorem d_SR_putByLayout_188 : decode b_SR_putByLayout 188 = .ok (.goto (-89), 3) := by decide +kernel
theorem d_SR_putByLayout_191 : decode b_SR_putByLayout 191 = .ok (.aload_n 0, 1) := by decide +kernel
theorem d_SR_putByLayout_192 : decode b_SR_putByLayout 192 = .ok (.getfield 87, 3) := by decide +kernel
theorem d_SR_putByLayout_195 : decode b_SR_putByLayout 195 = .ok (.getfield 276, 3) := by decide +kernel
theorem d_SR_putByLayout_198 : decode b_SR_putByLayout 198 = .ok (.ireturn, 1) := by decide +kernel
theorem d_MO_nearest_0 : decode b_MO_nearest 0 = .ok (.iload_n 0, 1) := by decide +kernel
theorem d_MO_nearest_1 : decode b_MO_nearest 1 = .ok (.iload_n 1, 1) := by decide +kernel
theorem d_MO_nearest_2 : decode b_MO_nearest 2 = .ok (.if_icmp .ge 7, 3) := by decide +kernel
theorem d_MO_nearest_5 : decode b_MO_nearest 5 = .ok (.iload_n 1, 1) := by decide +kernel
theorem d_MO_nearest_6 : decode b_MO_nearest 6 = .ok (.goto 13, 3) := by decide +kernel
theorem d_MO_nearest_9 : decode b_MO_nearest 9 = .ok (.iload_n 0, 1) := by decide +kernel
theorem d_MO_nearest_10 : decode b_MO_nearest 10 = .ok (.iload_n 2, 1) := by decide +kernel
theorem d_MO_nearest_11 : decode b_MO_nearest 11 = .ok (.if_icmp .le 7, 3) := by decide +kernel
theorem d_MO_nearest_14 : decode b_MO_nearest 14 = .ok (.iload_n 2, 1) := by decide +kernel
theorem d_MO_nearest_15 : decode b_MO_nearest 15 = .ok (.goto 4, 3) := by decide +kernel
theorem d_MO_nearest_18 : decode b_MO_nearest 18 = .ok (.iload_n 0, 1) := by decide +kernel
theorem d_MO_nearest_19 : decode b_MO_nearest 19 = .ok (.ireturn, 1) := by decide +kernel
theorem d_MO_in_0 : decode b_MO_in 0 = .ok (.lload_n 0, 1) := by decide +kernel
theorem d_MO_in_1 : decode b_MO_in 1 = .ok (.lload_n 2, 1) := by decide +kernel
theorem d_MO_in_2 : decode b_MO_in 2 = .ok (.lcmp, 1) := by decide +kernel
theorem d_MO_in_3 : decode b_MO_in 3 = .ok (.ifCond .lt 14, 3) := by decide +kernel
theorem d_MO_in_6 : decode b_MO_in 6 = .ok (.lload_n 0, 1) := by decide +kernel
theorem d_MO_in_7 : decode b_MO_in 7 = .ok (.lload 4, 2) := by decide +kernel
theorem d_MO_in_9 : decode b_MO_in 9 = .ok (.lcmp, 1) := by decide +kernel
theorem d_MO_in_10 : decode b_MO_in 10 = .ok (.ifCond .gt 7, 3) := by decide +kernel
theorem d_MO_in_13 : decode b_MO_in 13 = .ok (.iconst 1, 1) := by decide +kernel
theorem d_MO_in_14 : decode b_MO_in 14 = .ok (.goto 4, 3) := by decide +kernel
theorem d_MO_in_17 : decode b_MO_in 17 = .ok (.iconst 0, 1) := by decide +kernel
theorem d_MO_in_18 : decode b_MO_in 18 = .ok (.ireturn, 1) := by decide +kernel
theorem d_MO_thrown_0 : decode b_MO_thrown 0 = .ok (.aload_n 0, 1) := by decide +kernel
theorem d_MO_thrown_1 : decode b_MO_thrown 1 = .ok (.getfield 104, 3) := by decide +kernel
theorem d_MO_thrown_4 : decode b_MO_thrown 4 = .ok (.ireturn, 1) := by decide +kernel
theorem d_MO_offset_0 : decode b_MO_offset 0 = .ok (.aload_n 0, 1) := by decide +kernel
theorem d_MO_offset_1 : decode b_MO_offset 1 = .ok (.iconst 0, 1) := by decide +kernel
theorem d_MO_offset_2 : decode b_MO_offset 2 = .ok (.putfield 104, 3) := by decide +kernel
theorem d_MO_offset_5 : decode b_MO_offset 5 = .ok (.lload_n 1, 1) := by decide +kernel
theorem d_MO_offset_6 : decode b_MO_offset 6 = .ok (.ldc2_w 107, 3) := by decide +kernel
theorem d_MO_offset_9 : decode b_MO_offset 9 = .ok (.ldc2_w 109, 3) := by decide +kernel
theorem d_MO_offset_12 : decode b_MO_offset 12 = .ok (.invokestatic 111, 3) := by decide +kernel
theorem d_MO_offset_15 : decode b_MO_offset 15 = .ok (.ifCond .ne 6, 3) := by decide +kernel
theorem d_MO_offset_18 : decode b_MO_offset 18 = .ok (.bipush (-2), 2) := by decide +kernel
theorem d_MO_offset_20 : decode b_MO_offset 20 = .ok (.ireturn, 1) := by decide +kernel
theorem d_MO_offset_21 : decode b_MO_offset 21 = .ok (.aload_n 0, 1) := by decide +kernel
theorem d_MO_offset_22 : decode b_MO_offset 22 = .ok (.getfield 115, 3) := by decide +kernel
theorem d_MO_offset_25 : decode b_MO_offset 25 = .ok (.ifCond .le 6, 3) := by decide +kernel
theorem d_MO_offset_28 : decode b_MO_offset 28 = .ok (.bipush (-3), 2) := by decide +kernel
theorem d_MO_offset_30 : decode b_MO_offset 30 = .ok (.ireturn, 1) := by decide +kernel
theorem d_MO_offset_31 : decode b_MO_offset 31 = .ok (.aload_n 0, 1) := by decide +kernel
theorem d_MO_offset_32 : decode b_MO_offset 32 = .ok (.lload_n 1, 1) := by decide +kernel
theorem d_MO_offset_33 : decode b_MO_offset 33 = .ok (.putfield 118, 3) := by decide +kernel
theorem d_MO_offset_36 : decode b_MO_offset 36 = .ok (.iconst 1, 1) := by decide +kernel
theorem d_MO_offset_37 : decode b_MO_offset 37 = .ok (.ireturn, 1) := by decide +kernel
theorem d_MO_lateness_0 : decode b_MO_lateness 0 = .ok (.aload_n 0, 1) := by decide +kernel
theorem d_MO_lateness_1 : decode b_MO_lateness 1 = .ok (.iconst 0, 1) := by decide +kernel
theorem d_MO_lateness_2 : decode b_MO_lateness 2 = .ok (.putfield 104, 3) := by decide +kernel
theorem d_MO_lateness_5 : decode b_MO_lateness 5 = .ok (.lload_n 1, 1) := by decide +kernel
theorem d_MO_lateness_6 : decode b_MO_lateness 6 = .ok (.lconst 0, 1) := by decide +kernel
theorem d_MO_lateness_7 : decode b_MO_lateness 7 = .ok (.ldc2_w 109, 3) := by decide +kernel
theorem d_MO_lateness_10 : decode b_MO_lateness 10 = .ok (.invokestatic 111, 3) := by decide +kernel
theorem d_MO_lateness_13 : decode b_MO_lateness 13 = .ok (.ifCond .ne 6, 3) := by decide +kernel
theorem d_MO_lateness_16 : decode b_MO_lateness 16 = .ok (.bipush (-2), 2) := by decide +kernel
theorem d_MO_lateness_18 : decode b_MO_lateness 18 = .ok (.ireturn, 1) := by decide +kernel
theorem d_MO_lateness_19 : decode b_MO_lateness 19 = .ok (.aload_n 0, 1) := by decide +kernel
theorem d_MO_lateness_20 : decode b_MO_lateness 20 = .ok (.getfield 115, 3) := by decide +kernel
theorem d_MO_lateness_23 : decode b_MO_lateness 23 = .ok (.ifCond .gt 11, 3) := by decide +kernel
theorem d_MO_lateness_26 : decode b_MO_lateness 26 = .ok (.aload_n 0, 1) := by decide +kernel
theorem d_MO_lateness_27 : decode b_MO_lateness 27 = .ok (.getfield 93, 3) := by decide +kernel
theorem d_MO_lateness_30 : decode b_MO_lateness 30 = .ok (.iconst 3, 1) := by decide +kernel
theorem d_MO_lateness_31 : decode b_MO_lateness 31 = .ok (.if_icmp .ne 6, 3) := by decide +kernel
theorem d_MO_lateness_34 : decode b_MO_lateness 34 = .ok (.bipush (-3), 2) := by decide +kernel
theorem d_MO_lateness_36 : decode b_MO_lateness 36 = .ok (.ireturn, 1) := by decide +kernel
theorem d_MO_lateness_37 : decode b_MO_lateness 37 = .ok (.aload_n 0, 1) := by decide +kernel
theorem d_MO_lateness_38 : decode b_MO_lateness 38 = .ok (.lload_n 1, 1) := by decide +kernel
theorem d_MO_lateness_39 : decode b_MO_lateness 39 = .ok (.putfield 121, 3) := by decide +kernel
theorem d_MO_lateness_42 : decode b_MO_lateness 42 = .ok (.iconst 1, 1) := by decide +kernel
theorem d_MO_lateness_43 : decode b_MO_lateness 43 = .ok (.ireturn, 1) := by decide +kernel
theorem d_MO_trigger_0 : decode b_MO_trigger 0 = .ok (.aload_n 0, 1) := by decide +kernel
theorem d_MO_trigger_1 : decode b_MO_trigger 1 = .ok (.iconst 0, 1) := by decide +kernel
theorem d_MO_trigger_2 : decode b_MO_trigger 2 = .ok (.putfield 104, 3) := by decide +kernel
theorem d_MO_trigger_5 : decode b_MO_trigger 5 = .ok (.iload_n 1, 1) := by decide +kernel
theorem d_MO_trigger_6 : decode b_MO_trigger 6 = .ok (.i2l, 1) := by decide +kernel
theorem d_MO_trigger_7 : decode b_MO_trigger 7 = .ok (.lconst 0, 1) := by decide +kernel
theorem d_MO_trigger_8 : decode b_MO_trigger 8 = .ok (.ldc2_w 124, 3) := by decide +kernel
theorem d_MO_trigger_11 : decode b_MO_trigger 11 = .ok (.invokestatic 111, 3) := by decide +kernel
theorem d_MO_trigger_14 : decode b_MO_trigger 14 = .ok (.ifCond .ne 6, 3) := by decide +kernel
theorem d_MO_trigger_17 : decode b_MO_trigger 17 = .ok (.bipush (-2), 2) := by decide +kernel
theorem d_MO_trigger_19 : decode b_MO_trigger 19 = .ok (.ireturn, 1) := by decide +kernel
theorem d_MO_trigger_20 : decode b_MO_trigger 20 = .ok (.aload_n 0, 1) := by decide +kernel
theorem d_MO_trigger_21 : decode b_MO_trigger 21 = .ok (.getfield 93, 3) := by decide +kernel
theorem d_MO_trigger_24 : decode b_MO_trigger 24 = .ok (.iconst 3, 1) := by decide +kernel
theorem d_MO_trigger_25 : decode b_MO_trigger 25 = .ok (.if_icmp .ne 6, 3) := by decide +kernel
theorem d_MO_trigger_28 : decode b_MO_trigger 28 = .ok (.bipush (-3), 2) := by decide +kernel
theorem d_MO_trigger_30 : decode b_MO_trigger 30 = .ok (.ireturn, 1) := by decide +kernel
theorem d_MO_trigger_31 : decode b_MO_trigger 31 = .ok (.aload_n 0, 1) := by decide +kernel
theorem d_MO_trigger_32 : decode b_MO_trigger 32 = .ok (.iload_n 1, 1) := by decide +kernel
theorem d_MO_trigger_33 : decode b_MO_trigger 33 = .ok (.putfield 126, 3) := by decide +kernel
theorem d_MO_trigger_36 : decode b_MO_trigger 36 = .ok (.aload_n 0, 1) := by decide +kernel
theorem d_MO_trigger_37 : decode b_MO_trigger 37 = .ok (.iload_n 2, 1) := by decide +kernel
theorem d_MO_trigger_38 : decode b_MO_trigger 38 = .ok (.putfield 7, 3) := by decide +kernel
theorem d_MO_trigger_41 : decode b_MO_trigger 41 = .ok (.iconst 1, 1) := by decide +kernel
theorem d_MO_trigger_42 : decode b_MO_trigger 42 = .ok (.ireturn, 1) := by decide +kernel
theorem d_MO_clears_0 : decode b_MO_clears 0 = .ok (.aload_n 0, 1) := by decide +kernel
theorem d_MO_clears_1 : decode b_MO_clears 1 = .ok (.iconst 0, 1) := by decide +kernel
theorem d_MO_clears_2 : decode b_MO_clears 2 = .ok (.putfield 104, 3) := by decide +kernel
theorem d_MO_clears_5 : decode b_MO_clears 5 = .ok (.aload_n 0, 1) := by decide +kernel
theorem d_MO_clears_6 : decode b_MO_clears 6 = .ok (.getfield 93, 3) := by decide +kernel
theorem d_MO_clears_9 : decode b_MO_clears 9 = .ok (.iconst 3, 1) := by decide +kernel
theorem d_MO_clears_10 : decode b_MO_clears 10 = .ok (.if_icmp .ne 6, 3) := by decide +kernel
theorem d_MO_clears_13 : decode b_MO_clears 13 = .ok (.bipush (-3), 2) := by decide +kernel
theorem d_MO_clears_15 : decode b_MO_clears 15 = .ok (.ireturn, 1) := by decide +kernel
theorem d_MO_clears_16 : decode b_MO_clears 16 = .ok (.aload_n 0, 1) := by decide +kernel
theorem d_MO_clears_17 : decode b_MO_clears 17 = .ok (.getfield 129, 3) := by decide +kernel
theorem d_MO_clears_20 : decode b_MO_clears 20 = .ok (.iload_n 1, 1) := by decide +kernel
theorem d_MO_clears_21 : decode b_MO_clears 21 = .ok (.if_icmp .eq 7, 3) := by decide +kernel
theorem d_MO_clears_24 : decode b_MO_clears 24 = .ok (.iconst 1, 1) := by decide +kernel
theorem d_MO_clears_25 : decode b_MO_clears 25 = .ok (.goto 4, 3) := by decide +kernel
end
section
theorem d_MO_clears_28 : decode b_MO_clears 28 = .ok (.iconst 0, 1) := by decide +kernel
theorem d_MO_clears_29 : decode b_MO_clears 29 = .ok (.istore_n 2, 1) := by decide +kernel
theorem d_MO_clears_30 : decode b_MO_clears 30 = .ok (.aload_n 0, 1) := by decide +kernel
theorem d_MO_clears_31 : decode b_MO_clears 31 = .ok (.iload_n 1, 1) := by decide +kernel
theorem d_MO_clears_32 : decode b_MO_clears 32 = .ok (.putfield 129, 3) := by decide +kernel
theorem d_MO_clears_35 : decode b_MO_clears 35 = .ok (.iload_n 2, 1) := by decide +kernel
theorem d_MO_clears_36 : decode b_MO_clears 36 = .ok (.ireturn, 1) := by decide +kernel
theorem d_MO_rule_0 : decode b_MO_rule 0 = .ok (.aload_n 0, 1) := by decide +kernel
theorem d_MO_rule_1 : decode b_MO_rule 1 = .ok (.iconst 0, 1) := by decide +kernel
theorem d_MO_rule_2 : decode b_MO_rule 2 = .ok (.putfield 104, 3) := by decide +kernel
theorem d_MO_rule_5 : decode b_MO_rule 5 = .ok (.iload_n 1, 1) := by decide +kernel
theorem d_MO_rule_6 : decode b_MO_rule 6 = .ok (.i2l, 1) := by decide +kernel
theorem d_MO_rule_7 : decode b_MO_rule 7 = .ok (.lconst 0, 1) := by decide +kernel
theorem d_MO_rule_8 : decode b_MO_rule 8 = .ok (.ldc2_w 132, 3) := by decide +kernel
theorem d_MO_rule_11 : decode b_MO_rule 11 = .ok (.invokestatic 111, 3) := by decide +kernel
theorem d_MO_rule_14 : decode b_MO_rule 14 = .ok (.ifCond .ne 6, 3) := by decide +kernel
theorem d_MO_rule_17 : decode b_MO_rule 17 = .ok (.bipush (-2), 2) := by decide +kernel
theorem d_MO_rule_19 : decode b_MO_rule 19 = .ok (.ireturn, 1) := by decide +kernel
theorem d_MO_rule_20 : decode b_MO_rule 20 = .ok (.aload_n 0, 1) := by decide +kernel
theorem d_MO_rule_21 : decode b_MO_rule 21 = .ok (.getfield 93, 3) := by decide +kernel
theorem d_MO_rule_24 : decode b_MO_rule 24 = .ok (.iconst 5, 1) := by decide +kernel
theorem d_MO_rule_25 : decode b_MO_rule 25 = .ok (.if_icmp .eq 6, 3) := by decide +kernel
theorem d_MO_rule_28 : decode b_MO_rule 28 = .ok (.bipush (-3), 2) := by decide +kernel
theorem d_MO_rule_30 : decode b_MO_rule 30 = .ok (.ireturn, 1) := by decide +kernel
theorem d_MO_rule_31 : decode b_MO_rule 31 = .ok (.aload_n 0, 1) := by decide +kernel
theorem d_MO_rule_32 : decode b_MO_rule 32 = .ok (.getfield 134, 3) := by decide +kernel
theorem d_MO_rule_35 : decode b_MO_rule 35 = .ok (.istore_n 2, 1) := by decide +kernel
theorem d_MO_rule_36 : decode b_MO_rule 36 = .ok (.aload_n 0, 1) := by decide +kernel
theorem d_MO_rule_37 : decode b_MO_rule 37 = .ok (.iload_n 1, 1) := by decide +kernel
theorem d_MO_rule_38 : decode b_MO_rule 38 = .ok (.putfield 134, 3) := by decide +kernel
theorem d_MO_rule_41 : decode b_MO_rule 41 = .ok (.iload_n 2, 1) := by decide +kernel
theorem d_MO_rule_42 : decode b_MO_rule 42 = .ok (.ireturn, 1) := by decide +kernel
theorem d_MO_isForbidden_0 : decode b_MO_isForbidden 0 = .ok (.iconst 0, 1) := by decide +kernel
theorem d_MO_isForbidden_1 : decode b_MO_isForbidden 1 = .ok (.istore 4, 2) := by decide +kernel
theorem d_MO_isForbidden_3 : decode b_MO_isForbidden 3 = .ok (.iload 4, 2) := by decide +kernel
theorem d_MO_isForbidden_5 : decode b_MO_isForbidden 5 = .ok (.aload_n 0, 1) := by decide +kernel
theorem d_MO_isForbidden_6 : decode b_MO_isForbidden 6 = .ok (.getfield 13, 3) := by decide +kernel
theorem d_MO_isForbidden_9 : decode b_MO_isForbidden 9 = .ok (.iload_n 1, 1) := by decide +kernel
theorem d_MO_isForbidden_10 : decode b_MO_isForbidden 10 = .ok (.iaload, 1) := by decide +kernel
theorem d_MO_isForbidden_11 : decode b_MO_isForbidden 11 = .ok (.if_icmp .ge 28, 3) := by decide +kernel
theorem d_MO_isForbidden_14 : decode b_MO_isForbidden 14 = .ok (.aload_n 0, 1) := by decide +kernel
theorem d_MO_isForbidden_15 : decode b_MO_isForbidden 15 = .ok (.getfield 17, 3) := by decide +kernel
theorem d_MO_isForbidden_18 : decode b_MO_isForbidden 18 = .ok (.bipush 8, 2) := by decide +kernel
theorem d_MO_isForbidden_20 : decode b_MO_isForbidden 20 = .ok (.iload_n 1, 1) := by decide +kernel
theorem d_MO_isForbidden_21 : decode b_MO_isForbidden 21 = .ok (.imul, 1) := by decide +kernel
theorem d_MO_isForbidden_22 : decode b_MO_isForbidden 22 = .ok (.iload 4, 2) := by decide +kernel
theorem d_MO_isForbidden_24 : decode b_MO_isForbidden 24 = .ok (.iadd, 1) := by decide +kernel
theorem d_MO_isForbidden_25 : decode b_MO_isForbidden 25 = .ok (.laload, 1) := by decide +kernel
theorem d_MO_isForbidden_26 : decode b_MO_isForbidden 26 = .ok (.lload_n 2, 1) := by decide +kernel
theorem d_MO_isForbidden_27 : decode b_MO_isForbidden 27 = .ok (.lcmp, 1) := by decide +kernel
theorem d_MO_isForbidden_28 : decode b_MO_isForbidden 28 = .ok (.ifCond .ne 5, 3) := by decide +kernel
theorem d_MO_isForbidden_31 : decode b_MO_isForbidden 31 = .ok (.iconst 1, 1) := by decide +kernel
theorem d_MO_isForbidden_32 : decode b_MO_isForbidden 32 = .ok (.ireturn, 1) := by decide +kernel
theorem d_MO_isForbidden_33 : decode b_MO_isForbidden 33 = .ok (.iinc 4 1, 3) := by decide +kernel
theorem d_MO_isForbidden_36 : decode b_MO_isForbidden 36 = .ok (.goto (-33), 3) := by decide +kernel
theorem d_MO_isForbidden_39 : decode b_MO_isForbidden 39 = .ok (.iconst 0, 1) := by decide +kernel
theorem d_MO_isForbidden_40 : decode b_MO_isForbidden 40 = .ok (.ireturn, 1) := by decide +kernel
theorem d_MO_forbid_0 : decode b_MO_forbid 0 = .ok (.aload_n 0, 1) := by decide +kernel
theorem d_MO_forbid_1 : decode b_MO_forbid 1 = .ok (.iconst 0, 1) := by decide +kernel
theorem d_MO_forbid_2 : decode b_MO_forbid 2 = .ok (.putfield 104, 3) := by decide +kernel
theorem d_MO_forbid_5 : decode b_MO_forbid 5 = .ok (.iload_n 1, 1) := by decide +kernel
theorem d_MO_forbid_6 : decode b_MO_forbid 6 = .ok (.i2l, 1) := by decide +kernel
theorem d_MO_forbid_7 : decode b_MO_forbid 7 = .ok (.lconst 0, 1) := by decide +kernel
theorem d_MO_forbid_8 : decode b_MO_forbid 8 = .ok (.ldc2_w 132, 3) := by decide +kernel
theorem d_MO_forbid_11 : decode b_MO_forbid 11 = .ok (.invokestatic 111, 3) := by decide +kernel
theorem d_MO_forbid_14 : decode b_MO_forbid 14 = .ok (.ifCond .ne 6, 3) := by decide +kernel
theorem d_MO_forbid_17 : decode b_MO_forbid 17 = .ok (.bipush (-2), 2) := by decide +kernel
theorem d_MO_forbid_19 : decode b_MO_forbid 19 = .ok (.ireturn, 1) := by decide +kernel
theorem d_MO_forbid_20 : decode b_MO_forbid 20 = .ok (.aload_n 0, 1) := by decide +kernel
theorem d_MO_forbid_21 : decode b_MO_forbid 21 = .ok (.getfield 93, 3) := by decide +kernel
theorem d_MO_forbid_24 : decode b_MO_forbid 24 = .ok (.iconst 5, 1) := by decide +kernel
theorem d_MO_forbid_25 : decode b_MO_forbid 25 = .ok (.if_icmp .eq 6, 3) := by decide +kernel
theorem d_MO_forbid_28 : decode b_MO_forbid 28 = .ok (.bipush (-3), 2) := by decide +kernel
theorem d_MO_forbid_30 : decode b_MO_forbid 30 = .ok (.ireturn, 1) := by decide +kernel
theorem d_MO_forbid_31 : decode b_MO_forbid 31 = .ok (.aload_n 0, 1) := by decide +kernel
theorem d_MO_forbid_32 : decode b_MO_forbid 32 = .ok (.iload_n 1, 1) := by decide +kernel
theorem d_MO_forbid_33 : decode b_MO_forbid 33 = .ok (.lload_n 2, 1) := by decide +kernel
theorem d_MO_forbid_34 : decode b_MO_forbid 34 = .ok (.invokevirtual 137, 3) := by decide +kernel
theorem d_MO_forbid_37 : decode b_MO_forbid 37 = .ok (.ifCond .eq 10, 3) := by decide +kernel
theorem d_MO_forbid_40 : decode b_MO_forbid 40 = .ok (.aload_n 0, 1) := by decide +kernel
theorem d_MO_forbid_41 : decode b_MO_forbid 41 = .ok (.getfield 13, 3) := by decide +kernel
theorem d_MO_forbid_44 : decode b_MO_forbid 44 = .ok (.iload_n 1, 1) := by decide +kernel
theorem d_MO_forbid_45 : decode b_MO_forbid 45 = .ok (.iaload, 1) := by decide +kernel
theorem d_MO_forbid_46 : decode b_MO_forbid 46 = .ok (.ireturn, 1) := by decide +kernel
theorem d_MO_forbid_47 : decode b_MO_forbid 47 = .ok (.aload_n 0, 1) := by decide +kernel
theorem d_MO_forbid_48 : decode b_MO_forbid 48 = .ok (.getfield 13, 3) := by decide +kernel
theorem d_MO_forbid_51 : decode b_MO_forbid 51 = .ok (.iload_n 1, 1) := by decide +kernel
theorem d_MO_forbid_52 : decode b_MO_forbid 52 = .ok (.iaload, 1) := by decide +kernel
theorem d_MO_forbid_53 : decode b_MO_forbid 53 = .ok (.bipush 8, 2) := by decide +kernel
theorem d_MO_forbid_55 : decode b_MO_forbid 55 = .ok (.if_icmp .ne 6, 3) := by decide +kernel
theorem d_MO_forbid_58 : decode b_MO_forbid 58 = .ok (.bipush (-4), 2) := by decide +kernel
theorem d_MO_forbid_60 : decode b_MO_forbid 60 = .ok (.ireturn, 1) := by decide +kernel
theorem d_MO_forbid_61 : decode b_MO_forbid 61 = .ok (.aload_n 0, 1) := by decide +kernel
theorem d_MO_forbid_62 : decode b_MO_forbid 62 = .ok (.getfield 17, 3) := by decide +kernel
theorem d_MO_forbid_65 : decode b_MO_forbid 65 = .ok (.bipush 8, 2) := by decide +kernel
theorem d_MO_forbid_67 : decode b_MO_forbid 67 = .ok (.iload_n 1, 1) := by decide +kernel
theorem d_MO_forbid_68 : decode b_MO_forbid 68 = .ok (.imul, 1) := by decide +kernel
theorem d_MO_forbid_69 : decode b_MO_forbid 69 = .ok (.aload_n 0, 1) := by decide +kernel
theorem d_MO_forbid_70 : decode b_MO_forbid 70 = .ok (.getfield 13, 3) := by decide +kernel
theorem d_MO_forbid_73 : decode b_MO_forbid 73 = .ok (.iload_n 1, 1) := by decide +kernel
theorem d_MO_forbid_74 : decode b_MO_forbid 74 = .ok (.iaload, 1) := by decide +kernel
theorem d_MO_forbid_75 : decode b_MO_forbid 75 = .ok (.iadd, 1) := by decide +kernel
theorem d_MO_forbid_76 : decode b_MO_forbid 76 = .ok (.lload_n 2, 1) := by decide +kernel
theorem d_MO_forbid_77 : decode b_MO_forbid 77 = .ok (.lastore, 1) := by decide +kernel
theorem d_MO_forbid_78 : decode b_MO_forbid 78 = .ok (.aload_n 0, 1) := by decide +kernel
theorem d_MO_forbid_79 : decode b_MO_forbid 79 = .ok (.getfield 13, 3) := by decide +kernel
theorem d_MO_forbid_82 : decode b_MO_forbid 82 = .ok (.iload_n 1, 1) := by decide +kernel
theorem d_MO_forbid_83 : decode b_MO_forbid 83 = .ok (.dup2, 1) := by decide +kernel
theorem d_MO_forbid_84 : decode b_MO_forbid 84 = .ok (.iaload, 1) := by decide +kernel
theorem d_MO_forbid_85 : decode b_MO_forbid 85 = .ok (.iconst 1, 1) := by decide +kernel
theorem d_MO_forbid_86 : decode b_MO_forbid 86 = .ok (.iadd, 1) := by decide +kernel
theorem d_MO_forbid_87 : decode b_MO_forbid 87 = .ok (.iastore, 1) := by decide +kernel
theorem d_MO_forbid_88 : decode b_MO_forbid 88 = .ok (.aload_n 0, 1) := by decide +kernel
theorem d_MO_forbid_89 : decode b_MO_forbid 89 = .ok (.getfield 13, 3) := by decide +kernel
theorem d_MO_forbid_92 : decode b_MO_forbid 92 = .ok (.iload_n 1, 1) := by decide +kernel
theorem d_MO_forbid_93 : decode b_MO_forbid 93 = .ok (.iaload, 1) := by decide +kernel
theorem d_MO_forbid_94 : decode b_MO_forbid 94 = .ok (.ireturn, 1) := by decide +kernel
theorem d_MO_by_0 : decode b_MO_by 0 = .ok (.lload_n 0, 1) := by decide +kernel
theorem d_MO_by_1 : decode b_MO_by 1 = .ok (.lload_n 2, 1) := by decide +kernel
theorem d_MO_by_2 : decode b_MO_by 2 = .ok (.ldiv, 1) := by decide +kernel
theorem d_MO_by_3 : decode b_MO_by 3 = .ok (.lstore 4, 2) := by decide +kernel
theorem d_MO_by_5 : decode b_MO_by 5 = .ok (.lload 4, 2) := by decide +kernel
theorem d_MO_by_7 : decode b_MO_by 7 = .ok (.lload_n 2, 1) := by decide +kernel
theorem d_MO_by_8 : decode b_MO_by 8 = .ok (.lmul, 1) := by decide +kernel
theorem d_MO_by_9 : decode b_MO_by 9 = .ok (.lload_n 0, 1) := by decide +kernel
theorem d_MO_by_10 : decode b_MO_by 10 = .ok (.lcmp, 1) := by decide +kernel
theorem d_MO_by_11 : decode b_MO_by 11 = .ok (.ifCond .le 10, 3) := by decide +kernel
theorem d_MO_by_14 : decode b_MO_by 14 = .ok (.lload 4, 2) := by decide +kernel
theorem d_MO_by_16 : decode b_MO_by 16 = .ok (.lconst 1, 1) := by decide +kernel
theorem d_MO_by_17 : decode b_MO_by 17 = .ok (.lsub, 1) := by decide +kernel
theorem d_MO_by_18 : decode b_MO_by 18 = .ok (.goto 5, 3) := by decide +kernel
theorem d_MO_by_21 : decode b_MO_by 21 = .ok (.lload 4, 2) := by decide +kernel
theorem d_MO_by_23 : decode b_MO_by 23 = .ok (.lreturn, 1) := by decide +kernel
theorem d_MO_yearAt_0 : decode b_MO_yearAt 0 = .ok (.lload_n 0, 1) := by decide +kernel
theorem d_MO_yearAt_1 : decode b_MO_yearAt 1 = .ok (.lconst 1, 1) := by decide +kernel
theorem d_MO_yearAt_2 : decode b_MO_yearAt 2 = .ok (.lsub, 1) := by decide +kernel
theorem d_MO_yearAt_3 : decode b_MO_yearAt 3 = .ok (.lstore_n 2, 1) := by decide +kernel
theorem d_MO_yearAt_4 : decode b_MO_yearAt 4 = .ok (.ldc2_w 141, 3) := by decide +kernel
theorem d_MO_yearAt_7 : decode b_MO_yearAt 7 = .ok (.lload_n 0, 1) := by decide +kernel
theorem d_MO_yearAt_8 : decode b_MO_yearAt 8 = .ok (.ldc2_w 143, 3) := by decide +kernel
theorem d_MO_yearAt_11 : decode b_MO_yearAt 11 = .ok (.lsub, 1) := by decide +kernel
theorem d_MO_yearAt_12 : decode b_MO_yearAt 12 = .ok (.lmul, 1) := by decide +kernel
theorem d_MO_yearAt_13 : decode b_MO_yearAt 13 = .ok (.lload_n 2, 1) := by decide +kernel
theorem d_MO_yearAt_14 : decode b_MO_yearAt 14 = .ok (.ldc2_w 145, 3) := by decide +kernel
theorem d_MO_yearAt_17 : decode b_MO_yearAt 17 = .ok (.invokestatic 147, 3) := by decide +kernel
theorem d_MO_yearAt_20 : decode b_MO_yearAt 20 = .ok (.ldc2_w 151, 3) := by decide +kernel
theorem d_MO_yearAt_23 : decode b_MO_yearAt 23 = .ok (.lsub, 1) := by decide +kernel
theorem d_MO_yearAt_24 : decode b_MO_yearAt 24 = .ok (.ladd, 1) := by decide +kernel
theorem d_MO_yearAt_25 : decode b_MO_yearAt 25 = .ok (.lload_n 2, 1) := by decide +kernel
theorem d_MO_yearAt_26 : decode b_MO_yearAt 26 = .ok (.ldc2_w 153, 3) := by decide +kernel
theorem d_MO_yearAt_29 : decode b_MO_yearAt 29 = .ok (.invokestatic 147, 3) := by decide +kernel
theorem d_MO_yearAt_32 : decode b_MO_yearAt 32 = .ok (.ldc2_w 155, 3) := by decide +kernel
theorem d_MO_yearAt_35 : decode b_MO_yearAt 35 = .ok (.lsub, 1) := by decide +kernel
theorem d_MO_yearAt_36 : decode b_MO_yearAt 36 = .ok (.lsub, 1) := by decide +kernel
theorem d_MO_yearAt_37 : decode b_MO_yearAt 37 = .ok (.lload_n 2, 1) := by decide +kernel
theorem d_MO_yearAt_38 : decode b_MO_yearAt 38 = .ok (.ldc2_w 157, 3) := by decide +kernel
theorem d_MO_yearAt_41 : decode b_MO_yearAt 41 = .ok (.invokestatic 147, 3) := by decide +kernel
theorem d_MO_yearAt_44 : decode b_MO_yearAt 44 = .ok (.ldc2_w 145, 3) := by decide +kernel
theorem d_MO_yearAt_47 : decode b_MO_yearAt 47 = .ok (.lsub, 1) := by decide +kernel
theorem d_MO_yearAt_48 : decode b_MO_yearAt 48 = .ok (.ladd, 1) := by decide +kernel
theorem d_MO_yearAt_49 : decode b_MO_yearAt 49 = .ok (.lreturn, 1) := by decide +kernel
theorem d_MO_isLeap_0 : decode b_MO_isLeap 0 = .ok (.lload_n 0, 1) := by decide +kernel
theorem d_MO_isLeap_1 : decode b_MO_isLeap 1 = .ok (.ldc2_w 145, 3) := by decide +kernel
theorem d_MO_isLeap_4 : decode b_MO_isLeap 4 = .ok (.lrem, 1) := by decide +kernel
theorem d_MO_isLeap_5 : decode b_MO_isLeap 5 = .ok (.lconst 0, 1) := by decide +kernel
theorem d_MO_isLeap_6 : decode b_MO_isLeap 6 = .ok (.lcmp, 1) := by decide +kernel
theorem d_MO_isLeap_7 : decode b_MO_isLeap 7 = .ok (.ifCond .ne 27, 3) := by decide +kernel
theorem d_MO_isLeap_10 : decode b_MO_isLeap 10 = .ok (.lload_n 0, 1) := by decide +kernel
theorem d_MO_isLeap_11 : decode b_MO_isLeap 11 = .ok (.ldc2_w 153, 3) := by decide +kernel
theorem d_MO_isLeap_14 : decode b_MO_isLeap 14 = .ok (.lrem, 1) := by decide +kernel
theorem d_MO_isLeap_15 : decode b_MO_isLeap 15 = .ok (.lconst 0, 1) := by decide +kernel
theorem d_MO_isLeap_16 : decode b_MO_isLeap 16 = .ok (.lcmp, 1) := by decide +kernel
theorem d_MO_isLeap_17 : decode b_MO_isLeap 17 = .ok (.ifCond .ne 13, 3) := by decide +kernel
theorem d_MO_isLeap_20 : decode b_MO_isLeap 20 = .ok (.lload_n 0, 1) := by decide +kernel
theorem d_MO_isLeap_21 : decode b_MO_isLeap 21 = .ok (.ldc2_w 157, 3) := by decide +kernel
theorem d_MO_isLeap_24 : decode b_MO_isLeap 24 = .ok (.lrem, 1) := by decide +kernel
theorem d_MO_isLeap_25 : decode b_MO_isLeap 25 = .ok (.lconst 0, 1) := by decide +kernel
theorem d_MO_isLeap_26 : decode b_MO_isLeap 26 = .ok (.lcmp, 1) := by decide +kernel
theorem d_MO_isLeap_27 : decode b_MO_isLeap 27 = .ok (.ifCond .ne 7, 3) := by decide +kernel
theorem d_MO_isLeap_30 : decode b_MO_isLeap 30 = .ok (.iconst 1, 1) := by decide +kernel
theorem d_MO_isLeap_31 : decode b_MO_isLeap 31 = .ok (.goto 4, 3) := by decide +kernel
theorem d_MO_isLeap_34 : decode b_MO_isLeap 34 = .ok (.iconst 0, 1) := by decide +kernel
theorem d_MO_isLeap_35 : decode b_MO_isLeap 35 = .ok (.ireturn, 1) := by decide +kernel
theorem d_MO_daysIn_0 : decode b_MO_daysIn 0 = .ok (.iload_n 2, 1) := by decide +kernel
theorem d_MO_daysIn_1 : decode b_MO_daysIn 1 = .ok (.iconst 1, 1) := by decide +kernel
theorem d_MO_daysIn_2 : decode b_MO_daysIn 2 = .ok (.if_icmp .ne 20, 3) := by decide +kernel
theorem d_MO_daysIn_5 : decode b_MO_daysIn 5 = .ok (.lload_n 0, 1) := by decide +kernel
theorem d_MO_daysIn_6 : decode b_MO_daysIn 6 = .ok (.invokestatic 159, 3) := by decide +kernel
theorem d_MO_daysIn_9 : decode b_MO_daysIn 9 = .ok (.ifCond .eq 8, 3) := by decide +kernel
theorem d_MO_daysIn_12 : decode b_MO_daysIn 12 = .ok (.bipush 29, 2) := by decide +kernel
theorem d_MO_daysIn_14 : decode b_MO_daysIn 14 = .ok (.goto 37, 3) := by decide +kernel
theorem d_MO_daysIn_17 : decode b_MO_daysIn 17 = .ok (.bipush 28, 2) := by decide +kernel
theorem d_MO_daysIn_19 : decode b_MO_daysIn 19 = .ok (.goto 32, 3) := by decide +kernel
theorem d_MO_daysIn_22 : decode b_MO_daysIn 22 = .ok (.iload_n 2, 1) := by decide +kernel
theorem d_MO_daysIn_23 : decode b_MO_daysIn 23 = .ok (.iconst 3, 1) := by decide +kernel
theorem d_MO_daysIn_24 : decode b_MO_daysIn 24 = .ok (.if_icmp .eq 20, 3) := by decide +kernel
theorem d_MO_daysIn_27 : decode b_MO_daysIn 27 = .ok (.iload_n 2, 1) := by decide +kernel
theorem d_MO_daysIn_28 : decode b_MO_daysIn 28 = .ok (.iconst 5, 1) := by decide +kernel
theorem d_MO_daysIn_29 : decode b_MO_daysIn 29 = .ok (.if_icmp .eq 15, 3) := by decide +kernel
theorem d_MO_daysIn_32 : decode b_MO_daysIn 32 = .ok (.iload_n 2, 1) := by decide +kernel
theorem d_MO_daysIn_33 : decode b_MO_daysIn 33 = .ok (.bipush 8, 2) := by decide +kernel
theorem d_MO_daysIn_35 : decode b_MO_daysIn 35 = .ok (.if_icmp .eq 9, 3) := by decide +kernel
theorem d_MO_daysIn_38 : decode b_MO_daysIn 38 = .ok (.iload_n 2, 1) := by decide +kernel
theorem d_MO_daysIn_39 : decode b_MO_daysIn 39 = .ok (.bipush 10, 2) := by decide +kernel
theorem d_MO_daysIn_41 : decode b_MO_daysIn 41 = .ok (.if_icmp .ne 8, 3) := by decide +kernel
theorem d_MO_daysIn_44 : decode b_MO_daysIn 44 = .ok (.bipush 30, 2) := by decide +kernel
theorem d_MO_daysIn_46 : decode b_MO_daysIn 46 = .ok (.goto 5, 3) := by decide +kernel
theorem d_MO_daysIn_49 : decode b_MO_daysIn 49 = .ok (.bipush 31, 2) := by decide +kernel
theorem d_MO_daysIn_51 : decode b_MO_daysIn 51 = .ok (.ireturn, 1) := by decide +kernel
theorem d_MO_monthAt_0 : decode b_MO_monthAt 0 = .ok (.lload_n 0, 1) := by decide +kernel
theorem d_MO_monthAt_1 : decode b_MO_monthAt 1 = .ok (.ldc2_w 163, 3) := by decide +kernel
theorem d_MO_monthAt_4 : decode b_MO_monthAt 4 = .ok (.invokestatic 147, 3) := by decide +kernel
theorem d_MO_monthAt_7 : decode b_MO_monthAt 7 = .ok (.lstore_n 2, 1) := by decide +kernel
theorem d_MO_monthAt_8 : decode b_MO_monthAt 8 = .ok (.ldc2_w 143, 3) := by decide +kernel
theorem d_MO_monthAt_11 : decode b_MO_monthAt 11 = .ok (.lload_n 2, 1) := by decide +kernel
theorem d_MO_monthAt_12 : decode b_MO_monthAt 12 = .ok (.ladd, 1) := by decide +kernel
theorem d_MO_monthAt_13 : decode b_MO_monthAt 13 = .ok (.invokestatic 165, 3) := by decide +kernel
theorem d_MO_monthAt_16 : decode b_MO_monthAt 16 = .ok (.lstore 4, 2) := by decide +kernel
theorem d_MO_monthAt_18 : decode b_MO_monthAt 18 = .ok (.lload_n 0, 1) := by decide +kernel
theorem d_MO_monthAt_19 : decode b_MO_monthAt 19 = .ok (.ldc2_w 163, 3) := by decide +kernel
theorem d_MO_monthAt_22 : decode b_MO_monthAt 22 = .ok (.lload_n 2, 1) := by decide +kernel
theorem d_MO_monthAt_23 : decode b_MO_monthAt 23 = .ok (.lmul, 1) := by decide +kernel
theorem d_MO_monthAt_24 : decode b_MO_monthAt 24 = .ok (.lsub, 1) := by decide +kernel
theorem d_MO_monthAt_25 : decode b_MO_monthAt 25 = .ok (.l2i, 1) := by decide +kernel
theorem d_MO_monthAt_26 : decode b_MO_monthAt 26 = .ok (.istore 6, 2) := by decide +kernel
theorem d_MO_monthAt_28 : decode b_MO_monthAt 28 = .ok (.iconst 0, 1) := by decide +kernel
theorem d_MO_monthAt_29 : decode b_MO_monthAt 29 = .ok (.istore 7, 2) := by decide +kernel
theorem d_MO_monthAt_31 : decode b_MO_monthAt 31 = .ok (.iload 7, 2) := by decide +kernel
theorem d_MO_monthAt_33 : decode b_MO_monthAt 33 = .ok (.iload 6, 2) := by decide +kernel
theorem d_MO_monthAt_35 : decode b_MO_monthAt 35 = .ok (.if_icmp .ge 25, 3) := by decide +kernel
theorem d_MO_monthAt_38 : decode b_MO_monthAt 38 = .ok (.lload 4, 2) := by decide +kernel
theorem d_MO_monthAt_40 : decode b_MO_monthAt 40 = .ok (.ldc2_w 143, 3) := by decide +kernel
theorem d_MO_monthAt_43 : decode b_MO_monthAt 43 = .ok (.lload_n 2, 1) := by decide +kernel
theorem d_MO_monthAt_44 : decode b_MO_monthAt 44 = .ok (.ladd, 1) := by decide +kernel
theorem d_MO_monthAt_45 : decode b_MO_monthAt 45 = .ok (.iload 7, 2) := by decide +kernel
theorem d_MO_monthAt_47 : decode b_MO_monthAt 47 = .ok (.invokestatic 169, 3) := by decide +kernel
theorem d_MO_monthAt_50 : decode b_MO_monthAt 50 = .ok (.i2l, 1) := by decide +kernel
theorem d_MO_monthAt_51 : decode b_MO_monthAt 51 = .ok (.ladd, 1) := by decide +kernel
theorem d_MO_monthAt_52 : decode b_MO_monthAt 52 = .ok (.lstore 4, 2) := by decide +kernel
theorem d_MO_monthAt_54 : decode b_MO_monthAt 54 = .ok (.iinc 7 1, 3) := by decide +kernel
theorem d_MO_monthAt_57 : decode b_MO_monthAt 57 = .ok (.goto (-26), 3) := by decide +kernel
theorem d_MO_monthAt_60 : decode b_MO_monthAt 60 = .ok (.lload 4, 2) := by decide +kernel
theorem d_MO_monthAt_62 : decode b_MO_monthAt 62 = .ok (.lreturn, 1) := by decide +kernel
theorem d_MO_monthOf_0 : decode b_MO_monthOf 0 = .ok (.lload_n 0, 1) := by decide +kernel
theorem d_MO_monthOf_1 : decode b_MO_monthOf 1 = .ok (.ldc2_w 153, 3) := by decide +kernel
theorem d_MO_monthOf_4 : decode b_MO_monthOf 4 = .ok (.lmul, 1) := by decide +kernel
theorem d_MO_monthOf_5 : decode b_MO_monthOf 5 = .ok (.ldc2_w 173, 3) := by decide +kernel
theorem d_MO_monthOf_8 : decode b_MO_monthOf 8 = .ok (.invokestatic 147, 3) := by decide +kernel
theorem d_MO_monthOf_11 : decode b_MO_monthOf 11 = .ok (.lstore_n 2, 1) := by decide +kernel
theorem d_MO_monthOf_12 : decode b_MO_monthOf 12 = .ok (.lload_n 2, 1) := by decide +kernel
theorem d_MO_monthOf_13 : decode b_MO_monthOf 13 = .ok (.invokestatic 175, 3) := by decide +kernel
theorem d_MO_monthOf_16 : decode b_MO_monthOf 16 = .ok (.lload_n 0, 1) := by decide +kernel
theorem d_MO_monthOf_17 : decode b_MO_monthOf 17 = .ok (.lcmp, 1) := by decide +kernel
theorem d_MO_monthOf_18 : decode b_MO_monthOf 18 = .ok (.ifCond .le 10, 3) := by decide +kernel
theorem d_MO_monthOf_21 : decode b_MO_monthOf 21 = .ok (.lload_n 2, 1) := by decide +kernel
theorem d_MO_monthOf_22 : decode b_MO_monthOf 22 = .ok (.lconst 1, 1) := by decide +kernel
theorem d_MO_monthOf_23 : decode b_MO_monthOf 23 = .ok (.lsub, 1) := by decide +kernel
theorem d_MO_monthOf_24 : decode b_MO_monthOf 24 = .ok (.lstore_n 2, 1) := by decide +kernel
theorem d_MO_monthOf_25 : decode b_MO_monthOf 25 = .ok (.goto (-13), 3) := by decide +kernel
theorem d_MO_monthOf_28 : decode b_MO_monthOf 28 = .ok (.lload_n 2, 1) := by decide +kernel
theorem d_MO_monthOf_29 : decode b_MO_monthOf 29 = .ok (.lconst 1, 1) := by decide +kernel
theorem d_MO_monthOf_30 : decode b_MO_monthOf 30 = .ok (.ladd, 1) := by decide +kernel
theorem d_MO_monthOf_31 : decode b_MO_monthOf 31 = .ok (.invokestatic 175, 3) := by decide +kernel
theorem d_MO_monthOf_34 : decode b_MO_monthOf 34 = .ok (.lload_n 0, 1) := by decide +kernel
theorem d_MO_monthOf_35 : decode b_MO_monthOf 35 = .ok (.lcmp, 1) := by decide +kernel
theorem d_MO_monthOf_36 : decode b_MO_monthOf 36 = .ok (.ifCond .gt 10, 3) := by decide +kernel
theorem d_MO_monthOf_39 : decode b_MO_monthOf 39 = .ok (.lload_n 2, 1) := by decide +kernel
theorem d_MO_monthOf_40 : decode b_MO_monthOf 40 = .ok (.lconst 1, 1) := by decide +kernel
theorem d_MO_monthOf_41 : decode b_MO_monthOf 41 = .ok (.ladd, 1) := by decide +kernel
theorem d_MO_monthOf_42 : decode b_MO_monthOf 42 = .ok (.lstore_n 2, 1) := by decide +kernel
theorem d_MO_monthOf_43 : decode b_MO_monthOf 43 = .ok (.goto (-15), 3) := by decide +kernel
theorem d_MO_monthOf_46 : decode b_MO_monthOf 46 = .ok (.lload_n 2, 1) := by decide +kernel
theorem d_MO_monthOf_47 : decode b_MO_monthOf 47 = .ok (.lreturn, 1) := by decide +kernel
theorem d_MO_month_0 : decode b_MO_month 0 = .ok (.aload_n 0, 1) := by decide +kernel
theorem d_MO_month_1 : decode b_MO_month 1 = .ok (.iconst 0, 1) := by decide +kernel
theorem d_MO_month_2 : decode b_MO_month 2 = .ok (.putfield 104, 3) := by decide +kernel
theorem d_MO_month_5 : decode b_MO_month 5 = .ok (.iload_n 1, 1) := by decide +kernel
theorem d_MO_month_6 : decode b_MO_month 6 = .ok (.i2l, 1) := by decide +kernel
theorem d_MO_month_7 : decode b_MO_month 7 = .ok (.ldc2_w 178, 3) := by decide +kernel
theorem d_MO_month_10 : decode b_MO_month 10 = .ok (.ldc2_w 180, 3) := by decide +kernel
theorem d_MO_month_13 : decode b_MO_month 13 = .ok (.invokestatic 111, 3) := by decide +kernel
theorem d_MO_month_16 : decode b_MO_month 16 = .ok (.ifCond .eq 12, 3) := by decide +kernel
theorem d_MO_month_19 : decode b_MO_month 19 = .ok (.iload_n 1, 1) := by decide +kernel
theorem d_MO_month_20 : decode b_MO_month 20 = .ok (.i2l, 1) := by decide +kernel
theorem d_MO_month_21 : decode b_MO_month 21 = .ok (.invokestatic 175, 3) := by decide +kernel
theorem d_MO_month_24 : decode b_MO_month 24 = .ok (.l2i, 1) := by decide +kernel
theorem d_MO_month_25 : decode b_MO_month 25 = .ok (.goto 5, 3) := by decide +kernel
theorem d_MO_month_28 : decode b_MO_month 28 = .ok (.ldc 182, 2) := by decide +kernel
theorem d_MO_month_30 : decode b_MO_month 30 = .ok (.ireturn, 1) := by decide +kernel
theorem d_MO_want_0 : decode b_MO_want 0 = .ok (.aload_n 0, 1) := by decide +kernel
theorem d_MO_want_1 : decode b_MO_want 1 = .ok (.getfield 77, 3) := by decide +kernel
theorem d_MO_want_4 : decode b_MO_want 4 = .ok (.aload_n 0, 1) := by decide +kernel
theorem d_MO_want_5 : decode b_MO_want 5 = .ok (.getfield 183, 3) := by decide +kernel
theorem d_MO_want_8 : decode b_MO_want 8 = .ok (.lload_n 1, 1) := by decide +kernel
theorem d_MO_want_9 : decode b_MO_want 9 = .ok (.lastore, 1) := by decide +kernel
theorem d_MO_want_10 : decode b_MO_want 10 = .ok (.aload_n 0, 1) := by decide +kernel
theorem d_MO_want_11 : decode b_MO_want 11 = .ok (.getfield 80, 3) := by decide +kernel
theorem d_MO_want_14 : decode b_MO_want 14 = .ok (.aload_n 0, 1) := by decide +kernel
theorem d_MO_want_15 : decode b_MO_want 15 = .ok (.getfield 183, 3) := by decide +kernel
theorem d_MO_want_18 : decode b_MO_want 18 = .ok (.lload_n 3, 1) := by decide +kernel
theorem d_MO_want_19 : decode b_MO_want 19 = .ok (.lastore, 1) := by decide +kernel
theorem d_MO_want_20 : decode b_MO_want 20 = .ok (.aload_n 0, 1) := by decide +kernel
theorem d_MO_want_21 : decode b_MO_want 21 = .ok (.dup, 1) := by decide +kernel
theorem d_MO_want_22 : decode b_MO_want 22 = .ok (.getfield 183, 3) := by decide +kernel
theorem d_MO_want_25 : decode b_MO_want 25 = .ok (.iconst 1, 1) := by decide +kernel
theorem d_MO_want_26 : decode b_MO_want 26 = .ok (.iadd, 1) := by decide +kernel
theorem d_MO_want_27 : decode b_MO_want 27 = .ok (.putfield 183, 3) := by decide +kernel
theorem d_MO_want_30 : decode b_MO_want 30 = .ok (.return_, 1) := by decide +kernel
theorem d_MO_beside_0 : decode b_MO_beside 0 = .ok (.aload_n 0, 1) := by decide +kernel
theorem d_MO_beside_1 : decode b_MO_beside 1 = .ok (.getfield 118, 3) := by decide +kernel
theorem d_MO_beside_4 : decode b_MO_beside 4 = .ok (.lload_n 3, 1) := by decide +kernel
theorem d_MO_beside_5 : decode b_MO_beside 5 = .ok (.lload_n 1, 1) := by decide +kernel
theorem d_MO_beside_6 : decode b_MO_beside 6 = .ok (.aload_n 0, 1) := by decide +kernel
theorem d_MO_beside_7 : decode b_MO_beside 7 = .ok (.getfield 118, 3) := by decide +kernel
theorem d_MO_beside_10 : decode b_MO_beside 10 = .ok (.lsub, 1) := by decide +kernel
theorem d_MO_beside_11 : decode b_MO_beside 11 = .ok (.lload_n 3, 1) := by decide +kernel
theorem d_MO_beside_12 : decode b_MO_beside 12 = .ok (.invokestatic 147, 3) := by decide +kernel
theorem d_MO_beside_15 : decode b_MO_beside 15 = .ok (.lmul, 1) := by decide +kernel
theorem d_MO_beside_16 : decode b_MO_beside 16 = .ok (.ladd, 1) := by decide +kernel
theorem d_MO_beside_17 : decode b_MO_beside 17 = .ok (.lstore 5, 2) := by decide +kernel
theorem d_MO_beside_19 : decode b_MO_beside 19 = .ok (.aload_n 0, 1) := by decide +kernel
theorem d_MO_beside_20 : decode b_MO_beside 20 = .ok (.lload 5, 2) := by decide +kernel
theorem d_MO_beside_22 : decode b_MO_beside 22 = .ok (.lload 5, 2) := by decide +kernel
theorem d_MO_beside_24 : decode b_MO_beside 24 = .ok (.lload_n 3, 1) := by decide +kernel
theorem d_MO_beside_25 : decode b_MO_beside 25 = .ok (.ladd, 1) := by decide +kernel
theorem d_MO_beside_26 : decode b_MO_beside 26 = .ok (.invokevirtual 186, 3) := by decide +kernel
theorem d_MO_beside_29 : decode b_MO_beside 29 = .ok (.return_, 1) := by decide +kernel
theorem d_MO_double0_0 : decode b_MO_double0 0 = .ok (.lload_n 1, 1) := by decide +kernel
theorem d_MO_double0_1 : decode b_MO_double0 1 = .ok (.lconst 0, 1) := by decide +kernel
theorem d_MO_double0_2 : decode b_MO_double0 2 = .ok (.lcmp, 1) := by decide +kernel
theorem d_MO_double0_3 : decode b_MO_double0 3 = .ok (.ifCond .ge 8, 3) := by decide +kernel
theorem d_MO_double0_6 : decode b_MO_double0 6 = .ok (.lload_n 1, 1) := by decide +kernel
theorem d_MO_double0_7 : decode b_MO_double0 7 = .ok (.lneg, 1) := by decide +kernel
theorem d_MO_double0_8 : decode b_MO_double0 8 = .ok (.goto 4, 3) := by decide +kernel
theorem d_MO_double0_11 : decode b_MO_double0 11 = .ok (.lload_n 1, 1) := by decide +kernel
theorem d_MO_double0_12 : decode b_MO_double0 12 = .ok (.lstore_n 3, 1) := by decide +kernel
theorem d_MO_double0_13 : decode b_MO_double0 13 = .ok (.lconst 1, 1) := by decide +kernel
theorem d_MO_double0_14 : decode b_MO_double0 14 = .ok (.lstore 5, 2) := by decide +kernel
theorem d_MO_double0_16 : decode b_MO_double0 16 = .ok (.lload_n 1, 1) := by decide +kernel
theorem d_MO_double0_17 : decode b_MO_double0 17 = .ok (.lconst 0, 1) := by decide +kernel
theorem d_MO_double0_18 : decode b_MO_double0 18 = .ok (.lcmp, 1) := by decide +kernel
theorem d_MO_double0_19 : decode b_MO_double0 19 = .ok (.ifCond .lt 56, 3) := by decide +kernel
theorem d_MO_double0_22 : decode b_MO_double0 22 = .ok (.lload 5, 2) := by decide +kernel
theorem d_MO_double0_24 : decode b_MO_double0 24 = .ok (.lload_n 3, 1) := by decide +kernel
theorem d_MO_double0_25 : decode b_MO_double0 25 = .ok (.lcmp, 1) := by decide +kernel
theorem d_MO_double0_26 : decode b_MO_double0 26 = .ok (.ifCond .gt 14, 3) := by decide +kernel
theorem d_MO_double0_29 : decode b_MO_double0 29 = .ok (.lload 5, 2) := by decide +kernel
theorem d_MO_double0_31 : decode b_MO_double0 31 = .ok (.ldc2_w 132, 3) := by decide +kernel
theorem d_MO_double0_34 : decode b_MO_double0 34 = .ok (.lmul, 1) := by decide +kernel
theorem d_MO_double0_35 : decode b_MO_double0 35 = .ok (.lstore 5, 2) := by decide +kernel
theorem d_MO_double0_37 : decode b_MO_double0 37 = .ok (.goto (-15), 3) := by decide +kernel
theorem d_MO_double0_40 : decode b_MO_double0 40 = .ok (.aload_n 0, 1) := by decide +kernel
theorem d_MO_double0_41 : decode b_MO_double0 41 = .ok (.aload_n 0, 1) := by decide +kernel
theorem d_MO_double0_42 : decode b_MO_double0 42 = .ok (.getfield 118, 3) := by decide +kernel
theorem d_MO_double0_45 : decode b_MO_double0 45 = .ok (.lload_n 3, 1) := by decide +kernel
theorem d_MO_double0_46 : decode b_MO_double0 46 = .ok (.lconst 0, 1) := by decide +kernel
theorem d_MO_double0_47 : decode b_MO_double0 47 = .ok (.lcmp, 1) := by decide +kernel
theorem d_MO_double0_48 : decode b_MO_double0 48 = .ok (.ifCond .ne 7, 3) := by decide +kernel
theorem d_MO_double0_51 : decode b_MO_double0 51 = .ok (.lconst 0, 1) := by decide +kernel
theorem d_MO_double0_52 : decode b_MO_double0 52 = .ok (.goto 9, 3) := by decide +kernel
theorem d_MO_double0_55 : decode b_MO_double0 55 = .ok (.lload 5, 2) := by decide +kernel
theorem d_MO_double0_57 : decode b_MO_double0 57 = .ok (.ldc2_w 132, 3) := by decide +kernel
theorem d_MO_double0_60 : decode b_MO_double0 60 = .ok (.ldiv, 1) := by decide +kernel
theorem d_MO_double0_61 : decode b_MO_double0 61 = .ok (.ladd, 1) := by decide +kernel
theorem d_MO_double0_62 : decode b_MO_double0 62 = .ok (.aload_n 0, 1) := by decide +kernel
theorem d_MO_double0_63 : decode b_MO_double0 63 = .ok (.getfield 118, 3) := by decide +kernel
theorem d_MO_double0_66 : decode b_MO_double0 66 = .ok (.lload 5, 2) := by decide +kernel
theorem d_MO_double0_68 : decode b_MO_double0 68 = .ok (.ladd, 1) := by decide +kernel
theorem d_MO_double0_69 : decode b_MO_double0 69 = .ok (.invokevirtual 186, 3) := by decide +kernel
theorem d_MO_double0_72 : decode b_MO_double0 72 = .ok (.goto 53, 3) := by decide +kernel
theorem d_MO_double0_75 : decode b_MO_double0 75 = .ok (.lload 5, 2) := by decide +kernel
theorem d_MO_double0_77 : decode b_MO_double0 77 = .ok (.lload_n 3, 1) := by decide +kernel
theorem d_MO_double0_78 : decode b_MO_double0 78 = .ok (.lcmp, 1) := by decide +kernel
theorem d_MO_double0_79 : decode b_MO_double0 79 = .ok (.ifCond .ge 14, 3) := by decide +kernel
theorem d_MO_double0_82 : decode b_MO_double0 82 = .ok (.lload 5, 2) := by decide +kernel
theorem d_MO_double0_84 : decode b_MO_double0 84 = .ok (.ldc2_w 132, 3) := by decide +kernel
theorem d_MO_double0_87 : decode b_MO_double0 87 = .ok (.lmul, 1) := by decide +kernel
theorem d_MO_double0_88 : decode b_MO_double0 88 = .ok (.lstore 5, 2) := by decide +kernel
theorem d_MO_double0_90 : decode b_MO_double0 90 = .ok (.goto (-15), 3) := by decide +kernel
theorem d_MO_double0_93 : decode b_MO_double0 93 = .ok (.aload_n 0, 1) := by decide +kernel
theorem d_MO_double0_94 : decode b_MO_double0 94 = .ok (.aload_n 0, 1) := by decide +kernel
theorem d_MO_double0_95 : decode b_MO_double0 95 = .ok (.getfield 118, 3) := by decide +kernel
theorem d_MO_double0_98 : decode b_MO_double0 98 = .ok (.lload 5, 2) := by decide +kernel
theorem d_MO_double0_100 : decode b_MO_double0 100 = .ok (.lsub, 1) := by decide +kernel
theorem d_MO_double0_101 : decode b_MO_double0 101 = .ok (.aload_n 0, 1) := by decide +kernel
theorem d_MO_double0_102 : decode b_MO_double0 102 = .ok (.getfield 118, 3) := by decide +kernel
theorem d_MO_double0_105 : decode b_MO_double0 105 = .ok (.lload_n 3, 1) := by decide +kernel
theorem d_MO_double0_106 : decode b_MO_double0 106 = .ok (.lconst 1, 1) := by decide +kernel
theorem d_MO_double0_107 : decode b_MO_double0 107 = .ok (.lcmp, 1) := by decide +kernel
theorem d_MO_double0_108 : decode b_MO_double0 108 = .ok (.ifCond .ne 7, 3) := by decide +kernel
theorem d_MO_double0_111 : decode b_MO_double0 111 = .ok (.lconst 0, 1) := by decide +kernel
theorem d_MO_double0_112 : decode b_MO_double0 112 = .ok (.goto 9, 3) := by decide +kernel
theorem d_MO_double0_115 : decode b_MO_double0 115 = .ok (.lload 5, 2) := by decide +kernel
theorem d_MO_double0_117 : decode b_MO_double0 117 = .ok (.ldc2_w 132, 3) := by decide +kernel
theorem d_MO_double0_120 : decode b_MO_double0 120 = .ok (.ldiv, 1) := by decide +kernel
theorem d_MO_double0_121 : decode b_MO_double0 121 = .ok (.lsub, 1) := by decide +kernel
theorem d_MO_double0_122 : decode b_MO_double0 122 = .ok (.invokevirtual 186, 3) := by decide +kernel
theorem d_MO_double0_125 : decode b_MO_double0 125 = .ok (.return_, 1) := by decide +kernel
theorem d_MO_wantFor_0 : decode b_MO_wantFor 0 = .ok (.aload_n 0, 1) := by decide +kernel
theorem d_MO_wantFor_1 : decode b_MO_wantFor 1 = .ok (.iconst 0, 1) := by decide +kernel
theorem d_MO_wantFor_2 : decode b_MO_wantFor 2 = .ok (.putfield 183, 3) := by decide +kernel
theorem d_MO_wantFor_5 : decode b_MO_wantFor 5 = .ok (.aload_n 0, 1) := by decide +kernel
theorem d_MO_wantFor_6 : decode b_MO_wantFor 6 = .ok (.getfield 93, 3) := by decide +kernel
theorem d_MO_wantFor_9 : decode b_MO_wantFor 9 = .ok (.ifCond .ne 16, 3) := by decide +kernel
theorem d_MO_wantFor_12 : decode b_MO_wantFor 12 = .ok (.aload_n 0, 1) := by decide +kernel
theorem d_MO_wantFor_13 : decode b_MO_wantFor 13 = .ok (.lload_n 1, 1) := by decide +kernel
theorem d_MO_wantFor_14 : decode b_MO_wantFor 14 = .ok (.aload_n 0, 1) := by decide +kernel
theorem d_MO_wantFor_15 : decode b_MO_wantFor 15 = .ok (.getfield 98, 3) := by decide +kernel
theorem d_MO_wantFor_18 : decode b_MO_wantFor 18 = .ok (.i2l, 1) := by decide +kernel
theorem d_MO_wantFor_19 : decode b_MO_wantFor 19 = .ok (.invokevirtual 190, 3) := by decide +kernel
theorem d_MO_wantFor_22 : decode b_MO_wantFor 22 = .ok (.goto 356, 3) := by decide +kernel
theorem d_MO_wantFor_25 : decode b_MO_wantFor 25 = .ok (.aload_n 0, 1) := by decide +kernel
theorem d_MO_wantFor_26 : decode b_MO_wantFor 26 = .ok (.getfield 93, 3) := by decide +kernel
theorem d_MO_wantFor_29 : decode b_MO_wantFor 29 = .ok (.iconst 1, 1) := by decide +kernel
theorem d_MO_wantFor_30 : decode b_MO_wantFor 30 = .ok (.if_icmp .ne 124, 3) := by decide +kernel
theorem d_MO_wantFor_33 : decode b_MO_wantFor 33 = .ok (.lload_n 1, 1) := by decide +kernel
theorem d_MO_wantFor_34 : decode b_MO_wantFor 34 = .ok (.aload_n 0, 1) := by decide +kernel
theorem d_MO_wantFor_35 : decode b_MO_wantFor 35 = .ok (.getfield 118, 3) := by decide +kernel
theorem d_MO_wantFor_38 : decode b_MO_wantFor 38 = .ok (.lsub, 1) := by decide +kernel
theorem d_MO_wantFor_39 : decode b_MO_wantFor 39 = .ok (.aload_n 0, 1) := by decide +kernel
theorem d_MO_wantFor_40 : decode b_MO_wantFor 40 = .ok (.getfield 101, 3) := by decide +kernel
theorem d_MO_wantFor_43 : decode b_MO_wantFor 43 = .ok (.i2l, 1) := by decide +kernel
theorem d_MO_wantFor_44 : decode b_MO_wantFor 44 = .ok (.invokestatic 147, 3) := by decide +kernel
theorem d_MO_wantFor_47 : decode b_MO_wantFor 47 = .ok (.lstore 5, 2) := by decide +kernel
theorem d_MO_wantFor_49 : decode b_MO_wantFor 49 = .ok (.lload 5, 2) := by decide +kernel
theorem d_MO_wantFor_51 : decode b_MO_wantFor 51 = .ok (.lstore 7, 2) := by decide +kernel
theorem d_MO_wantFor_53 : decode b_MO_wantFor 53 = .ok (.aload_n 0, 1) := by decide +kernel
theorem d_MO_wantFor_54 : decode b_MO_wantFor 54 = .ok (.getfield 118, 3) := by decide +kernel
theorem d_MO_wantFor_57 : decode b_MO_wantFor 57 = .ok (.aload_n 0, 1) := by decide +kernel
theorem d_MO_wantFor_58 : decode b_MO_wantFor 58 = .ok (.getfield 101, 3) := by decide +kernel
theorem d_MO_wantFor_61 : decode b_MO_wantFor 61 = .ok (.i2l, 1) := by decide +kernel
theorem d_MO_wantFor_62 : decode b_MO_wantFor 62 = .ok (.lload 7, 2) := by decide +kernel
theorem d_MO_wantFor_64 : decode b_MO_wantFor 64 = .ok (.lconst 1, 1) := by decide +kernel
theorem d_MO_wantFor_65 : decode b_MO_wantFor 65 = .ok (.lsub, 1) := by decide +kernel
theorem d_MO_wantFor_66 : decode b_MO_wantFor 66 = .ok (.lmul, 1) := by decide +kernel
theorem d_MO_wantFor_67 : decode b_MO_wantFor 67 = .ok (.ladd, 1) := by decide +kernel
theorem d_MO_wantFor_68 : decode b_MO_wantFor 68 = .ok (.aload_n 0, 1) := by decide +kernel
theorem d_MO_wantFor_69 : decode b_MO_wantFor 69 = .ok (.getfield 98, 3) := by decide +kernel
theorem d_MO_wantFor_72 : decode b_MO_wantFor 72 = .ok (.i2l, 1) := by decide +kernel
theorem d_MO_wantFor_73 : decode b_MO_wantFor 73 = .ok (.ladd, 1) := by decide +kernel
theorem d_MO_wantFor_74 : decode b_MO_wantFor 74 = .ok (.lload_n 1, 1) := by decide +kernel
theorem d_MO_wantFor_75 : decode b_MO_wantFor 75 = .ok (.lcmp, 1) := by decide +kernel
theorem d_MO_wantFor_76 : decode b_MO_wantFor 76 = .ok (.ifCond .le 12, 3) := by decide +kernel
theorem d_MO_wantFor_79 : decode b_MO_wantFor 79 = .ok (.lload 7, 2) := by decide +kernel
theorem d_MO_wantFor_81 : decode b_MO_wantFor 81 = .ok (.lconst 1, 1) := by decide +kernel
theorem d_MO_wantFor_82 : decode b_MO_wantFor 82 = .ok (.lsub, 1) := by decide +kernel
theorem d_MO_wantFor_83 : decode b_MO_wantFor 83 = .ok (.lstore 7, 2) := by decide +kernel
theorem d_MO_wantFor_85 : decode b_MO_wantFor 85 = .ok (.goto (-32), 3) := by decide +kernel
theorem d_MO_wantFor_88 : decode b_MO_wantFor 88 = .ok (.lload 7, 2) := by decide +kernel
theorem d_MO_wantFor_90 : decode b_MO_wantFor 90 = .ok (.lstore 9, 2) := by decide +kernel
theorem d_MO_wantFor_92 : decode b_MO_wantFor 92 = .ok (.lload 9, 2) := by decide +kernel
theorem d_MO_wantFor_94 : decode b_MO_wantFor 94 = .ok (.lload 5, 2) := by decide +kernel
theorem d_MO_wantFor_96 : decode b_MO_wantFor 96 = .ok (.lcmp, 1) := by decide +kernel
theorem d_MO_wantFor_97 : decode b_MO_wantFor 97 = .ok (.ifCond .gt 54, 3) := by decide +kernel
theorem d_MO_wantFor_100 : decode b_MO_wantFor 100 = .ok (.aload_n 0, 1) := by decide +kernel
theorem d_MO_wantFor_101 : decode b_MO_wantFor 101 = .ok (.getfield 118, 3) := by decide +kernel
theorem d_MO_wantFor_104 : decode b_MO_wantFor 104 = .ok (.aload_n 0, 1) := by decide +kernel
theorem d_MO_wantFor_105 : decode b_MO_wantFor 105 = .ok (.getfield 101, 3) := by decide +kernel
theorem d_MO_wantFor_108 : decode b_MO_wantFor 108 = .ok (.i2l, 1) := by decide +kernel
theorem d_MO_wantFor_109 : decode b_MO_wantFor 109 = .ok (.lload 9, 2) := by decide +kernel
theorem d_MO_wantFor_111 : decode b_MO_wantFor 111 = .ok (.lmul, 1) := by decide +kernel
theorem d_MO_wantFor_112 : decode b_MO_wantFor 112 = .ok (.ladd, 1) := by decide +kernel
theorem d_MO_wantFor_113 : decode b_MO_wantFor 113 = .ok (.lstore 11, 2) := by decide +kernel
theorem d_MO_wantFor_115 : decode b_MO_wantFor 115 = .ok (.lload 11, 2) := by decide +kernel
theorem d_MO_wantFor_117 : decode b_MO_wantFor 117 = .ok (.aload_n 0, 1) := by decide +kernel
theorem d_MO_wantFor_118 : decode b_MO_wantFor 118 = .ok (.getfield 98, 3) := by decide +kernel
theorem d_MO_wantFor_121 : decode b_MO_wantFor 121 = .ok (.i2l, 1) := by decide +kernel
theorem d_MO_wantFor_122 : decode b_MO_wantFor 122 = .ok (.ladd, 1) := by decide +kernel
theorem d_MO_wantFor_123 : decode b_MO_wantFor 123 = .ok (.lload_n 1, 1) := by decide +kernel
theorem d_MO_wantFor_124 : decode b_MO_wantFor 124 = .ok (.lcmp, 1) := by decide +kernel
theorem d_MO_wantFor_125 : decode b_MO_wantFor 125 = .ok (.ifCond .le 17, 3) := by decide +kernel
theorem d_MO_wantFor_128 : decode b_MO_wantFor 128 = .ok (.aload_n 0, 1) := by decide +kernel
theorem d_MO_wantFor_129 : decode b_MO_wantFor 129 = .ok (.lload 11, 2) := by decide +kernel
theorem d_MO_wantFor_131 : decode b_MO_wantFor 131 = .ok (.lload 11, 2) := by decide +kernel
theorem d_MO_wantFor_133 : decode b_MO_wantFor 133 = .ok (.aload_n 0, 1) := by decide +kernel
theorem d_MO_wantFor_134 : decode b_MO_wantFor 134 = .ok (.getfield 98, 3) := by decide +kernel
theorem d_MO_wantFor_137 : decode b_MO_wantFor 137 = .ok (.i2l, 1) := by decide +kernel
theorem d_MO_wantFor_138 : decode b_MO_wantFor 138 = .ok (.ladd, 1) := by decide +kernel
theorem d_MO_wantFor_139 : decode b_MO_wantFor 139 = .ok (.invokevirtual 186, 3) := by decide +kernel
theorem d_MO_wantFor_142 : decode b_MO_wantFor 142 = .ok (.lload 9, 2) := by decide +kernel
theorem d_MO_wantFor_144 : decode b_MO_wantFor 144 = .ok (.lconst 1, 1) := by decide +kernel
theorem d_MO_wantFor_145 : decode b_MO_wantFor 145 = .ok (.ladd, 1) := by decide +kernel
theorem d_MO_wantFor_146 : decode b_MO_wantFor 146 = .ok (.lstore 9, 2) := by decide +kernel
theorem d_MO_wantFor_148 : decode b_MO_wantFor 148 = .ok (.goto (-56), 3) := by decide +kernel
theorem d_MO_wantFor_151 : decode b_MO_wantFor 151 = .ok (.goto 227, 3) := by decide +kernel
theorem d_MO_wantFor_154 : decode b_MO_wantFor 154 = .ok (.aload_n 0, 1) := by decide +kernel
theorem d_MO_wantFor_155 : decode b_MO_wantFor 155 = .ok (.getfield 93, 3) := by decide +kernel
theorem d_MO_wantFor_158 : decode b_MO_wantFor 158 = .ok (.iconst 2, 1) := by decide +kernel
theorem d_MO_wantFor_159 : decode b_MO_wantFor 159 = .ok (.if_icmp .ne 18, 3) := by decide +kernel
theorem d_MO_wantFor_162 : decode b_MO_wantFor 162 = .ok (.aload_n 0, 1) := by decide +kernel
theorem d_MO_wantFor_163 : decode b_MO_wantFor 163 = .ok (.lload_n 1, 1) := by decide +kernel
theorem d_MO_wantFor_164 : decode b_MO_wantFor 164 = .ok (.lload_n 1, 1) := by decide +kernel
theorem d_MO_wantFor_165 : decode b_MO_wantFor 165 = .ok (.aload_n 0, 1) := by decide +kernel
theorem d_MO_wantFor_166 : decode b_MO_wantFor 166 = .ok (.getfield 98, 3) := by decide +kernel
theorem d_MO_wantFor_169 : decode b_MO_wantFor 169 = .ok (.i2l, 1) := by decide +kernel
theorem d_MO_wantFor_170 : decode b_MO_wantFor 170 = .ok (.ladd, 1) := by decide +kernel
theorem d_MO_wantFor_171 : decode b_MO_wantFor 171 = .ok (.invokevirtual 186, 3) := by decide +kernel
theorem d_MO_wantFor_174 : decode b_MO_wantFor 174 = .ok (.goto 204, 3) := by decide +kernel
theorem d_MO_wantFor_177 : decode b_MO_wantFor 177 = .ok (.aload_n 0, 1) := by decide +kernel
theorem d_MO_wantFor_178 : decode b_MO_wantFor 178 = .ok (.getfield 93, 3) := by decide +kernel
theorem d_MO_wantFor_181 : decode b_MO_wantFor 181 = .ok (.iconst 4, 1) := by decide +kernel
theorem d_MO_wantFor_182 : decode b_MO_wantFor 182 = .ok (.if_icmp .ne 60, 3) := by decide +kernel
theorem d_MO_wantFor_185 : decode b_MO_wantFor 185 = .ok (.lload_n 1, 1) := by decide +kernel
theorem d_MO_wantFor_186 : decode b_MO_wantFor 186 = .ok (.invokestatic 193, 3) := by decide +kernel
theorem d_MO_wantFor_189 : decode b_MO_wantFor 189 = .ok (.lstore 5, 2) := by decide +kernel
theorem d_MO_wantFor_191 : decode b_MO_wantFor 191 = .ok (.aload_n 0, 1) := by decide +kernel
theorem d_MO_wantFor_192 : decode b_MO_wantFor 192 = .ok (.getfield 118, 3) := by decide +kernel
theorem d_MO_wantFor_195 : decode b_MO_wantFor 195 = .ok (.aload_n 0, 1) := by decide +kernel
theorem d_MO_wantFor_196 : decode b_MO_wantFor 196 = .ok (.getfield 98, 3) := by decide +kernel
theorem d_MO_wantFor_199 : decode b_MO_wantFor 199 = .ok (.i2l, 1) := by decide +kernel
theorem d_MO_wantFor_200 : decode b_MO_wantFor 200 = .ok (.lload 5, 2) := by decide +kernel
theorem d_MO_wantFor_202 : decode b_MO_wantFor 202 = .ok (.aload_n 0, 1) := by decide +kernel
theorem d_MO_wantFor_203 : decode b_MO_wantFor 203 = .ok (.getfield 118, 3) := by decide +kernel
theorem d_MO_wantFor_206 : decode b_MO_wantFor 206 = .ok (.lsub, 1) := by decide +kernel
theorem d_MO_wantFor_207 : decode b_MO_wantFor 207 = .ok (.aload_n 0, 1) := by decide +kernel
theorem d_MO_wantFor_208 : decode b_MO_wantFor 208 = .ok (.getfield 98, 3) := by decide +kernel
theorem d_MO_wantFor_211 : decode b_MO_wantFor 211 = .ok (.i2l, 1) := by decide +kernel
theorem d_MO_wantFor_212 : decode b_MO_wantFor 212 = .ok (.invokestatic 147, 3) := by decide +kernel
theorem d_MO_wantFor_215 : decode b_MO_wantFor 215 = .ok (.lmul, 1) := by decide +kernel
theorem d_MO_wantFor_216 : decode b_MO_wantFor 216 = .ok (.ladd, 1) := by decide +kernel
theorem d_MO_wantFor_217 : decode b_MO_wantFor 217 = .ok (.lstore 7, 2) := by decide +kernel
theorem d_MO_wantFor_219 : decode b_MO_wantFor 219 = .ok (.aload_n 0, 1) := by decide +kernel
theorem d_MO_wantFor_220 : decode b_MO_wantFor 220 = .ok (.lload 7, 2) := by decide +kernel
theorem d_MO_wantFor_222 : decode b_MO_wantFor 222 = .ok (.invokestatic 175, 3) := by decide +kernel
theorem d_MO_wantFor_225 : decode b_MO_wantFor 225 = .ok (.lload 7, 2) := by decide +kernel
theorem d_MO_wantFor_227 : decode b_MO_wantFor 227 = .ok (.aload_n 0, 1) := by decide +kernel
theorem d_MO_wantFor_228 : decode b_MO_wantFor 228 = .ok (.getfield 98, 3) := by decide +kernel
theorem d_MO_wantFor_231 : decode b_MO_wantFor 231 = .ok (.i2l, 1) := by decide +kernel
theorem d_MO_wantFor_232 : decode b_MO_wantFor 232 = .ok (.ladd, 1) := by decide +kernel
theorem d_MO_wantFor_233 : decode b_MO_wantFor 233 = .ok (.invokestatic 175, 3) := by decide +kernel
theorem d_MO_wantFor_236 : decode b_MO_wantFor 236 = .ok (.invokevirtual 186, 3) := by decide +kernel
theorem d_MO_wantFor_239 : decode b_MO_wantFor 239 = .ok (.goto 139, 3) := by decide +kernel
theorem d_MO_wantFor_242 : decode b_MO_wantFor 242 = .ok (.aload_n 0, 1) := by decide +kernel
theorem d_MO_wantFor_243 : decode b_MO_wantFor 243 = .ok (.getfield 134, 3) := by decide +kernel
theorem d_MO_wantFor_246 : decode b_MO_wantFor 246 = .ok (.ifCond .ne 87, 3) := by decide +kernel
theorem d_MO_wantFor_249 : decode b_MO_wantFor 249 = .ok (.aload_n 0, 1) := by decide +kernel
theorem d_MO_wantFor_250 : decode b_MO_wantFor 250 = .ok (.getfield 98, 3) := by decide +kernel
theorem d_MO_wantFor_253 : decode b_MO_wantFor 253 = .ok (.i2l, 1) := by decide +kernel
theorem d_MO_wantFor_254 : decode b_MO_wantFor 254 = .ok (.aload_n 0, 1) := by decide +kernel
theorem d_MO_wantFor_255 : decode b_MO_wantFor 255 = .ok (.getfield 101, 3) := by decide +kernel
theorem d_MO_wantFor_258 : decode b_MO_wantFor 258 = .ok (.i2l, 1) := by decide +kernel
theorem d_MO_wantFor_259 : decode b_MO_wantFor 259 = .ok (.ladd, 1) := by decide +kernel
theorem d_MO_wantFor_260 : decode b_MO_wantFor 260 = .ok (.lstore 5, 2) := by decide +kernel
theorem d_MO_wantFor_262 : decode b_MO_wantFor 262 = .ok (.aload_n 0, 1) := by decide +kernel
theorem d_MO_wantFor_263 : decode b_MO_wantFor 263 = .ok (.getfield 118, 3) := by decide +kernel
theorem d_MO_wantFor_266 : decode b_MO_wantFor 266 = .ok (.lload 5, 2) := by decide +kernel
theorem d_MO_wantFor_268 : decode b_MO_wantFor 268 = .ok (.lload_n 1, 1) := by decide +kernel
theorem d_MO_wantFor_269 : decode b_MO_wantFor 269 = .ok (.aload_n 0, 1) := by decide +kernel
theorem d_MO_wantFor_270 : decode b_MO_wantFor 270 = .ok (.getfield 118, 3) := by decide +kernel
theorem d_MO_wantFor_273 : decode b_MO_wantFor 273 = .ok (.lsub, 1) := by decide +kernel
theorem d_MO_wantFor_274 : decode b_MO_wantFor 274 = .ok (.lload 5, 2) := by decide +kernel
theorem d_MO_wantFor_276 : decode b_MO_wantFor 276 = .ok (.invokestatic 147, 3) := by decide +kernel
theorem d_MO_wantFor_279 : decode b_MO_wantFor 279 = .ok (.lmul, 1) := by decide +kernel
theorem d_MO_wantFor_280 : decode b_MO_wantFor 280 = .ok (.ladd, 1) := by decide +kernel
theorem d_MO_wantFor_281 : decode b_MO_wantFor 281 = .ok (.lstore 7, 2) := by decide +kernel
theorem d_MO_wantFor_283 : decode b_MO_wantFor 283 = .ok (.lload_n 1, 1) := by decide +kernel
theorem d_MO_wantFor_284 : decode b_MO_wantFor 284 = .ok (.lload 7, 2) := by decide +kernel
theorem d_MO_wantFor_286 : decode b_MO_wantFor 286 = .ok (.aload_n 0, 1) := by decide +kernel
theorem d_MO_wantFor_287 : decode b_MO_wantFor 287 = .ok (.getfield 98, 3) := by decide +kernel
theorem d_MO_wantFor_290 : decode b_MO_wantFor 290 = .ok (.i2l, 1) := by decide +kernel
theorem d_MO_wantFor_291 : decode b_MO_wantFor 291 = .ok (.ladd, 1) := by decide +kernel
theorem d_MO_wantFor_292 : decode b_MO_wantFor 292 = .ok (.lcmp, 1) := by decide +kernel
theorem d_MO_wantFor_293 : decode b_MO_wantFor 293 = .ok (.ifCond .ge 20, 3) := by decide +kernel
theorem d_MO_wantFor_296 : decode b_MO_wantFor 296 = .ok (.aload_n 0, 1) := by decide +kernel
theorem d_MO_wantFor_297 : decode b_MO_wantFor 297 = .ok (.lload 7, 2) := by decide +kernel
theorem d_MO_wantFor_299 : decode b_MO_wantFor 299 = .ok (.lload 7, 2) := by decide +kernel
theorem d_MO_wantFor_301 : decode b_MO_wantFor 301 = .ok (.aload_n 0, 1) := by decide +kernel
theorem d_MO_wantFor_302 : decode b_MO_wantFor 302 = .ok (.getfield 98, 3) := by decide +kernel
theorem d_MO_wantFor_305 : decode b_MO_wantFor 305 = .ok (.i2l, 1) := by decide +kernel
theorem d_MO_wantFor_306 : decode b_MO_wantFor 306 = .ok (.ladd, 1) := by decide +kernel
theorem d_MO_wantFor_307 : decode b_MO_wantFor 307 = .ok (.invokevirtual 186, 3) := by decide +kernel
theorem d_MO_wantFor_310 : decode b_MO_wantFor 310 = .ok (.goto 20, 3) := by decide +kernel
theorem d_MO_wantFor_313 : decode b_MO_wantFor 313 = .ok (.aload_n 0, 1) := by decide +kernel
theorem d_MO_wantFor_314 : decode b_MO_wantFor 314 = .ok (.lload 7, 2) := by decide +kernel
theorem d_MO_wantFor_316 : decode b_MO_wantFor 316 = .ok (.aload_n 0, 1) := by decide +kernel
theorem d_MO_wantFor_317 : decode b_MO_wantFor 317 = .ok (.getfield 98, 3) := by decide +kernel
theorem d_MO_wantFor_320 : decode b_MO_wantFor 320 = .ok (.i2l, 1) := by decide +kernel
theorem d_MO_wantFor_321 : decode b_MO_wantFor 321 = .ok (.ladd, 1) := by decide +kernel
theorem d_MO_wantFor_322 : decode b_MO_wantFor 322 = .ok (.lload 7, 2) := by decide +kernel
theorem d_MO_wantFor_324 : decode b_MO_wantFor 324 = .ok (.lload 5, 2) := by decide +kernel
theorem d_MO_wantFor_326 : decode b_MO_wantFor 326 = .ok (.ladd, 1) := by decide +kernel
theorem d_MO_wantFor_327 : decode b_MO_wantFor 327 = .ok (.invokevirtual 186, 3) := by decide +kernel
theorem d_MO_wantFor_330 : decode b_MO_wantFor 330 = .ok (.goto 48, 3) := by decide +kernel
theorem d_MO_wantFor_333 : decode b_MO_wantFor 333 = .ok (.aload_n 0, 1) := by decide +kernel
theorem d_MO_wantFor_334 : decode b_MO_wantFor 334 = .ok (.getfield 134, 3) := by decide +kernel
theorem d_MO_wantFor_337 : decode b_MO_wantFor 337 = .ok (.iconst 1, 1) := by decide +kernel
theorem d_MO_wantFor_338 : decode b_MO_wantFor 338 = .ok (.if_icmp .ne 30, 3) := by decide +kernel
theorem d_MO_wantFor_341 : decode b_MO_wantFor 341 = .ok (.aload_n 0, 1) := by decide +kernel
theorem d_MO_wantFor_342 : decode b_MO_wantFor 342 = .ok (.lload_n 1, 1) := by decide +kernel
theorem d_MO_wantFor_343 : decode b_MO_wantFor 343 = .ok (.lload_n 3, 1) := by decide +kernel
theorem d_MO_wantFor_344 : decode b_MO_wantFor 344 = .ok (.lconst 0, 1) := by decide +kernel
theorem d_MO_wantFor_345 : decode b_MO_wantFor 345 = .ok (.lcmp, 1) := by decide +kernel
theorem d_MO_wantFor_346 : decode b_MO_wantFor 346 = .ok (.ifCond .ge 11, 3) := by decide +kernel
theorem d_MO_wantFor_349 : decode b_MO_wantFor 349 = .ok (.aload_n 0, 1) := by decide +kernel
theorem d_MO_wantFor_350 : decode b_MO_wantFor 350 = .ok (.getfield 101, 3) := by decide +kernel
theorem d_MO_wantFor_353 : decode b_MO_wantFor 353 = .ok (.i2l, 1) := by decide +kernel
theorem d_MO_wantFor_354 : decode b_MO_wantFor 354 = .ok (.goto 8, 3) := by decide +kernel
theorem d_MO_wantFor_357 : decode b_MO_wantFor 357 = .ok (.aload_n 0, 1) := by decide +kernel
theorem d_MO_wantFor_358 : decode b_MO_wantFor 358 = .ok (.getfield 98, 3) := by decide +kernel
theorem d_MO_wantFor_361 : decode b_MO_wantFor 361 = .ok (.i2l, 1) := by decide +kernel
theorem d_MO_wantFor_362 : decode b_MO_wantFor 362 = .ok (.invokevirtual 190, 3) := by decide +kernel
theorem d_MO_wantFor_365 : decode b_MO_wantFor 365 = .ok (.goto 13, 3) := by decide +kernel
theorem d_MO_wantFor_368 : decode b_MO_wantFor 368 = .ok (.aload_n 0, 1) := by decide +kernel
theorem d_MO_wantFor_369 : decode b_MO_wantFor 369 = .ok (.lload_n 1, 1) := by decide +kernel
theorem d_MO_wantFor_370 : decode b_MO_wantFor 370 = .ok (.aload_n 0, 1) := by decide +kernel
theorem d_MO_wantFor_371 : decode b_MO_wantFor 371 = .ok (.getfield 118, 3) := by decide +kernel
theorem d_MO_wantFor_374 : decode b_MO_wantFor 374 = .ok (.lsub, 1) := by decide +kernel
theorem d_MO_wantFor_375 : decode b_MO_wantFor 375 = .ok (.invokevirtual 196, 3) := by decide +kernel
theorem d_MO_wantFor_378 : decode b_MO_wantFor 378 = .ok (.return_, 1) := by decide +kernel
theorem d_MO_spanAt_0 : decode b_MO_spanAt 0 = .ok (.iconst 0, 1) := by decide +kernel
theorem d_MO_spanAt_1 : decode b_MO_spanAt 1 = .ok (.istore 6, 2) := by decide +kernel
theorem d_MO_spanAt_3 : decode b_MO_spanAt 3 = .ok (.iload 6, 2) := by decide +kernel
theorem d_MO_spanAt_5 : decode b_MO_spanAt 5 = .ok (.sipush 200, 3) := by decide +kernel
theorem d_MO_spanAt_8 : decode b_MO_spanAt 8 = .ok (.if_icmp .ge 48, 3) := by decide +kernel
theorem d_MO_spanAt_11 : decode b_MO_spanAt 11 = .ok (.aload_n 0, 1) := by decide +kernel
theorem d_MO_spanAt_12 : decode b_MO_spanAt 12 = .ok (.getfield 42, 3) := by decide +kernel
theorem d_MO_spanAt_15 : decode b_MO_spanAt 15 = .ok (.iload 6, 2) := by decide +kernel
theorem d_MO_spanAt_17 : decode b_MO_spanAt 17 = .ok (.iaload, 1) := by decide +kernel
theorem d_MO_spanAt_18 : decode b_MO_spanAt 18 = .ok (.iload_n 1, 1) := by decide +kernel
theorem d_MO_spanAt_19 : decode b_MO_spanAt 19 = .ok (.if_icmp .ne 31, 3) := by decide +kernel
theorem d_MO_spanAt_22 : decode b_MO_spanAt 22 = .ok (.aload_n 0, 1) := by decide +kernel
theorem d_MO_spanAt_23 : decode b_MO_spanAt 23 = .ok (.getfield 45, 3) := by decide +kernel
theorem d_MO_spanAt_26 : decode b_MO_spanAt 26 = .ok (.iload 6, 2) := by decide +kernel
theorem d_MO_spanAt_28 : decode b_MO_spanAt 28 = .ok (.laload, 1) := by decide +kernel
theorem d_MO_spanAt_29 : decode b_MO_spanAt 29 = .ok (.lload_n 2, 1) := by decide +kernel
theorem d_MO_spanAt_30 : decode b_MO_spanAt 30 = .ok (.lcmp, 1) := by decide +kernel
theorem d_MO_spanAt_31 : decode b_MO_spanAt 31 = .ok (.ifCond .ne 19, 3) := by decide +kernel
theorem d_MO_spanAt_34 : decode b_MO_spanAt 34 = .ok (.aload_n 0, 1) := by decide +kernel
theorem d_MO_spanAt_35 : decode b_MO_spanAt 35 = .ok (.getfield 48, 3) := by decide +kernel
theorem d_MO_spanAt_38 : decode b_MO_spanAt 38 = .ok (.iload 6, 2) := by decide +kernel
theorem d_MO_spanAt_40 : decode b_MO_spanAt 40 = .ok (.laload, 1) := by decide +kernel
theorem d_MO_spanAt_41 : decode b_MO_spanAt 41 = .ok (.lload 4, 2) := by decide +kernel
theorem d_MO_spanAt_43 : decode b_MO_spanAt 43 = .ok (.lcmp, 1) := by decide +kernel
theorem d_MO_spanAt_44 : decode b_MO_spanAt 44 = .ok (.ifCond .ne 6, 3) := by decide +kernel
theorem d_MO_spanAt_47 : decode b_MO_spanAt 47 = .ok (.iload 6, 2) := by decide +kernel
theorem d_MO_spanAt_49 : decode b_MO_spanAt 49 = .ok (.ireturn, 1) := by decide +kernel
theorem d_MO_spanAt_50 : decode b_MO_spanAt 50 = .ok (.iinc 6 1, 3) := by decide +kernel
theorem d_MO_spanAt_53 : decode b_MO_spanAt 53 = .ok (.goto (-50), 3) := by decide +kernel
theorem d_MO_spanAt_56 : decode b_MO_spanAt 56 = .ok (.iconst (-1), 1) := by decide +kernel
theorem d_MO_spanAt_57 : decode b_MO_spanAt 57 = .ok (.ireturn, 1) := by decide +kernel
theorem d_MO_newSpan_0 : decode b_MO_newSpan 0 = .ok (.iconst 0, 1) := by decide +kernel
theorem d_MO_newSpan_1 : decode b_MO_newSpan 1 = .ok (.istore 6, 2) := by decide +kernel
theorem d_MO_newSpan_3 : decode b_MO_newSpan 3 = .ok (.aload_n 0, 1) := by decide +kernel
theorem d_MO_newSpan_4 : decode b_MO_newSpan 4 = .ok (.getfield 42, 3) := by decide +kernel
theorem d_MO_newSpan_7 : decode b_MO_newSpan 7 = .ok (.iload 6, 2) := by decide +kernel
theorem d_MO_newSpan_9 : decode b_MO_newSpan 9 = .ok (.iaload, 1) := by decide +kernel
theorem d_MO_newSpan_10 : decode b_MO_newSpan 10 = .ok (.iconst (-1), 1) := by decide +kernel
theorem d_MO_newSpan_11 : decode b_MO_newSpan 11 = .ok (.if_icmp .eq 9, 3) := by decide +kernel
theorem d_MO_newSpan_14 : decode b_MO_newSpan 14 = .ok (.iinc 6 1, 3) := by decide +kernel
theorem d_MO_newSpan_17 : decode b_MO_newSpan 17 = .ok (.goto (-14), 3) := by decide +kernel
theorem d_MO_newSpan_20 : decode b_MO_newSpan 20 = .ok (.aload_n 0, 1) := by decide +kernel
theorem d_MO_newSpan_21 : decode b_MO_newSpan 21 = .ok (.getfield 42, 3) := by decide +kernel
theorem d_MO_newSpan_24 : decode b_MO_newSpan 24 = .ok (.iload 6, 2) := by decide +kernel
theorem d_MO_newSpan_26 : decode b_MO_newSpan 26 = .ok (.iload_n 1, 1) := by decide +kernel
theorem d_MO_newSpan_27 : decode b_MO_newSpan 27 = .ok (.iastore, 1) := by decide +kernel
theorem d_MO_newSpan_28 : decode b_MO_newSpan 28 = .ok (.aload_n 0, 1) := by decide +kernel
theorem d_MO_newSpan_29 : decode b_MO_newSpan 29 = .ok (.getfield 45, 3) := by decide +kernel
theorem d_MO_newSpan_32 : decode b_MO_newSpan 32 = .ok (.iload 6, 2) := by decide +kernel
theorem d_MO_newSpan_34 : decode b_MO_newSpan 34 = .ok (.lload_n 2, 1) := by decide +kernel
theorem d_MO_newSpan_35 : decode b_MO_newSpan 35 = .ok (.lastore, 1) := by decide +kernel
theorem d_MO_newSpan_36 : decode b_MO_newSpan 36 = .ok (.aload_n 0, 1) := by decide +kernel
theorem d_MO_newSpan_37 : decode b_MO_newSpan 37 = .ok (.getfield 48, 3) := by decide +kernel
theorem d_MO_newSpan_40 : decode b_MO_newSpan 40 = .ok (.iload 6, 2) := by decide +kernel
theorem d_MO_newSpan_42 : decode b_MO_newSpan 42 = .ok (.lload 4, 2) := by decide +kernel
theorem d_MO_newSpan_44 : decode b_MO_newSpan 44 = .ok (.lastore, 1) := by decide +kernel
theorem d_MO_newSpan_45 : decode b_MO_newSpan 45 = .ok (.aload_n 0, 1) := by decide +kernel
theorem d_MO_newSpan_46 : decode b_MO_newSpan 46 = .ok (.getfield 51, 3) := by decide +kernel
theorem d_MO_newSpan_49 : decode b_MO_newSpan 49 = .ok (.iload 6, 2) := by decide +kernel
theorem d_MO_newSpan_51 : decode b_MO_newSpan 51 = .ok (.iconst 0, 1) := by decide +kernel
theorem d_MO_newSpan_52 : decode b_MO_newSpan 52 = .ok (.iastore, 1) := by decide +kernel
theorem d_MO_newSpan_53 : decode b_MO_newSpan 53 = .ok (.aload_n 0, 1) := by decide +kernel
theorem d_MO_newSpan_54 : decode b_MO_newSpan 54 = .ok (.getfield 54, 3) := by decide +kernel
theorem d_MO_newSpan_57 : decode b_MO_newSpan 57 = .ok (.iload 6, 2) := by decide +kernel
theorem d_MO_newSpan_59 : decode b_MO_newSpan 59 = .ok (.iconst 0, 1) := by decide +kernel
theorem d_MO_newSpan_60 : decode b_MO_newSpan 60 = .ok (.iastore, 1) := by decide +kernel
theorem d_MO_newSpan_61 : decode b_MO_newSpan 61 = .ok (.aload_n 0, 1) := by decide +kernel
theorem d_MO_newSpan_62 : decode b_MO_newSpan 62 = .ok (.getfield 57, 3) := by decide +kernel
theorem d_MO_newSpan_65 : decode b_MO_newSpan 65 = .ok (.iload 6, 2) := by decide +kernel
theorem d_MO_newSpan_67 : decode b_MO_newSpan 67 = .ok (.iconst 0, 1) := by decide +kernel
theorem d_MO_newSpan_68 : decode b_MO_newSpan 68 = .ok (.bastore, 1) := by decide +kernel
theorem d_MO_newSpan_69 : decode b_MO_newSpan 69 = .ok (.iconst 0, 1) := by decide +kernel
theorem d_MO_newSpan_70 : decode b_MO_newSpan 70 = .ok (.istore 7, 2) := by decide +kernel
theorem d_MO_newSpan_72 : decode b_MO_newSpan 72 = .ok (.iload 7, 2) := by decide +kernel
theorem d_MO_newSpan_74 : decode b_MO_newSpan 74 = .ok (.sipush 300, 3) := by decide +kernel
theorem d_MO_newSpan_77 : decode b_MO_newSpan 77 = .ok (.if_icmp .ge 39, 3) := by decide +kernel
theorem d_MO_newSpan_80 : decode b_MO_newSpan 80 = .ok (.aload_n 0, 1) := by decide +kernel
theorem d_MO_newSpan_81 : decode b_MO_newSpan 81 = .ok (.getfield 62, 3) := by decide +kernel
theorem d_MO_newSpan_84 : decode b_MO_newSpan 84 = .ok (.sipush 300, 3) := by decide +kernel
theorem d_MO_newSpan_87 : decode b_MO_newSpan 87 = .ok (.iload 6, 2) := by decide +kernel
theorem d_MO_newSpan_89 : decode b_MO_newSpan 89 = .ok (.imul, 1) := by decide +kernel
theorem d_MO_newSpan_90 : decode b_MO_newSpan 90 = .ok (.iload 7, 2) := by decide +kernel
theorem d_MO_newSpan_92 : decode b_MO_newSpan 92 = .ok (.iadd, 1) := by decide +kernel
theorem d_MO_newSpan_93 : decode b_MO_newSpan 93 = .ok (.iconst 0, 1) := by decide +kernel
theorem d_MO_newSpan_94 : decode b_MO_newSpan 94 = .ok (.bastore, 1) := by decide +kernel
theorem d_MO_newSpan_95 : decode b_MO_newSpan 95 = .ok (.aload_n 0, 1) := by decide +kernel
theorem d_MO_newSpan_96 : decode b_MO_newSpan 96 = .ok (.getfield 65, 3) := by decide +kernel
theorem d_MO_newSpan_99 : decode b_MO_newSpan 99 = .ok (.sipush 300, 3) := by decide +kernel
theorem d_MO_newSpan_102 : decode b_MO_newSpan 102 = .ok (.iload 6, 2) := by decide +kernel
theorem d_MO_newSpan_104 : decode b_MO_newSpan 104 = .ok (.imul, 1) := by decide +kernel
theorem d_MO_newSpan_105 : decode b_MO_newSpan 105 = .ok (.iload 7, 2) := by decide +kernel
theorem d_MO_newSpan_107 : decode b_MO_newSpan 107 = .ok (.iadd, 1) := by decide +kernel
theorem d_MO_newSpan_108 : decode b_MO_newSpan 108 = .ok (.iconst 0, 1) := by decide +kernel
theorem d_MO_newSpan_109 : decode b_MO_newSpan 109 = .ok (.bastore, 1) := by decide +kernel
theorem d_MO_newSpan_110 : decode b_MO_newSpan 110 = .ok (.iinc 7 1, 3) := by decide +kernel
theorem d_MO_newSpan_113 : decode b_MO_newSpan 113 = .ok (.goto (-41), 3) := by decide +kernel
theorem d_MO_newSpan_116 : decode b_MO_newSpan 116 = .ok (.aload_n 0, 1) := by decide +kernel
theorem d_MO_newSpan_117 : decode b_MO_newSpan 117 = .ok (.dup, 1) := by decide +kernel
theorem d_MO_newSpan_118 : decode b_MO_newSpan 118 = .ok (.getfield 200, 3) := by decide +kernel
theorem d_MO_newSpan_121 : decode b_MO_newSpan 121 = .ok (.iconst 1, 1) := by decide +kernel
theorem d_MO_newSpan_122 : decode b_MO_newSpan 122 = .ok (.iadd, 1) := by decide +kernel
theorem d_MO_newSpan_123 : decode b_MO_newSpan 123 = .ok (.putfield 200, 3) := by decide +kernel
theorem d_MO_newSpan_126 : decode b_MO_newSpan 126 = .ok (.iload 6, 2) := by decide +kernel
theorem d_MO_newSpan_128 : decode b_MO_newSpan 128 = .ok (.ireturn, 1) := by decide +kernel
theorem d_MO_newRow_0 : decode b_MO_newRow 0 = .ok (.iconst 0, 1) := by decide +kernel
theorem d_MO_newRow_1 : decode b_MO_newRow 1 = .ok (.istore 6, 2) := by decide +kernel
theorem d_MO_newRow_3 : decode b_MO_newRow 3 = .ok (.aload_n 0, 1) := by decide +kernel
theorem d_MO_newRow_4 : decode b_MO_newRow 4 = .ok (.getfield 27, 3) := by decide +kernel
theorem d_MO_newRow_7 : decode b_MO_newRow 7 = .ok (.iload 6, 2) := by decide +kernel
theorem d_MO_newRow_9 : decode b_MO_newRow 9 = .ok (.iaload, 1) := by decide +kernel
theorem d_MO_newRow_10 : decode b_MO_newRow 10 = .ok (.iconst (-1), 1) := by decide +kernel
theorem d_MO_newRow_11 : decode b_MO_newRow 11 = .ok (.if_icmp .eq 9, 3) := by decide +kernel
theorem d_MO_newRow_14 : decode b_MO_newRow 14 = .ok (.iinc 6 1, 3) := by decide +kernel
theorem d_MO_newRow_17 : decode b_MO_newRow 17 = .ok (.goto (-14), 3) := by decide +kernel
theorem d_MO_newRow_20 : decode b_MO_newRow 20 = .ok (.aload_n 0, 1) := by decide +kernel
theorem d_MO_newRow_21 : decode b_MO_newRow 21 = .ok (.getfield 27, 3) := by decide +kernel
theorem d_MO_newRow_24 : decode b_MO_newRow 24 = .ok (.iload 6, 2) := by decide +kernel
theorem d_MO_newRow_26 : decode b_MO_newRow 26 = .ok (.iload_n 1, 1) := by decide +kernel
theorem d_MO_newRow_27 : decode b_MO_newRow 27 = .ok (.iastore, 1) := by decide +kernel
theorem d_MO_newRow_28 : decode b_MO_newRow 28 = .ok (.aload_n 0, 1) := by decide +kernel
theorem d_MO_newRow_29 : decode b_MO_newRow 29 = .ok (.getfield 30, 3) := by decide +kernel
theorem d_MO_newRow_32 : decode b_MO_newRow 32 = .ok (.iload 6, 2) := by decide +kernel
theorem d_MO_newRow_34 : decode b_MO_newRow 34 = .ok (.lload_n 2, 1) := by decide +kernel
theorem d_MO_newRow_35 : decode b_MO_newRow 35 = .ok (.lastore, 1) := by decide +kernel
theorem d_MO_newRow_36 : decode b_MO_newRow 36 = .ok (.aload_n 0, 1) := by decide +kernel
theorem d_MO_newRow_37 : decode b_MO_newRow 37 = .ok (.getfield 33, 3) := by decide +kernel
theorem d_MO_newRow_40 : decode b_MO_newRow 40 = .ok (.iload 6, 2) := by decide +kernel
theorem d_MO_newRow_42 : decode b_MO_newRow 42 = .ok (.lload 4, 2) := by decide +kernel
theorem d_MO_newRow_44 : decode b_MO_newRow 44 = .ok (.lastore, 1) := by decide +kernel
theorem d_MO_newRow_45 : decode b_MO_newRow 45 = .ok (.aload_n 0, 1) := by decide +kernel
theorem d_MO_newRow_46 : decode b_MO_newRow 46 = .ok (.getfield 36, 3) := by decide +kernel
theorem d_MO_newRow_49 : decode b_MO_newRow 49 = .ok (.iload 6, 2) := by decide +kernel
theorem d_MO_newRow_51 : decode b_MO_newRow 51 = .ok (.aload_n 0, 1) := by decide +kernel
theorem d_MO_newRow_52 : decode b_MO_newRow 52 = .ok (.getfield 115, 3) := by decide +kernel
theorem d_MO_newRow_55 : decode b_MO_newRow 55 = .ok (.iastore, 1) := by decide +kernel
theorem d_MO_newRow_56 : decode b_MO_newRow 56 = .ok (.aload_n 0, 1) := by decide +kernel
theorem d_MO_newRow_57 : decode b_MO_newRow 57 = .ok (.getfield 39, 3) := by decide +kernel
theorem d_MO_newRow_60 : decode b_MO_newRow 60 = .ok (.iload 6, 2) := by decide +kernel
theorem d_MO_newRow_62 : decode b_MO_newRow 62 = .ok (.iconst (-1), 1) := by decide +kernel
theorem d_MO_newRow_63 : decode b_MO_newRow 63 = .ok (.iastore, 1) := by decide +kernel
theorem d_MO_newRow_64 : decode b_MO_newRow 64 = .ok (.aload_n 0, 1) := by decide +kernel
theorem d_MO_newRow_65 : decode b_MO_newRow 65 = .ok (.dup, 1) := by decide +kernel
theorem d_MO_newRow_66 : decode b_MO_newRow 66 = .ok (.getfield 203, 3) := by decide +kernel
theorem d_MO_newRow_69 : decode b_MO_newRow 69 = .ok (.iconst 1, 1) := by decide +kernel
theorem d_MO_newRow_70 : decode b_MO_newRow 70 = .ok (.iadd, 1) := by decide +kernel
theorem d_MO_newRow_71 : decode b_MO_newRow 71 = .ok (.putfield 203, 3) := by decide +kernel
theorem d_MO_newRow_74 : decode b_MO_newRow 74 = .ok (.iload 6, 2) := by decide +kernel
theorem d_MO_newRow_76 : decode b_MO_newRow 76 = .ok (.ireturn, 1) := by decide +kernel
theorem d_MO_isBefore_0 : decode b_MO_isBefore 0 = .ok (.aload_n 0, 1) := by decide +kernel
theorem d_MO_isBefore_1 : decode b_MO_isBefore 1 = .ok (.getfield 30, 3) := by decide +kernel
theorem d_MO_isBefore_4 : decode b_MO_isBefore 4 = .ok (.iload_n 1, 1) := by decide +kernel
theorem d_MO_isBefore_5 : decode b_MO_isBefore 5 = .ok (.laload, 1) := by decide +kernel
theorem d_MO_isBefore_6 : decode b_MO_isBefore 6 = .ok (.aload_n 0, 1) := by decide +kernel
theorem d_MO_isBefore_7 : decode b_MO_isBefore 7 = .ok (.getfield 30, 3) := by decide +kernel
theorem d_MO_isBefore_10 : decode b_MO_isBefore 10 = .ok (.iload_n 2, 1) := by decide +kernel
theorem d_MO_isBefore_11 : decode b_MO_isBefore 11 = .ok (.laload, 1) := by decide +kernel
theorem d_MO_isBefore_12 : decode b_MO_isBefore 12 = .ok (.lcmp, 1) := by decide +kernel
theorem d_MO_isBefore_13 : decode b_MO_isBefore 13 = .ok (.ifCond .lt 34, 3) := by decide +kernel
theorem d_MO_isBefore_16 : decode b_MO_isBefore 16 = .ok (.aload_n 0, 1) := by decide +kernel
theorem d_MO_isBefore_17 : decode b_MO_isBefore 17 = .ok (.getfield 30, 3) := by decide +kernel
theorem d_MO_isBefore_20 : decode b_MO_isBefore 20 = .ok (.iload_n 1, 1) := by decide +kernel
theorem d_MO_isBefore_21 : decode b_MO_isBefore 21 = .ok (.laload, 1) := by decide +kernel
theorem d_MO_isBefore_22 : decode b_MO_isBefore 22 = .ok (.aload_n 0, 1) := by decide +kernel
theorem d_MO_isBefore_23 : decode b_MO_isBefore 23 = .ok (.getfield 30, 3) := by decide +kernel
theorem d_MO_isBefore_26 : decode b_MO_isBefore 26 = .ok (.iload_n 2, 1) := by decide +kernel
theorem d_MO_isBefore_27 : decode b_MO_isBefore 27 = .ok (.laload, 1) := by decide +kernel
theorem d_MO_isBefore_28 : decode b_MO_isBefore 28 = .ok (.lcmp, 1) := by decide +kernel
theorem d_MO_isBefore_29 : decode b_MO_isBefore 29 = .ok (.ifCond .ne 22, 3) := by decide +kernel
theorem d_MO_isBefore_32 : decode b_MO_isBefore 32 = .ok (.aload_n 0, 1) := by decide +kernel
theorem d_MO_isBefore_33 : decode b_MO_isBefore 33 = .ok (.getfield 36, 3) := by decide +kernel
theorem d_MO_isBefore_36 : decode b_MO_isBefore 36 = .ok (.iload_n 1, 1) := by decide +kernel
theorem d_MO_isBefore_37 : decode b_MO_isBefore 37 = .ok (.iaload, 1) := by decide +kernel
theorem d_MO_isBefore_38 : decode b_MO_isBefore 38 = .ok (.aload_n 0, 1) := by decide +kernel
theorem d_MO_isBefore_39 : decode b_MO_isBefore 39 = .ok (.getfield 36, 3) := by decide +kernel
theorem d_MO_isBefore_42 : decode b_MO_isBefore 42 = .ok (.iload_n 2, 1) := by decide +kernel
theorem d_MO_isBefore_43 : decode b_MO_isBefore 43 = .ok (.iaload, 1) := by decide +kernel
theorem d_MO_isBefore_44 : decode b_MO_isBefore 44 = .ok (.if_icmp .ge 7, 3) := by decide +kernel
theorem d_MO_isBefore_47 : decode b_MO_isBefore 47 = .ok (.iconst 1, 1) := by decide +kernel
theorem d_MO_isBefore_48 : decode b_MO_isBefore 48 = .ok (.goto 4, 3) := by decide +kernel
theorem d_MO_isBefore_51 : decode b_MO_isBefore 51 = .ok (.iconst 0, 1) := by decide +kernel
theorem d_MO_isBefore_52 : decode b_MO_isBefore 52 = .ok (.ireturn, 1) := by decide +kernel
theorem d_MO_contents_0 : decode b_MO_contents 0 = .ok (.iconst 0, 1) := by decide +kernel
theorem d_MO_contents_1 : decode b_MO_contents 1 = .ok (.istore_n 1, 1) := by decide +kernel
theorem d_MO_contents_2 : decode b_MO_contents 2 = .ok (.iload_n 1, 1) := by decide +kernel
theorem d_MO_contents_3 : decode b_MO_contents 3 = .ok (.iconst 5, 1) := by decide +kernel
theorem d_MO_contents_4 : decode b_MO_contents 4 = .ok (.if_icmp .ge 16, 3) := by decide +kernel
theorem d_MO_contents_7 : decode b_MO_contents 7 = .ok (.aload_n 0, 1) := by decide +kernel
theorem d_MO_contents_8 : decode b_MO_contents 8 = .ok (.getfield 83, 3) := by decide +kernel
theorem d_MO_contents_11 : decode b_MO_contents 11 = .ok (.iload_n 1, 1) := by decide +kernel
theorem d_MO_contents_12 : decode b_MO_contents 12 = .ok (.lconst 0, 1) := by decide +kernel
theorem d_MO_contents_13 : decode b_MO_contents 13 = .ok (.lastore, 1) := by decide +kernel
theorem d_MO_contents_14 : decode b_MO_contents 14 = .ok (.iinc 1 1, 3) := by decide +kernel
theorem d_MO_contents_17 : decode b_MO_contents 17 = .ok (.goto (-15), 3) := by decide +kernel
theorem d_MO_contents_20 : decode b_MO_contents 20 = .ok (.iconst 0, 1) := by decide +kernel
theorem d_MO_contents_21 : decode b_MO_contents 21 = .ok (.istore_n 1, 1) := by decide +kernel
theorem d_MO_contents_22 : decode b_MO_contents 22 = .ok (.iload_n 1, 1) := by decide +kernel
theorem d_MO_contents_23 : decode b_MO_contents 23 = .ok (.iconst (-1), 1) := by decide +kernel
theorem d_MO_contents_24 : decode b_MO_contents 24 = .ok (.if_icmp .eq 181, 3) := by decide +kernel
theorem d_MO_contents_27 : decode b_MO_contents 27 = .ok (.iconst (-1), 1) := by decide +kernel
theorem d_MO_contents_28 : decode b_MO_contents 28 = .ok (.istore_n 1, 1) := by decide +kernel
theorem d_MO_contents_29 : decode b_MO_contents 29 = .ok (.iconst 0, 1) := by decide +kernel
theorem d_MO_contents_30 : decode b_MO_contents 30 = .ok (.istore_n 2, 1) := by decide +kernel
theorem d_MO_contents_31 : decode b_MO_contents 31 = .ok (.iload_n 2, 1) := by decide +kernel
theorem d_MO_contents_32 : decode b_MO_contents 32 = .ok (.sipush 300, 3) := by decide +kernel
theorem d_MO_contents_35 : decode b_MO_contents 35 = .ok (.if_icmp .ge 34, 3) := by decide +kernel
theorem d_MO_contents_38 : decode b_MO_contents 38 = .ok (.aload_n 0, 1) := by decide +kernel
theorem d_MO_contents_39 : decode b_MO_contents 39 = .ok (.getfield 86, 3) := by decide +kernel
theorem d_MO_contents_42 : decode b_MO_contents 42 = .ok (.iload_n 2, 1) := by decide +kernel
theorem d_MO_contents_43 : decode b_MO_contents 43 = .ok (.baload, 1) := by decide +kernel
theorem d_MO_contents_44 : decode b_MO_contents 44 = .ok (.ifCond .eq 19, 3) := by decide +kernel
theorem d_MO_contents_47 : decode b_MO_contents 47 = .ok (.iload_n 1, 1) := by decide +kernel
theorem d_MO_contents_48 : decode b_MO_contents 48 = .ok (.iconst (-1), 1) := by decide +kernel
theorem d_MO_contents_49 : decode b_MO_contents 49 = .ok (.if_icmp .eq 12, 3) := by decide +kernel
theorem d_MO_contents_52 : decode b_MO_contents 52 = .ok (.aload_n 0, 1) := by decide +kernel
theorem d_MO_contents_53 : decode b_MO_contents 53 = .ok (.iload_n 2, 1) := by decide +kernel
theorem d_MO_contents_54 : decode b_MO_contents 54 = .ok (.iload_n 1, 1) := by decide +kernel
theorem d_MO_contents_55 : decode b_MO_contents 55 = .ok (.invokevirtual 206, 3) := by decide +kernel
theorem d_MO_contents_58 : decode b_MO_contents 58 = .ok (.ifCond .eq 5, 3) := by decide +kernel
theorem d_MO_contents_61 : decode b_MO_contents 61 = .ok (.iload_n 2, 1) := by decide +kernel
theorem d_MO_contents_62 : decode b_MO_contents 62 = .ok (.istore_n 1, 1) := by decide +kernel
theorem d_MO_contents_63 : decode b_MO_contents 63 = .ok (.iinc 2 1, 3) := by decide +kernel
theorem d_MO_contents_66 : decode b_MO_contents 66 = .ok (.goto (-35), 3) := by decide +kernel
theorem d_MO_contents_69 : decode b_MO_contents 69 = .ok (.iload_n 1, 1) := by decide +kernel
theorem d_MO_contents_70 : decode b_MO_contents 70 = .ok (.iconst (-1), 1) := by decide +kernel
theorem d_MO_contents_71 : decode b_MO_contents 71 = .ok (.if_icmp .eq (-49), 3) := by decide +kernel
theorem d_MO_contents_74 : decode b_MO_contents 74 = .ok (.aload_n 0, 1) := by decide +kernel
theorem d_MO_contents_75 : decode b_MO_contents 75 = .ok (.getfield 33, 3) := by decide +kernel
theorem d_MO_contents_78 : decode b_MO_contents 78 = .ok (.iload_n 1, 1) := by decide +kernel
theorem d_MO_contents_79 : decode b_MO_contents 79 = .ok (.laload, 1) := by decide +kernel
theorem d_MO_contents_80 : decode b_MO_contents 80 = .ok (.lstore_n 2, 1) := by decide +kernel
theorem d_MO_contents_81 : decode b_MO_contents 81 = .ok (.aload_n 0, 1) := by decide +kernel
theorem d_MO_contents_82 : decode b_MO_contents 82 = .ok (.getfield 83, 3) := by decide +kernel
theorem d_MO_contents_85 : decode b_MO_contents 85 = .ok (.iconst 2, 1) := by decide +kernel
theorem d_MO_contents_86 : decode b_MO_contents 86 = .ok (.aload_n 0, 1) := by decide +kernel
theorem d_MO_contents_87 : decode b_MO_contents 87 = .ok (.getfield 83, 3) := by decide +kernel
theorem d_MO_contents_90 : decode b_MO_contents 90 = .ok (.iconst 0, 1) := by decide +kernel
theorem d_MO_contents_91 : decode b_MO_contents 91 = .ok (.laload, 1) := by decide +kernel
theorem d_MO_contents_92 : decode b_MO_contents 92 = .ok (.lconst 0, 1) := by decide +kernel
theorem d_MO_contents_93 : decode b_MO_contents 93 = .ok (.lcmp, 1) := by decide +kernel
theorem d_MO_contents_94 : decode b_MO_contents 94 = .ok (.ifCond .eq 14, 3) := by decide +kernel
theorem d_MO_contents_97 : decode b_MO_contents 97 = .ok (.lload_n 2, 1) := by decide +kernel
theorem d_MO_contents_98 : decode b_MO_contents 98 = .ok (.aload_n 0, 1) := by decide +kernel
theorem d_MO_contents_99 : decode b_MO_contents 99 = .ok (.getfield 83, 3) := by decide +kernel
theorem d_MO_contents_102 : decode b_MO_contents 102 = .ok (.iconst 2, 1) := by decide +kernel
theorem d_MO_contents_103 : decode b_MO_contents 103 = .ok (.laload, 1) := by decide +kernel
theorem d_MO_contents_104 : decode b_MO_contents 104 = .ok (.lcmp, 1) := by decide +kernel
theorem d_MO_contents_105 : decode b_MO_contents 105 = .ok (.ifCond .ge 7, 3) := by decide +kernel
theorem d_MO_contents_108 : decode b_MO_contents 108 = .ok (.lload_n 2, 1) := by decide +kernel
theorem d_MO_contents_109 : decode b_MO_contents 109 = .ok (.goto 9, 3) := by decide +kernel
theorem d_MO_contents_112 : decode b_MO_contents 112 = .ok (.aload_n 0, 1) := by decide +kernel
theorem d_MO_contents_113 : decode b_MO_contents 113 = .ok (.getfield 83, 3) := by decide +kernel
theorem d_MO_contents_116 : decode b_MO_contents 116 = .ok (.iconst 2, 1) := by decide +kernel
theorem d_MO_contents_117 : decode b_MO_contents 117 = .ok (.laload, 1) := by decide +kernel
theorem d_MO_contents_118 : decode b_MO_contents 118 = .ok (.lastore, 1) := by decide +kernel
theorem d_MO_contents_119 : decode b_MO_contents 119 = .ok (.aload_n 0, 1) := by decide +kernel
theorem d_MO_contents_120 : decode b_MO_contents 120 = .ok (.getfield 83, 3) := by decide +kernel
theorem d_MO_contents_123 : decode b_MO_contents 123 = .ok (.iconst 3, 1) := by decide +kernel
theorem d_MO_contents_124 : decode b_MO_contents 124 = .ok (.aload_n 0, 1) := by decide +kernel
theorem d_MO_contents_125 : decode b_MO_contents 125 = .ok (.getfield 83, 3) := by decide +kernel
theorem d_MO_contents_128 : decode b_MO_contents 128 = .ok (.iconst 0, 1) := by decide +kernel
theorem d_MO_contents_129 : decode b_MO_contents 129 = .ok (.laload, 1) := by decide +kernel
theorem d_MO_contents_130 : decode b_MO_contents 130 = .ok (.lconst 0, 1) := by decide +kernel
theorem d_MO_contents_131 : decode b_MO_contents 131 = .ok (.lcmp, 1) := by decide +kernel
theorem d_MO_contents_132 : decode b_MO_contents 132 = .ok (.ifCond .eq 14, 3) := by decide +kernel
theorem d_MO_contents_135 : decode b_MO_contents 135 = .ok (.lload_n 2, 1) := by decide +kernel
theorem d_MO_contents_136 : decode b_MO_contents 136 = .ok (.aload_n 0, 1) := by decide +kernel
theorem d_MO_contents_137 : decode b_MO_contents 137 = .ok (.getfield 83, 3) := by decide +kernel
theorem d_MO_contents_140 : decode b_MO_contents 140 = .ok (.iconst 3, 1) := by decide +kernel
theorem d_MO_contents_141 : decode b_MO_contents 141 = .ok (.laload, 1) := by decide +kernel
theorem d_MO_contents_142 : decode b_MO_contents 142 = .ok (.lcmp, 1) := by decide +kernel
theorem d_MO_contents_143 : decode b_MO_contents 143 = .ok (.ifCond .le 7, 3) := by decide +kernel
theorem d_MO_contents_146 : decode b_MO_contents 146 = .ok (.lload_n 2, 1) := by decide +kernel
theorem d_MO_contents_147 : decode b_MO_contents 147 = .ok (.goto 9, 3) := by decide +kernel
theorem d_MO_contents_150 : decode b_MO_contents 150 = .ok (.aload_n 0, 1) := by decide +kernel
theorem d_MO_contents_151 : decode b_MO_contents 151 = .ok (.getfield 83, 3) := by decide +kernel
theorem d_MO_contents_154 : decode b_MO_contents 154 = .ok (.iconst 3, 1) := by decide +kernel
theorem d_MO_contents_155 : decode b_MO_contents 155 = .ok (.laload, 1) := by decide +kernel
theorem d_MO_contents_156 : decode b_MO_contents 156 = .ok (.lastore, 1) := by decide +kernel
theorem d_MO_contents_157 : decode b_MO_contents 157 = .ok (.aload_n 0, 1) := by decide +kernel
theorem d_MO_contents_158 : decode b_MO_contents 158 = .ok (.getfield 83, 3) := by decide +kernel
theorem d_MO_contents_161 : decode b_MO_contents 161 = .ok (.iconst 0, 1) := by decide +kernel
theorem d_MO_contents_162 : decode b_MO_contents 162 = .ok (.dup2, 1) := by decide +kernel
theorem d_MO_contents_163 : decode b_MO_contents 163 = .ok (.laload, 1) := by decide +kernel
theorem d_MO_contents_164 : decode b_MO_contents 164 = .ok (.lconst 1, 1) := by decide +kernel
theorem d_MO_contents_165 : decode b_MO_contents 165 = .ok (.ladd, 1) := by decide +kernel
theorem d_MO_contents_166 : decode b_MO_contents 166 = .ok (.lastore, 1) := by decide +kernel
theorem d_MO_contents_167 : decode b_MO_contents 167 = .ok (.aload_n 0, 1) := by decide +kernel
theorem d_MO_contents_168 : decode b_MO_contents 168 = .ok (.getfield 83, 3) := by decide +kernel
theorem d_MO_contents_171 : decode b_MO_contents 171 = .ok (.iconst 1, 1) := by decide +kernel
theorem d_MO_contents_172 : decode b_MO_contents 172 = .ok (.dup2, 1) := by decide +kernel
theorem d_MO_contents_173 : decode b_MO_contents 173 = .ok (.laload, 1) := by decide +kernel
end
section
theorem d_MO_contents_174 : decode b_MO_contents 174 = .ok (.lload_n 2, 1) := by decide +kernel
theorem d_MO_contents_175 : decode b_MO_contents 175 = .ok (.ladd, 1) := by decide +kernel
theorem d_MO_contents_176 : decode b_MO_contents 176 = .ok (.lastore, 1) := by decide +kernel
theorem d_MO_contents_177 : decode b_MO_contents 177 = .ok (.aload_n 0, 1) := by decide +kernel
theorem d_MO_contents_178 : decode b_MO_contents 178 = .ok (.getfield 83, 3) := by decide +kernel
theorem d_MO_contents_181 : decode b_MO_contents 181 = .ok (.iconst 4, 1) := by decide +kernel
theorem d_MO_contents_182 : decode b_MO_contents 182 = .ok (.ldc2_w 210, 3) := by decide +kernel
theorem d_MO_contents_185 : decode b_MO_contents 185 = .ok (.aload_n 0, 1) := by decide +kernel
theorem d_MO_contents_186 : decode b_MO_contents 186 = .ok (.getfield 83, 3) := by decide +kernel
theorem d_MO_contents_189 : decode b_MO_contents 189 = .ok (.iconst 4, 1) := by decide +kernel
theorem d_MO_contents_190 : decode b_MO_contents 190 = .ok (.laload, 1) := by decide +kernel
theorem d_MO_contents_191 : decode b_MO_contents 191 = .ok (.lmul, 1) := by decide +kernel
theorem d_MO_contents_192 : decode b_MO_contents 192 = .ok (.lload_n 2, 1) := by decide +kernel
theorem d_MO_contents_193 : decode b_MO_contents 193 = .ok (.ladd, 1) := by decide +kernel
theorem d_MO_contents_194 : decode b_MO_contents 194 = .ok (.lastore, 1) := by decide +kernel
theorem d_MO_contents_195 : decode b_MO_contents 195 = .ok (.aload_n 0, 1) := by decide +kernel
theorem d_MO_contents_196 : decode b_MO_contents 196 = .ok (.getfield 86, 3) := by decide +kernel
theorem d_MO_contents_199 : decode b_MO_contents 199 = .ok (.iload_n 1, 1) := by decide +kernel
theorem d_MO_contents_200 : decode b_MO_contents 200 = .ok (.iconst 0, 1) := by decide +kernel
theorem d_MO_contents_201 : decode b_MO_contents 201 = .ok (.bastore, 1) := by decide +kernel
theorem d_MO_contents_202 : decode b_MO_contents 202 = .ok (.goto (-180), 3) := by decide +kernel
theorem d_MO_contents_205 : decode b_MO_contents 205 = .ok (.return_, 1) := by decide +kernel
theorem d_MO_tell_0 : decode b_MO_tell 0 = .ok (.aload_n 0, 1) := by decide +kernel
theorem d_MO_tell_1 : decode b_MO_tell 1 = .ok (.getfield 212, 3) := by decide +kernel
theorem d_MO_tell_4 : decode b_MO_tell 4 = .ok (.sipush 400, 3) := by decide +kernel
theorem d_MO_tell_7 : decode b_MO_tell 7 = .ok (.if_icmp .ne 47, 3) := by decide +kernel
theorem d_MO_tell_10 : decode b_MO_tell 10 = .ok (.iconst 0, 1) := by decide +kernel
theorem d_MO_tell_11 : decode b_MO_tell 11 = .ok (.istore 8, 2) := by decide +kernel
theorem d_MO_tell_13 : decode b_MO_tell 13 = .ok (.iload 8, 2) := by decide +kernel
theorem d_MO_tell_15 : decode b_MO_tell 15 = .ok (.sipush 3990, 3) := by decide +kernel
theorem d_MO_tell_18 : decode b_MO_tell 18 = .ok (.if_icmp .ge 26, 3) := by decide +kernel
theorem d_MO_tell_21 : decode b_MO_tell 21 = .ok (.aload_n 0, 1) := by decide +kernel
theorem d_MO_tell_22 : decode b_MO_tell 22 = .ok (.getfield 74, 3) := by decide +kernel
theorem d_MO_tell_25 : decode b_MO_tell 25 = .ok (.iload 8, 2) := by decide +kernel
theorem d_MO_tell_27 : decode b_MO_tell 27 = .ok (.aload_n 0, 1) := by decide +kernel
theorem d_MO_tell_28 : decode b_MO_tell 28 = .ok (.getfield 74, 3) := by decide +kernel
theorem d_MO_tell_31 : decode b_MO_tell 31 = .ok (.iload 8, 2) := by decide +kernel
theorem d_MO_tell_33 : decode b_MO_tell 33 = .ok (.bipush 10, 2) := by decide +kernel
theorem d_MO_tell_35 : decode b_MO_tell 35 = .ok (.iadd, 1) := by decide +kernel
theorem d_MO_tell_36 : decode b_MO_tell 36 = .ok (.laload, 1) := by decide +kernel
theorem d_MO_tell_37 : decode b_MO_tell 37 = .ok (.lastore, 1) := by decide +kernel
theorem d_MO_tell_38 : decode b_MO_tell 38 = .ok (.iinc 8 1, 3) := by decide +kernel
theorem d_MO_tell_41 : decode b_MO_tell 41 = .ok (.goto (-28), 3) := by decide +kernel
theorem d_MO_tell_44 : decode b_MO_tell 44 = .ok (.aload_n 0, 1) := by decide +kernel
theorem d_MO_tell_45 : decode b_MO_tell 45 = .ok (.dup, 1) := by decide +kernel
theorem d_MO_tell_46 : decode b_MO_tell 46 = .ok (.getfield 212, 3) := by decide +kernel
theorem d_MO_tell_49 : decode b_MO_tell 49 = .ok (.iconst 1, 1) := by decide +kernel
theorem d_MO_tell_50 : decode b_MO_tell 50 = .ok (.isub, 1) := by decide +kernel
theorem d_MO_tell_51 : decode b_MO_tell 51 = .ok (.putfield 212, 3) := by decide +kernel
theorem d_MO_tell_54 : decode b_MO_tell 54 = .ok (.bipush 10, 2) := by decide +kernel
theorem d_MO_tell_56 : decode b_MO_tell 56 = .ok (.aload_n 0, 1) := by decide +kernel
theorem d_MO_tell_57 : decode b_MO_tell 57 = .ok (.getfield 212, 3) := by decide +kernel
theorem d_MO_tell_60 : decode b_MO_tell 60 = .ok (.imul, 1) := by decide +kernel
theorem d_MO_tell_61 : decode b_MO_tell 61 = .ok (.istore 8, 2) := by decide +kernel
theorem d_MO_tell_63 : decode b_MO_tell 63 = .ok (.aload_n 0, 1) := by decide +kernel
theorem d_MO_tell_64 : decode b_MO_tell 64 = .ok (.getfield 74, 3) := by decide +kernel
theorem d_MO_tell_67 : decode b_MO_tell 67 = .ok (.iload 8, 2) := by decide +kernel
theorem d_MO_tell_69 : decode b_MO_tell 69 = .ok (.iload_n 1, 1) := by decide +kernel
theorem d_MO_tell_70 : decode b_MO_tell 70 = .ok (.i2l, 1) := by decide +kernel
theorem d_MO_tell_71 : decode b_MO_tell 71 = .ok (.lastore, 1) := by decide +kernel
theorem d_MO_tell_72 : decode b_MO_tell 72 = .ok (.aload_n 0, 1) := by decide +kernel
theorem d_MO_tell_73 : decode b_MO_tell 73 = .ok (.getfield 74, 3) := by decide +kernel
theorem d_MO_tell_76 : decode b_MO_tell 76 = .ok (.iload 8, 2) := by decide +kernel
theorem d_MO_tell_78 : decode b_MO_tell 78 = .ok (.iconst 1, 1) := by decide +kernel
theorem d_MO_tell_79 : decode b_MO_tell 79 = .ok (.iadd, 1) := by decide +kernel
theorem d_MO_tell_80 : decode b_MO_tell 80 = .ok (.lload_n 2, 1) := by decide +kernel
theorem d_MO_tell_81 : decode b_MO_tell 81 = .ok (.lastore, 1) := by decide +kernel
theorem d_MO_tell_82 : decode b_MO_tell 82 = .ok (.aload_n 0, 1) := by decide +kernel
theorem d_MO_tell_83 : decode b_MO_tell 83 = .ok (.getfield 74, 3) := by decide +kernel
theorem d_MO_tell_86 : decode b_MO_tell 86 = .ok (.iload 8, 2) := by decide +kernel
theorem d_MO_tell_88 : decode b_MO_tell 88 = .ok (.iconst 2, 1) := by decide +kernel
theorem d_MO_tell_89 : decode b_MO_tell 89 = .ok (.iadd, 1) := by decide +kernel
theorem d_MO_tell_90 : decode b_MO_tell 90 = .ok (.lload 4, 2) := by decide +kernel
theorem d_MO_tell_92 : decode b_MO_tell 92 = .ok (.lastore, 1) := by decide +kernel
theorem d_MO_tell_93 : decode b_MO_tell 93 = .ok (.aload_n 0, 1) := by decide +kernel
theorem d_MO_tell_94 : decode b_MO_tell 94 = .ok (.getfield 74, 3) := by decide +kernel
theorem d_MO_tell_97 : decode b_MO_tell 97 = .ok (.iload 8, 2) := by decide +kernel
theorem d_MO_tell_99 : decode b_MO_tell 99 = .ok (.iconst 3, 1) := by decide +kernel
theorem d_MO_tell_100 : decode b_MO_tell 100 = .ok (.iadd, 1) := by decide +kernel
theorem d_MO_tell_101 : decode b_MO_tell 101 = .ok (.iload 6, 2) := by decide +kernel
theorem d_MO_tell_103 : decode b_MO_tell 103 = .ok (.i2l, 1) := by decide +kernel
theorem d_MO_tell_104 : decode b_MO_tell 104 = .ok (.lastore, 1) := by decide +kernel
theorem d_MO_tell_105 : decode b_MO_tell 105 = .ok (.iconst 0, 1) := by decide +kernel
theorem d_MO_tell_106 : decode b_MO_tell 106 = .ok (.istore 9, 2) := by decide +kernel
theorem d_MO_tell_108 : decode b_MO_tell 108 = .ok (.iload 9, 2) := by decide +kernel
theorem d_MO_tell_110 : decode b_MO_tell 110 = .ok (.iconst 5, 1) := by decide +kernel
theorem d_MO_tell_111 : decode b_MO_tell 111 = .ok (.if_icmp .ge 28, 3) := by decide +kernel
theorem d_MO_tell_114 : decode b_MO_tell 114 = .ok (.aload_n 0, 1) := by decide +kernel
theorem d_MO_tell_115 : decode b_MO_tell 115 = .ok (.getfield 74, 3) := by decide +kernel
theorem d_MO_tell_118 : decode b_MO_tell 118 = .ok (.iload 8, 2) := by decide +kernel
theorem d_MO_tell_120 : decode b_MO_tell 120 = .ok (.iconst 4, 1) := by decide +kernel
theorem d_MO_tell_121 : decode b_MO_tell 121 = .ok (.iadd, 1) := by decide +kernel
theorem d_MO_tell_122 : decode b_MO_tell 122 = .ok (.iload 9, 2) := by decide +kernel
theorem d_MO_tell_124 : decode b_MO_tell 124 = .ok (.iadd, 1) := by decide +kernel
theorem d_MO_tell_125 : decode b_MO_tell 125 = .ok (.aload_n 0, 1) := by decide +kernel
theorem d_MO_tell_126 : decode b_MO_tell 126 = .ok (.getfield 83, 3) := by decide +kernel
theorem d_MO_tell_129 : decode b_MO_tell 129 = .ok (.iload 9, 2) := by decide +kernel
theorem d_MO_tell_131 : decode b_MO_tell 131 = .ok (.laload, 1) := by decide +kernel
theorem d_MO_tell_132 : decode b_MO_tell 132 = .ok (.lastore, 1) := by decide +kernel
theorem d_MO_tell_133 : decode b_MO_tell 133 = .ok (.iinc 9 1, 3) := by decide +kernel
theorem d_MO_tell_136 : decode b_MO_tell 136 = .ok (.goto (-28), 3) := by decide +kernel
theorem d_MO_tell_139 : decode b_MO_tell 139 = .ok (.aload_n 0, 1) := by decide +kernel
theorem d_MO_tell_140 : decode b_MO_tell 140 = .ok (.getfield 74, 3) := by decide +kernel
theorem d_MO_tell_143 : decode b_MO_tell 143 = .ok (.iload 8, 2) := by decide +kernel
theorem d_MO_tell_145 : decode b_MO_tell 145 = .ok (.bipush 9, 2) := by decide +kernel
theorem d_MO_tell_147 : decode b_MO_tell 147 = .ok (.iadd, 1) := by decide +kernel
theorem d_MO_tell_148 : decode b_MO_tell 148 = .ok (.iload 7, 2) := by decide +kernel
theorem d_MO_tell_150 : decode b_MO_tell 150 = .ok (.i2l, 1) := by decide +kernel
theorem d_MO_tell_151 : decode b_MO_tell 151 = .ok (.lastore, 1) := by decide +kernel
theorem d_MO_tell_152 : decode b_MO_tell 152 = .ok (.aload_n 0, 1) := by decide +kernel
theorem d_MO_tell_153 : decode b_MO_tell 153 = .ok (.dup, 1) := by decide +kernel
theorem d_MO_tell_154 : decode b_MO_tell 154 = .ok (.getfield 212, 3) := by decide +kernel
theorem d_MO_tell_157 : decode b_MO_tell 157 = .ok (.iconst 1, 1) := by decide +kernel
theorem d_MO_tell_158 : decode b_MO_tell 158 = .ok (.iadd, 1) := by decide +kernel
theorem d_MO_tell_159 : decode b_MO_tell 159 = .ok (.putfield 212, 3) := by decide +kernel
theorem d_MO_tell_162 : decode b_MO_tell 162 = .ok (.aload_n 0, 1) := by decide +kernel
theorem d_MO_tell_163 : decode b_MO_tell 163 = .ok (.dup, 1) := by decide +kernel
theorem d_MO_tell_164 : decode b_MO_tell 164 = .ok (.getfield 215, 3) := by decide +kernel
theorem d_MO_tell_167 : decode b_MO_tell 167 = .ok (.iconst 1, 1) := by decide +kernel
theorem d_MO_tell_168 : decode b_MO_tell 168 = .ok (.iadd, 1) := by decide +kernel
theorem d_MO_tell_169 : decode b_MO_tell 169 = .ok (.putfield 215, 3) := by decide +kernel
theorem d_MO_tell_172 : decode b_MO_tell 172 = .ok (.aload_n 0, 1) := by decide +kernel
theorem d_MO_tell_173 : decode b_MO_tell 173 = .ok (.dup, 1) := by decide +kernel
theorem d_MO_tell_174 : decode b_MO_tell 174 = .ok (.getfield 218, 3) := by decide +kernel
theorem d_MO_tell_177 : decode b_MO_tell 177 = .ok (.iload 6, 2) := by decide +kernel
theorem d_MO_tell_179 : decode b_MO_tell 179 = .ok (.ifCond .ne 7, 3) := by decide +kernel
theorem d_MO_tell_182 : decode b_MO_tell 182 = .ok (.iconst 1, 1) := by decide +kernel
theorem d_MO_tell_183 : decode b_MO_tell 183 = .ok (.goto 4, 3) := by decide +kernel
theorem d_MO_tell_186 : decode b_MO_tell 186 = .ok (.iconst 0, 1) := by decide +kernel
theorem d_MO_tell_187 : decode b_MO_tell 187 = .ok (.iadd, 1) := by decide +kernel
theorem d_MO_tell_188 : decode b_MO_tell 188 = .ok (.putfield 218, 3) := by decide +kernel
theorem d_MO_tell_191 : decode b_MO_tell 191 = .ok (.aload_n 0, 1) := by decide +kernel
theorem d_MO_tell_192 : decode b_MO_tell 192 = .ok (.dup, 1) := by decide +kernel
theorem d_MO_tell_193 : decode b_MO_tell 193 = .ok (.getfield 221, 3) := by decide +kernel
theorem d_MO_tell_196 : decode b_MO_tell 196 = .ok (.iload 6, 2) := by decide +kernel
theorem d_MO_tell_198 : decode b_MO_tell 198 = .ok (.iconst 2, 1) := by decide +kernel
theorem d_MO_tell_199 : decode b_MO_tell 199 = .ok (.if_icmp .ne 7, 3) := by decide +kernel
theorem d_MO_tell_202 : decode b_MO_tell 202 = .ok (.iconst 1, 1) := by decide +kernel
theorem d_MO_tell_203 : decode b_MO_tell 203 = .ok (.goto 4, 3) := by decide +kernel
theorem d_MO_tell_206 : decode b_MO_tell 206 = .ok (.iconst 0, 1) := by decide +kernel
theorem d_MO_tell_207 : decode b_MO_tell 207 = .ok (.iadd, 1) := by decide +kernel
theorem d_MO_tell_208 : decode b_MO_tell 208 = .ok (.putfield 221, 3) := by decide +kernel
theorem d_MO_tell_211 : decode b_MO_tell 211 = .ok (.return_, 1) := by decide +kernel
theorem d_MO_fire_0 : decode b_MO_fire 0 = .ok (.iconst 0, 1) := by decide +kernel
theorem d_MO_fire_1 : decode b_MO_fire 1 = .ok (.istore_n 3, 1) := by decide +kernel
theorem d_MO_fire_2 : decode b_MO_fire 2 = .ok (.iload_n 3, 1) := by decide +kernel
theorem d_MO_fire_3 : decode b_MO_fire 3 = .ok (.sipush 300, 3) := by decide +kernel
theorem d_MO_fire_6 : decode b_MO_fire 6 = .ok (.if_icmp .ge 70, 3) := by decide +kernel
theorem d_MO_fire_9 : decode b_MO_fire 9 = .ok (.sipush 300, 3) := by decide +kernel
theorem d_MO_fire_12 : decode b_MO_fire 12 = .ok (.iload_n 1, 1) := by decide +kernel
theorem d_MO_fire_13 : decode b_MO_fire 13 = .ok (.imul, 1) := by decide +kernel
theorem d_MO_fire_14 : decode b_MO_fire 14 = .ok (.iload_n 3, 1) := by decide +kernel
theorem d_MO_fire_15 : decode b_MO_fire 15 = .ok (.iadd, 1) := by decide +kernel
theorem d_MO_fire_16 : decode b_MO_fire 16 = .ok (.istore 4, 2) := by decide +kernel
theorem d_MO_fire_18 : decode b_MO_fire 18 = .ok (.aload_n 0, 1) := by decide +kernel
theorem d_MO_fire_19 : decode b_MO_fire 19 = .ok (.getfield 86, 3) := by decide +kernel
theorem d_MO_fire_22 : decode b_MO_fire 22 = .ok (.iload_n 3, 1) := by decide +kernel
theorem d_MO_fire_23 : decode b_MO_fire 23 = .ok (.aload_n 0, 1) := by decide +kernel
theorem d_MO_fire_24 : decode b_MO_fire 24 = .ok (.getfield 62, 3) := by decide +kernel
theorem d_MO_fire_27 : decode b_MO_fire 27 = .ok (.iload 4, 2) := by decide +kernel
theorem d_MO_fire_29 : decode b_MO_fire 29 = .ok (.baload, 1) := by decide +kernel
theorem d_MO_fire_30 : decode b_MO_fire 30 = .ok (.ifCond .eq 24, 3) := by decide +kernel
theorem d_MO_fire_33 : decode b_MO_fire 33 = .ok (.aload_n 0, 1) := by decide +kernel
theorem d_MO_fire_34 : decode b_MO_fire 34 = .ok (.getfield 129, 3) := by decide +kernel
theorem d_MO_fire_37 : decode b_MO_fire 37 = .ok (.ifCond .eq 13, 3) := by decide +kernel
theorem d_MO_fire_40 : decode b_MO_fire 40 = .ok (.aload_n 0, 1) := by decide +kernel
theorem d_MO_fire_41 : decode b_MO_fire 41 = .ok (.getfield 65, 3) := by decide +kernel
theorem d_MO_fire_44 : decode b_MO_fire 44 = .ok (.iload 4, 2) := by decide +kernel
theorem d_MO_fire_46 : decode b_MO_fire 46 = .ok (.baload, 1) := by decide +kernel
theorem d_MO_fire_47 : decode b_MO_fire 47 = .ok (.ifCond .ne 7, 3) := by decide +kernel
theorem d_MO_fire_50 : decode b_MO_fire 50 = .ok (.iconst 1, 1) := by decide +kernel
theorem d_MO_fire_51 : decode b_MO_fire 51 = .ok (.goto 4, 3) := by decide +kernel
theorem d_MO_fire_54 : decode b_MO_fire 54 = .ok (.iconst 0, 1) := by decide +kernel
theorem d_MO_fire_55 : decode b_MO_fire 55 = .ok (.bastore, 1) := by decide +kernel
theorem d_MO_fire_56 : decode b_MO_fire 56 = .ok (.aload_n 0, 1) := by decide +kernel
theorem d_MO_fire_57 : decode b_MO_fire 57 = .ok (.getfield 65, 3) := by decide +kernel
theorem d_MO_fire_60 : decode b_MO_fire 60 = .ok (.iload 4, 2) := by decide +kernel
theorem d_MO_fire_62 : decode b_MO_fire 62 = .ok (.aload_n 0, 1) := by decide +kernel
theorem d_MO_fire_63 : decode b_MO_fire 63 = .ok (.getfield 62, 3) := by decide +kernel
theorem d_MO_fire_66 : decode b_MO_fire 66 = .ok (.iload 4, 2) := by decide +kernel
theorem d_MO_fire_68 : decode b_MO_fire 68 = .ok (.baload, 1) := by decide +kernel
theorem d_MO_fire_69 : decode b_MO_fire 69 = .ok (.bastore, 1) := by decide +kernel
theorem d_MO_fire_70 : decode b_MO_fire 70 = .ok (.iinc 3 1, 3) := by decide +kernel
theorem d_MO_fire_73 : decode b_MO_fire 73 = .ok (.goto (-71), 3) := by decide +kernel
theorem d_MO_fire_76 : decode b_MO_fire 76 = .ok (.aload_n 0, 1) := by decide +kernel
theorem d_MO_fire_77 : decode b_MO_fire 77 = .ok (.invokevirtual 224, 3) := by decide +kernel
theorem d_MO_fire_80 : decode b_MO_fire 80 = .ok (.aload_n 0, 1) := by decide +kernel
theorem d_MO_fire_81 : decode b_MO_fire 81 = .ok (.getfield 51, 3) := by decide +kernel
theorem d_MO_fire_84 : decode b_MO_fire 84 = .ok (.iload_n 1, 1) := by decide +kernel
theorem d_MO_fire_85 : decode b_MO_fire 85 = .ok (.dup2, 1) := by decide +kernel
theorem d_MO_fire_86 : decode b_MO_fire 86 = .ok (.iaload, 1) := by decide +kernel
theorem d_MO_fire_87 : decode b_MO_fire 87 = .ok (.iconst 1, 1) := by decide +kernel
theorem d_MO_fire_88 : decode b_MO_fire 88 = .ok (.iadd, 1) := by decide +kernel
theorem d_MO_fire_89 : decode b_MO_fire 89 = .ok (.iastore, 1) := by decide +kernel
theorem d_MO_fire_90 : decode b_MO_fire 90 = .ok (.aload_n 0, 1) := by decide +kernel
theorem d_MO_fire_91 : decode b_MO_fire 91 = .ok (.getfield 54, 3) := by decide +kernel
theorem d_MO_fire_94 : decode b_MO_fire 94 = .ok (.iload_n 1, 1) := by decide +kernel
theorem d_MO_fire_95 : decode b_MO_fire 95 = .ok (.iconst 0, 1) := by decide +kernel
theorem d_MO_fire_96 : decode b_MO_fire 96 = .ok (.iastore, 1) := by decide +kernel
theorem d_MO_fire_97 : decode b_MO_fire 97 = .ok (.aload_n 0, 1) := by decide +kernel
theorem d_MO_fire_98 : decode b_MO_fire 98 = .ok (.getfield 57, 3) := by decide +kernel
theorem d_MO_fire_101 : decode b_MO_fire 101 = .ok (.iload_n 1, 1) := by decide +kernel
theorem d_MO_fire_102 : decode b_MO_fire 102 = .ok (.aload_n 0, 1) := by decide +kernel
theorem d_MO_fire_103 : decode b_MO_fire 103 = .ok (.getfield 57, 3) := by decide +kernel
theorem d_MO_fire_106 : decode b_MO_fire 106 = .ok (.iload_n 1, 1) := by decide +kernel
theorem d_MO_fire_107 : decode b_MO_fire 107 = .ok (.baload, 1) := by decide +kernel
theorem d_MO_fire_108 : decode b_MO_fire 108 = .ok (.ifCond .ne 7, 3) := by decide +kernel
theorem d_MO_fire_111 : decode b_MO_fire 111 = .ok (.iload_n 2, 1) := by decide +kernel
theorem d_MO_fire_112 : decode b_MO_fire 112 = .ok (.ifCond .le 7, 3) := by decide +kernel
theorem d_MO_fire_115 : decode b_MO_fire 115 = .ok (.iconst 1, 1) := by decide +kernel
theorem d_MO_fire_116 : decode b_MO_fire 116 = .ok (.goto 4, 3) := by decide +kernel
theorem d_MO_fire_119 : decode b_MO_fire 119 = .ok (.iconst 0, 1) := by decide +kernel
theorem d_MO_fire_120 : decode b_MO_fire 120 = .ok (.bastore, 1) := by decide +kernel
theorem d_MO_fire_121 : decode b_MO_fire 121 = .ok (.aload_n 0, 1) := by decide +kernel
theorem d_MO_fire_122 : decode b_MO_fire 122 = .ok (.aload_n 0, 1) := by decide +kernel
theorem d_MO_fire_123 : decode b_MO_fire 123 = .ok (.getfield 42, 3) := by decide +kernel
theorem d_MO_fire_126 : decode b_MO_fire 126 = .ok (.iload_n 1, 1) := by decide +kernel
theorem d_MO_fire_127 : decode b_MO_fire 127 = .ok (.iaload, 1) := by decide +kernel
theorem d_MO_fire_128 : decode b_MO_fire 128 = .ok (.aload_n 0, 1) := by decide +kernel
theorem d_MO_fire_129 : decode b_MO_fire 129 = .ok (.getfield 45, 3) := by decide +kernel
theorem d_MO_fire_132 : decode b_MO_fire 132 = .ok (.iload_n 1, 1) := by decide +kernel
theorem d_MO_fire_133 : decode b_MO_fire 133 = .ok (.laload, 1) := by decide +kernel
theorem d_MO_fire_134 : decode b_MO_fire 134 = .ok (.aload_n 0, 1) := by decide +kernel
theorem d_MO_fire_135 : decode b_MO_fire 135 = .ok (.getfield 48, 3) := by decide +kernel
theorem d_MO_fire_138 : decode b_MO_fire 138 = .ok (.iload_n 1, 1) := by decide +kernel
theorem d_MO_fire_139 : decode b_MO_fire 139 = .ok (.laload, 1) := by decide +kernel
theorem d_MO_fire_140 : decode b_MO_fire 140 = .ok (.iload_n 2, 1) := by decide +kernel
theorem d_MO_fire_141 : decode b_MO_fire 141 = .ok (.aload_n 0, 1) := by decide +kernel
theorem d_MO_fire_142 : decode b_MO_fire 142 = .ok (.getfield 51, 3) := by decide +kernel
theorem d_MO_fire_145 : decode b_MO_fire 145 = .ok (.iload_n 1, 1) := by decide +kernel
theorem d_MO_fire_146 : decode b_MO_fire 146 = .ok (.iaload, 1) := by decide +kernel
theorem d_MO_fire_147 : decode b_MO_fire 147 = .ok (.invokevirtual 227, 3) := by decide +kernel
theorem d_MO_fire_150 : decode b_MO_fire 150 = .ok (.return_, 1) := by decide +kernel
theorem d_MO_putInto_0 : decode b_MO_putInto 0 = .ok (.aload_n 0, 1) := by decide +kernel
theorem d_MO_putInto_1 : decode b_MO_putInto 1 = .ok (.getfield 62, 3) := by decide +kernel
theorem d_MO_putInto_4 : decode b_MO_putInto 4 = .ok (.sipush 300, 3) := by decide +kernel
theorem d_MO_putInto_7 : decode b_MO_putInto 7 = .ok (.iload_n 1, 1) := by decide +kernel
theorem d_MO_putInto_8 : decode b_MO_putInto 8 = .ok (.imul, 1) := by decide +kernel
theorem d_MO_putInto_9 : decode b_MO_putInto 9 = .ok (.iload_n 2, 1) := by decide +kernel
theorem d_MO_putInto_10 : decode b_MO_putInto 10 = .ok (.iadd, 1) := by decide +kernel
theorem d_MO_putInto_11 : decode b_MO_putInto 11 = .ok (.iconst 1, 1) := by decide +kernel
theorem d_MO_putInto_12 : decode b_MO_putInto 12 = .ok (.bastore, 1) := by decide +kernel
theorem d_MO_putInto_13 : decode b_MO_putInto 13 = .ok (.aload_n 0, 1) := by decide +kernel
theorem d_MO_putInto_14 : decode b_MO_putInto 14 = .ok (.getfield 54, 3) := by decide +kernel
theorem d_MO_putInto_17 : decode b_MO_putInto 17 = .ok (.iload_n 1, 1) := by decide +kernel
theorem d_MO_putInto_18 : decode b_MO_putInto 18 = .ok (.dup2, 1) := by decide +kernel
theorem d_MO_putInto_19 : decode b_MO_putInto 19 = .ok (.iaload, 1) := by decide +kernel
theorem d_MO_putInto_20 : decode b_MO_putInto 20 = .ok (.iconst 1, 1) := by decide +kernel
theorem d_MO_putInto_21 : decode b_MO_putInto 21 = .ok (.iadd, 1) := by decide +kernel
theorem d_MO_putInto_22 : decode b_MO_putInto 22 = .ok (.iastore, 1) := by decide +kernel
theorem d_MO_putInto_23 : decode b_MO_putInto 23 = .ok (.aload_n 0, 1) := by decide +kernel
theorem d_MO_putInto_24 : decode b_MO_putInto 24 = .ok (.getfield 48, 3) := by decide +kernel
theorem d_MO_putInto_27 : decode b_MO_putInto 27 = .ok (.iload_n 1, 1) := by decide +kernel
theorem d_MO_putInto_28 : decode b_MO_putInto 28 = .ok (.laload, 1) := by decide +kernel
theorem d_MO_putInto_29 : decode b_MO_putInto 29 = .ok (.aload_n 0, 1) := by decide +kernel
theorem d_MO_putInto_30 : decode b_MO_putInto 30 = .ok (.getfield 23, 3) := by decide +kernel
theorem d_MO_putInto_33 : decode b_MO_putInto 33 = .ok (.lcmp, 1) := by decide +kernel
theorem d_MO_putInto_34 : decode b_MO_putInto 34 = .ok (.ifCond .le 32, 3) := by decide +kernel
theorem d_MO_putInto_37 : decode b_MO_putInto 37 = .ok (.aload_n 0, 1) := by decide +kernel
theorem d_MO_putInto_38 : decode b_MO_putInto 38 = .ok (.getfield 126, 3) := by decide +kernel
theorem d_MO_putInto_41 : decode b_MO_putInto 41 = .ok (.ifCond .le 38, 3) := by decide +kernel
theorem d_MO_putInto_44 : decode b_MO_putInto 44 = .ok (.aload_n 0, 1) := by decide +kernel
theorem d_MO_putInto_45 : decode b_MO_putInto 45 = .ok (.getfield 54, 3) := by decide +kernel
theorem d_MO_putInto_48 : decode b_MO_putInto 48 = .ok (.iload_n 1, 1) := by decide +kernel
theorem d_MO_putInto_49 : decode b_MO_putInto 49 = .ok (.iaload, 1) := by decide +kernel
theorem d_MO_putInto_50 : decode b_MO_putInto 50 = .ok (.aload_n 0, 1) := by decide +kernel
theorem d_MO_putInto_51 : decode b_MO_putInto 51 = .ok (.getfield 126, 3) := by decide +kernel
theorem d_MO_putInto_54 : decode b_MO_putInto 54 = .ok (.if_icmp .lt 25, 3) := by decide +kernel
theorem d_MO_putInto_57 : decode b_MO_putInto 57 = .ok (.aload_n 0, 1) := by decide +kernel
theorem d_MO_putInto_58 : decode b_MO_putInto 58 = .ok (.iload_n 1, 1) := by decide +kernel
theorem d_MO_putInto_59 : decode b_MO_putInto 59 = .ok (.iconst 0, 1) := by decide +kernel
theorem d_MO_putInto_60 : decode b_MO_putInto 60 = .ok (.invokevirtual 231, 3) := by decide +kernel
theorem d_MO_putInto_63 : decode b_MO_putInto 63 = .ok (.goto 16, 3) := by decide +kernel
theorem d_MO_putInto_66 : decode b_MO_putInto 66 = .ok (.aload_n 0, 1) := by decide +kernel
theorem d_MO_putInto_67 : decode b_MO_putInto 67 = .ok (.getfield 7, 3) := by decide +kernel
theorem d_MO_putInto_70 : decode b_MO_putInto 70 = .ok (.ifCond .eq 9, 3) := by decide +kernel
theorem d_MO_putInto_73 : decode b_MO_putInto 73 = .ok (.aload_n 0, 1) := by decide +kernel
theorem d_MO_putInto_74 : decode b_MO_putInto 74 = .ok (.iload_n 1, 1) := by decide +kernel
theorem d_MO_putInto_75 : decode b_MO_putInto 75 = .ok (.iconst 2, 1) := by decide +kernel
theorem d_MO_putInto_76 : decode b_MO_putInto 76 = .ok (.invokevirtual 231, 3) := by decide +kernel
theorem d_MO_putInto_79 : decode b_MO_putInto 79 = .ok (.return_, 1) := by decide +kernel
theorem d_MO_drop_0 : decode b_MO_drop 0 = .ok (.aload_n 0, 1) := by decide +kernel
theorem d_MO_drop_1 : decode b_MO_drop 1 = .ok (.dup, 1) := by decide +kernel
theorem d_MO_drop_2 : decode b_MO_drop 2 = .ok (.getfield 115, 3) := by decide +kernel
theorem d_MO_drop_5 : decode b_MO_drop 5 = .ok (.iconst 1, 1) := by decide +kernel
theorem d_MO_drop_6 : decode b_MO_drop 6 = .ok (.iadd, 1) := by decide +kernel
theorem d_MO_drop_7 : decode b_MO_drop 7 = .ok (.putfield 115, 3) := by decide +kernel
theorem d_MO_drop_10 : decode b_MO_drop 10 = .ok (.aload_n 0, 1) := by decide +kernel
theorem d_MO_drop_11 : decode b_MO_drop 11 = .ok (.dup, 1) := by decide +kernel
theorem d_MO_drop_12 : decode b_MO_drop 12 = .ok (.getfield 254, 3) := by decide +kernel
theorem d_MO_drop_15 : decode b_MO_drop 15 = .ok (.iconst 1, 1) := by decide +kernel
theorem d_MO_drop_16 : decode b_MO_drop 16 = .ok (.iadd, 1) := by decide +kernel
theorem d_MO_drop_17 : decode b_MO_drop 17 = .ok (.putfield 254, 3) := by decide +kernel
theorem d_MO_drop_20 : decode b_MO_drop 20 = .ok (.iconst 0, 1) := by decide +kernel
theorem d_MO_drop_21 : decode b_MO_drop 21 = .ok (.ireturn, 1) := by decide +kernel
theorem d_MO_counted_0 : decode b_MO_counted 0 = .ok (.lload_n 2, 1) := by decide +kernel
theorem d_MO_counted_1 : decode b_MO_counted 1 = .ok (.aload_n 0, 1) := by decide +kernel
theorem d_MO_counted_2 : decode b_MO_counted 2 = .ok (.getfield 23, 3) := by decide +kernel
theorem d_MO_counted_5 : decode b_MO_counted 5 = .ok (.lcmp, 1) := by decide +kernel
theorem d_MO_counted_6 : decode b_MO_counted 6 = .ok (.ifCond .ge 8, 3) := by decide +kernel
theorem d_MO_counted_9 : decode b_MO_counted 9 = .ok (.aload_n 0, 1) := by decide +kernel
theorem d_MO_counted_10 : decode b_MO_counted 10 = .ok (.invokevirtual 257, 3) := by decide +kernel
theorem d_MO_counted_13 : decode b_MO_counted 13 = .ok (.ireturn, 1) := by decide +kernel
theorem d_MO_counted_14 : decode b_MO_counted 14 = .ok (.aload_n 0, 1) := by decide +kernel
theorem d_MO_counted_15 : decode b_MO_counted 15 = .ok (.getfield 203, 3) := by decide +kernel
theorem d_MO_counted_18 : decode b_MO_counted 18 = .ok (.sipush 300, 3) := by decide +kernel
theorem d_MO_counted_21 : decode b_MO_counted 21 = .ok (.if_icmp .ne 6, 3) := by decide +kernel
theorem d_MO_counted_24 : decode b_MO_counted 24 = .ok (.bipush (-4), 2) := by decide +kernel
theorem d_MO_counted_26 : decode b_MO_counted 26 = .ok (.ireturn, 1) := by decide +kernel
theorem d_MO_counted_27 : decode b_MO_counted 27 = .ok (.aload_n 0, 1) := by decide +kernel
theorem d_MO_counted_28 : decode b_MO_counted 28 = .ok (.iload_n 1, 1) := by decide +kernel
theorem d_MO_counted_29 : decode b_MO_counted 29 = .ok (.lload_n 2, 1) := by decide +kernel
theorem d_MO_counted_30 : decode b_MO_counted 30 = .ok (.lload 4, 2) := by decide +kernel
theorem d_MO_counted_32 : decode b_MO_counted 32 = .ok (.invokevirtual 261, 3) := by decide +kernel
theorem d_MO_counted_35 : decode b_MO_counted 35 = .ok (.istore 6, 2) := by decide +kernel
theorem d_MO_counted_37 : decode b_MO_counted 37 = .ok (.aload_n 0, 1) := by decide +kernel
theorem d_MO_counted_38 : decode b_MO_counted 38 = .ok (.dup, 1) := by decide +kernel
theorem d_MO_counted_39 : decode b_MO_counted 39 = .ok (.getfield 115, 3) := by decide +kernel
theorem d_MO_counted_42 : decode b_MO_counted 42 = .ok (.iconst 1, 1) := by decide +kernel
theorem d_MO_counted_43 : decode b_MO_counted 43 = .ok (.iadd, 1) := by decide +kernel
theorem d_MO_counted_44 : decode b_MO_counted 44 = .ok (.putfield 115, 3) := by decide +kernel
theorem d_MO_counted_47 : decode b_MO_counted 47 = .ok (.iconst 1, 1) := by decide +kernel
theorem d_MO_counted_48 : decode b_MO_counted 48 = .ok (.ireturn, 1) := by decide +kernel
theorem d_MO_join_0 : decode b_MO_join 0 = .ok (.iconst 0, 1) := by decide +kernel
theorem d_MO_join_1 : decode b_MO_join 1 = .ok (.istore_n 3, 1) := by decide +kernel
theorem d_MO_join_2 : decode b_MO_join 2 = .ok (.iload_n 3, 1) := by decide +kernel
theorem d_MO_join_3 : decode b_MO_join 3 = .ok (.sipush 300, 3) := by decide +kernel
theorem d_MO_join_6 : decode b_MO_join 6 = .ok (.if_icmp .ge 59, 3) := by decide +kernel
theorem d_MO_join_9 : decode b_MO_join 9 = .ok (.sipush 300, 3) := by decide +kernel
theorem d_MO_join_12 : decode b_MO_join 12 = .ok (.iload_n 1, 1) := by decide +kernel
theorem d_MO_join_13 : decode b_MO_join 13 = .ok (.imul, 1) := by decide +kernel
theorem d_MO_join_14 : decode b_MO_join 14 = .ok (.iload_n 3, 1) := by decide +kernel
theorem d_MO_join_15 : decode b_MO_join 15 = .ok (.iadd, 1) := by decide +kernel
theorem d_MO_join_16 : decode b_MO_join 16 = .ok (.istore 4, 2) := by decide +kernel
theorem d_MO_join_18 : decode b_MO_join 18 = .ok (.sipush 300, 3) := by decide +kernel
theorem d_MO_join_21 : decode b_MO_join 21 = .ok (.iload_n 2, 1) := by decide +kernel
theorem d_MO_join_22 : decode b_MO_join 22 = .ok (.imul, 1) := by decide +kernel
theorem d_MO_join_23 : decode b_MO_join 23 = .ok (.iload_n 3, 1) := by decide +kernel
theorem d_MO_join_24 : decode b_MO_join 24 = .ok (.iadd, 1) := by decide +kernel
theorem d_MO_join_25 : decode b_MO_join 25 = .ok (.istore 5, 2) := by decide +kernel
theorem d_MO_join_27 : decode b_MO_join 27 = .ok (.aload_n 0, 1) := by decide +kernel
theorem d_MO_join_28 : decode b_MO_join 28 = .ok (.getfield 62, 3) := by decide +kernel
theorem d_MO_join_31 : decode b_MO_join 31 = .ok (.iload 5, 2) := by decide +kernel
theorem d_MO_join_33 : decode b_MO_join 33 = .ok (.baload, 1) := by decide +kernel
theorem d_MO_join_34 : decode b_MO_join 34 = .ok (.ifCond .eq 25, 3) := by decide +kernel
theorem d_MO_join_37 : decode b_MO_join 37 = .ok (.aload_n 0, 1) := by decide +kernel
theorem d_MO_join_38 : decode b_MO_join 38 = .ok (.getfield 62, 3) := by decide +kernel
theorem d_MO_join_41 : decode b_MO_join 41 = .ok (.iload 4, 2) := by decide +kernel
theorem d_MO_join_43 : decode b_MO_join 43 = .ok (.iconst 1, 1) := by decide +kernel
theorem d_MO_join_44 : decode b_MO_join 44 = .ok (.bastore, 1) := by decide +kernel
theorem d_MO_join_45 : decode b_MO_join 45 = .ok (.aload_n 0, 1) := by decide +kernel
theorem d_MO_join_46 : decode b_MO_join 46 = .ok (.getfield 65, 3) := by decide +kernel
theorem d_MO_join_49 : decode b_MO_join 49 = .ok (.iload 4, 2) := by decide +kernel
theorem d_MO_join_51 : decode b_MO_join 51 = .ok (.aload_n 0, 1) := by decide +kernel
theorem d_MO_join_52 : decode b_MO_join 52 = .ok (.getfield 65, 3) := by decide +kernel
theorem d_MO_join_55 : decode b_MO_join 55 = .ok (.iload 5, 2) := by decide +kernel
theorem d_MO_join_57 : decode b_MO_join 57 = .ok (.baload, 1) := by decide +kernel
theorem d_MO_join_58 : decode b_MO_join 58 = .ok (.bastore, 1) := by decide +kernel
theorem d_MO_join_59 : decode b_MO_join 59 = .ok (.iinc 3 1, 3) := by decide +kernel
theorem d_MO_join_62 : decode b_MO_join 62 = .ok (.goto (-60), 3) := by decide +kernel
theorem d_MO_join_65 : decode b_MO_join 65 = .ok (.aload_n 0, 1) := by decide +kernel
theorem d_MO_join_66 : decode b_MO_join 66 = .ok (.getfield 51, 3) := by decide +kernel
theorem d_MO_join_69 : decode b_MO_join 69 = .ok (.iload_n 1, 1) := by decide +kernel
theorem d_MO_join_70 : decode b_MO_join 70 = .ok (.aload_n 0, 1) := by decide +kernel
theorem d_MO_join_71 : decode b_MO_join 71 = .ok (.getfield 51, 3) := by decide +kernel
theorem d_MO_join_74 : decode b_MO_join 74 = .ok (.iload_n 2, 1) := by decide +kernel
theorem d_MO_join_75 : decode b_MO_join 75 = .ok (.iaload, 1) := by decide +kernel
theorem d_MO_join_76 : decode b_MO_join 76 = .ok (.aload_n 0, 1) := by decide +kernel
theorem d_MO_join_77 : decode b_MO_join 77 = .ok (.getfield 51, 3) := by decide +kernel
theorem d_MO_join_80 : decode b_MO_join 80 = .ok (.iload_n 1, 1) := by decide +kernel
theorem d_MO_join_81 : decode b_MO_join 81 = .ok (.iaload, 1) := by decide +kernel
theorem d_MO_join_82 : decode b_MO_join 82 = .ok (.if_icmp .le 12, 3) := by decide +kernel
theorem d_MO_join_85 : decode b_MO_join 85 = .ok (.aload_n 0, 1) := by decide +kernel
theorem d_MO_join_86 : decode b_MO_join 86 = .ok (.getfield 51, 3) := by decide +kernel
theorem d_MO_join_89 : decode b_MO_join 89 = .ok (.iload_n 2, 1) := by decide +kernel
theorem d_MO_join_90 : decode b_MO_join 90 = .ok (.iaload, 1) := by decide +kernel
theorem d_MO_join_91 : decode b_MO_join 91 = .ok (.goto 9, 3) := by decide +kernel
theorem d_MO_join_94 : decode b_MO_join 94 = .ok (.aload_n 0, 1) := by decide +kernel
theorem d_MO_join_95 : decode b_MO_join 95 = .ok (.getfield 51, 3) := by decide +kernel
theorem d_MO_join_98 : decode b_MO_join 98 = .ok (.iload_n 1, 1) := by decide +kernel
theorem d_MO_join_99 : decode b_MO_join 99 = .ok (.iaload, 1) := by decide +kernel
theorem d_MO_join_100 : decode b_MO_join 100 = .ok (.iastore, 1) := by decide +kernel
theorem d_MO_join_101 : decode b_MO_join 101 = .ok (.aload_n 0, 1) := by decide +kernel
theorem d_MO_join_102 : decode b_MO_join 102 = .ok (.getfield 54, 3) := by decide +kernel
theorem d_MO_join_105 : decode b_MO_join 105 = .ok (.iload_n 1, 1) := by decide +kernel
theorem d_MO_join_106 : decode b_MO_join 106 = .ok (.dup2, 1) := by decide +kernel
theorem d_MO_join_107 : decode b_MO_join 107 = .ok (.iaload, 1) := by decide +kernel
theorem d_MO_join_108 : decode b_MO_join 108 = .ok (.aload_n 0, 1) := by decide +kernel
theorem d_MO_join_109 : decode b_MO_join 109 = .ok (.getfield 54, 3) := by decide +kernel
theorem d_MO_join_112 : decode b_MO_join 112 = .ok (.iload_n 2, 1) := by decide +kernel
theorem d_MO_join_113 : decode b_MO_join 113 = .ok (.iaload, 1) := by decide +kernel
theorem d_MO_join_114 : decode b_MO_join 114 = .ok (.iadd, 1) := by decide +kernel
theorem d_MO_join_115 : decode b_MO_join 115 = .ok (.iastore, 1) := by decide +kernel
theorem d_MO_join_116 : decode b_MO_join 116 = .ok (.aload_n 0, 1) := by decide +kernel
theorem d_MO_join_117 : decode b_MO_join 117 = .ok (.getfield 57, 3) := by decide +kernel
theorem d_MO_join_120 : decode b_MO_join 120 = .ok (.iload_n 1, 1) := by decide +kernel
theorem d_MO_join_121 : decode b_MO_join 121 = .ok (.aload_n 0, 1) := by decide +kernel
theorem d_MO_join_122 : decode b_MO_join 122 = .ok (.getfield 57, 3) := by decide +kernel
theorem d_MO_join_125 : decode b_MO_join 125 = .ok (.iload_n 1, 1) := by decide +kernel
theorem d_MO_join_126 : decode b_MO_join 126 = .ok (.baload, 1) := by decide +kernel
theorem d_MO_join_127 : decode b_MO_join 127 = .ok (.ifCond .ne 12, 3) := by decide +kernel
theorem d_MO_join_130 : decode b_MO_join 130 = .ok (.aload_n 0, 1) := by decide +kernel
theorem d_MO_join_131 : decode b_MO_join 131 = .ok (.getfield 57, 3) := by decide +kernel
theorem d_MO_join_134 : decode b_MO_join 134 = .ok (.iload_n 2, 1) := by decide +kernel
theorem d_MO_join_135 : decode b_MO_join 135 = .ok (.baload, 1) := by decide +kernel
theorem d_MO_join_136 : decode b_MO_join 136 = .ok (.ifCond .eq 7, 3) := by decide +kernel
theorem d_MO_join_139 : decode b_MO_join 139 = .ok (.iconst 1, 1) := by decide +kernel
theorem d_MO_join_140 : decode b_MO_join 140 = .ok (.goto 4, 3) := by decide +kernel
theorem d_MO_join_143 : decode b_MO_join 143 = .ok (.iconst 0, 1) := by decide +kernel
theorem d_MO_join_144 : decode b_MO_join 144 = .ok (.bastore, 1) := by decide +kernel
theorem d_MO_join_145 : decode b_MO_join 145 = .ok (.aload_n 0, 1) := by decide +kernel
theorem d_MO_join_146 : decode b_MO_join 146 = .ok (.getfield 42, 3) := by decide +kernel
theorem d_MO_join_149 : decode b_MO_join 149 = .ok (.iload_n 2, 1) := by decide +kernel
theorem d_MO_join_150 : decode b_MO_join 150 = .ok (.iconst (-1), 1) := by decide +kernel
theorem d_MO_join_151 : decode b_MO_join 151 = .ok (.iastore, 1) := by decide +kernel
theorem d_MO_join_152 : decode b_MO_join 152 = .ok (.aload_n 0, 1) := by decide +kernel
theorem d_MO_join_153 : decode b_MO_join 153 = .ok (.dup, 1) := by decide +kernel
theorem d_MO_join_154 : decode b_MO_join 154 = .ok (.getfield 200, 3) := by decide +kernel
theorem d_MO_join_157 : decode b_MO_join 157 = .ok (.iconst 1, 1) := by decide +kernel
theorem d_MO_join_158 : decode b_MO_join 158 = .ok (.isub, 1) := by decide +kernel
theorem d_MO_join_159 : decode b_MO_join 159 = .ok (.putfield 200, 3) := by decide +kernel
theorem d_MO_join_162 : decode b_MO_join 162 = .ok (.return_, 1) := by decide +kernel
theorem d_MO_gap_0 : decode b_MO_gap 0 = .ok (.aload_n 0, 1) := by decide +kernel
theorem d_MO_gap_1 : decode b_MO_gap 1 = .ok (.getfield 77, 3) := by decide +kernel
theorem d_MO_gap_4 : decode b_MO_gap 4 = .ok (.iconst 0, 1) := by decide +kernel
theorem d_MO_gap_5 : decode b_MO_gap 5 = .ok (.laload, 1) := by decide +kernel
theorem d_MO_gap_6 : decode b_MO_gap 6 = .ok (.lstore 6, 2) := by decide +kernel
theorem d_MO_gap_8 : decode b_MO_gap 8 = .ok (.aload_n 0, 1) := by decide +kernel
theorem d_MO_gap_9 : decode b_MO_gap 9 = .ok (.getfield 80, 3) := by decide +kernel
theorem d_MO_gap_12 : decode b_MO_gap 12 = .ok (.iconst 0, 1) := by decide +kernel
theorem d_MO_gap_13 : decode b_MO_gap 13 = .ok (.laload, 1) := by decide +kernel
theorem d_MO_gap_14 : decode b_MO_gap 14 = .ok (.lstore 8, 2) := by decide +kernel
theorem d_MO_gap_16 : decode b_MO_gap 16 = .ok (.iconst 0, 1) := by decide +kernel
theorem d_MO_gap_17 : decode b_MO_gap 17 = .ok (.istore 10, 2) := by decide +kernel
theorem d_MO_gap_19 : decode b_MO_gap 19 = .ok (.iconst 0, 1) := by decide +kernel
theorem d_MO_gap_20 : decode b_MO_gap 20 = .ok (.istore 11, 2) := by decide +kernel
theorem d_MO_gap_22 : decode b_MO_gap 22 = .ok (.iload 11, 2) := by decide +kernel
theorem d_MO_gap_24 : decode b_MO_gap 24 = .ok (.sipush 200, 3) := by decide +kernel
theorem d_MO_gap_27 : decode b_MO_gap 27 = .ok (.if_icmp .ge 111, 3) := by decide +kernel
theorem d_MO_gap_30 : decode b_MO_gap 30 = .ok (.aload_n 0, 1) := by decide +kernel
theorem d_MO_gap_31 : decode b_MO_gap 31 = .ok (.getfield 42, 3) := by decide +kernel
theorem d_MO_gap_34 : decode b_MO_gap 34 = .ok (.iload 11, 2) := by decide +kernel
theorem d_MO_gap_36 : decode b_MO_gap 36 = .ok (.iaload, 1) := by decide +kernel
theorem d_MO_gap_37 : decode b_MO_gap 37 = .ok (.iload_n 1, 1) := by decide +kernel
theorem d_MO_gap_38 : decode b_MO_gap 38 = .ok (.if_icmp .ne 94, 3) := by decide +kernel
theorem d_MO_gap_41 : decode b_MO_gap 41 = .ok (.aload_n 0, 1) := by decide +kernel
theorem d_MO_gap_42 : decode b_MO_gap 42 = .ok (.getfield 45, 3) := by decide +kernel
theorem d_MO_gap_45 : decode b_MO_gap 45 = .ok (.iload 11, 2) := by decide +kernel
theorem d_MO_gap_47 : decode b_MO_gap 47 = .ok (.laload, 1) := by decide +kernel
theorem d_MO_gap_48 : decode b_MO_gap 48 = .ok (.aload_n 0, 1) := by decide +kernel
theorem d_MO_gap_49 : decode b_MO_gap 49 = .ok (.getfield 80, 3) := by decide +kernel
theorem d_MO_gap_52 : decode b_MO_gap 52 = .ok (.iconst 0, 1) := by decide +kernel
theorem d_MO_gap_53 : decode b_MO_gap 53 = .ok (.laload, 1) := by decide +kernel
theorem d_MO_gap_54 : decode b_MO_gap 54 = .ok (.lcmp, 1) := by decide +kernel
theorem d_MO_gap_55 : decode b_MO_gap 55 = .ok (.ifCond .ge 77, 3) := by decide +kernel
theorem d_MO_gap_58 : decode b_MO_gap 58 = .ok (.aload_n 0, 1) := by decide +kernel
theorem d_MO_gap_59 : decode b_MO_gap 59 = .ok (.getfield 77, 3) := by decide +kernel
theorem d_MO_gap_62 : decode b_MO_gap 62 = .ok (.iconst 0, 1) := by decide +kernel
theorem d_MO_gap_63 : decode b_MO_gap 63 = .ok (.laload, 1) := by decide +kernel
theorem d_MO_gap_64 : decode b_MO_gap 64 = .ok (.aload_n 0, 1) := by decide +kernel
theorem d_MO_gap_65 : decode b_MO_gap 65 = .ok (.getfield 48, 3) := by decide +kernel
theorem d_MO_gap_68 : decode b_MO_gap 68 = .ok (.iload 11, 2) := by decide +kernel
theorem d_MO_gap_70 : decode b_MO_gap 70 = .ok (.laload, 1) := by decide +kernel
theorem d_MO_gap_71 : decode b_MO_gap 71 = .ok (.lcmp, 1) := by decide +kernel
theorem d_MO_gap_72 : decode b_MO_gap 72 = .ok (.ifCond .ge 60, 3) := by decide +kernel
theorem d_MO_gap_75 : decode b_MO_gap 75 = .ok (.aload_n 0, 1) := by decide +kernel
theorem d_MO_gap_76 : decode b_MO_gap 76 = .ok (.getfield 45, 3) := by decide +kernel
theorem d_MO_gap_79 : decode b_MO_gap 79 = .ok (.iload 11, 2) := by decide +kernel
theorem d_MO_gap_81 : decode b_MO_gap 81 = .ok (.laload, 1) := by decide +kernel
theorem d_MO_gap_82 : decode b_MO_gap 82 = .ok (.lload 6, 2) := by decide +kernel
theorem d_MO_gap_84 : decode b_MO_gap 84 = .ok (.lcmp, 1) := by decide +kernel
theorem d_MO_gap_85 : decode b_MO_gap 85 = .ok (.ifCond .ge 13, 3) := by decide +kernel
theorem d_MO_gap_88 : decode b_MO_gap 88 = .ok (.aload_n 0, 1) := by decide +kernel
theorem d_MO_gap_89 : decode b_MO_gap 89 = .ok (.getfield 45, 3) := by decide +kernel
theorem d_MO_gap_92 : decode b_MO_gap 92 = .ok (.iload 11, 2) := by decide +kernel
theorem d_MO_gap_94 : decode b_MO_gap 94 = .ok (.laload, 1) := by decide +kernel
theorem d_MO_gap_95 : decode b_MO_gap 95 = .ok (.goto 5, 3) := by decide +kernel
theorem d_MO_gap_98 : decode b_MO_gap 98 = .ok (.lload 6, 2) := by decide +kernel
theorem d_MO_gap_100 : decode b_MO_gap 100 = .ok (.lstore 6, 2) := by decide +kernel
theorem d_MO_gap_102 : decode b_MO_gap 102 = .ok (.aload_n 0, 1) := by decide +kernel
theorem d_MO_gap_103 : decode b_MO_gap 103 = .ok (.getfield 48, 3) := by decide +kernel
theorem d_MO_gap_106 : decode b_MO_gap 106 = .ok (.iload 11, 2) := by decide +kernel
theorem d_MO_gap_108 : decode b_MO_gap 108 = .ok (.laload, 1) := by decide +kernel
theorem d_MO_gap_109 : decode b_MO_gap 109 = .ok (.lload 8, 2) := by decide +kernel
theorem d_MO_gap_111 : decode b_MO_gap 111 = .ok (.lcmp, 1) := by decide +kernel
theorem d_MO_gap_112 : decode b_MO_gap 112 = .ok (.ifCond .le 13, 3) := by decide +kernel
theorem d_MO_gap_115 : decode b_MO_gap 115 = .ok (.aload_n 0, 1) := by decide +kernel
theorem d_MO_gap_116 : decode b_MO_gap 116 = .ok (.getfield 48, 3) := by decide +kernel
theorem d_MO_gap_119 : decode b_MO_gap 119 = .ok (.iload 11, 2) := by decide +kernel
theorem d_MO_gap_121 : decode b_MO_gap 121 = .ok (.laload, 1) := by decide +kernel
theorem d_MO_gap_122 : decode b_MO_gap 122 = .ok (.goto 5, 3) := by decide +kernel
theorem d_MO_gap_125 : decode b_MO_gap 125 = .ok (.lload 8, 2) := by decide +kernel
theorem d_MO_gap_127 : decode b_MO_gap 127 = .ok (.lstore 8, 2) := by decide +kernel
theorem d_MO_gap_129 : decode b_MO_gap 129 = .ok (.iinc 10 1, 3) := by decide +kernel
theorem d_MO_gap_132 : decode b_MO_gap 132 = .ok (.iinc 11 1, 3) := by decide +kernel
theorem d_MO_gap_135 : decode b_MO_gap 135 = .ok (.goto (-113), 3) := by decide +kernel
theorem d_MO_gap_138 : decode b_MO_gap 138 = .ok (.lload 8, 2) := by decide +kernel
theorem d_MO_gap_140 : decode b_MO_gap 140 = .ok (.aload_n 0, 1) := by decide +kernel
theorem d_MO_gap_141 : decode b_MO_gap 141 = .ok (.getfield 121, 3) := by decide +kernel
theorem d_MO_gap_144 : decode b_MO_gap 144 = .ok (.ladd, 1) := by decide +kernel
theorem d_MO_gap_145 : decode b_MO_gap 145 = .ok (.aload_n 0, 1) := by decide +kernel
theorem d_MO_gap_146 : decode b_MO_gap 146 = .ok (.getfield 23, 3) := by decide +kernel
theorem d_MO_gap_149 : decode b_MO_gap 149 = .ok (.lcmp, 1) := by decide +kernel
theorem d_MO_gap_150 : decode b_MO_gap 150 = .ok (.ifCond .gt 8, 3) := by decide +kernel
theorem d_MO_gap_153 : decode b_MO_gap 153 = .ok (.aload_n 0, 1) := by decide +kernel
theorem d_MO_gap_154 : decode b_MO_gap 154 = .ok (.invokevirtual 257, 3) := by decide +kernel
theorem d_MO_gap_157 : decode b_MO_gap 157 = .ok (.ireturn, 1) := by decide +kernel
theorem d_MO_gap_158 : decode b_MO_gap 158 = .ok (.aload_n 0, 1) := by decide +kernel
theorem d_MO_gap_159 : decode b_MO_gap 159 = .ok (.getfield 203, 3) := by decide +kernel
theorem d_MO_gap_162 : decode b_MO_gap 162 = .ok (.sipush 300, 3) := by decide +kernel
theorem d_MO_gap_165 : decode b_MO_gap 165 = .ok (.if_icmp .eq 18, 3) := by decide +kernel
theorem d_MO_gap_168 : decode b_MO_gap 168 = .ok (.aload_n 0, 1) := by decide +kernel
theorem d_MO_gap_169 : decode b_MO_gap 169 = .ok (.getfield 200, 3) := by decide +kernel
theorem d_MO_gap_172 : decode b_MO_gap 172 = .ok (.iload 10, 2) := by decide +kernel
theorem d_MO_gap_174 : decode b_MO_gap 174 = .ok (.isub, 1) := by decide +kernel
theorem d_MO_gap_175 : decode b_MO_gap 175 = .ok (.iconst 1, 1) := by decide +kernel
theorem d_MO_gap_176 : decode b_MO_gap 176 = .ok (.iadd, 1) := by decide +kernel
theorem d_MO_gap_177 : decode b_MO_gap 177 = .ok (.sipush 200, 3) := by decide +kernel
theorem d_MO_gap_180 : decode b_MO_gap 180 = .ok (.if_icmp .le 6, 3) := by decide +kernel
theorem d_MO_gap_183 : decode b_MO_gap 183 = .ok (.bipush (-4), 2) := by decide +kernel
theorem d_MO_gap_185 : decode b_MO_gap 185 = .ok (.ireturn, 1) := by decide +kernel
theorem d_MO_gap_186 : decode b_MO_gap 186 = .ok (.aload_n 0, 1) := by decide +kernel
theorem d_MO_gap_187 : decode b_MO_gap 187 = .ok (.iload_n 1, 1) := by decide +kernel
theorem d_MO_gap_188 : decode b_MO_gap 188 = .ok (.lload_n 2, 1) := by decide +kernel
theorem d_MO_gap_189 : decode b_MO_gap 189 = .ok (.lload 4, 2) := by decide +kernel
theorem d_MO_gap_191 : decode b_MO_gap 191 = .ok (.invokevirtual 261, 3) := by decide +kernel
theorem d_MO_gap_194 : decode b_MO_gap 194 = .ok (.istore 11, 2) := by decide +kernel
theorem d_MO_gap_196 : decode b_MO_gap 196 = .ok (.aload_n 0, 1) := by decide +kernel
theorem d_MO_gap_197 : decode b_MO_gap 197 = .ok (.dup, 1) := by decide +kernel
theorem d_MO_gap_198 : decode b_MO_gap 198 = .ok (.getfield 115, 3) := by decide +kernel
theorem d_MO_gap_201 : decode b_MO_gap 201 = .ok (.iconst 1, 1) := by decide +kernel
theorem d_MO_gap_202 : decode b_MO_gap 202 = .ok (.iadd, 1) := by decide +kernel
theorem d_MO_gap_203 : decode b_MO_gap 203 = .ok (.putfield 115, 3) := by decide +kernel
theorem d_MO_gap_206 : decode b_MO_gap 206 = .ok (.iconst (-1), 1) := by decide +kernel
theorem d_MO_gap_207 : decode b_MO_gap 207 = .ok (.istore 12, 2) := by decide +kernel
theorem d_MO_gap_209 : decode b_MO_gap 209 = .ok (.iconst 0, 1) := by decide +kernel
theorem d_MO_gap_210 : decode b_MO_gap 210 = .ok (.istore 13, 2) := by decide +kernel
theorem d_MO_gap_212 : decode b_MO_gap 212 = .ok (.iload 13, 2) := by decide +kernel
theorem d_MO_gap_214 : decode b_MO_gap 214 = .ok (.sipush 200, 3) := by decide +kernel
theorem d_MO_gap_217 : decode b_MO_gap 217 = .ok (.if_icmp .ge 75, 3) := by decide +kernel
theorem d_MO_gap_220 : decode b_MO_gap 220 = .ok (.aload_n 0, 1) := by decide +kernel
theorem d_MO_gap_221 : decode b_MO_gap 221 = .ok (.getfield 42, 3) := by decide +kernel
theorem d_MO_gap_224 : decode b_MO_gap 224 = .ok (.iload 13, 2) := by decide +kernel
theorem d_MO_gap_226 : decode b_MO_gap 226 = .ok (.iaload, 1) := by decide +kernel
theorem d_MO_gap_227 : decode b_MO_gap 227 = .ok (.iload_n 1, 1) := by decide +kernel
theorem d_MO_gap_228 : decode b_MO_gap 228 = .ok (.if_icmp .ne 58, 3) := by decide +kernel
theorem d_MO_gap_231 : decode b_MO_gap 231 = .ok (.aload_n 0, 1) := by decide +kernel
theorem d_MO_gap_232 : decode b_MO_gap 232 = .ok (.getfield 45, 3) := by decide +kernel
theorem d_MO_gap_235 : decode b_MO_gap 235 = .ok (.iload 13, 2) := by decide +kernel
theorem d_MO_gap_237 : decode b_MO_gap 237 = .ok (.laload, 1) := by decide +kernel
theorem d_MO_gap_238 : decode b_MO_gap 238 = .ok (.aload_n 0, 1) := by decide +kernel
theorem d_MO_gap_239 : decode b_MO_gap 239 = .ok (.getfield 80, 3) := by decide +kernel
theorem d_MO_gap_242 : decode b_MO_gap 242 = .ok (.iconst 0, 1) := by decide +kernel
theorem d_MO_gap_243 : decode b_MO_gap 243 = .ok (.laload, 1) := by decide +kernel
theorem d_MO_gap_244 : decode b_MO_gap 244 = .ok (.lcmp, 1) := by decide +kernel
theorem d_MO_gap_245 : decode b_MO_gap 245 = .ok (.ifCond .ge 41, 3) := by decide +kernel
theorem d_MO_gap_248 : decode b_MO_gap 248 = .ok (.aload_n 0, 1) := by decide +kernel
theorem d_MO_gap_249 : decode b_MO_gap 249 = .ok (.getfield 77, 3) := by decide +kernel
theorem d_MO_gap_252 : decode b_MO_gap 252 = .ok (.iconst 0, 1) := by decide +kernel
theorem d_MO_gap_253 : decode b_MO_gap 253 = .ok (.laload, 1) := by decide +kernel
theorem d_MO_gap_254 : decode b_MO_gap 254 = .ok (.aload_n 0, 1) := by decide +kernel
theorem d_MO_gap_255 : decode b_MO_gap 255 = .ok (.getfield 48, 3) := by decide +kernel
theorem d_MO_gap_258 : decode b_MO_gap 258 = .ok (.iload 13, 2) := by decide +kernel
theorem d_MO_gap_260 : decode b_MO_gap 260 = .ok (.laload, 1) := by decide +kernel
theorem d_MO_gap_261 : decode b_MO_gap 261 = .ok (.lcmp, 1) := by decide +kernel
theorem d_MO_gap_262 : decode b_MO_gap 262 = .ok (.ifCond .ge 24, 3) := by decide +kernel
theorem d_MO_gap_265 : decode b_MO_gap 265 = .ok (.iload 12, 2) := by decide +kernel
theorem d_MO_gap_267 : decode b_MO_gap 267 = .ok (.iconst (-1), 1) := by decide +kernel
theorem d_MO_gap_268 : decode b_MO_gap 268 = .ok (.if_icmp .ne 10, 3) := by decide +kernel
theorem d_MO_gap_271 : decode b_MO_gap 271 = .ok (.iload 13, 2) := by decide +kernel
theorem d_MO_gap_273 : decode b_MO_gap 273 = .ok (.istore 12, 2) := by decide +kernel
theorem d_MO_gap_275 : decode b_MO_gap 275 = .ok (.goto 11, 3) := by decide +kernel
theorem d_MO_gap_278 : decode b_MO_gap 278 = .ok (.aload_n 0, 1) := by decide +kernel
theorem d_MO_gap_279 : decode b_MO_gap 279 = .ok (.iload 12, 2) := by decide +kernel
theorem d_MO_gap_281 : decode b_MO_gap 281 = .ok (.iload 13, 2) := by decide +kernel
theorem d_MO_gap_283 : decode b_MO_gap 283 = .ok (.invokevirtual 273, 3) := by decide +kernel
theorem d_MO_gap_286 : decode b_MO_gap 286 = .ok (.iinc 13 1, 3) := by decide +kernel
theorem d_MO_gap_289 : decode b_MO_gap 289 = .ok (.goto (-77), 3) := by decide +kernel
theorem d_MO_gap_292 : decode b_MO_gap 292 = .ok (.iload 12, 2) := by decide +kernel
theorem d_MO_gap_294 : decode b_MO_gap 294 = .ok (.iconst (-1), 1) := by decide +kernel
theorem d_MO_gap_295 : decode b_MO_gap 295 = .ok (.if_icmp .ne 14, 3) := by decide +kernel
theorem d_MO_gap_298 : decode b_MO_gap 298 = .ok (.aload_n 0, 1) := by decide +kernel
theorem d_MO_gap_299 : decode b_MO_gap 299 = .ok (.iload_n 1, 1) := by decide +kernel
theorem d_MO_gap_300 : decode b_MO_gap 300 = .ok (.lload 6, 2) := by decide +kernel
theorem d_MO_gap_302 : decode b_MO_gap 302 = .ok (.lload 8, 2) := by decide +kernel
theorem d_MO_gap_304 : decode b_MO_gap 304 = .ok (.invokevirtual 267, 3) := by decide +kernel
theorem d_MO_gap_307 : decode b_MO_gap 307 = .ok (.istore 12, 2) := by decide +kernel
theorem d_MO_gap_309 : decode b_MO_gap 309 = .ok (.aload_n 0, 1) := by decide +kernel
theorem d_MO_gap_310 : decode b_MO_gap 310 = .ok (.getfield 45, 3) := by decide +kernel
theorem d_MO_gap_313 : decode b_MO_gap 313 = .ok (.iload 12, 2) := by decide +kernel
theorem d_MO_gap_315 : decode b_MO_gap 315 = .ok (.lload 6, 2) := by decide +kernel
theorem d_MO_gap_317 : decode b_MO_gap 317 = .ok (.lastore, 1) := by decide +kernel
theorem d_MO_gap_318 : decode b_MO_gap 318 = .ok (.aload_n 0, 1) := by decide +kernel
theorem d_MO_gap_319 : decode b_MO_gap 319 = .ok (.getfield 48, 3) := by decide +kernel
theorem d_MO_gap_322 : decode b_MO_gap 322 = .ok (.iload 12, 2) := by decide +kernel
theorem d_MO_gap_324 : decode b_MO_gap 324 = .ok (.lload 8, 2) := by decide +kernel
theorem d_MO_gap_326 : decode b_MO_gap 326 = .ok (.lastore, 1) := by decide +kernel
theorem d_MO_gap_327 : decode b_MO_gap 327 = .ok (.aload_n 0, 1) := by decide +kernel
theorem d_MO_gap_328 : decode b_MO_gap 328 = .ok (.getfield 57, 3) := by decide +kernel
theorem d_MO_gap_331 : decode b_MO_gap 331 = .ok (.iload 12, 2) := by decide +kernel
theorem d_MO_gap_333 : decode b_MO_gap 333 = .ok (.aload_n 0, 1) := by decide +kernel
theorem d_MO_gap_334 : decode b_MO_gap 334 = .ok (.getfield 57, 3) := by decide +kernel
theorem d_MO_gap_337 : decode b_MO_gap 337 = .ok (.iload 12, 2) := by decide +kernel
theorem d_MO_gap_339 : decode b_MO_gap 339 = .ok (.baload, 1) := by decide +kernel
theorem d_MO_gap_340 : decode b_MO_gap 340 = .ok (.ifCond .eq 17, 3) := by decide +kernel
theorem d_MO_gap_343 : decode b_MO_gap 343 = .ok (.lload 8, 2) := by decide +kernel
theorem d_MO_gap_345 : decode b_MO_gap 345 = .ok (.aload_n 0, 1) := by decide +kernel
theorem d_MO_gap_346 : decode b_MO_gap 346 = .ok (.getfield 23, 3) := by decide +kernel
theorem d_MO_gap_349 : decode b_MO_gap 349 = .ok (.lcmp, 1) := by decide +kernel
theorem d_MO_gap_350 : decode b_MO_gap 350 = .ok (.ifCond .gt 7, 3) := by decide +kernel
theorem d_MO_gap_353 : decode b_MO_gap 353 = .ok (.iconst 1, 1) := by decide +kernel
theorem d_MO_gap_354 : decode b_MO_gap 354 = .ok (.goto 4, 3) := by decide +kernel
theorem d_MO_gap_357 : decode b_MO_gap 357 = .ok (.iconst 0, 1) := by decide +kernel
theorem d_MO_gap_358 : decode b_MO_gap 358 = .ok (.bastore, 1) := by decide +kernel
theorem d_MO_gap_359 : decode b_MO_gap 359 = .ok (.aload_n 0, 1) := by decide +kernel
theorem d_MO_gap_360 : decode b_MO_gap 360 = .ok (.iload 12, 2) := by decide +kernel
theorem d_MO_gap_362 : decode b_MO_gap 362 = .ok (.iload 11, 2) := by decide +kernel
theorem d_MO_gap_364 : decode b_MO_gap 364 = .ok (.invokevirtual 270, 3) := by decide +kernel
theorem d_MO_gap_367 : decode b_MO_gap 367 = .ok (.iconst 1, 1) := by decide +kernel
theorem d_MO_gap_368 : decode b_MO_gap 368 = .ok (.ireturn, 1) := by decide +kernel
theorem d_MO_plain_0 : decode b_MO_plain 0 = .ok (.iconst 0, 1) := by decide +kernel
theorem d_MO_plain_1 : decode b_MO_plain 1 = .ok (.istore 6, 2) := by decide +kernel
theorem d_MO_plain_3 : decode b_MO_plain 3 = .ok (.iconst 0, 1) := by decide +kernel
theorem d_MO_plain_4 : decode b_MO_plain 4 = .ok (.istore 7, 2) := by decide +kernel
theorem d_MO_plain_6 : decode b_MO_plain 6 = .ok (.iconst 0, 1) := by decide +kernel
theorem d_MO_plain_7 : decode b_MO_plain 7 = .ok (.istore 8, 2) := by decide +kernel
theorem d_MO_plain_9 : decode b_MO_plain 9 = .ok (.iload 8, 2) := by decide +kernel
theorem d_MO_plain_11 : decode b_MO_plain 11 = .ok (.aload_n 0, 1) := by decide +kernel
theorem d_MO_plain_12 : decode b_MO_plain 12 = .ok (.getfield 183, 3) := by decide +kernel
theorem d_MO_plain_15 : decode b_MO_plain 15 = .ok (.if_icmp .ge 65, 3) := by decide +kernel
theorem d_MO_plain_18 : decode b_MO_plain 18 = .ok (.aload_n 0, 1) := by decide +kernel
theorem d_MO_plain_19 : decode b_MO_plain 19 = .ok (.getfield 80, 3) := by decide +kernel
theorem d_MO_plain_22 : decode b_MO_plain 22 = .ok (.iload 8, 2) := by decide +kernel
theorem d_MO_plain_24 : decode b_MO_plain 24 = .ok (.laload, 1) := by decide +kernel
theorem d_MO_plain_25 : decode b_MO_plain 25 = .ok (.aload_n 0, 1) := by decide +kernel
theorem d_MO_plain_26 : decode b_MO_plain 26 = .ok (.getfield 121, 3) := by decide +kernel
theorem d_MO_plain_29 : decode b_MO_plain 29 = .ok (.ladd, 1) := by decide +kernel
theorem d_MO_plain_30 : decode b_MO_plain 30 = .ok (.aload_n 0, 1) := by decide +kernel
theorem d_MO_plain_31 : decode b_MO_plain 31 = .ok (.getfield 23, 3) := by decide +kernel
theorem d_MO_plain_34 : decode b_MO_plain 34 = .ok (.lcmp, 1) := by decide +kernel
theorem d_MO_plain_35 : decode b_MO_plain 35 = .ok (.ifCond .le 39, 3) := by decide +kernel
theorem d_MO_plain_38 : decode b_MO_plain 38 = .ok (.iinc 6 1, 3) := by decide +kernel
theorem d_MO_plain_41 : decode b_MO_plain 41 = .ok (.iload 7, 2) := by decide +kernel
theorem d_MO_plain_43 : decode b_MO_plain 43 = .ok (.aload_n 0, 1) := by decide +kernel
theorem d_MO_plain_44 : decode b_MO_plain 44 = .ok (.iload_n 1, 1) := by decide +kernel
theorem d_MO_plain_45 : decode b_MO_plain 45 = .ok (.aload_n 0, 1) := by decide +kernel
theorem d_MO_plain_46 : decode b_MO_plain 46 = .ok (.getfield 77, 3) := by decide +kernel
theorem d_MO_plain_49 : decode b_MO_plain 49 = .ok (.iload 8, 2) := by decide +kernel
theorem d_MO_plain_51 : decode b_MO_plain 51 = .ok (.laload, 1) := by decide +kernel
theorem d_MO_plain_52 : decode b_MO_plain 52 = .ok (.aload_n 0, 1) := by decide +kernel
theorem d_MO_plain_53 : decode b_MO_plain 53 = .ok (.getfield 80, 3) := by decide +kernel
theorem d_MO_plain_56 : decode b_MO_plain 56 = .ok (.iload 8, 2) := by decide +kernel
theorem d_MO_plain_58 : decode b_MO_plain 58 = .ok (.laload, 1) := by decide +kernel
theorem d_MO_plain_59 : decode b_MO_plain 59 = .ok (.invokevirtual 264, 3) := by decide +kernel
theorem d_MO_plain_62 : decode b_MO_plain 62 = .ok (.iconst (-1), 1) := by decide +kernel
theorem d_MO_plain_63 : decode b_MO_plain 63 = .ok (.if_icmp .ne 7, 3) := by decide +kernel
theorem d_MO_plain_66 : decode b_MO_plain 66 = .ok (.iconst 1, 1) := by decide +kernel
theorem d_MO_plain_67 : decode b_MO_plain 67 = .ok (.goto 4, 3) := by decide +kernel
theorem d_MO_plain_70 : decode b_MO_plain 70 = .ok (.iconst 0, 1) := by decide +kernel
theorem d_MO_plain_71 : decode b_MO_plain 71 = .ok (.iadd, 1) := by decide +kernel
theorem d_MO_plain_72 : decode b_MO_plain 72 = .ok (.istore 7, 2) := by decide +kernel
theorem d_MO_plain_74 : decode b_MO_plain 74 = .ok (.iinc 8 1, 3) := by decide +kernel
theorem d_MO_plain_77 : decode b_MO_plain 77 = .ok (.goto (-68), 3) := by decide +kernel
theorem d_MO_plain_80 : decode b_MO_plain 80 = .ok (.iload 6, 2) := by decide +kernel
theorem d_MO_plain_82 : decode b_MO_plain 82 = .ok (.ifCond .ne 8, 3) := by decide +kernel
theorem d_MO_plain_85 : decode b_MO_plain 85 = .ok (.aload_n 0, 1) := by decide +kernel
theorem d_MO_plain_86 : decode b_MO_plain 86 = .ok (.invokevirtual 257, 3) := by decide +kernel
theorem d_MO_plain_89 : decode b_MO_plain 89 = .ok (.ireturn, 1) := by decide +kernel
theorem d_MO_plain_90 : decode b_MO_plain 90 = .ok (.aload_n 0, 1) := by decide +kernel
theorem d_MO_plain_91 : decode b_MO_plain 91 = .ok (.getfield 203, 3) := by decide +kernel
theorem d_MO_plain_94 : decode b_MO_plain 94 = .ok (.sipush 300, 3) := by decide +kernel
theorem d_MO_plain_97 : decode b_MO_plain 97 = .ok (.if_icmp .eq 16, 3) := by decide +kernel
theorem d_MO_plain_100 : decode b_MO_plain 100 = .ok (.aload_n 0, 1) := by decide +kernel
theorem d_MO_plain_101 : decode b_MO_plain 101 = .ok (.getfield 200, 3) := by decide +kernel
theorem d_MO_plain_104 : decode b_MO_plain 104 = .ok (.iload 7, 2) := by decide +kernel
theorem d_MO_plain_106 : decode b_MO_plain 106 = .ok (.iadd, 1) := by decide +kernel
theorem d_MO_plain_107 : decode b_MO_plain 107 = .ok (.sipush 200, 3) := by decide +kernel
theorem d_MO_plain_110 : decode b_MO_plain 110 = .ok (.if_icmp .le 6, 3) := by decide +kernel
theorem d_MO_plain_113 : decode b_MO_plain 113 = .ok (.bipush (-4), 2) := by decide +kernel
theorem d_MO_plain_115 : decode b_MO_plain 115 = .ok (.ireturn, 1) := by decide +kernel
theorem d_MO_plain_116 : decode b_MO_plain 116 = .ok (.aload_n 0, 1) := by decide +kernel
theorem d_MO_plain_117 : decode b_MO_plain 117 = .ok (.iload_n 1, 1) := by decide +kernel
theorem d_MO_plain_118 : decode b_MO_plain 118 = .ok (.lload_n 2, 1) := by decide +kernel
theorem d_MO_plain_119 : decode b_MO_plain 119 = .ok (.lload 4, 2) := by decide +kernel
theorem d_MO_plain_121 : decode b_MO_plain 121 = .ok (.invokevirtual 261, 3) := by decide +kernel
theorem d_MO_plain_124 : decode b_MO_plain 124 = .ok (.istore 8, 2) := by decide +kernel
theorem d_MO_plain_126 : decode b_MO_plain 126 = .ok (.aload_n 0, 1) := by decide +kernel
theorem d_MO_plain_127 : decode b_MO_plain 127 = .ok (.dup, 1) := by decide +kernel
theorem d_MO_plain_128 : decode b_MO_plain 128 = .ok (.getfield 115, 3) := by decide +kernel
theorem d_MO_plain_131 : decode b_MO_plain 131 = .ok (.iconst 1, 1) := by decide +kernel
theorem d_MO_plain_132 : decode b_MO_plain 132 = .ok (.iadd, 1) := by decide +kernel
theorem d_MO_plain_133 : decode b_MO_plain 133 = .ok (.putfield 115, 3) := by decide +kernel
theorem d_MO_plain_136 : decode b_MO_plain 136 = .ok (.iconst 0, 1) := by decide +kernel
theorem d_MO_plain_137 : decode b_MO_plain 137 = .ok (.istore 9, 2) := by decide +kernel
theorem d_MO_plain_139 : decode b_MO_plain 139 = .ok (.iload 9, 2) := by decide +kernel
theorem d_MO_plain_141 : decode b_MO_plain 141 = .ok (.aload_n 0, 1) := by decide +kernel
theorem d_MO_plain_142 : decode b_MO_plain 142 = .ok (.getfield 183, 3) := by decide +kernel
theorem d_MO_plain_145 : decode b_MO_plain 145 = .ok (.if_icmp .ge 86, 3) := by decide +kernel
theorem d_MO_plain_148 : decode b_MO_plain 148 = .ok (.aload_n 0, 1) := by decide +kernel
theorem d_MO_plain_149 : decode b_MO_plain 149 = .ok (.getfield 80, 3) := by decide +kernel
theorem d_MO_plain_152 : decode b_MO_plain 152 = .ok (.iload 9, 2) := by decide +kernel
theorem d_MO_plain_154 : decode b_MO_plain 154 = .ok (.laload, 1) := by decide +kernel
theorem d_MO_plain_155 : decode b_MO_plain 155 = .ok (.aload_n 0, 1) := by decide +kernel
theorem d_MO_plain_156 : decode b_MO_plain 156 = .ok (.getfield 121, 3) := by decide +kernel
theorem d_MO_plain_159 : decode b_MO_plain 159 = .ok (.ladd, 1) := by decide +kernel
theorem d_MO_plain_160 : decode b_MO_plain 160 = .ok (.aload_n 0, 1) := by decide +kernel
theorem d_MO_plain_161 : decode b_MO_plain 161 = .ok (.getfield 23, 3) := by decide +kernel
theorem d_MO_plain_164 : decode b_MO_plain 164 = .ok (.lcmp, 1) := by decide +kernel
theorem d_MO_plain_165 : decode b_MO_plain 165 = .ok (.ifCond .le 60, 3) := by decide +kernel
theorem d_MO_plain_168 : decode b_MO_plain 168 = .ok (.aload_n 0, 1) := by decide +kernel
theorem d_MO_plain_169 : decode b_MO_plain 169 = .ok (.iload_n 1, 1) := by decide +kernel
theorem d_MO_plain_170 : decode b_MO_plain 170 = .ok (.aload_n 0, 1) := by decide +kernel
theorem d_MO_plain_171 : decode b_MO_plain 171 = .ok (.getfield 77, 3) := by decide +kernel
theorem d_MO_plain_174 : decode b_MO_plain 174 = .ok (.iload 9, 2) := by decide +kernel
theorem d_MO_plain_176 : decode b_MO_plain 176 = .ok (.laload, 1) := by decide +kernel
theorem d_MO_plain_177 : decode b_MO_plain 177 = .ok (.aload_n 0, 1) := by decide +kernel
theorem d_MO_plain_178 : decode b_MO_plain 178 = .ok (.getfield 80, 3) := by decide +kernel
theorem d_MO_plain_181 : decode b_MO_plain 181 = .ok (.iload 9, 2) := by decide +kernel
theorem d_MO_plain_183 : decode b_MO_plain 183 = .ok (.laload, 1) := by decide +kernel
theorem d_MO_plain_184 : decode b_MO_plain 184 = .ok (.invokevirtual 264, 3) := by decide +kernel
theorem d_MO_plain_187 : decode b_MO_plain 187 = .ok (.istore 10, 2) := by decide +kernel
theorem d_MO_plain_189 : decode b_MO_plain 189 = .ok (.aload_n 0, 1) := by decide +kernel
theorem d_MO_plain_190 : decode b_MO_plain 190 = .ok (.iload 10, 2) := by decide +kernel
theorem d_MO_plain_192 : decode b_MO_plain 192 = .ok (.iconst (-1), 1) := by decide +kernel
theorem d_MO_plain_193 : decode b_MO_plain 193 = .ok (.if_icmp .ne 25, 3) := by decide +kernel
theorem d_MO_plain_196 : decode b_MO_plain 196 = .ok (.aload_n 0, 1) := by decide +kernel
theorem d_MO_plain_197 : decode b_MO_plain 197 = .ok (.iload_n 1, 1) := by decide +kernel
theorem d_MO_plain_198 : decode b_MO_plain 198 = .ok (.aload_n 0, 1) := by decide +kernel
theorem d_MO_plain_199 : decode b_MO_plain 199 = .ok (.getfield 77, 3) := by decide +kernel
theorem d_MO_plain_202 : decode b_MO_plain 202 = .ok (.iload 9, 2) := by decide +kernel
theorem d_MO_plain_204 : decode b_MO_plain 204 = .ok (.laload, 1) := by decide +kernel
theorem d_MO_plain_205 : decode b_MO_plain 205 = .ok (.aload_n 0, 1) := by decide +kernel
theorem d_MO_plain_206 : decode b_MO_plain 206 = .ok (.getfield 80, 3) := by decide +kernel
theorem d_MO_plain_209 : decode b_MO_plain 209 = .ok (.iload 9, 2) := by decide +kernel
theorem d_MO_plain_211 : decode b_MO_plain 211 = .ok (.laload, 1) := by decide +kernel
theorem d_MO_plain_212 : decode b_MO_plain 212 = .ok (.invokevirtual 267, 3) := by decide +kernel
theorem d_MO_plain_215 : decode b_MO_plain 215 = .ok (.goto 5, 3) := by decide +kernel
theorem d_MO_plain_218 : decode b_MO_plain 218 = .ok (.iload 10, 2) := by decide +kernel
theorem d_MO_plain_220 : decode b_MO_plain 220 = .ok (.iload 8, 2) := by decide +kernel
theorem d_MO_plain_222 : decode b_MO_plain 222 = .ok (.invokevirtual 270, 3) := by decide +kernel
theorem d_MO_plain_225 : decode b_MO_plain 225 = .ok (.iinc 9 1, 3) := by decide +kernel
theorem d_MO_plain_228 : decode b_MO_plain 228 = .ok (.goto (-89), 3) := by decide +kernel
theorem d_MO_plain_231 : decode b_MO_plain 231 = .ok (.iload 6, 2) := by decide +kernel
theorem d_MO_plain_233 : decode b_MO_plain 233 = .ok (.ireturn, 1) := by decide +kernel
theorem d_MO_row_0 : decode b_MO_row 0 = .ok (.aload_n 0, 1) := by decide +kernel
theorem d_MO_row_1 : decode b_MO_row 1 = .ok (.iconst 0, 1) := by decide +kernel
theorem d_MO_row_2 : decode b_MO_row 2 = .ok (.putfield 104, 3) := by decide +kernel
theorem d_MO_row_5 : decode b_MO_row 5 = .ok (.iload_n 1, 1) := by decide +kernel
theorem d_MO_row_6 : decode b_MO_row 6 = .ok (.i2l, 1) := by decide +kernel
theorem d_MO_row_7 : decode b_MO_row 7 = .ok (.lconst 0, 1) := by decide +kernel
theorem d_MO_row_8 : decode b_MO_row 8 = .ok (.ldc2_w 235, 3) := by decide +kernel
theorem d_MO_row_11 : decode b_MO_row 11 = .ok (.invokestatic 111, 3) := by decide +kernel
theorem d_MO_row_14 : decode b_MO_row 14 = .ok (.ifCond .ne 5, 3) := by decide +kernel
theorem d_MO_row_17 : decode b_MO_row 17 = .ok (.iconst (-1), 1) := by decide +kernel
theorem d_MO_row_18 : decode b_MO_row 18 = .ok (.ireturn, 1) := by decide +kernel
theorem d_MO_row_19 : decode b_MO_row 19 = .ok (.aload_n 0, 1) := by decide +kernel
theorem d_MO_row_20 : decode b_MO_row 20 = .ok (.getfield 93, 3) := by decide +kernel
theorem d_MO_row_23 : decode b_MO_row 23 = .ok (.iconst 4, 1) := by decide +kernel
theorem d_MO_row_24 : decode b_MO_row 24 = .ok (.if_icmp .ne 9, 3) := by decide +kernel
theorem d_MO_row_27 : decode b_MO_row 27 = .ok (.ldc2_w 237, 3) := by decide +kernel
theorem d_MO_row_30 : decode b_MO_row 30 = .ok (.goto 6, 3) := by decide +kernel
theorem d_MO_row_33 : decode b_MO_row 33 = .ok (.ldc2_w 239, 3) := by decide +kernel
theorem d_MO_row_36 : decode b_MO_row 36 = .ok (.lstore 6, 2) := by decide +kernel
theorem d_MO_row_38 : decode b_MO_row 38 = .ok (.lload_n 2, 1) := by decide +kernel
theorem d_MO_row_39 : decode b_MO_row 39 = .ok (.lload 6, 2) := by decide +kernel
theorem d_MO_row_41 : decode b_MO_row 41 = .ok (.lneg, 1) := by decide +kernel
theorem d_MO_row_42 : decode b_MO_row 42 = .ok (.lload 6, 2) := by decide +kernel
theorem d_MO_row_44 : decode b_MO_row 44 = .ok (.invokestatic 111, 3) := by decide +kernel
theorem d_MO_row_47 : decode b_MO_row 47 = .ok (.ifCond .ne 6, 3) := by decide +kernel
theorem d_MO_row_50 : decode b_MO_row 50 = .ok (.bipush (-2), 2) := by decide +kernel
theorem d_MO_row_52 : decode b_MO_row 52 = .ok (.ireturn, 1) := by decide +kernel
theorem d_MO_row_53 : decode b_MO_row 53 = .ok (.aload_n 0, 1) := by decide +kernel
theorem d_MO_row_54 : decode b_MO_row 54 = .ok (.getfield 93, 3) := by decide +kernel
theorem d_MO_row_57 : decode b_MO_row 57 = .ok (.iconst 5, 1) := by decide +kernel
theorem d_MO_row_58 : decode b_MO_row 58 = .ok (.if_icmp .ne 23, 3) := by decide +kernel
theorem d_MO_row_61 : decode b_MO_row 61 = .ok (.aload_n 0, 1) := by decide +kernel
theorem d_MO_row_62 : decode b_MO_row 62 = .ok (.aload_n 0, 1) := by decide +kernel
theorem d_MO_row_63 : decode b_MO_row 63 = .ok (.getfield 134, 3) := by decide +kernel
theorem d_MO_row_66 : decode b_MO_row 66 = .ok (.lload 4, 2) := by decide +kernel
theorem d_MO_row_68 : decode b_MO_row 68 = .ok (.invokevirtual 137, 3) := by decide +kernel
theorem d_MO_row_71 : decode b_MO_row 71 = .ok (.ifCond .eq 10, 3) := by decide +kernel
theorem d_MO_row_74 : decode b_MO_row 74 = .ok (.aload_n 0, 1) := by decide +kernel
theorem d_MO_row_75 : decode b_MO_row 75 = .ok (.iconst 1, 1) := by decide +kernel
theorem d_MO_row_76 : decode b_MO_row 76 = .ok (.putfield 104, 3) := by decide +kernel
theorem d_MO_row_79 : decode b_MO_row 79 = .ok (.iconst 0, 1) := by decide +kernel
theorem d_MO_row_80 : decode b_MO_row 80 = .ok (.ireturn, 1) := by decide +kernel
theorem d_MO_row_81 : decode b_MO_row 81 = .ok (.aload_n 0, 1) := by decide +kernel
theorem d_MO_row_82 : decode b_MO_row 82 = .ok (.getfield 93, 3) := by decide +kernel
theorem d_MO_row_85 : decode b_MO_row 85 = .ok (.iconst 3, 1) := by decide +kernel
theorem d_MO_row_86 : decode b_MO_row 86 = .ok (.if_icmp .ne 12, 3) := by decide +kernel
theorem d_MO_row_89 : decode b_MO_row 89 = .ok (.aload_n 0, 1) := by decide +kernel
theorem d_MO_row_90 : decode b_MO_row 90 = .ok (.iload_n 1, 1) := by decide +kernel
theorem d_MO_row_91 : decode b_MO_row 91 = .ok (.lload_n 2, 1) := by decide +kernel
theorem d_MO_row_92 : decode b_MO_row 92 = .ok (.lload 4, 2) := by decide +kernel
theorem d_MO_row_94 : decode b_MO_row 94 = .ok (.invokevirtual 241, 3) := by decide +kernel
theorem d_MO_row_97 : decode b_MO_row 97 = .ok (.ireturn, 1) := by decide +kernel
theorem d_MO_row_98 : decode b_MO_row 98 = .ok (.aload_n 0, 1) := by decide +kernel
theorem d_MO_row_99 : decode b_MO_row 99 = .ok (.lload_n 2, 1) := by decide +kernel
theorem d_MO_row_100 : decode b_MO_row 100 = .ok (.lload 4, 2) := by decide +kernel
theorem d_MO_row_102 : decode b_MO_row 102 = .ok (.invokevirtual 245, 3) := by decide +kernel
theorem d_MO_row_105 : decode b_MO_row 105 = .ok (.aload_n 0, 1) := by decide +kernel
theorem d_MO_row_106 : decode b_MO_row 106 = .ok (.getfield 93, 3) := by decide +kernel
theorem d_MO_row_109 : decode b_MO_row 109 = .ok (.iconst 2, 1) := by decide +kernel
theorem d_MO_row_110 : decode b_MO_row 110 = .ok (.if_icmp .ne 14, 3) := by decide +kernel
theorem d_MO_row_113 : decode b_MO_row 113 = .ok (.aload_n 0, 1) := by decide +kernel
theorem d_MO_row_114 : decode b_MO_row 114 = .ok (.iload_n 1, 1) := by decide +kernel
theorem d_MO_row_115 : decode b_MO_row 115 = .ok (.lload_n 2, 1) := by decide +kernel
theorem d_MO_row_116 : decode b_MO_row 116 = .ok (.lload 4, 2) := by decide +kernel
theorem d_MO_row_118 : decode b_MO_row 118 = .ok (.invokevirtual 248, 3) := by decide +kernel
theorem d_MO_row_121 : decode b_MO_row 121 = .ok (.goto 11, 3) := by decide +kernel
theorem d_MO_row_124 : decode b_MO_row 124 = .ok (.aload_n 0, 1) := by decide +kernel
theorem d_MO_row_125 : decode b_MO_row 125 = .ok (.iload_n 1, 1) := by decide +kernel
theorem d_MO_row_126 : decode b_MO_row 126 = .ok (.lload_n 2, 1) := by decide +kernel
theorem d_MO_row_127 : decode b_MO_row 127 = .ok (.lload 4, 2) := by decide +kernel
theorem d_MO_row_129 : decode b_MO_row 129 = .ok (.invokevirtual 251, 3) := by decide +kernel
theorem d_MO_row_132 : decode b_MO_row 132 = .ok (.ireturn, 1) := by decide +kernel
theorem d_MO_isFirst_0 : decode b_MO_isFirst 0 = .ok (.aload_n 0, 1) := by decide +kernel
theorem d_MO_isFirst_1 : decode b_MO_isFirst 1 = .ok (.getfield 48, 3) := by decide +kernel
theorem d_MO_isFirst_4 : decode b_MO_isFirst 4 = .ok (.iload_n 1, 1) := by decide +kernel
theorem d_MO_isFirst_5 : decode b_MO_isFirst 5 = .ok (.laload, 1) := by decide +kernel
theorem d_MO_isFirst_6 : decode b_MO_isFirst 6 = .ok (.aload_n 0, 1) := by decide +kernel
theorem d_MO_isFirst_7 : decode b_MO_isFirst 7 = .ok (.getfield 48, 3) := by decide +kernel
theorem d_MO_isFirst_10 : decode b_MO_isFirst 10 = .ok (.iload_n 2, 1) := by decide +kernel
theorem d_MO_isFirst_11 : decode b_MO_isFirst 11 = .ok (.laload, 1) := by decide +kernel
theorem d_MO_isFirst_12 : decode b_MO_isFirst 12 = .ok (.lcmp, 1) := by decide +kernel
theorem d_MO_isFirst_13 : decode b_MO_isFirst 13 = .ok (.ifCond .lt 65, 3) := by decide +kernel
theorem d_MO_isFirst_16 : decode b_MO_isFirst 16 = .ok (.aload_n 0, 1) := by decide +kernel
theorem d_MO_isFirst_17 : decode b_MO_isFirst 17 = .ok (.getfield 48, 3) := by decide +kernel
theorem d_MO_isFirst_20 : decode b_MO_isFirst 20 = .ok (.iload_n 1, 1) := by decide +kernel
theorem d_MO_isFirst_21 : decode b_MO_isFirst 21 = .ok (.laload, 1) := by decide +kernel
theorem d_MO_isFirst_22 : decode b_MO_isFirst 22 = .ok (.aload_n 0, 1) := by decide +kernel
theorem d_MO_isFirst_23 : decode b_MO_isFirst 23 = .ok (.getfield 48, 3) := by decide +kernel
theorem d_MO_isFirst_26 : decode b_MO_isFirst 26 = .ok (.iload_n 2, 1) := by decide +kernel
theorem d_MO_isFirst_27 : decode b_MO_isFirst 27 = .ok (.laload, 1) := by decide +kernel
theorem d_MO_isFirst_28 : decode b_MO_isFirst 28 = .ok (.lcmp, 1) := by decide +kernel
theorem d_MO_isFirst_29 : decode b_MO_isFirst 29 = .ok (.ifCond .ne 53, 3) := by decide +kernel
theorem d_MO_isFirst_32 : decode b_MO_isFirst 32 = .ok (.aload_n 0, 1) := by decide +kernel
theorem d_MO_isFirst_33 : decode b_MO_isFirst 33 = .ok (.getfield 42, 3) := by decide +kernel
theorem d_MO_isFirst_36 : decode b_MO_isFirst 36 = .ok (.iload_n 1, 1) := by decide +kernel
theorem d_MO_isFirst_37 : decode b_MO_isFirst 37 = .ok (.iaload, 1) := by decide +kernel
theorem d_MO_isFirst_38 : decode b_MO_isFirst 38 = .ok (.aload_n 0, 1) := by decide +kernel
theorem d_MO_isFirst_39 : decode b_MO_isFirst 39 = .ok (.getfield 42, 3) := by decide +kernel
theorem d_MO_isFirst_42 : decode b_MO_isFirst 42 = .ok (.iload_n 2, 1) := by decide +kernel
theorem d_MO_isFirst_43 : decode b_MO_isFirst 43 = .ok (.iaload, 1) := by decide +kernel
theorem d_MO_isFirst_44 : decode b_MO_isFirst 44 = .ok (.if_icmp .lt 34, 3) := by decide +kernel
theorem d_MO_isFirst_47 : decode b_MO_isFirst 47 = .ok (.aload_n 0, 1) := by decide +kernel
theorem d_MO_isFirst_48 : decode b_MO_isFirst 48 = .ok (.getfield 42, 3) := by decide +kernel
theorem d_MO_isFirst_51 : decode b_MO_isFirst 51 = .ok (.iload_n 1, 1) := by decide +kernel
theorem d_MO_isFirst_52 : decode b_MO_isFirst 52 = .ok (.iaload, 1) := by decide +kernel
theorem d_MO_isFirst_53 : decode b_MO_isFirst 53 = .ok (.aload_n 0, 1) := by decide +kernel
theorem d_MO_isFirst_54 : decode b_MO_isFirst 54 = .ok (.getfield 42, 3) := by decide +kernel
theorem d_MO_isFirst_57 : decode b_MO_isFirst 57 = .ok (.iload_n 2, 1) := by decide +kernel
theorem d_MO_isFirst_58 : decode b_MO_isFirst 58 = .ok (.iaload, 1) := by decide +kernel
theorem d_MO_isFirst_59 : decode b_MO_isFirst 59 = .ok (.if_icmp .ne 23, 3) := by decide +kernel
theorem d_MO_isFirst_62 : decode b_MO_isFirst 62 = .ok (.aload_n 0, 1) := by decide +kernel
theorem d_MO_isFirst_63 : decode b_MO_isFirst 63 = .ok (.getfield 45, 3) := by decide +kernel
theorem d_MO_isFirst_66 : decode b_MO_isFirst 66 = .ok (.iload_n 1, 1) := by decide +kernel
theorem d_MO_isFirst_67 : decode b_MO_isFirst 67 = .ok (.laload, 1) := by decide +kernel
theorem d_MO_isFirst_68 : decode b_MO_isFirst 68 = .ok (.aload_n 0, 1) := by decide +kernel
theorem d_MO_isFirst_69 : decode b_MO_isFirst 69 = .ok (.getfield 45, 3) := by decide +kernel
theorem d_MO_isFirst_72 : decode b_MO_isFirst 72 = .ok (.iload_n 2, 1) := by decide +kernel
theorem d_MO_isFirst_73 : decode b_MO_isFirst 73 = .ok (.laload, 1) := by decide +kernel
theorem d_MO_isFirst_74 : decode b_MO_isFirst 74 = .ok (.lcmp, 1) := by decide +kernel
theorem d_MO_isFirst_75 : decode b_MO_isFirst 75 = .ok (.ifCond .ge 7, 3) := by decide +kernel
theorem d_MO_isFirst_78 : decode b_MO_isFirst 78 = .ok (.iconst 1, 1) := by decide +kernel
theorem d_MO_isFirst_79 : decode b_MO_isFirst 79 = .ok (.goto 4, 3) := by decide +kernel
theorem d_MO_isFirst_82 : decode b_MO_isFirst 82 = .ok (.iconst 0, 1) := by decide +kernel
theorem d_MO_isFirst_83 : decode b_MO_isFirst 83 = .ok (.ireturn, 1) := by decide +kernel
theorem d_MO_isWanted_0 : decode b_MO_isWanted 0 = .ok (.iload_n 2, 1) := by decide +kernel
theorem d_MO_isWanted_1 : decode b_MO_isWanted 1 = .ok (.aload_n 0, 1) := by decide +kernel
theorem d_MO_isWanted_2 : decode b_MO_isWanted 2 = .ok (.getfield 101, 3) := by decide +kernel
theorem d_MO_isWanted_5 : decode b_MO_isWanted 5 = .ok (.idiv, 1) := by decide +kernel
theorem d_MO_isWanted_6 : decode b_MO_isWanted 6 = .ok (.i2l, 1) := by decide +kernel
theorem d_MO_isWanted_7 : decode b_MO_isWanted 7 = .ok (.lstore_n 3, 1) := by decide +kernel
theorem d_MO_isWanted_8 : decode b_MO_isWanted 8 = .ok (.lload_n 3, 1) := by decide +kernel
theorem d_MO_isWanted_9 : decode b_MO_isWanted 9 = .ok (.aload_n 0, 1) := by decide +kernel
theorem d_MO_isWanted_10 : decode b_MO_isWanted 10 = .ok (.getfield 71, 3) := by decide +kernel
theorem d_MO_isWanted_13 : decode b_MO_isWanted 13 = .ok (.iload_n 1, 1) := by decide +kernel
theorem d_MO_isWanted_14 : decode b_MO_isWanted 14 = .ok (.iaload, 1) := by decide +kernel
theorem d_MO_isWanted_15 : decode b_MO_isWanted 15 = .ok (.i2l, 1) := by decide +kernel
theorem d_MO_isWanted_16 : decode b_MO_isWanted 16 = .ok (.lcmp, 1) := by decide +kernel
theorem d_MO_isWanted_17 : decode b_MO_isWanted 17 = .ok (.ifCond .lt 22, 3) := by decide +kernel
theorem d_MO_isWanted_20 : decode b_MO_isWanted 20 = .ok (.iload_n 2, 1) := by decide +kernel
theorem d_MO_isWanted_21 : decode b_MO_isWanted 21 = .ok (.i2l, 1) := by decide +kernel
theorem d_MO_isWanted_22 : decode b_MO_isWanted 22 = .ok (.lload_n 3, 1) := by decide +kernel
theorem d_MO_isWanted_23 : decode b_MO_isWanted 23 = .ok (.aload_n 0, 1) := by decide +kernel
theorem d_MO_isWanted_24 : decode b_MO_isWanted 24 = .ok (.getfield 101, 3) := by decide +kernel
theorem d_MO_isWanted_27 : decode b_MO_isWanted 27 = .ok (.i2l, 1) := by decide +kernel
theorem d_MO_isWanted_28 : decode b_MO_isWanted 28 = .ok (.lmul, 1) := by decide +kernel
theorem d_MO_isWanted_29 : decode b_MO_isWanted 29 = .ok (.aload_n 0, 1) := by decide +kernel
theorem d_MO_isWanted_30 : decode b_MO_isWanted 30 = .ok (.getfield 98, 3) := by decide +kernel
theorem d_MO_isWanted_33 : decode b_MO_isWanted 33 = .ok (.i2l, 1) := by decide +kernel
theorem d_MO_isWanted_34 : decode b_MO_isWanted 34 = .ok (.ladd, 1) := by decide +kernel
theorem d_MO_isWanted_35 : decode b_MO_isWanted 35 = .ok (.lcmp, 1) := by decide +kernel
theorem d_MO_isWanted_36 : decode b_MO_isWanted 36 = .ok (.ifCond .lt 41, 3) := by decide +kernel
theorem d_MO_isWanted_39 : decode b_MO_isWanted 39 = .ok (.aload_n 0, 1) := by decide +kernel
theorem d_MO_isWanted_40 : decode b_MO_isWanted 40 = .ok (.getfield 101, 3) := by decide +kernel
theorem d_MO_isWanted_43 : decode b_MO_isWanted 43 = .ok (.i2l, 1) := by decide +kernel
theorem d_MO_isWanted_44 : decode b_MO_isWanted 44 = .ok (.aload_n 0, 1) := by decide +kernel
theorem d_MO_isWanted_45 : decode b_MO_isWanted 45 = .ok (.getfield 71, 3) := by decide +kernel
end
section
theorem d_MO_isWanted_48 : decode b_MO_isWanted 48 = .ok (.iload_n 1, 1) := by decide +kernel
theorem d_MO_isWanted_49 : decode b_MO_isWanted 49 = .ok (.iaload, 1) := by decide +kernel
theorem d_MO_isWanted_50 : decode b_MO_isWanted 50 = .ok (.i2l, 1) := by decide +kernel
theorem d_MO_isWanted_51 : decode b_MO_isWanted 51 = .ok (.lmul, 1) := by decide +kernel
theorem d_MO_isWanted_52 : decode b_MO_isWanted 52 = .ok (.iload_n 2, 1) := by decide +kernel
theorem d_MO_isWanted_53 : decode b_MO_isWanted 53 = .ok (.i2l, 1) := by decide +kernel
theorem d_MO_isWanted_54 : decode b_MO_isWanted 54 = .ok (.lcmp, 1) := by decide +kernel
theorem d_MO_isWanted_55 : decode b_MO_isWanted 55 = .ok (.ifCond .gt 26, 3) := by decide +kernel
theorem d_MO_isWanted_58 : decode b_MO_isWanted 58 = .ok (.iload_n 2, 1) := by decide +kernel
theorem d_MO_isWanted_59 : decode b_MO_isWanted 59 = .ok (.i2l, 1) := by decide +kernel
theorem d_MO_isWanted_60 : decode b_MO_isWanted 60 = .ok (.aload_n 0, 1) := by decide +kernel
theorem d_MO_isWanted_61 : decode b_MO_isWanted 61 = .ok (.getfield 101, 3) := by decide +kernel
theorem d_MO_isWanted_64 : decode b_MO_isWanted 64 = .ok (.i2l, 1) := by decide +kernel
theorem d_MO_isWanted_65 : decode b_MO_isWanted 65 = .ok (.lload_n 3, 1) := by decide +kernel
theorem d_MO_isWanted_66 : decode b_MO_isWanted 66 = .ok (.lmul, 1) := by decide +kernel
theorem d_MO_isWanted_67 : decode b_MO_isWanted 67 = .ok (.aload_n 0, 1) := by decide +kernel
theorem d_MO_isWanted_68 : decode b_MO_isWanted 68 = .ok (.getfield 98, 3) := by decide +kernel
theorem d_MO_isWanted_71 : decode b_MO_isWanted 71 = .ok (.i2l, 1) := by decide +kernel
theorem d_MO_isWanted_72 : decode b_MO_isWanted 72 = .ok (.ladd, 1) := by decide +kernel
theorem d_MO_isWanted_73 : decode b_MO_isWanted 73 = .ok (.lcmp, 1) := by decide +kernel
theorem d_MO_isWanted_74 : decode b_MO_isWanted 74 = .ok (.ifCond .ge 7, 3) := by decide +kernel
theorem d_MO_isWanted_77 : decode b_MO_isWanted 77 = .ok (.iconst 1, 1) := by decide +kernel
theorem d_MO_isWanted_78 : decode b_MO_isWanted 78 = .ok (.goto 4, 3) := by decide +kernel
theorem d_MO_isWanted_81 : decode b_MO_isWanted 81 = .ok (.iconst 0, 1) := by decide +kernel
theorem d_MO_isWanted_82 : decode b_MO_isWanted 82 = .ok (.ireturn, 1) := by decide +kernel
theorem d_MO_countedMark_0 : decode b_MO_countedMark 0 = .ok (.iconst 0, 1) := by decide +kernel
theorem d_MO_countedMark_1 : decode b_MO_countedMark 1 = .ok (.istore_n 1, 1) := by decide +kernel
theorem d_MO_countedMark_2 : decode b_MO_countedMark 2 = .ok (.iload_n 1, 1) := by decide +kernel
theorem d_MO_countedMark_3 : decode b_MO_countedMark 3 = .ok (.bipush 8, 2) := by decide +kernel
theorem d_MO_countedMark_5 : decode b_MO_countedMark 5 = .ok (.if_icmp .ge 113, 3) := by decide +kernel
theorem d_MO_countedMark_8 : decode b_MO_countedMark 8 = .ok (.iconst 0, 1) := by decide +kernel
theorem d_MO_countedMark_9 : decode b_MO_countedMark 9 = .ok (.istore_n 2, 1) := by decide +kernel
theorem d_MO_countedMark_10 : decode b_MO_countedMark 10 = .ok (.iload_n 2, 1) := by decide +kernel
theorem d_MO_countedMark_11 : decode b_MO_countedMark 11 = .ok (.iconst (-1), 1) := by decide +kernel
theorem d_MO_countedMark_12 : decode b_MO_countedMark 12 = .ok (.if_icmp .eq 100, 3) := by decide +kernel
theorem d_MO_countedMark_15 : decode b_MO_countedMark 15 = .ok (.iconst (-1), 1) := by decide +kernel
theorem d_MO_countedMark_16 : decode b_MO_countedMark 16 = .ok (.istore_n 2, 1) := by decide +kernel
theorem d_MO_countedMark_17 : decode b_MO_countedMark 17 = .ok (.iconst 0, 1) := by decide +kernel
theorem d_MO_countedMark_18 : decode b_MO_countedMark 18 = .ok (.istore_n 3, 1) := by decide +kernel
theorem d_MO_countedMark_19 : decode b_MO_countedMark 19 = .ok (.iload_n 3, 1) := by decide +kernel
theorem d_MO_countedMark_20 : decode b_MO_countedMark 20 = .ok (.sipush 300, 3) := by decide +kernel
theorem d_MO_countedMark_23 : decode b_MO_countedMark 23 = .ok (.if_icmp .ge 59, 3) := by decide +kernel
theorem d_MO_countedMark_26 : decode b_MO_countedMark 26 = .ok (.aload_n 0, 1) := by decide +kernel
theorem d_MO_countedMark_27 : decode b_MO_countedMark 27 = .ok (.getfield 27, 3) := by decide +kernel
theorem d_MO_countedMark_30 : decode b_MO_countedMark 30 = .ok (.iload_n 3, 1) := by decide +kernel
theorem d_MO_countedMark_31 : decode b_MO_countedMark 31 = .ok (.iaload, 1) := by decide +kernel
theorem d_MO_countedMark_32 : decode b_MO_countedMark 32 = .ok (.iload_n 1, 1) := by decide +kernel
theorem d_MO_countedMark_33 : decode b_MO_countedMark 33 = .ok (.if_icmp .ne 43, 3) := by decide +kernel
theorem d_MO_countedMark_36 : decode b_MO_countedMark 36 = .ok (.aload_n 0, 1) := by decide +kernel
theorem d_MO_countedMark_37 : decode b_MO_countedMark 37 = .ok (.getfield 39, 3) := by decide +kernel
theorem d_MO_countedMark_40 : decode b_MO_countedMark 40 = .ok (.iload_n 3, 1) := by decide +kernel
theorem d_MO_countedMark_41 : decode b_MO_countedMark 41 = .ok (.iaload, 1) := by decide +kernel
theorem d_MO_countedMark_42 : decode b_MO_countedMark 42 = .ok (.iconst (-1), 1) := by decide +kernel
theorem d_MO_countedMark_43 : decode b_MO_countedMark 43 = .ok (.if_icmp .ne 33, 3) := by decide +kernel
theorem d_MO_countedMark_46 : decode b_MO_countedMark 46 = .ok (.aload_n 0, 1) := by decide +kernel
theorem d_MO_countedMark_47 : decode b_MO_countedMark 47 = .ok (.getfield 30, 3) := by decide +kernel
theorem d_MO_countedMark_50 : decode b_MO_countedMark 50 = .ok (.iload_n 3, 1) := by decide +kernel
theorem d_MO_countedMark_51 : decode b_MO_countedMark 51 = .ok (.laload, 1) := by decide +kernel
theorem d_MO_countedMark_52 : decode b_MO_countedMark 52 = .ok (.aload_n 0, 1) := by decide +kernel
theorem d_MO_countedMark_53 : decode b_MO_countedMark 53 = .ok (.getfield 23, 3) := by decide +kernel
theorem d_MO_countedMark_56 : decode b_MO_countedMark 56 = .ok (.lcmp, 1) := by decide +kernel
theorem d_MO_countedMark_57 : decode b_MO_countedMark 57 = .ok (.ifCond .ge 19, 3) := by decide +kernel
theorem d_MO_countedMark_60 : decode b_MO_countedMark 60 = .ok (.iload_n 2, 1) := by decide +kernel
theorem d_MO_countedMark_61 : decode b_MO_countedMark 61 = .ok (.iconst (-1), 1) := by decide +kernel
theorem d_MO_countedMark_62 : decode b_MO_countedMark 62 = .ok (.if_icmp .eq 12, 3) := by decide +kernel
theorem d_MO_countedMark_65 : decode b_MO_countedMark 65 = .ok (.aload_n 0, 1) := by decide +kernel
theorem d_MO_countedMark_66 : decode b_MO_countedMark 66 = .ok (.iload_n 3, 1) := by decide +kernel
theorem d_MO_countedMark_67 : decode b_MO_countedMark 67 = .ok (.iload_n 2, 1) := by decide +kernel
theorem d_MO_countedMark_68 : decode b_MO_countedMark 68 = .ok (.invokevirtual 206, 3) := by decide +kernel
theorem d_MO_countedMark_71 : decode b_MO_countedMark 71 = .ok (.ifCond .eq 5, 3) := by decide +kernel
theorem d_MO_countedMark_74 : decode b_MO_countedMark 74 = .ok (.iload_n 3, 1) := by decide +kernel
theorem d_MO_countedMark_75 : decode b_MO_countedMark 75 = .ok (.istore_n 2, 1) := by decide +kernel
theorem d_MO_countedMark_76 : decode b_MO_countedMark 76 = .ok (.iinc 3 1, 3) := by decide +kernel
theorem d_MO_countedMark_79 : decode b_MO_countedMark 79 = .ok (.goto (-60), 3) := by decide +kernel
theorem d_MO_countedMark_82 : decode b_MO_countedMark 82 = .ok (.iload_n 2, 1) := by decide +kernel
theorem d_MO_countedMark_83 : decode b_MO_countedMark 83 = .ok (.iconst (-1), 1) := by decide +kernel
theorem d_MO_countedMark_84 : decode b_MO_countedMark 84 = .ok (.if_icmp .eq (-74), 3) := by decide +kernel
theorem d_MO_countedMark_87 : decode b_MO_countedMark 87 = .ok (.aload_n 0, 1) := by decide +kernel
theorem d_MO_countedMark_88 : decode b_MO_countedMark 88 = .ok (.getfield 39, 3) := by decide +kernel
theorem d_MO_countedMark_91 : decode b_MO_countedMark 91 = .ok (.iload_n 2, 1) := by decide +kernel
theorem d_MO_countedMark_92 : decode b_MO_countedMark 92 = .ok (.aload_n 0, 1) := by decide +kernel
theorem d_MO_countedMark_93 : decode b_MO_countedMark 93 = .ok (.getfield 68, 3) := by decide +kernel
theorem d_MO_countedMark_96 : decode b_MO_countedMark 96 = .ok (.iload_n 1, 1) := by decide +kernel
theorem d_MO_countedMark_97 : decode b_MO_countedMark 97 = .ok (.iaload, 1) := by decide +kernel
theorem d_MO_countedMark_98 : decode b_MO_countedMark 98 = .ok (.iastore, 1) := by decide +kernel
theorem d_MO_countedMark_99 : decode b_MO_countedMark 99 = .ok (.aload_n 0, 1) := by decide +kernel
theorem d_MO_countedMark_100 : decode b_MO_countedMark 100 = .ok (.getfield 68, 3) := by decide +kernel
theorem d_MO_countedMark_103 : decode b_MO_countedMark 103 = .ok (.iload_n 1, 1) := by decide +kernel
theorem d_MO_countedMark_104 : decode b_MO_countedMark 104 = .ok (.dup2, 1) := by decide +kernel
theorem d_MO_countedMark_105 : decode b_MO_countedMark 105 = .ok (.iaload, 1) := by decide +kernel
theorem d_MO_countedMark_106 : decode b_MO_countedMark 106 = .ok (.iconst 1, 1) := by decide +kernel
theorem d_MO_countedMark_107 : decode b_MO_countedMark 107 = .ok (.iadd, 1) := by decide +kernel
theorem d_MO_countedMark_108 : decode b_MO_countedMark 108 = .ok (.iastore, 1) := by decide +kernel
theorem d_MO_countedMark_109 : decode b_MO_countedMark 109 = .ok (.goto (-99), 3) := by decide +kernel
theorem d_MO_countedMark_112 : decode b_MO_countedMark 112 = .ok (.iinc 1 1, 3) := by decide +kernel
theorem d_MO_countedMark_115 : decode b_MO_countedMark 115 = .ok (.goto (-113), 3) := by decide +kernel
theorem d_MO_countedMark_118 : decode b_MO_countedMark 118 = .ok (.iconst 0, 1) := by decide +kernel
theorem d_MO_countedMark_119 : decode b_MO_countedMark 119 = .ok (.istore_n 1, 1) := by decide +kernel
theorem d_MO_countedMark_120 : decode b_MO_countedMark 120 = .ok (.iconst 0, 1) := by decide +kernel
theorem d_MO_countedMark_121 : decode b_MO_countedMark 121 = .ok (.istore_n 2, 1) := by decide +kernel
theorem d_MO_countedMark_122 : decode b_MO_countedMark 122 = .ok (.iload_n 2, 1) := by decide +kernel
theorem d_MO_countedMark_123 : decode b_MO_countedMark 123 = .ok (.bipush 8, 2) := by decide +kernel
theorem d_MO_countedMark_125 : decode b_MO_countedMark 125 = .ok (.if_icmp .ge 160, 3) := by decide +kernel
theorem d_MO_countedMark_128 : decode b_MO_countedMark 128 = .ok (.aload_n 0, 1) := by decide +kernel
theorem d_MO_countedMark_129 : decode b_MO_countedMark 129 = .ok (.getfield 101, 3) := by decide +kernel
theorem d_MO_countedMark_132 : decode b_MO_countedMark 132 = .ok (.i2l, 1) := by decide +kernel
theorem d_MO_countedMark_133 : decode b_MO_countedMark 133 = .ok (.aload_n 0, 1) := by decide +kernel
theorem d_MO_countedMark_134 : decode b_MO_countedMark 134 = .ok (.getfield 71, 3) := by decide +kernel
theorem d_MO_countedMark_137 : decode b_MO_countedMark 137 = .ok (.iload_n 2, 1) := by decide +kernel
theorem d_MO_countedMark_138 : decode b_MO_countedMark 138 = .ok (.iaload, 1) := by decide +kernel
theorem d_MO_countedMark_139 : decode b_MO_countedMark 139 = .ok (.i2l, 1) := by decide +kernel
theorem d_MO_countedMark_140 : decode b_MO_countedMark 140 = .ok (.lmul, 1) := by decide +kernel
theorem d_MO_countedMark_141 : decode b_MO_countedMark 141 = .ok (.aload_n 0, 1) := by decide +kernel
theorem d_MO_countedMark_142 : decode b_MO_countedMark 142 = .ok (.getfield 98, 3) := by decide +kernel
theorem d_MO_countedMark_145 : decode b_MO_countedMark 145 = .ok (.i2l, 1) := by decide +kernel
theorem d_MO_countedMark_146 : decode b_MO_countedMark 146 = .ok (.ladd, 1) := by decide +kernel
theorem d_MO_countedMark_147 : decode b_MO_countedMark 147 = .ok (.aload_n 0, 1) := by decide +kernel
theorem d_MO_countedMark_148 : decode b_MO_countedMark 148 = .ok (.getfield 68, 3) := by decide +kernel
theorem d_MO_countedMark_151 : decode b_MO_countedMark 151 = .ok (.iload_n 2, 1) := by decide +kernel
theorem d_MO_countedMark_152 : decode b_MO_countedMark 152 = .ok (.iaload, 1) := by decide +kernel
theorem d_MO_countedMark_153 : decode b_MO_countedMark 153 = .ok (.i2l, 1) := by decide +kernel
theorem d_MO_countedMark_154 : decode b_MO_countedMark 154 = .ok (.lcmp, 1) := by decide +kernel
theorem d_MO_countedMark_155 : decode b_MO_countedMark 155 = .ok (.ifCond .gt 124, 3) := by decide +kernel
theorem d_MO_countedMark_158 : decode b_MO_countedMark 158 = .ok (.aload_n 0, 1) := by decide +kernel
theorem d_MO_countedMark_159 : decode b_MO_countedMark 159 = .ok (.getfield 101, 3) := by decide +kernel
theorem d_MO_countedMark_162 : decode b_MO_countedMark 162 = .ok (.i2l, 1) := by decide +kernel
theorem d_MO_countedMark_163 : decode b_MO_countedMark 163 = .ok (.aload_n 0, 1) := by decide +kernel
theorem d_MO_countedMark_164 : decode b_MO_countedMark 164 = .ok (.getfield 71, 3) := by decide +kernel
theorem d_MO_countedMark_167 : decode b_MO_countedMark 167 = .ok (.iload_n 2, 1) := by decide +kernel
theorem d_MO_countedMark_168 : decode b_MO_countedMark 168 = .ok (.iaload, 1) := by decide +kernel
theorem d_MO_countedMark_169 : decode b_MO_countedMark 169 = .ok (.i2l, 1) := by decide +kernel
theorem d_MO_countedMark_170 : decode b_MO_countedMark 170 = .ok (.lmul, 1) := by decide +kernel
theorem d_MO_countedMark_171 : decode b_MO_countedMark 171 = .ok (.lstore_n 3, 1) := by decide +kernel
theorem d_MO_countedMark_172 : decode b_MO_countedMark 172 = .ok (.iconst 0, 1) := by decide +kernel
theorem d_MO_countedMark_173 : decode b_MO_countedMark 173 = .ok (.istore 5, 2) := by decide +kernel
theorem d_MO_countedMark_175 : decode b_MO_countedMark 175 = .ok (.iload 5, 2) := by decide +kernel
theorem d_MO_countedMark_177 : decode b_MO_countedMark 177 = .ok (.sipush 300, 3) := by decide +kernel
theorem d_MO_countedMark_180 : decode b_MO_countedMark 180 = .ok (.if_icmp .ge 64, 3) := by decide +kernel
theorem d_MO_countedMark_183 : decode b_MO_countedMark 183 = .ok (.aload_n 0, 1) := by decide +kernel
theorem d_MO_countedMark_184 : decode b_MO_countedMark 184 = .ok (.getfield 86, 3) := by decide +kernel
theorem d_MO_countedMark_187 : decode b_MO_countedMark 187 = .ok (.iload 5, 2) := by decide +kernel
theorem d_MO_countedMark_189 : decode b_MO_countedMark 189 = .ok (.aload_n 0, 1) := by decide +kernel
theorem d_MO_countedMark_190 : decode b_MO_countedMark 190 = .ok (.getfield 27, 3) := by decide +kernel
theorem d_MO_countedMark_193 : decode b_MO_countedMark 193 = .ok (.iload 5, 2) := by decide +kernel
theorem d_MO_countedMark_195 : decode b_MO_countedMark 195 = .ok (.iaload, 1) := by decide +kernel
theorem d_MO_countedMark_196 : decode b_MO_countedMark 196 = .ok (.iload_n 2, 1) := by decide +kernel
theorem d_MO_countedMark_197 : decode b_MO_countedMark 197 = .ok (.if_icmp .ne 39, 3) := by decide +kernel
theorem d_MO_countedMark_200 : decode b_MO_countedMark 200 = .ok (.aload_n 0, 1) := by decide +kernel
theorem d_MO_countedMark_201 : decode b_MO_countedMark 201 = .ok (.getfield 39, 3) := by decide +kernel
theorem d_MO_countedMark_204 : decode b_MO_countedMark 204 = .ok (.iload 5, 2) := by decide +kernel
theorem d_MO_countedMark_206 : decode b_MO_countedMark 206 = .ok (.iaload, 1) := by decide +kernel
theorem d_MO_countedMark_207 : decode b_MO_countedMark 207 = .ok (.i2l, 1) := by decide +kernel
theorem d_MO_countedMark_208 : decode b_MO_countedMark 208 = .ok (.lload_n 3, 1) := by decide +kernel
theorem d_MO_countedMark_209 : decode b_MO_countedMark 209 = .ok (.lcmp, 1) := by decide +kernel
theorem d_MO_countedMark_210 : decode b_MO_countedMark 210 = .ok (.ifCond .lt 26, 3) := by decide +kernel
theorem d_MO_countedMark_213 : decode b_MO_countedMark 213 = .ok (.aload_n 0, 1) := by decide +kernel
theorem d_MO_countedMark_214 : decode b_MO_countedMark 214 = .ok (.getfield 39, 3) := by decide +kernel
theorem d_MO_countedMark_217 : decode b_MO_countedMark 217 = .ok (.iload 5, 2) := by decide +kernel
theorem d_MO_countedMark_219 : decode b_MO_countedMark 219 = .ok (.iaload, 1) := by decide +kernel
theorem d_MO_countedMark_220 : decode b_MO_countedMark 220 = .ok (.i2l, 1) := by decide +kernel
theorem d_MO_countedMark_221 : decode b_MO_countedMark 221 = .ok (.lload_n 3, 1) := by decide +kernel
theorem d_MO_countedMark_222 : decode b_MO_countedMark 222 = .ok (.aload_n 0, 1) := by decide +kernel
theorem d_MO_countedMark_223 : decode b_MO_countedMark 223 = .ok (.getfield 98, 3) := by decide +kernel
theorem d_MO_countedMark_226 : decode b_MO_countedMark 226 = .ok (.i2l, 1) := by decide +kernel
theorem d_MO_countedMark_227 : decode b_MO_countedMark 227 = .ok (.ladd, 1) := by decide +kernel
theorem d_MO_countedMark_228 : decode b_MO_countedMark 228 = .ok (.lcmp, 1) := by decide +kernel
theorem d_MO_countedMark_229 : decode b_MO_countedMark 229 = .ok (.ifCond .ge 7, 3) := by decide +kernel
theorem d_MO_countedMark_232 : decode b_MO_countedMark 232 = .ok (.iconst 1, 1) := by decide +kernel
theorem d_MO_countedMark_233 : decode b_MO_countedMark 233 = .ok (.goto 4, 3) := by decide +kernel
theorem d_MO_countedMark_236 : decode b_MO_countedMark 236 = .ok (.iconst 0, 1) := by decide +kernel
theorem d_MO_countedMark_237 : decode b_MO_countedMark 237 = .ok (.bastore, 1) := by decide +kernel
theorem d_MO_countedMark_238 : decode b_MO_countedMark 238 = .ok (.iinc 5 1, 3) := by decide +kernel
theorem d_MO_countedMark_241 : decode b_MO_countedMark 241 = .ok (.goto (-66), 3) := by decide +kernel
theorem d_MO_countedMark_244 : decode b_MO_countedMark 244 = .ok (.aload_n 0, 1) := by decide +kernel
theorem d_MO_countedMark_245 : decode b_MO_countedMark 245 = .ok (.invokevirtual 224, 3) := by decide +kernel
theorem d_MO_countedMark_248 : decode b_MO_countedMark 248 = .ok (.aload_n 0, 1) := by decide +kernel
theorem d_MO_countedMark_249 : decode b_MO_countedMark 249 = .ok (.iload_n 2, 1) := by decide +kernel
theorem d_MO_countedMark_250 : decode b_MO_countedMark 250 = .ok (.lload_n 3, 1) := by decide +kernel
theorem d_MO_countedMark_251 : decode b_MO_countedMark 251 = .ok (.lload_n 3, 1) := by decide +kernel
theorem d_MO_countedMark_252 : decode b_MO_countedMark 252 = .ok (.aload_n 0, 1) := by decide +kernel
theorem d_MO_countedMark_253 : decode b_MO_countedMark 253 = .ok (.getfield 98, 3) := by decide +kernel
theorem d_MO_countedMark_256 : decode b_MO_countedMark 256 = .ok (.i2l, 1) := by decide +kernel
theorem d_MO_countedMark_257 : decode b_MO_countedMark 257 = .ok (.ladd, 1) := by decide +kernel
theorem d_MO_countedMark_258 : decode b_MO_countedMark 258 = .ok (.iconst 1, 1) := by decide +kernel
theorem d_MO_countedMark_259 : decode b_MO_countedMark 259 = .ok (.iconst 1, 1) := by decide +kernel
theorem d_MO_countedMark_260 : decode b_MO_countedMark 260 = .ok (.invokevirtual 227, 3) := by decide +kernel
theorem d_MO_countedMark_263 : decode b_MO_countedMark 263 = .ok (.aload_n 0, 1) := by decide +kernel
theorem d_MO_countedMark_264 : decode b_MO_countedMark 264 = .ok (.getfield 71, 3) := by decide +kernel
theorem d_MO_countedMark_267 : decode b_MO_countedMark 267 = .ok (.iload_n 2, 1) := by decide +kernel
theorem d_MO_countedMark_268 : decode b_MO_countedMark 268 = .ok (.dup2, 1) := by decide +kernel
theorem d_MO_countedMark_269 : decode b_MO_countedMark 269 = .ok (.iaload, 1) := by decide +kernel
theorem d_MO_countedMark_270 : decode b_MO_countedMark 270 = .ok (.iconst 1, 1) := by decide +kernel
theorem d_MO_countedMark_271 : decode b_MO_countedMark 271 = .ok (.iadd, 1) := by decide +kernel
theorem d_MO_countedMark_272 : decode b_MO_countedMark 272 = .ok (.iastore, 1) := by decide +kernel
theorem d_MO_countedMark_273 : decode b_MO_countedMark 273 = .ok (.iinc 1 1, 3) := by decide +kernel
theorem d_MO_countedMark_276 : decode b_MO_countedMark 276 = .ok (.goto (-148), 3) := by decide +kernel
theorem d_MO_countedMark_279 : decode b_MO_countedMark 279 = .ok (.iinc 2 1, 3) := by decide +kernel
theorem d_MO_countedMark_282 : decode b_MO_countedMark 282 = .ok (.goto (-160), 3) := by decide +kernel
theorem d_MO_countedMark_285 : decode b_MO_countedMark 285 = .ok (.iconst 0, 1) := by decide +kernel
theorem d_MO_countedMark_286 : decode b_MO_countedMark 286 = .ok (.istore_n 2, 1) := by decide +kernel
theorem d_MO_countedMark_287 : decode b_MO_countedMark 287 = .ok (.iload_n 2, 1) := by decide +kernel
theorem d_MO_countedMark_288 : decode b_MO_countedMark 288 = .ok (.sipush 300, 3) := by decide +kernel
theorem d_MO_countedMark_291 : decode b_MO_countedMark 291 = .ok (.if_icmp .ge 65, 3) := by decide +kernel
theorem d_MO_countedMark_294 : decode b_MO_countedMark 294 = .ok (.aload_n 0, 1) := by decide +kernel
theorem d_MO_countedMark_295 : decode b_MO_countedMark 295 = .ok (.getfield 27, 3) := by decide +kernel
theorem d_MO_countedMark_298 : decode b_MO_countedMark 298 = .ok (.iload_n 2, 1) := by decide +kernel
theorem d_MO_countedMark_299 : decode b_MO_countedMark 299 = .ok (.iaload, 1) := by decide +kernel
theorem d_MO_countedMark_300 : decode b_MO_countedMark 300 = .ok (.iconst (-1), 1) := by decide +kernel
theorem d_MO_countedMark_301 : decode b_MO_countedMark 301 = .ok (.if_icmp .eq 49, 3) := by decide +kernel
theorem d_MO_countedMark_304 : decode b_MO_countedMark 304 = .ok (.aload_n 0, 1) := by decide +kernel
theorem d_MO_countedMark_305 : decode b_MO_countedMark 305 = .ok (.getfield 39, 3) := by decide +kernel
theorem d_MO_countedMark_308 : decode b_MO_countedMark 308 = .ok (.iload_n 2, 1) := by decide +kernel
theorem d_MO_countedMark_309 : decode b_MO_countedMark 309 = .ok (.iaload, 1) := by decide +kernel
theorem d_MO_countedMark_310 : decode b_MO_countedMark 310 = .ok (.iconst (-1), 1) := by decide +kernel
theorem d_MO_countedMark_311 : decode b_MO_countedMark 311 = .ok (.if_icmp .eq 39, 3) := by decide +kernel
theorem d_MO_countedMark_314 : decode b_MO_countedMark 314 = .ok (.aload_n 0, 1) := by decide +kernel
theorem d_MO_countedMark_315 : decode b_MO_countedMark 315 = .ok (.aload_n 0, 1) := by decide +kernel
theorem d_MO_countedMark_316 : decode b_MO_countedMark 316 = .ok (.getfield 27, 3) := by decide +kernel
theorem d_MO_countedMark_319 : decode b_MO_countedMark 319 = .ok (.iload_n 2, 1) := by decide +kernel
theorem d_MO_countedMark_320 : decode b_MO_countedMark 320 = .ok (.iaload, 1) := by decide +kernel
theorem d_MO_countedMark_321 : decode b_MO_countedMark 321 = .ok (.aload_n 0, 1) := by decide +kernel
theorem d_MO_countedMark_322 : decode b_MO_countedMark 322 = .ok (.getfield 39, 3) := by decide +kernel
theorem d_MO_countedMark_325 : decode b_MO_countedMark 325 = .ok (.iload_n 2, 1) := by decide +kernel
theorem d_MO_countedMark_326 : decode b_MO_countedMark 326 = .ok (.iaload, 1) := by decide +kernel
theorem d_MO_countedMark_327 : decode b_MO_countedMark 327 = .ok (.invokevirtual 284, 3) := by decide +kernel
theorem d_MO_countedMark_330 : decode b_MO_countedMark 330 = .ok (.ifCond .ne 20, 3) := by decide +kernel
theorem d_MO_countedMark_333 : decode b_MO_countedMark 333 = .ok (.aload_n 0, 1) := by decide +kernel
theorem d_MO_countedMark_334 : decode b_MO_countedMark 334 = .ok (.getfield 27, 3) := by decide +kernel
theorem d_MO_countedMark_337 : decode b_MO_countedMark 337 = .ok (.iload_n 2, 1) := by decide +kernel
theorem d_MO_countedMark_338 : decode b_MO_countedMark 338 = .ok (.iconst (-1), 1) := by decide +kernel
theorem d_MO_countedMark_339 : decode b_MO_countedMark 339 = .ok (.iastore, 1) := by decide +kernel
theorem d_MO_countedMark_340 : decode b_MO_countedMark 340 = .ok (.aload_n 0, 1) := by decide +kernel
theorem d_MO_countedMark_341 : decode b_MO_countedMark 341 = .ok (.dup, 1) := by decide +kernel
theorem d_MO_countedMark_342 : decode b_MO_countedMark 342 = .ok (.getfield 203, 3) := by decide +kernel
theorem d_MO_countedMark_345 : decode b_MO_countedMark 345 = .ok (.iconst 1, 1) := by decide +kernel
theorem d_MO_countedMark_346 : decode b_MO_countedMark 346 = .ok (.isub, 1) := by decide +kernel
theorem d_MO_countedMark_347 : decode b_MO_countedMark 347 = .ok (.putfield 203, 3) := by decide +kernel
theorem d_MO_countedMark_350 : decode b_MO_countedMark 350 = .ok (.iinc 2 1, 3) := by decide +kernel
theorem d_MO_countedMark_353 : decode b_MO_countedMark 353 = .ok (.goto (-66), 3) := by decide +kernel
theorem d_MO_countedMark_356 : decode b_MO_countedMark 356 = .ok (.iload_n 1, 1) := by decide +kernel
theorem d_MO_countedMark_357 : decode b_MO_countedMark 357 = .ok (.ireturn, 1) := by decide +kernel
theorem d_MO_mark_0 : decode b_MO_mark 0 = .ok (.aload_n 0, 1) := by decide +kernel
theorem d_MO_mark_1 : decode b_MO_mark 1 = .ok (.iconst 0, 1) := by decide +kernel
theorem d_MO_mark_2 : decode b_MO_mark 2 = .ok (.putfield 104, 3) := by decide +kernel
theorem d_MO_mark_5 : decode b_MO_mark 5 = .ok (.lload_n 1, 1) := by decide +kernel
theorem d_MO_mark_6 : decode b_MO_mark 6 = .ok (.ldc2_w 21, 3) := by decide +kernel
theorem d_MO_mark_9 : decode b_MO_mark 9 = .ok (.ldc2_w 276, 3) := by decide +kernel
theorem d_MO_mark_12 : decode b_MO_mark 12 = .ok (.invokestatic 111, 3) := by decide +kernel
theorem d_MO_mark_15 : decode b_MO_mark 15 = .ok (.ifCond .ne 6, 3) := by decide +kernel
theorem d_MO_mark_18 : decode b_MO_mark 18 = .ok (.bipush (-2), 2) := by decide +kernel
theorem d_MO_mark_20 : decode b_MO_mark 20 = .ok (.ireturn, 1) := by decide +kernel
theorem d_MO_mark_21 : decode b_MO_mark 21 = .ok (.lload_n 1, 1) := by decide +kernel
theorem d_MO_mark_22 : decode b_MO_mark 22 = .ok (.aload_n 0, 1) := by decide +kernel
theorem d_MO_mark_23 : decode b_MO_mark 23 = .ok (.getfield 23, 3) := by decide +kernel
theorem d_MO_mark_26 : decode b_MO_mark 26 = .ok (.lcmp, 1) := by decide +kernel
theorem d_MO_mark_27 : decode b_MO_mark 27 = .ok (.ifCond .ge 6, 3) := by decide +kernel
theorem d_MO_mark_30 : decode b_MO_mark 30 = .ok (.bipush (-3), 2) := by decide +kernel
theorem d_MO_mark_32 : decode b_MO_mark 32 = .ok (.ireturn, 1) := by decide +kernel
theorem d_MO_mark_33 : decode b_MO_mark 33 = .ok (.aload_n 0, 1) := by decide +kernel
theorem d_MO_mark_34 : decode b_MO_mark 34 = .ok (.lload_n 1, 1) := by decide +kernel
theorem d_MO_mark_35 : decode b_MO_mark 35 = .ok (.putfield 23, 3) := by decide +kernel
theorem d_MO_mark_38 : decode b_MO_mark 38 = .ok (.aload_n 0, 1) := by decide +kernel
theorem d_MO_mark_39 : decode b_MO_mark 39 = .ok (.getfield 93, 3) := by decide +kernel
theorem d_MO_mark_42 : decode b_MO_mark 42 = .ok (.iconst 3, 1) := by decide +kernel
theorem d_MO_mark_43 : decode b_MO_mark 43 = .ok (.if_icmp .ne 8, 3) := by decide +kernel
theorem d_MO_mark_46 : decode b_MO_mark 46 = .ok (.aload_n 0, 1) := by decide +kernel
theorem d_MO_mark_47 : decode b_MO_mark 47 = .ok (.invokevirtual 278, 3) := by decide +kernel
theorem d_MO_mark_50 : decode b_MO_mark 50 = .ok (.ireturn, 1) := by decide +kernel
theorem d_MO_mark_51 : decode b_MO_mark 51 = .ok (.iconst 0, 1) := by decide +kernel
theorem d_MO_mark_52 : decode b_MO_mark 52 = .ok (.istore_n 3, 1) := by decide +kernel
theorem d_MO_mark_53 : decode b_MO_mark 53 = .ok (.iconst 0, 1) := by decide +kernel
theorem d_MO_mark_54 : decode b_MO_mark 54 = .ok (.istore 4, 2) := by decide +kernel
theorem d_MO_mark_56 : decode b_MO_mark 56 = .ok (.iload 4, 2) := by decide +kernel
theorem d_MO_mark_58 : decode b_MO_mark 58 = .ok (.iconst (-1), 1) := by decide +kernel
theorem d_MO_mark_59 : decode b_MO_mark 59 = .ok (.if_icmp .eq 99, 3) := by decide +kernel
theorem d_MO_mark_62 : decode b_MO_mark 62 = .ok (.iconst (-1), 1) := by decide +kernel
theorem d_MO_mark_63 : decode b_MO_mark 63 = .ok (.istore 4, 2) := by decide +kernel
theorem d_MO_mark_65 : decode b_MO_mark 65 = .ok (.iconst 0, 1) := by decide +kernel
theorem d_MO_mark_66 : decode b_MO_mark 66 = .ok (.istore 5, 2) := by decide +kernel
theorem d_MO_mark_68 : decode b_MO_mark 68 = .ok (.iload 5, 2) := by decide +kernel
theorem d_MO_mark_70 : decode b_MO_mark 70 = .ok (.sipush 200, 3) := by decide +kernel
theorem d_MO_mark_73 : decode b_MO_mark 73 = .ok (.if_icmp .ge 66, 3) := by decide +kernel
theorem d_MO_mark_76 : decode b_MO_mark 76 = .ok (.aload_n 0, 1) := by decide +kernel
theorem d_MO_mark_77 : decode b_MO_mark 77 = .ok (.getfield 42, 3) := by decide +kernel
theorem d_MO_mark_80 : decode b_MO_mark 80 = .ok (.iload 5, 2) := by decide +kernel
theorem d_MO_mark_82 : decode b_MO_mark 82 = .ok (.iaload, 1) := by decide +kernel
theorem d_MO_mark_83 : decode b_MO_mark 83 = .ok (.iconst (-1), 1) := by decide +kernel
theorem d_MO_mark_84 : decode b_MO_mark 84 = .ok (.if_icmp .eq 49, 3) := by decide +kernel
theorem d_MO_mark_87 : decode b_MO_mark 87 = .ok (.aload_n 0, 1) := by decide +kernel
theorem d_MO_mark_88 : decode b_MO_mark 88 = .ok (.getfield 57, 3) := by decide +kernel
theorem d_MO_mark_91 : decode b_MO_mark 91 = .ok (.iload 5, 2) := by decide +kernel
theorem d_MO_mark_93 : decode b_MO_mark 93 = .ok (.baload, 1) := by decide +kernel
theorem d_MO_mark_94 : decode b_MO_mark 94 = .ok (.ifCond .ne 39, 3) := by decide +kernel
theorem d_MO_mark_97 : decode b_MO_mark 97 = .ok (.aload_n 0, 1) := by decide +kernel
theorem d_MO_mark_98 : decode b_MO_mark 98 = .ok (.getfield 48, 3) := by decide +kernel
theorem d_MO_mark_101 : decode b_MO_mark 101 = .ok (.iload 5, 2) := by decide +kernel
theorem d_MO_mark_103 : decode b_MO_mark 103 = .ok (.laload, 1) := by decide +kernel
theorem d_MO_mark_104 : decode b_MO_mark 104 = .ok (.aload_n 0, 1) := by decide +kernel
theorem d_MO_mark_105 : decode b_MO_mark 105 = .ok (.getfield 23, 3) := by decide +kernel
theorem d_MO_mark_108 : decode b_MO_mark 108 = .ok (.lcmp, 1) := by decide +kernel
theorem d_MO_mark_109 : decode b_MO_mark 109 = .ok (.ifCond .gt 24, 3) := by decide +kernel
theorem d_MO_mark_112 : decode b_MO_mark 112 = .ok (.iload 4, 2) := by decide +kernel
theorem d_MO_mark_114 : decode b_MO_mark 114 = .ok (.iconst (-1), 1) := by decide +kernel
theorem d_MO_mark_115 : decode b_MO_mark 115 = .ok (.if_icmp .eq 14, 3) := by decide +kernel
theorem d_MO_mark_118 : decode b_MO_mark 118 = .ok (.aload_n 0, 1) := by decide +kernel
theorem d_MO_mark_119 : decode b_MO_mark 119 = .ok (.iload 5, 2) := by decide +kernel
theorem d_MO_mark_121 : decode b_MO_mark 121 = .ok (.iload 4, 2) := by decide +kernel
theorem d_MO_mark_123 : decode b_MO_mark 123 = .ok (.invokevirtual 281, 3) := by decide +kernel
theorem d_MO_mark_126 : decode b_MO_mark 126 = .ok (.ifCond .eq 7, 3) := by decide +kernel
theorem d_MO_mark_129 : decode b_MO_mark 129 = .ok (.iload 5, 2) := by decide +kernel
theorem d_MO_mark_131 : decode b_MO_mark 131 = .ok (.istore 4, 2) := by decide +kernel
theorem d_MO_mark_133 : decode b_MO_mark 133 = .ok (.iinc 5 1, 3) := by decide +kernel
theorem d_MO_mark_136 : decode b_MO_mark 136 = .ok (.goto (-68), 3) := by decide +kernel
theorem d_MO_mark_139 : decode b_MO_mark 139 = .ok (.iload 4, 2) := by decide +kernel
theorem d_MO_mark_141 : decode b_MO_mark 141 = .ok (.iconst (-1), 1) := by decide +kernel
theorem d_MO_mark_142 : decode b_MO_mark 142 = .ok (.if_icmp .eq (-86), 3) := by decide +kernel
theorem d_MO_mark_145 : decode b_MO_mark 145 = .ok (.aload_n 0, 1) := by decide +kernel
theorem d_MO_mark_146 : decode b_MO_mark 146 = .ok (.iload 4, 2) := by decide +kernel
theorem d_MO_mark_148 : decode b_MO_mark 148 = .ok (.iconst 1, 1) := by decide +kernel
theorem d_MO_mark_149 : decode b_MO_mark 149 = .ok (.invokevirtual 231, 3) := by decide +kernel
theorem d_MO_mark_152 : decode b_MO_mark 152 = .ok (.iinc 3 1, 3) := by decide +kernel
theorem d_MO_mark_155 : decode b_MO_mark 155 = .ok (.goto (-99), 3) := by decide +kernel
theorem d_MO_mark_158 : decode b_MO_mark 158 = .ok (.iconst 0, 1) := by decide +kernel
theorem d_MO_mark_159 : decode b_MO_mark 159 = .ok (.istore 5, 2) := by decide +kernel
theorem d_MO_mark_161 : decode b_MO_mark 161 = .ok (.iload 5, 2) := by decide +kernel
theorem d_MO_mark_163 : decode b_MO_mark 163 = .ok (.sipush 200, 3) := by decide +kernel
theorem d_MO_mark_166 : decode b_MO_mark 166 = .ok (.if_icmp .ge 58, 3) := by decide +kernel
theorem d_MO_mark_169 : decode b_MO_mark 169 = .ok (.aload_n 0, 1) := by decide +kernel
theorem d_MO_mark_170 : decode b_MO_mark 170 = .ok (.getfield 42, 3) := by decide +kernel
theorem d_MO_mark_173 : decode b_MO_mark 173 = .ok (.iload 5, 2) := by decide +kernel
theorem d_MO_mark_175 : decode b_MO_mark 175 = .ok (.iaload, 1) := by decide +kernel
theorem d_MO_mark_176 : decode b_MO_mark 176 = .ok (.iconst (-1), 1) := by decide +kernel
theorem d_MO_mark_177 : decode b_MO_mark 177 = .ok (.if_icmp .eq 41, 3) := by decide +kernel
theorem d_MO_mark_180 : decode b_MO_mark 180 = .ok (.aload_n 0, 1) := by decide +kernel
theorem d_MO_mark_181 : decode b_MO_mark 181 = .ok (.getfield 48, 3) := by decide +kernel
theorem d_MO_mark_184 : decode b_MO_mark 184 = .ok (.iload 5, 2) := by decide +kernel
theorem d_MO_mark_186 : decode b_MO_mark 186 = .ok (.laload, 1) := by decide +kernel
theorem d_MO_mark_187 : decode b_MO_mark 187 = .ok (.aload_n 0, 1) := by decide +kernel
theorem d_MO_mark_188 : decode b_MO_mark 188 = .ok (.getfield 121, 3) := by decide +kernel
theorem d_MO_mark_191 : decode b_MO_mark 191 = .ok (.ladd, 1) := by decide +kernel
theorem d_MO_mark_192 : decode b_MO_mark 192 = .ok (.aload_n 0, 1) := by decide +kernel
theorem d_MO_mark_193 : decode b_MO_mark 193 = .ok (.getfield 23, 3) := by decide +kernel
theorem d_MO_mark_196 : decode b_MO_mark 196 = .ok (.lcmp, 1) := by decide +kernel
theorem d_MO_mark_197 : decode b_MO_mark 197 = .ok (.ifCond .gt 21, 3) := by decide +kernel
theorem d_MO_mark_200 : decode b_MO_mark 200 = .ok (.aload_n 0, 1) := by decide +kernel
theorem d_MO_mark_201 : decode b_MO_mark 201 = .ok (.getfield 42, 3) := by decide +kernel
theorem d_MO_mark_204 : decode b_MO_mark 204 = .ok (.iload 5, 2) := by decide +kernel
theorem d_MO_mark_206 : decode b_MO_mark 206 = .ok (.iconst (-1), 1) := by decide +kernel
theorem d_MO_mark_207 : decode b_MO_mark 207 = .ok (.iastore, 1) := by decide +kernel
theorem d_MO_mark_208 : decode b_MO_mark 208 = .ok (.aload_n 0, 1) := by decide +kernel
theorem d_MO_mark_209 : decode b_MO_mark 209 = .ok (.dup, 1) := by decide +kernel
theorem d_MO_mark_210 : decode b_MO_mark 210 = .ok (.getfield 200, 3) := by decide +kernel
theorem d_MO_mark_213 : decode b_MO_mark 213 = .ok (.iconst 1, 1) := by decide +kernel
theorem d_MO_mark_214 : decode b_MO_mark 214 = .ok (.isub, 1) := by decide +kernel
theorem d_MO_mark_215 : decode b_MO_mark 215 = .ok (.putfield 200, 3) := by decide +kernel
theorem d_MO_mark_218 : decode b_MO_mark 218 = .ok (.iinc 5 1, 3) := by decide +kernel
theorem d_MO_mark_221 : decode b_MO_mark 221 = .ok (.goto (-60), 3) := by decide +kernel
theorem d_MO_mark_224 : decode b_MO_mark 224 = .ok (.iconst 0, 1) := by decide +kernel
theorem d_MO_mark_225 : decode b_MO_mark 225 = .ok (.istore 5, 2) := by decide +kernel
theorem d_MO_mark_227 : decode b_MO_mark 227 = .ok (.iload 5, 2) := by decide +kernel
theorem d_MO_mark_229 : decode b_MO_mark 229 = .ok (.sipush 300, 3) := by decide +kernel
theorem d_MO_mark_232 : decode b_MO_mark 232 = .ok (.if_icmp .ge 103, 3) := by decide +kernel
theorem d_MO_mark_235 : decode b_MO_mark 235 = .ok (.iconst 0, 1) := by decide +kernel
theorem d_MO_mark_236 : decode b_MO_mark 236 = .ok (.istore 6, 2) := by decide +kernel
theorem d_MO_mark_238 : decode b_MO_mark 238 = .ok (.iconst 0, 1) := by decide +kernel
theorem d_MO_mark_239 : decode b_MO_mark 239 = .ok (.istore 7, 2) := by decide +kernel
theorem d_MO_mark_241 : decode b_MO_mark 241 = .ok (.iload 7, 2) := by decide +kernel
theorem d_MO_mark_243 : decode b_MO_mark 243 = .ok (.sipush 200, 3) := by decide +kernel
theorem d_MO_mark_246 : decode b_MO_mark 246 = .ok (.if_icmp .ge 49, 3) := by decide +kernel
theorem d_MO_mark_249 : decode b_MO_mark 249 = .ok (.iload 6, 2) := by decide +kernel
theorem d_MO_mark_251 : decode b_MO_mark 251 = .ok (.ifCond .ne 31, 3) := by decide +kernel
theorem d_MO_mark_254 : decode b_MO_mark 254 = .ok (.aload_n 0, 1) := by decide +kernel
theorem d_MO_mark_255 : decode b_MO_mark 255 = .ok (.getfield 42, 3) := by decide +kernel
theorem d_MO_mark_258 : decode b_MO_mark 258 = .ok (.iload 7, 2) := by decide +kernel
theorem d_MO_mark_260 : decode b_MO_mark 260 = .ok (.iaload, 1) := by decide +kernel
theorem d_MO_mark_261 : decode b_MO_mark 261 = .ok (.iconst (-1), 1) := by decide +kernel
theorem d_MO_mark_262 : decode b_MO_mark 262 = .ok (.if_icmp .eq 24, 3) := by decide +kernel
theorem d_MO_mark_265 : decode b_MO_mark 265 = .ok (.aload_n 0, 1) := by decide +kernel
theorem d_MO_mark_266 : decode b_MO_mark 266 = .ok (.getfield 62, 3) := by decide +kernel
theorem d_MO_mark_269 : decode b_MO_mark 269 = .ok (.sipush 300, 3) := by decide +kernel
theorem d_MO_mark_272 : decode b_MO_mark 272 = .ok (.iload 7, 2) := by decide +kernel
theorem d_MO_mark_274 : decode b_MO_mark 274 = .ok (.imul, 1) := by decide +kernel
theorem d_MO_mark_275 : decode b_MO_mark 275 = .ok (.iload 5, 2) := by decide +kernel
theorem d_MO_mark_277 : decode b_MO_mark 277 = .ok (.iadd, 1) := by decide +kernel
theorem d_MO_mark_278 : decode b_MO_mark 278 = .ok (.baload, 1) := by decide +kernel
theorem d_MO_mark_279 : decode b_MO_mark 279 = .ok (.ifCond .eq 7, 3) := by decide +kernel
theorem d_MO_mark_282 : decode b_MO_mark 282 = .ok (.iconst 1, 1) := by decide +kernel
theorem d_MO_mark_283 : decode b_MO_mark 283 = .ok (.goto 4, 3) := by decide +kernel
theorem d_MO_mark_286 : decode b_MO_mark 286 = .ok (.iconst 0, 1) := by decide +kernel
theorem d_MO_mark_287 : decode b_MO_mark 287 = .ok (.istore 6, 2) := by decide +kernel
theorem d_MO_mark_289 : decode b_MO_mark 289 = .ok (.iinc 7 1, 3) := by decide +kernel
theorem d_MO_mark_292 : decode b_MO_mark 292 = .ok (.goto (-51), 3) := by decide +kernel
theorem d_MO_mark_295 : decode b_MO_mark 295 = .ok (.aload_n 0, 1) := by decide +kernel
theorem d_MO_mark_296 : decode b_MO_mark 296 = .ok (.getfield 27, 3) := by decide +kernel
theorem d_MO_mark_299 : decode b_MO_mark 299 = .ok (.iload 5, 2) := by decide +kernel
theorem d_MO_mark_301 : decode b_MO_mark 301 = .ok (.iaload, 1) := by decide +kernel
theorem d_MO_mark_302 : decode b_MO_mark 302 = .ok (.iconst (-1), 1) := by decide +kernel
theorem d_MO_mark_303 : decode b_MO_mark 303 = .ok (.if_icmp .eq 26, 3) := by decide +kernel
theorem d_MO_mark_306 : decode b_MO_mark 306 = .ok (.iload 6, 2) := by decide +kernel
theorem d_MO_mark_308 : decode b_MO_mark 308 = .ok (.ifCond .ne 21, 3) := by decide +kernel
theorem d_MO_mark_311 : decode b_MO_mark 311 = .ok (.aload_n 0, 1) := by decide +kernel
theorem d_MO_mark_312 : decode b_MO_mark 312 = .ok (.getfield 27, 3) := by decide +kernel
theorem d_MO_mark_315 : decode b_MO_mark 315 = .ok (.iload 5, 2) := by decide +kernel
theorem d_MO_mark_317 : decode b_MO_mark 317 = .ok (.iconst (-1), 1) := by decide +kernel
theorem d_MO_mark_318 : decode b_MO_mark 318 = .ok (.iastore, 1) := by decide +kernel
theorem d_MO_mark_319 : decode b_MO_mark 319 = .ok (.aload_n 0, 1) := by decide +kernel
theorem d_MO_mark_320 : decode b_MO_mark 320 = .ok (.dup, 1) := by decide +kernel
theorem d_MO_mark_321 : decode b_MO_mark 321 = .ok (.getfield 203, 3) := by decide +kernel
theorem d_MO_mark_324 : decode b_MO_mark 324 = .ok (.iconst 1, 1) := by decide +kernel
theorem d_MO_mark_325 : decode b_MO_mark 325 = .ok (.isub, 1) := by decide +kernel
theorem d_MO_mark_326 : decode b_MO_mark 326 = .ok (.putfield 203, 3) := by decide +kernel
theorem d_MO_mark_329 : decode b_MO_mark 329 = .ok (.iinc 5 1, 3) := by decide +kernel
theorem d_MO_mark_332 : decode b_MO_mark 332 = .ok (.goto (-105), 3) := by decide +kernel
theorem d_MO_mark_335 : decode b_MO_mark 335 = .ok (.iload_n 3, 1) := by decide +kernel
theorem d_MO_mark_336 : decode b_MO_mark 336 = .ok (.ireturn, 1) := by decide +kernel
theorem d_MO_count_0 : decode b_MO_count 0 = .ok (.aload_n 0, 1) := by decide +kernel
theorem d_MO_count_1 : decode b_MO_count 1 = .ok (.iconst 0, 1) := by decide +kernel
theorem d_MO_count_2 : decode b_MO_count 2 = .ok (.putfield 104, 3) := by decide +kernel
theorem d_MO_count_5 : decode b_MO_count 5 = .ok (.iload_n 1, 1) := by decide +kernel
theorem d_MO_count_6 : decode b_MO_count 6 = .ok (.tableswitch 86 0 7 #[46, 51, 56, 61, 66, 71, 76, 81], 46) := by decide +kernel
theorem d_MO_count_52 : decode b_MO_count 52 = .ok (.aload_n 0, 1) := by decide +kernel
theorem d_MO_count_53 : decode b_MO_count 53 = .ok (.getfield 203, 3) := by decide +kernel
theorem d_MO_count_56 : decode b_MO_count 56 = .ok (.ireturn, 1) := by decide +kernel
theorem d_MO_count_57 : decode b_MO_count 57 = .ok (.aload_n 0, 1) := by decide +kernel
theorem d_MO_count_58 : decode b_MO_count 58 = .ok (.getfield 200, 3) := by decide +kernel
theorem d_MO_count_61 : decode b_MO_count 61 = .ok (.ireturn, 1) := by decide +kernel
theorem d_MO_count_62 : decode b_MO_count 62 = .ok (.aload_n 0, 1) := by decide +kernel
theorem d_MO_count_63 : decode b_MO_count 63 = .ok (.getfield 215, 3) := by decide +kernel
theorem d_MO_count_66 : decode b_MO_count 66 = .ok (.ireturn, 1) := by decide +kernel
theorem d_MO_count_67 : decode b_MO_count 67 = .ok (.aload_n 0, 1) := by decide +kernel
theorem d_MO_count_68 : decode b_MO_count 68 = .ok (.getfield 254, 3) := by decide +kernel
theorem d_MO_count_71 : decode b_MO_count 71 = .ok (.ireturn, 1) := by decide +kernel
theorem d_MO_count_72 : decode b_MO_count 72 = .ok (.aload_n 0, 1) := by decide +kernel
theorem d_MO_count_73 : decode b_MO_count 73 = .ok (.getfield 115, 3) := by decide +kernel
theorem d_MO_count_76 : decode b_MO_count 76 = .ok (.ireturn, 1) := by decide +kernel
theorem d_MO_count_77 : decode b_MO_count 77 = .ok (.aload_n 0, 1) := by decide +kernel
theorem d_MO_count_78 : decode b_MO_count 78 = .ok (.getfield 212, 3) := by decide +kernel
theorem d_MO_count_81 : decode b_MO_count 81 = .ok (.ireturn, 1) := by decide +kernel
theorem d_MO_count_82 : decode b_MO_count 82 = .ok (.aload_n 0, 1) := by decide +kernel
theorem d_MO_count_83 : decode b_MO_count 83 = .ok (.getfield 218, 3) := by decide +kernel
theorem d_MO_count_86 : decode b_MO_count 86 = .ok (.ireturn, 1) := by decide +kernel
theorem d_MO_count_87 : decode b_MO_count 87 = .ok (.aload_n 0, 1) := by decide +kernel
theorem d_MO_count_88 : decode b_MO_count 88 = .ok (.getfield 221, 3) := by decide +kernel
theorem d_MO_count_91 : decode b_MO_count 91 = .ok (.ireturn, 1) := by decide +kernel
theorem d_MO_count_92 : decode b_MO_count 92 = .ok (.bipush (-2), 2) := by decide +kernel
theorem d_MO_count_94 : decode b_MO_count 94 = .ok (.ireturn, 1) := by decide +kernel
theorem d_MO_fired_0 : decode b_MO_fired 0 = .ok (.aload_n 0, 1) := by decide +kernel
theorem d_MO_fired_1 : decode b_MO_fired 1 = .ok (.iconst 0, 1) := by decide +kernel
theorem d_MO_fired_2 : decode b_MO_fired 2 = .ok (.putfield 104, 3) := by decide +kernel
theorem d_MO_fired_5 : decode b_MO_fired 5 = .ok (.iload_n 1, 1) := by decide +kernel
theorem d_MO_fired_6 : decode b_MO_fired 6 = .ok (.ifCond .lt 11, 3) := by decide +kernel
theorem d_MO_fired_9 : decode b_MO_fired 9 = .ok (.iload_n 1, 1) := by decide +kernel
theorem d_MO_fired_10 : decode b_MO_fired 10 = .ok (.aload_n 0, 1) := by decide +kernel
theorem d_MO_fired_11 : decode b_MO_fired 11 = .ok (.getfield 212, 3) := by decide +kernel
theorem d_MO_fired_14 : decode b_MO_fired 14 = .ok (.if_icmp .lt 7, 3) := by decide +kernel
theorem d_MO_fired_17 : decode b_MO_fired 17 = .ok (.ldc2_w 287, 3) := by decide +kernel
theorem d_MO_fired_20 : decode b_MO_fired 20 = .ok (.lreturn, 1) := by decide +kernel
theorem d_MO_fired_21 : decode b_MO_fired 21 = .ok (.iload_n 2, 1) := by decide +kernel
theorem d_MO_fired_22 : decode b_MO_fired 22 = .ok (.ifCond .lt 9, 3) := by decide +kernel
theorem d_MO_fired_25 : decode b_MO_fired 25 = .ok (.iload_n 2, 1) := by decide +kernel
theorem d_MO_fired_26 : decode b_MO_fired 26 = .ok (.bipush 9, 2) := by decide +kernel
theorem d_MO_fired_28 : decode b_MO_fired 28 = .ok (.if_icmp .le 9, 3) := by decide +kernel
theorem d_MO_fired_31 : decode b_MO_fired 31 = .ok (.ldc2_w 289, 3) := by decide +kernel
theorem d_MO_fired_34 : decode b_MO_fired 34 = .ok (.goto 14, 3) := by decide +kernel
theorem d_MO_fired_37 : decode b_MO_fired 37 = .ok (.aload_n 0, 1) := by decide +kernel
theorem d_MO_fired_38 : decode b_MO_fired 38 = .ok (.getfield 74, 3) := by decide +kernel
theorem d_MO_fired_41 : decode b_MO_fired 41 = .ok (.bipush 10, 2) := by decide +kernel
theorem d_MO_fired_43 : decode b_MO_fired 43 = .ok (.iload_n 1, 1) := by decide +kernel
theorem d_MO_fired_44 : decode b_MO_fired 44 = .ok (.imul, 1) := by decide +kernel
theorem d_MO_fired_45 : decode b_MO_fired 45 = .ok (.iload_n 2, 1) := by decide +kernel
theorem d_MO_fired_46 : decode b_MO_fired 46 = .ok (.iadd, 1) := by decide +kernel
theorem d_MO_fired_47 : decode b_MO_fired 47 = .ok (.laload, 1) := by decide +kernel
theorem d_MO_fired_48 : decode b_MO_fired 48 = .ok (.lreturn, 1) := by decide +kernel
theorem d_MO_spans_0 : decode b_MO_spans 0 = .ok (.aload_n 0, 1) := by decide +kernel
theorem d_MO_spans_1 : decode b_MO_spans 1 = .ok (.iconst 0, 1) := by decide +kernel
theorem d_MO_spans_2 : decode b_MO_spans 2 = .ok (.putfield 104, 3) := by decide +kernel
theorem d_MO_spans_5 : decode b_MO_spans 5 = .ok (.iload_n 1, 1) := by decide +kernel
theorem d_MO_spans_6 : decode b_MO_spans 6 = .ok (.i2l, 1) := by decide +kernel
theorem d_MO_spans_7 : decode b_MO_spans 7 = .ok (.lconst 0, 1) := by decide +kernel
theorem d_MO_spans_8 : decode b_MO_spans 8 = .ok (.ldc2_w 235, 3) := by decide +kernel
theorem d_MO_spans_11 : decode b_MO_spans 11 = .ok (.invokestatic 111, 3) := by decide +kernel
theorem d_MO_spans_14 : decode b_MO_spans 14 = .ok (.ifCond .ne 5, 3) := by decide +kernel
theorem d_MO_spans_17 : decode b_MO_spans 17 = .ok (.iconst (-1), 1) := by decide +kernel
theorem d_MO_spans_18 : decode b_MO_spans 18 = .ok (.ireturn, 1) := by decide +kernel
theorem d_MO_spans_19 : decode b_MO_spans 19 = .ok (.aload_n 0, 1) := by decide +kernel
theorem d_MO_spans_20 : decode b_MO_spans 20 = .ok (.getfield 93, 3) := by decide +kernel
theorem d_MO_spans_23 : decode b_MO_spans 23 = .ok (.iconst 3, 1) := by decide +kernel
theorem d_MO_spans_24 : decode b_MO_spans 24 = .ok (.if_icmp .ne 10, 3) := by decide +kernel
theorem d_MO_spans_27 : decode b_MO_spans 27 = .ok (.aload_n 0, 1) := by decide +kernel
theorem d_MO_spans_28 : decode b_MO_spans 28 = .ok (.getfield 68, 3) := by decide +kernel
theorem d_MO_spans_31 : decode b_MO_spans 31 = .ok (.iload_n 1, 1) := by decide +kernel
theorem d_MO_spans_32 : decode b_MO_spans 32 = .ok (.iaload, 1) := by decide +kernel
theorem d_MO_spans_33 : decode b_MO_spans 33 = .ok (.ireturn, 1) := by decide +kernel
theorem d_MO_spans_34 : decode b_MO_spans 34 = .ok (.iconst 0, 1) := by decide +kernel
theorem d_MO_spans_35 : decode b_MO_spans 35 = .ok (.istore_n 2, 1) := by decide +kernel
theorem d_MO_spans_36 : decode b_MO_spans 36 = .ok (.iconst 0, 1) := by decide +kernel
theorem d_MO_spans_37 : decode b_MO_spans 37 = .ok (.istore_n 3, 1) := by decide +kernel
theorem d_MO_spans_38 : decode b_MO_spans 38 = .ok (.iload_n 3, 1) := by decide +kernel
theorem d_MO_spans_39 : decode b_MO_spans 39 = .ok (.sipush 200, 3) := by decide +kernel
theorem d_MO_spans_42 : decode b_MO_spans 42 = .ok (.if_icmp .ge 27, 3) := by decide +kernel
theorem d_MO_spans_45 : decode b_MO_spans 45 = .ok (.iload_n 2, 1) := by decide +kernel
theorem d_MO_spans_46 : decode b_MO_spans 46 = .ok (.aload_n 0, 1) := by decide +kernel
theorem d_MO_spans_47 : decode b_MO_spans 47 = .ok (.getfield 42, 3) := by decide +kernel
theorem d_MO_spans_50 : decode b_MO_spans 50 = .ok (.iload_n 3, 1) := by decide +kernel
theorem d_MO_spans_51 : decode b_MO_spans 51 = .ok (.iaload, 1) := by decide +kernel
theorem d_MO_spans_52 : decode b_MO_spans 52 = .ok (.iload_n 1, 1) := by decide +kernel
theorem d_MO_spans_53 : decode b_MO_spans 53 = .ok (.if_icmp .ne 7, 3) := by decide +kernel
theorem d_MO_spans_56 : decode b_MO_spans 56 = .ok (.iconst 1, 1) := by decide +kernel
theorem d_MO_spans_57 : decode b_MO_spans 57 = .ok (.goto 4, 3) := by decide +kernel
theorem d_MO_spans_60 : decode b_MO_spans 60 = .ok (.iconst 0, 1) := by decide +kernel
theorem d_MO_spans_61 : decode b_MO_spans 61 = .ok (.iadd, 1) := by decide +kernel
theorem d_MO_spans_62 : decode b_MO_spans 62 = .ok (.istore_n 2, 1) := by decide +kernel
theorem d_MO_spans_63 : decode b_MO_spans 63 = .ok (.iinc 3 1, 3) := by decide +kernel
theorem d_MO_spans_66 : decode b_MO_spans 66 = .ok (.goto (-28), 3) := by decide +kernel
theorem d_MO_spans_69 : decode b_MO_spans 69 = .ok (.iload_n 2, 1) := by decide +kernel
theorem d_MO_spans_70 : decode b_MO_spans 70 = .ok (.ireturn, 1) := by decide +kernel
theorem d_MO_span_0 : decode b_MO_span 0 = .ok (.aload_n 0, 1) := by decide +kernel
theorem d_MO_span_1 : decode b_MO_span 1 = .ok (.iconst 0, 1) := by decide +kernel
theorem d_MO_span_2 : decode b_MO_span 2 = .ok (.putfield 104, 3) := by decide +kernel
theorem d_MO_span_5 : decode b_MO_span 5 = .ok (.iconst (-1), 1) := by decide +kernel
theorem d_MO_span_6 : decode b_MO_span 6 = .ok (.istore 4, 2) := by decide +kernel
theorem d_MO_span_8 : decode b_MO_span 8 = .ok (.iconst 0, 1) := by decide +kernel
theorem d_MO_span_9 : decode b_MO_span 9 = .ok (.istore 5, 2) := by decide +kernel
theorem d_MO_span_11 : decode b_MO_span 11 = .ok (.iload 5, 2) := by decide +kernel
theorem d_MO_span_13 : decode b_MO_span 13 = .ok (.sipush 200, 3) := by decide +kernel
theorem d_MO_span_16 : decode b_MO_span 16 = .ok (.if_icmp .ge 142, 3) := by decide +kernel
theorem d_MO_span_19 : decode b_MO_span 19 = .ok (.iload_n 1, 1) := by decide +kernel
theorem d_MO_span_20 : decode b_MO_span 20 = .ok (.i2l, 1) := by decide +kernel
theorem d_MO_span_21 : decode b_MO_span 21 = .ok (.lconst 0, 1) := by decide +kernel
theorem d_MO_span_22 : decode b_MO_span 22 = .ok (.ldc2_w 235, 3) := by decide +kernel
theorem d_MO_span_25 : decode b_MO_span 25 = .ok (.invokestatic 111, 3) := by decide +kernel
theorem d_MO_span_28 : decode b_MO_span 28 = .ok (.ifCond .eq 130, 3) := by decide +kernel
theorem d_MO_span_31 : decode b_MO_span 31 = .ok (.aload_n 0, 1) := by decide +kernel
theorem d_MO_span_32 : decode b_MO_span 32 = .ok (.getfield 42, 3) := by decide +kernel
theorem d_MO_span_35 : decode b_MO_span 35 = .ok (.iload 5, 2) := by decide +kernel
theorem d_MO_span_37 : decode b_MO_span 37 = .ok (.iaload, 1) := by decide +kernel
theorem d_MO_span_38 : decode b_MO_span 38 = .ok (.iload_n 1, 1) := by decide +kernel
theorem d_MO_span_39 : decode b_MO_span 39 = .ok (.if_icmp .ne 113, 3) := by decide +kernel
theorem d_MO_span_42 : decode b_MO_span 42 = .ok (.iconst 0, 1) := by decide +kernel
theorem d_MO_span_43 : decode b_MO_span 43 = .ok (.istore 6, 2) := by decide +kernel
theorem d_MO_span_45 : decode b_MO_span 45 = .ok (.iconst 0, 1) := by decide +kernel
theorem d_MO_span_46 : decode b_MO_span 46 = .ok (.istore 7, 2) := by decide +kernel
theorem d_MO_span_48 : decode b_MO_span 48 = .ok (.iload 7, 2) := by decide +kernel
theorem d_MO_span_50 : decode b_MO_span 50 = .ok (.sipush 200, 3) := by decide +kernel
theorem d_MO_span_53 : decode b_MO_span 53 = .ok (.if_icmp .ge 84, 3) := by decide +kernel
theorem d_MO_span_56 : decode b_MO_span 56 = .ok (.iload 6, 2) := by decide +kernel
theorem d_MO_span_58 : decode b_MO_span 58 = .ok (.aload_n 0, 1) := by decide +kernel
theorem d_MO_span_59 : decode b_MO_span 59 = .ok (.getfield 42, 3) := by decide +kernel
theorem d_MO_span_62 : decode b_MO_span 62 = .ok (.iload 7, 2) := by decide +kernel
theorem d_MO_span_64 : decode b_MO_span 64 = .ok (.iaload, 1) := by decide +kernel
theorem d_MO_span_65 : decode b_MO_span 65 = .ok (.iload_n 1, 1) := by decide +kernel
theorem d_MO_span_66 : decode b_MO_span 66 = .ok (.if_icmp .ne 61, 3) := by decide +kernel
theorem d_MO_span_69 : decode b_MO_span 69 = .ok (.aload_n 0, 1) := by decide +kernel
theorem d_MO_span_70 : decode b_MO_span 70 = .ok (.getfield 45, 3) := by decide +kernel
theorem d_MO_span_73 : decode b_MO_span 73 = .ok (.iload 7, 2) := by decide +kernel
theorem d_MO_span_75 : decode b_MO_span 75 = .ok (.laload, 1) := by decide +kernel
theorem d_MO_span_76 : decode b_MO_span 76 = .ok (.aload_n 0, 1) := by decide +kernel
theorem d_MO_span_77 : decode b_MO_span 77 = .ok (.getfield 45, 3) := by decide +kernel
theorem d_MO_span_80 : decode b_MO_span 80 = .ok (.iload 5, 2) := by decide +kernel
theorem d_MO_span_82 : decode b_MO_span 82 = .ok (.laload, 1) := by decide +kernel
theorem d_MO_span_83 : decode b_MO_span 83 = .ok (.lcmp, 1) := by decide +kernel
theorem d_MO_span_84 : decode b_MO_span 84 = .ok (.ifCond .lt 39, 3) := by decide +kernel
theorem d_MO_span_87 : decode b_MO_span 87 = .ok (.aload_n 0, 1) := by decide +kernel
theorem d_MO_span_88 : decode b_MO_span 88 = .ok (.getfield 45, 3) := by decide +kernel
theorem d_MO_span_91 : decode b_MO_span 91 = .ok (.iload 7, 2) := by decide +kernel
theorem d_MO_span_93 : decode b_MO_span 93 = .ok (.laload, 1) := by decide +kernel
theorem d_MO_span_94 : decode b_MO_span 94 = .ok (.aload_n 0, 1) := by decide +kernel
theorem d_MO_span_95 : decode b_MO_span 95 = .ok (.getfield 45, 3) := by decide +kernel
theorem d_MO_span_98 : decode b_MO_span 98 = .ok (.iload 5, 2) := by decide +kernel
theorem d_MO_span_100 : decode b_MO_span 100 = .ok (.laload, 1) := by decide +kernel
theorem d_MO_span_101 : decode b_MO_span 101 = .ok (.lcmp, 1) := by decide +kernel
theorem d_MO_span_102 : decode b_MO_span 102 = .ok (.ifCond .ne 25, 3) := by decide +kernel
theorem d_MO_span_105 : decode b_MO_span 105 = .ok (.aload_n 0, 1) := by decide +kernel
theorem d_MO_span_106 : decode b_MO_span 106 = .ok (.getfield 48, 3) := by decide +kernel
theorem d_MO_span_109 : decode b_MO_span 109 = .ok (.iload 7, 2) := by decide +kernel
theorem d_MO_span_111 : decode b_MO_span 111 = .ok (.laload, 1) := by decide +kernel
theorem d_MO_span_112 : decode b_MO_span 112 = .ok (.aload_n 0, 1) := by decide +kernel
theorem d_MO_span_113 : decode b_MO_span 113 = .ok (.getfield 48, 3) := by decide +kernel
theorem d_MO_span_116 : decode b_MO_span 116 = .ok (.iload 5, 2) := by decide +kernel
theorem d_MO_span_118 : decode b_MO_span 118 = .ok (.laload, 1) := by decide +kernel
theorem d_MO_span_119 : decode b_MO_span 119 = .ok (.lcmp, 1) := by decide +kernel
theorem d_MO_span_120 : decode b_MO_span 120 = .ok (.ifCond .ge 7, 3) := by decide +kernel
theorem d_MO_span_123 : decode b_MO_span 123 = .ok (.iconst 1, 1) := by decide +kernel
theorem d_MO_span_124 : decode b_MO_span 124 = .ok (.goto 4, 3) := by decide +kernel
theorem d_MO_span_127 : decode b_MO_span 127 = .ok (.iconst 0, 1) := by decide +kernel
theorem d_MO_span_128 : decode b_MO_span 128 = .ok (.iadd, 1) := by decide +kernel
theorem d_MO_span_129 : decode b_MO_span 129 = .ok (.istore 6, 2) := by decide +kernel
theorem d_MO_span_131 : decode b_MO_span 131 = .ok (.iinc 7 1, 3) := by decide +kernel
theorem d_MO_span_134 : decode b_MO_span 134 = .ok (.goto (-86), 3) := by decide +kernel
theorem d_MO_span_137 : decode b_MO_span 137 = .ok (.iload 6, 2) := by decide +kernel
theorem d_MO_span_139 : decode b_MO_span 139 = .ok (.iload_n 2, 1) := by decide +kernel
theorem d_MO_span_140 : decode b_MO_span 140 = .ok (.if_icmp .ne 8, 3) := by decide +kernel
theorem d_MO_span_143 : decode b_MO_span 143 = .ok (.iload 5, 2) := by decide +kernel
theorem d_MO_span_145 : decode b_MO_span 145 = .ok (.goto 5, 3) := by decide +kernel
theorem d_MO_span_148 : decode b_MO_span 148 = .ok (.iload 4, 2) := by decide +kernel
theorem d_MO_span_150 : decode b_MO_span 150 = .ok (.istore 4, 2) := by decide +kernel
theorem d_MO_span_152 : decode b_MO_span 152 = .ok (.iinc 5 1, 3) := by decide +kernel
theorem d_MO_span_155 : decode b_MO_span 155 = .ok (.goto (-144), 3) := by decide +kernel
theorem d_MO_span_158 : decode b_MO_span 158 = .ok (.iload 4, 2) := by decide +kernel
theorem d_MO_span_160 : decode b_MO_span 160 = .ok (.iconst (-1), 1) := by decide +kernel
theorem d_MO_span_161 : decode b_MO_span 161 = .ok (.if_icmp .ne 7, 3) := by decide +kernel
theorem d_MO_span_164 : decode b_MO_span 164 = .ok (.ldc2_w 287, 3) := by decide +kernel
theorem d_MO_span_167 : decode b_MO_span 167 = .ok (.lreturn, 1) := by decide +kernel
theorem d_MO_span_168 : decode b_MO_span 168 = .ok (.iload_n 3, 1) := by decide +kernel
theorem d_MO_span_169 : decode b_MO_span 169 = .ok (.iconst 1, 1) := by decide +kernel
theorem d_MO_span_170 : decode b_MO_span 170 = .ok (.if_icmp .lt 14, 3) := by decide +kernel
theorem d_MO_span_173 : decode b_MO_span 173 = .ok (.iload_n 3, 1) := by decide +kernel
theorem d_MO_span_174 : decode b_MO_span 174 = .ok (.bipush 10, 2) := by decide +kernel
theorem d_MO_span_176 : decode b_MO_span 176 = .ok (.if_icmp .gt 8, 3) := by decide +kernel
theorem d_MO_span_179 : decode b_MO_span 179 = .ok (.iload_n 3, 1) := by decide +kernel
theorem d_MO_span_180 : decode b_MO_span 180 = .ok (.iconst 3, 1) := by decide +kernel
theorem d_MO_span_181 : decode b_MO_span 181 = .ok (.if_icmp .ne 7, 3) := by decide +kernel
theorem d_MO_span_184 : decode b_MO_span 184 = .ok (.ldc2_w 289, 3) := by decide +kernel
theorem d_MO_span_187 : decode b_MO_span 187 = .ok (.lreturn, 1) := by decide +kernel
theorem d_MO_span_188 : decode b_MO_span 188 = .ok (.iload_n 3, 1) := by decide +kernel
theorem d_MO_span_189 : decode b_MO_span 189 = .ok (.iconst 3, 1) := by decide +kernel
theorem d_MO_span_190 : decode b_MO_span 190 = .ok (.if_icmp .ge 26, 3) := by decide +kernel
theorem d_MO_span_193 : decode b_MO_span 193 = .ok (.iload_n 3, 1) := by decide +kernel
theorem d_MO_span_194 : decode b_MO_span 194 = .ok (.iconst 1, 1) := by decide +kernel
theorem d_MO_span_195 : decode b_MO_span 195 = .ok (.if_icmp .ne 13, 3) := by decide +kernel
theorem d_MO_span_198 : decode b_MO_span 198 = .ok (.aload_n 0, 1) := by decide +kernel
theorem d_MO_span_199 : decode b_MO_span 199 = .ok (.getfield 45, 3) := by decide +kernel
theorem d_MO_span_202 : decode b_MO_span 202 = .ok (.iload 4, 2) := by decide +kernel
theorem d_MO_span_204 : decode b_MO_span 204 = .ok (.laload, 1) := by decide +kernel
theorem d_MO_span_205 : decode b_MO_span 205 = .ok (.goto 10, 3) := by decide +kernel
theorem d_MO_span_208 : decode b_MO_span 208 = .ok (.aload_n 0, 1) := by decide +kernel
theorem d_MO_span_209 : decode b_MO_span 209 = .ok (.getfield 48, 3) := by decide +kernel
theorem d_MO_span_212 : decode b_MO_span 212 = .ok (.iload 4, 2) := by decide +kernel
theorem d_MO_span_214 : decode b_MO_span 214 = .ok (.laload, 1) := by decide +kernel
theorem d_MO_span_215 : decode b_MO_span 215 = .ok (.lreturn, 1) := by decide +kernel
theorem d_MO_span_216 : decode b_MO_span 216 = .ok (.iload_n 3, 1) := by decide +kernel
theorem d_MO_span_217 : decode b_MO_span 217 = .ok (.bipush 8, 2) := by decide +kernel
theorem d_MO_span_219 : decode b_MO_span 219 = .ok (.if_icmp .le 29, 3) := by decide +kernel
theorem d_MO_span_222 : decode b_MO_span 222 = .ok (.iload_n 3, 1) := by decide +kernel
theorem d_MO_span_223 : decode b_MO_span 223 = .ok (.bipush 9, 2) := by decide +kernel
theorem d_MO_span_225 : decode b_MO_span 225 = .ok (.if_icmp .ne 14, 3) := by decide +kernel
theorem d_MO_span_228 : decode b_MO_span 228 = .ok (.aload_n 0, 1) := by decide +kernel
theorem d_MO_span_229 : decode b_MO_span 229 = .ok (.getfield 51, 3) := by decide +kernel
theorem d_MO_span_232 : decode b_MO_span 232 = .ok (.iload 4, 2) := by decide +kernel
theorem d_MO_span_234 : decode b_MO_span 234 = .ok (.iaload, 1) := by decide +kernel
theorem d_MO_span_235 : decode b_MO_span 235 = .ok (.i2l, 1) := by decide +kernel
theorem d_MO_span_236 : decode b_MO_span 236 = .ok (.goto 11, 3) := by decide +kernel
theorem d_MO_span_239 : decode b_MO_span 239 = .ok (.aload_n 0, 1) := by decide +kernel
theorem d_MO_span_240 : decode b_MO_span 240 = .ok (.getfield 54, 3) := by decide +kernel
theorem d_MO_span_243 : decode b_MO_span 243 = .ok (.iload 4, 2) := by decide +kernel
theorem d_MO_span_245 : decode b_MO_span 245 = .ok (.iaload, 1) := by decide +kernel
theorem d_MO_span_246 : decode b_MO_span 246 = .ok (.i2l, 1) := by decide +kernel
theorem d_MO_span_247 : decode b_MO_span 247 = .ok (.lreturn, 1) := by decide +kernel
theorem d_MO_span_248 : decode b_MO_span 248 = .ok (.iconst 0, 1) := by decide +kernel
theorem d_MO_span_249 : decode b_MO_span 249 = .ok (.istore 5, 2) := by decide +kernel
theorem d_MO_span_251 : decode b_MO_span 251 = .ok (.iload 5, 2) := by decide +kernel
theorem d_MO_span_253 : decode b_MO_span 253 = .ok (.sipush 300, 3) := by decide +kernel
theorem d_MO_span_256 : decode b_MO_span 256 = .ok (.if_icmp .ge 30, 3) := by decide +kernel
theorem d_MO_span_259 : decode b_MO_span 259 = .ok (.aload_n 0, 1) := by decide +kernel
theorem d_MO_span_260 : decode b_MO_span 260 = .ok (.getfield 86, 3) := by decide +kernel
theorem d_MO_span_263 : decode b_MO_span 263 = .ok (.iload 5, 2) := by decide +kernel
theorem d_MO_span_265 : decode b_MO_span 265 = .ok (.aload_n 0, 1) := by decide +kernel
theorem d_MO_span_266 : decode b_MO_span 266 = .ok (.getfield 62, 3) := by decide +kernel
theorem d_MO_span_269 : decode b_MO_span 269 = .ok (.sipush 300, 3) := by decide +kernel
theorem d_MO_span_272 : decode b_MO_span 272 = .ok (.iload 4, 2) := by decide +kernel
theorem d_MO_span_274 : decode b_MO_span 274 = .ok (.imul, 1) := by decide +kernel
theorem d_MO_span_275 : decode b_MO_span 275 = .ok (.iload 5, 2) := by decide +kernel
theorem d_MO_span_277 : decode b_MO_span 277 = .ok (.iadd, 1) := by decide +kernel
theorem d_MO_span_278 : decode b_MO_span 278 = .ok (.baload, 1) := by decide +kernel
theorem d_MO_span_279 : decode b_MO_span 279 = .ok (.bastore, 1) := by decide +kernel
theorem d_MO_span_280 : decode b_MO_span 280 = .ok (.iinc 5 1, 3) := by decide +kernel
theorem d_MO_span_283 : decode b_MO_span 283 = .ok (.goto (-32), 3) := by decide +kernel
theorem d_MO_span_286 : decode b_MO_span 286 = .ok (.aload_n 0, 1) := by decide +kernel
theorem d_MO_span_287 : decode b_MO_span 287 = .ok (.invokevirtual 224, 3) := by decide +kernel
theorem d_MO_span_290 : decode b_MO_span 290 = .ok (.aload_n 0, 1) := by decide +kernel
theorem d_MO_span_291 : decode b_MO_span 291 = .ok (.getfield 83, 3) := by decide +kernel
theorem d_MO_span_294 : decode b_MO_span 294 = .ok (.iload_n 3, 1) := by decide +kernel
theorem d_MO_span_295 : decode b_MO_span 295 = .ok (.iconst 4, 1) := by decide +kernel
theorem d_MO_span_296 : decode b_MO_span 296 = .ok (.isub, 1) := by decide +kernel
theorem d_MO_span_297 : decode b_MO_span 297 = .ok (.laload, 1) := by decide +kernel
theorem d_MO_span_298 : decode b_MO_span 298 = .ok (.lreturn, 1) := by decide +kernel
end
section
def f_MA_floorDiv (x0 : Int64) (x2 : Int64) : Option Int64 :=
  if x2 = 0 then none else
  gl_let ((x0 / x2)) fun v4 =>
  if 0 ≤ (x0 ^^^ x2) then (
    some v4
  ) else
  if (v4 * x2) = x0 then (
    some v4
  ) else
  some (v4 - 1)
set_option maxHeartbeats 4000000 in
set_option maxRecDepth 100000 in
theorem c_MA_floorDiv (l : Launch) (dC : Nat → ClassId) (dI : Nat → Nat → Nat) (tC : Nat → ClassId)  (x0 : Int64) (x2 : Int64) (res : Int64) (hf : f_MA_floorDiv x0 x2 = some res) : cx_M l y_MA_floorDiv w_MA_floorDiv { frames := 0, cells := 0, slots := 0, locals := 0 } (dC, dI) classes (tyS tC) [.long x0, .long x2] ([]) ([]) (some (.long res)) := by
  refine cx_of (cc := b_MA_floorDiv) (maxL := 6) (ret := some .long) (by decide +kernel) rfl (Nat.le_of_ble_eq_true rfl) ?_
  intro p e s m below meth c hx hb hr hml hown hts hlocks A hA H locs ls hK hN hP hD hS hl
  have hown : s.vm.findClass R_MA = some m.cls := hown
  have hl : lv_has ls 6 [(0, .long x0), (2, .long x2)] := hl
  unfold f_MA_floorDiv at hf
  refine lv_lload_n hx hb d_MA_floorDiv_0 rfl (lv_at hl 0 rfl) ?_
  refine lv_lload_n hx hb d_MA_floorDiv_1 rfl (lv_at hl 1 rfl) ?_
  obtain ⟨ck, hf⟩ := g_ck hf
  refine lv_ldiv hx hb d_MA_floorDiv_2 ck ?_
  refine lv_topl (fun v4 h_v4 => ?_)
  have hf := g_let hf h_v4
  refine lv_lstore (lv' := [(4, .long v4), (0, .long x0), (2, .long x2)]) hx hb d_MA_floorDiv_3 hl (by decide) rfl (fun ls hl => ?_)
  refine lv_lload_n hx hb d_MA_floorDiv_5 rfl (lv_at hl 1 rfl) ?_
  refine lv_lload_n hx hb d_MA_floorDiv_6 rfl (lv_at hl 2 rfl) ?_
  refine lv_lxor hx hb d_MA_floorDiv_7 ?_
  refine lv_lconst (v := 0) hx hb d_MA_floorDiv_8 (by decide) ?_
  refine cq_ge (tgt := 27) hx hb d_MA_floorDiv_9 d_MA_floorDiv_10 (by decide) (fun cb => ?_) (fun cb => ?_)
  · have hf := g_t hf cb
    refine lv_lload hx hb d_MA_floorDiv_27 (lv_at hl 0 rfl) ?_
    cases hf
    exact cx_lret hx hb hr hlocks hP hS d_MA_floorDiv_29
  · have hf := g_f hf cb
    refine lv_lload hx hb d_MA_floorDiv_13 (lv_at hl 0 rfl) ?_
    refine lv_lload_n hx hb d_MA_floorDiv_15 rfl (lv_at hl 2 rfl) ?_
    refine lv_lmul hx hb d_MA_floorDiv_16 ?_
    refine lv_lload_n hx hb d_MA_floorDiv_17 rfl (lv_at hl 1 rfl) ?_
    refine cq_eq (tgt := 27) hx hb d_MA_floorDiv_18 d_MA_floorDiv_19 (by decide) (fun cb_1 => ?_) (fun cb_1 => ?_)
    · have hf := g_t hf cb_1
      refine lv_lload hx hb d_MA_floorDiv_27 (lv_at hl 0 rfl) ?_
      cases hf
      exact cx_lret hx hb hr hlocks hP hS d_MA_floorDiv_29
    · have hf := g_f hf cb_1
      refine lv_lload hx hb d_MA_floorDiv_22 (lv_at hl 0 rfl) ?_
      refine lv_lconst (v := 1) hx hb d_MA_floorDiv_24 (by decide) ?_
      refine lv_lsub hx hb d_MA_floorDiv_25 ?_
      cases hf
      exact cx_lret hx hb hr hlocks hP hS d_MA_floorDiv_26
def f_SR_isWithin (x0 : Int64) (x2 : Int64) (x4 : Int64) : Int32 :=
  if x0 < x2 then (
    0
  ) else
  if x4 < x0 then (
    0
  ) else
  1
theorem z_SR_isWithin (x0 : Int64) (x2 : Int64) (x4 : Int64) : narrow .boolean (.int (f_SR_isWithin x0 x2 x4)) = .int (f_SR_isWithin x0 x2 x4) := by
  unfold f_SR_isWithin
  first | ((repeat' split) <;> rfl) | exact z_SR_isWithin _ _ _
set_option maxHeartbeats 4000000 in
set_option maxRecDepth 100000 in
theorem c_SR_isWithin (l : Launch) (dC : Nat → ClassId) (dI : Nat → Nat → Nat) (tC : Nat → ClassId)  (x0 : Int64) (x2 : Int64) (x4 : Int64) (res : Int32) (hf : f_SR_isWithin x0 x2 x4 = res) : cx_M l y_SR_isWithin w_SR_isWithin { frames := 0, cells := 0, slots := 0, locals := 0 } (dC, dI) classes (tyS tC) [.long x0, .long x2, .long x4] ([]) ([]) (some (.int res)) := by
  refine cx_of (cc := b_SR_isWithin) (maxL := 6) (ret := some .boolean) (plainFor_of_name (by decide)) rfl (Nat.le_of_ble_eq_true rfl) ?_
  intro p e s m below meth c hx hb hr hml hown hts hlocks A hA H locs ls hK hN hP hD hS hl
  have hown : s.vm.findClass R_SR = some m.cls := hown
  have hl : lv_has ls 6 [(0, .long x0), (2, .long x2), (4, .long x4)] := hl
  unfold f_SR_isWithin at hf
  refine lv_lload_n hx hb d_SR_isWithin_0 rfl (lv_at hl 0 rfl) ?_
  refine lv_lload_n hx hb d_SR_isWithin_1 rfl (lv_at hl 1 rfl) ?_
  refine cq_lt (tgt := 17) hx hb d_SR_isWithin_2 d_SR_isWithin_3 (by decide) (fun cb => ?_) (fun cb => ?_)
  · have hf := g_t hf cb
    refine lv_iconst (v := 0) hx hb d_SR_isWithin_17 (by decide) ?_
    cases hf
    exact cx_zret hx hb hr hlocks rfl hP hS d_SR_isWithin_18
  · have hf := g_f hf cb
    refine lv_lload_n hx hb d_SR_isWithin_6 rfl (lv_at hl 0 rfl) ?_
    refine lv_lload hx hb d_SR_isWithin_7 (lv_at hl 2 rfl) ?_
    refine cq_gt (tgt := 17) hx hb d_SR_isWithin_9 d_SR_isWithin_10 (by decide) (fun cb_1 => ?_) (fun cb_1 => ?_)
    · have hf := g_t hf cb_1
      refine lv_iconst (v := 0) hx hb d_SR_isWithin_17 (by decide) ?_
      cases hf
      exact cx_zret hx hb hr hlocks rfl hP hS d_SR_isWithin_18
    · have hf := g_f hf cb_1
      refine lv_iconst (v := 1) hx hb d_SR_isWithin_13 (by decide) ?_
      refine lv_goto (tgt := 18) hx hb d_SR_isWithin_14 (by decide) ?_
      cases hf
      exact cx_zret hx hb hr hlocks rfl hP hS d_SR_isWithin_18
def f_SR_by (x0 : Int64) (x2 : Int64) : Option Int64 :=
  if 1 ≤ x2 then (
    (f_MA_floorDiv x0 x2).bind fun r =>
    some r
  ) else
  some 0
set_option maxHeartbeats 4000000 in
set_option maxRecDepth 100000 in
theorem c_SR_by (l : Launch) (dC : Nat → ClassId) (dI : Nat → Nat → Nat) (tC : Nat → ClassId)  (x0 : Int64) (x2 : Int64) (res : Int64) (hf : f_SR_by x0 x2 = some res) : cx_M l y_SR_by w_SR_by { frames := 1, cells := 0, slots := 0, locals := 25 } (dC, dI) classes (tyS tC) [.long x0, .long x2] ([]) ([]) (some (.long res)) := by
  refine cx_of (cc := b_SR_by) (maxL := 4) (ret := some .long) (plainFor_of_name (by decide)) rfl (Nat.le_of_ble_eq_true rfl) ?_
  intro p e s m below meth c hx hb hr hml hown hts hlocks A hA H locs ls hK hN hP hD hS hl
  have hown : s.vm.findClass R_SR = some m.cls := hown
  have hl : lv_has ls 4 [(0, .long x0), (2, .long x2)] := hl
  unfold f_SR_by at hf
  refine lv_lload_n hx hb d_SR_by_0 rfl (lv_at hl 1 rfl) ?_
  refine lv_lconst (v := 1) hx hb d_SR_by_1 (by decide) ?_
  refine cq_ge (tgt := 10) hx hb d_SR_by_2 d_SR_by_3 (by decide) (fun cb => ?_) (fun cb => ?_)
  · have hf := g_t hf cb
    refine lv_lload_n hx hb d_SR_by_10 rfl (lv_at hl 0 rfl) ?_
    refine lv_lload_n hx hb d_SR_by_11 rfl (lv_at hl 1 rfl) ?_
    obtain ⟨r, hc, hf⟩ := g_bind hf
    try dsimp only at hf
    refine cx_callS (As := [.long x0, .long x2]) (rest := []) ⟨hx, hb, hml, hown, hts⟩ (c_MA_floorDiv l dC dI tC  x0 x2 r hc) (k_SR_228 hts ⟨Nat.le_of_ble_eq_true rfl, Nat.le_of_ble_eq_true rfl⟩) hl.1 hP hD hS hA hK hN [] rfl rfl rfl rfl rfl (Nat.le_of_ble_eq_true rfl) d_SR_by_12 ⟨Nat.zero_le _, Nat.zero_le _⟩ (fun H locs hP hD hS => ?_)
    have hP : va_P (dC, dI) classes ([]) H := hP
    have hD : va_D A ([]) := hD
    refine W.eq (g2 := F0 m 15 ls [.long r]) rfl ?_
    cases hf
    exact cx_lret hx hb hr hlocks hP hS d_SR_by_15
  · have hf := g_f hf cb
    refine lv_lconst (v := 0) hx hb d_SR_by_6 (by decide) ?_
    refine lv_goto (tgt := 15) hx hb d_SR_by_7 (by decide) ?_
    cases hf
    exact cx_lret hx hb hr hlocks hP hS d_SR_by_15
def f_SR_isKey (x0 : Int32) : Int32 :=
  (f_SR_isWithin (x0.toInt64) 0 7)
theorem z_SR_isKey (x0 : Int32) : narrow .boolean (.int (f_SR_isKey x0)) = .int (f_SR_isKey x0) := by
  unfold f_SR_isKey
  first | ((repeat' split) <;> rfl) | exact z_SR_isWithin _ _ _
set_option maxHeartbeats 4000000 in
set_option maxRecDepth 100000 in
theorem c_SR_isKey (l : Launch) (dC : Nat → ClassId) (dI : Nat → Nat → Nat) (tC : Nat → ClassId)  (x0 : Int32) (res : Int32) (hf : f_SR_isKey x0 = res) : cx_M l y_SR_isKey w_SR_isKey { frames := 1, cells := 0, slots := 0, locals := 25 } (dC, dI) classes (tyS tC) [.int x0] ([]) ([]) (some (.int res)) := by
  refine cx_of (cc := b_SR_isKey) (maxL := 1) (ret := some .boolean) (plainFor_of_name (by decide)) rfl (Nat.le_of_ble_eq_true rfl) ?_
  intro p e s m below meth c hx hb hr hml hown hts hlocks A hA H locs ls hK hN hP hD hS hl
  have hown : s.vm.findClass R_SR = some m.cls := hown
  have hl : lv_has ls 1 [(0, .int x0)] := hl
  unfold f_SR_isKey at hf
  refine lv_iload_n hx hb d_SR_isKey_0 rfl (lv_at hl 0 rfl) ?_
  refine lv_i2l hx hb d_SR_isKey_1 rfl ?_
  refine lv_lconst (v := 0) hx hb d_SR_isKey_2 (by decide) ?_
  refine lv_ldc2 (v := 7) hx hb hown (hts _ (List.mem_cons_of_mem _ mw_441)) d_SR_isKey_3 ?_
  refine cx_callS (As := [.long (x0.toInt64), .long 0, .long 7]) (rest := []) ⟨hx, hb, hml, hown, hts⟩ (c_SR_isWithin l dC dI tC  (x0.toInt64) 0 7 (f_SR_isWithin (x0.toInt64) 0 7) rfl) (k_SR_95 hts ⟨Nat.le_of_ble_eq_true rfl, Nat.le_of_ble_eq_true rfl⟩) hl.1 hP hD hS hA hK hN [] rfl rfl rfl rfl rfl (Nat.le_of_ble_eq_true rfl) d_SR_isKey_6 ⟨Nat.zero_le _, Nat.zero_le _⟩ (fun H locs hP hD hS => ?_)
  have hP : va_P (dC, dI) classes ([]) H := hP
  have hD : va_D A ([]) := hD
  refine W.eq (g2 := F0 m 9 ls [.int (f_SR_isWithin (x0.toInt64) 0 7)]) rfl ?_
  cases hf
  exact cx_zret hx hb hr hlocks (z_SR_isWithin (x0.toInt64) 0 7) hP hS d_SR_isKey_9
def f_SR_nearest (x0 : Int32) (x1 : Int32) (x2 : Int32) : Int32 :=
  if x1 ≤ x0 then (
    if x0 ≤ x2 then (
      x0
    ) else
    x2
  ) else
  x1
set_option maxHeartbeats 4000000 in
set_option maxRecDepth 100000 in
theorem c_SR_nearest (l : Launch) (dC : Nat → ClassId) (dI : Nat → Nat → Nat) (tC : Nat → ClassId)  (x0 : Int32) (x1 : Int32) (x2 : Int32) (res : Int32) (hf : f_SR_nearest x0 x1 x2 = res) : cx_M l y_SR_nearest w_SR_nearest { frames := 0, cells := 0, slots := 0, locals := 0 } (dC, dI) classes (tyS tC) [.int x0, .int x1, .int x2] ([]) ([]) (some (.int res)) := by
  refine cx_of (cc := b_SR_nearest) (maxL := 3) (ret := some .int) (plainFor_of_name (by decide)) rfl (Nat.le_of_ble_eq_true rfl) ?_
  intro p e s m below meth c hx hb hr hml hown hts hlocks A hA H locs ls hK hN hP hD hS hl
  have hown : s.vm.findClass R_SR = some m.cls := hown
  have hl : lv_has ls 3 [(0, .int x0), (1, .int x1), (2, .int x2)] := hl
  unfold f_SR_nearest at hf
  refine lv_iload_n hx hb d_SR_nearest_0 rfl (lv_at hl 0 rfl) ?_
  refine lv_iload_n hx hb d_SR_nearest_1 rfl (lv_at hl 1 rfl) ?_
  refine lv_icmp_ge (tgt := 9) hx hb d_SR_nearest_2 (by decide) (fun cb => ?_) (fun cb => ?_)
  · have hf := g_t hf cb
    refine lv_iload_n hx hb d_SR_nearest_9 rfl (lv_at hl 0 rfl) ?_
    refine lv_iload_n hx hb d_SR_nearest_10 rfl (lv_at hl 2 rfl) ?_
    refine lv_icmp_le (tgt := 18) hx hb d_SR_nearest_11 (by decide) (fun cb_1 => ?_) (fun cb_1 => ?_)
    · have hf := g_t hf cb_1
      refine lv_iload_n hx hb d_SR_nearest_18 rfl (lv_at hl 0 rfl) ?_
      cases hf
      exact cx_iret hx hb hr hlocks hP hS d_SR_nearest_19
    · have hf := g_f hf cb_1
      refine lv_iload_n hx hb d_SR_nearest_14 rfl (lv_at hl 2 rfl) ?_
      refine lv_goto (tgt := 19) hx hb d_SR_nearest_15 (by decide) ?_
      cases hf
      exact cx_iret hx hb hr hlocks hP hS d_SR_nearest_19
  · have hf := g_f hf cb
    refine lv_iload_n hx hb d_SR_nearest_5 rfl (lv_at hl 1 rfl) ?_
    refine lv_goto (tgt := 19) hx hb d_SR_nearest_6 (by decide) ?_
    cases hf
    exact cx_iret hx hb hr hlocks hP hS d_SR_nearest_19
def f_CA_firstDay (x0 : Int64) : Option Int64 :=
  gl_let ((x0 + 23638)) fun v2 =>
  (f_MA_floorDiv v2 12).bind fun r =>
  (f_MA_floorDiv r 4).bind fun r_1 =>
  (f_MA_floorDiv r 100).bind fun r_2 =>
  (f_MA_floorDiv r 400).bind fun r_3 =>
  gl_let (((r_1 - r_2) + r_3)) fun v6 =>
  gl_let ((((153 * (v2 - (12 * r))) + 2) / 5)) fun v8 =>
  some ((((365 * r) + v6) + v8) - 719468)
set_option maxHeartbeats 4000000 in
set_option maxRecDepth 100000 in
theorem c_CA_firstDay (l : Launch) (dC : Nat → ClassId) (dI : Nat → Nat → Nat) (tC : Nat → ClassId)  (x0 : Int64) (res : Int64) (hf : f_CA_firstDay x0 = some res) : cx_M l y_CA_firstDay w_CA_firstDay { frames := 1, cells := 0, slots := 0, locals := 25 } (dC, dI) classes (tyS tC) [.long x0] ([]) ([]) (some (.long res)) := by
  refine cx_of (cc := b_CA_firstDay) (maxL := 10) (ret := some .long) (plainFor_of_name (by decide)) rfl (Nat.le_of_ble_eq_true rfl) ?_
  intro p e s m below meth c hx hb hr hml hown hts hlocks A hA H locs ls hK hN hP hD hS hl
  have hown : s.vm.findClass R_CA = some m.cls := hown
  have hl : lv_has ls 10 [(0, .long x0)] := hl
  unfold f_CA_firstDay at hf
  refine lv_lload_n hx hb d_CA_firstDay_0 rfl (lv_at hl 0 rfl) ?_
  refine lv_ldc2 (v := 23638) hx hb hown (hts _ (List.mem_cons_of_mem _ mw_464)) d_CA_firstDay_1 ?_
  refine lv_ladd hx hb d_CA_firstDay_4 ?_
  refine lv_topl (fun v2 h_v2 => ?_)
  have hf := g_let hf h_v2
  refine lv_lstore_n (lv' := [(2, .long v2), (0, .long x0)]) hx hb d_CA_firstDay_5 rfl hl (by decide) rfl (fun ls hl => ?_)
  refine lv_lload_n hx hb d_CA_firstDay_6 rfl (lv_at hl 0 rfl) ?_
  refine lv_ldc2 (v := 12) hx hb hown (hts _ (List.mem_cons_of_mem _ mw_465)) d_CA_firstDay_7 ?_
  obtain ⟨r, hc, hf⟩ := g_bind hf
  try dsimp only at hf
  refine cx_callS (As := [.long v2, .long 12]) (rest := []) ⟨hx, hb, hml, hown, hts⟩ (c_MA_floorDiv l dC dI tC  v2 12 r hc) (k_CA_13 hts ⟨Nat.le_of_ble_eq_true rfl, Nat.le_of_ble_eq_true rfl⟩) hl.1 hP hD hS hA hK hN [] rfl rfl rfl rfl rfl (Nat.le_of_ble_eq_true rfl) d_CA_firstDay_10 ⟨Nat.zero_le _, Nat.zero_le _⟩ (fun H locs hP hD hS => ?_)
  have hP : va_P (dC, dI) classes ([]) H := hP
  have hD : va_D A ([]) := hD
  refine W.eq (g2 := F0 m 13 ls [.long r]) rfl ?_
  refine lv_lstore (lv' := [(4, .long r), (2, .long v2), (0, .long x0)]) hx hb d_CA_firstDay_13 hl (by decide) rfl (fun ls hl => ?_)
  refine lv_lload hx hb d_CA_firstDay_15 (lv_at hl 0 rfl) ?_
  refine lv_ldc2 (v := 4) hx hb hown (hts _ (List.mem_cons_of_mem _ mw_467)) d_CA_firstDay_17 ?_
  obtain ⟨r_1, hc_1, hf⟩ := g_bind hf
  try dsimp only at hf
  refine cx_callS (As := [.long r, .long 4]) (rest := []) ⟨hx, hb, hml, hown, hts⟩ (c_MA_floorDiv l dC dI tC  r 4 r_1 hc_1) (k_CA_13 hts ⟨Nat.le_of_ble_eq_true rfl, Nat.le_of_ble_eq_true rfl⟩) hl.1 hP hD hS hA hK hN [] rfl rfl rfl rfl rfl (Nat.le_of_ble_eq_true rfl) d_CA_firstDay_20 ⟨Nat.zero_le _, Nat.zero_le _⟩ (fun H locs hP hD hS => ?_)
  have hP : va_P (dC, dI) classes ([]) H := hP
  have hD : va_D A ([]) := hD
  refine W.eq (g2 := F0 m 23 ls [.long r_1]) rfl ?_
  refine lv_lload hx hb d_CA_firstDay_23 (lv_at hl 0 rfl) ?_
  refine lv_ldc2 (v := 100) hx hb hown (hts _ (List.mem_cons_of_mem _ mw_468)) d_CA_firstDay_25 ?_
  obtain ⟨r_2, hc_2, hf⟩ := g_bind hf
  try dsimp only at hf
  refine cx_callS (As := [.long r, .long 100]) (rest := [.long r_1]) ⟨hx, hb, hml, hown, hts⟩ (c_MA_floorDiv l dC dI tC  r 100 r_2 hc_2) (k_CA_13 hts ⟨Nat.le_of_ble_eq_true rfl, Nat.le_of_ble_eq_true rfl⟩) hl.1 hP hD hS hA hK hN [] rfl rfl rfl rfl rfl (Nat.le_of_ble_eq_true rfl) d_CA_firstDay_28 ⟨Nat.zero_le _, Nat.zero_le _⟩ (fun H locs hP hD hS => ?_)
  have hP : va_P (dC, dI) classes ([]) H := hP
  have hD : va_D A ([]) := hD
  refine W.eq (g2 := F0 m 31 ls [.long r_2, .long r_1]) rfl ?_
  refine lv_lsub hx hb d_CA_firstDay_31 ?_
  refine lv_lload hx hb d_CA_firstDay_32 (lv_at hl 0 rfl) ?_
  refine lv_ldc2 (v := 400) hx hb hown (hts _ (List.mem_cons_of_mem _ mw_469)) d_CA_firstDay_34 ?_
  obtain ⟨r_3, hc_3, hf⟩ := g_bind hf
  try dsimp only at hf
  refine cx_callS (As := [.long r, .long 400]) (rest := [.long (r_1 - r_2)]) ⟨hx, hb, hml, hown, hts⟩ (c_MA_floorDiv l dC dI tC  r 400 r_3 hc_3) (k_CA_13 hts ⟨Nat.le_of_ble_eq_true rfl, Nat.le_of_ble_eq_true rfl⟩) hl.1 hP hD hS hA hK hN [] rfl rfl rfl rfl rfl (Nat.le_of_ble_eq_true rfl) d_CA_firstDay_37 ⟨Nat.zero_le _, Nat.zero_le _⟩ (fun H locs hP hD hS => ?_)
  have hP : va_P (dC, dI) classes ([]) H := hP
  have hD : va_D A ([]) := hD
  refine W.eq (g2 := F0 m 40 ls [.long r_3, .long (r_1 - r_2)]) rfl ?_
  refine lv_ladd hx hb d_CA_firstDay_40 ?_
  refine lv_topl (fun v6 h_v6 => ?_)
  have hf := g_let hf h_v6
  refine lv_lstore (lv' := [(6, .long v6), (4, .long r), (2, .long v2), (0, .long x0)]) hx hb d_CA_firstDay_41 hl (by decide) rfl (fun ls hl => ?_)
  refine lv_ldc2 (v := 153) hx hb hown (hts _ (List.mem_cons_of_mem _ mw_470)) d_CA_firstDay_43 ?_
  refine lv_lload_n hx hb d_CA_firstDay_46 rfl (lv_at hl 2 rfl) ?_
  refine lv_ldc2 (v := 12) hx hb hown (hts _ (List.mem_cons_of_mem _ mw_465)) d_CA_firstDay_47 ?_
  refine lv_lload hx hb d_CA_firstDay_50 (lv_at hl 1 rfl) ?_
  refine lv_lmul hx hb d_CA_firstDay_52 ?_
  refine lv_lsub hx hb d_CA_firstDay_53 ?_
  refine lv_lmul hx hb d_CA_firstDay_54 ?_
  refine lv_ldc2 (v := 2) hx hb hown (hts _ (List.mem_cons_of_mem _ mw_471)) d_CA_firstDay_55 ?_
  refine lv_ladd hx hb d_CA_firstDay_58 ?_
  refine lv_ldc2 (v := 5) hx hb hown (hts _ (List.mem_cons_of_mem _ mw_472)) d_CA_firstDay_59 ?_
  refine lv_ldiv hx hb d_CA_firstDay_62 (by decide) ?_
  refine lv_topl (fun v8 h_v8 => ?_)
  have hf := g_let hf h_v8
  refine lv_lstore (lv' := [(8, .long v8), (6, .long v6), (4, .long r), (2, .long v2), (0, .long x0)]) hx hb d_CA_firstDay_63 hl (by decide) rfl (fun ls hl => ?_)
  refine lv_ldc2 (v := 365) hx hb hown (hts _ (List.mem_cons_of_mem _ mw_473)) d_CA_firstDay_65 ?_
  refine lv_lload hx hb d_CA_firstDay_68 (lv_at hl 2 rfl) ?_
  refine lv_lmul hx hb d_CA_firstDay_70 ?_
  refine lv_lload hx hb d_CA_firstDay_71 (lv_at hl 1 rfl) ?_
  refine lv_ladd hx hb d_CA_firstDay_73 ?_
  refine lv_lload hx hb d_CA_firstDay_74 (lv_at hl 0 rfl) ?_
  refine lv_ladd hx hb d_CA_firstDay_76 ?_
  refine lv_ldc2 (v := 719468) hx hb hown (hts _ (List.mem_cons_of_mem _ mw_474)) d_CA_firstDay_77 ?_
  refine lv_lsub hx hb d_CA_firstDay_80 ?_
  cases hf
  exact cx_lret hx hb hr hlocks hP hS d_CA_firstDay_81
def f_CA_monthOf_L19 (x0 : Int64) : Nat → Int64 → Int32 → Option (Int64)
  | 0, _, _ => none
  | n + 1, v2_1, v4 =>
    if 5 ≤ v4 then (
      some v2_1
    ) else
    (f_CA_firstDay (v2_1 + 1)).bind fun r_1 =>
    if x0 < r_1 then (
      some v2_1
    ) else
    gl_let ((v2_1 + 1)) fun v2_3 =>
    gl_let (v4 + 1) fun v4_1 =>
    f_CA_monthOf_L19 x0 n v2_3 v4_1
def f_CA_monthOf (k : Nat) (x0 : Int64) : Option Int64 :=
  (f_MA_floorDiv (x0 * 4800) 146097).bind fun r =>
  gl_let ((r - 2)) fun v2 =>
  (f_CA_monthOf_L19 x0 k v2 0).bind fun v2_2 =>
  some v2_2
set_option maxHeartbeats 4000000 in
set_option maxRecDepth 100000 in
theorem c_CA_monthOf (l : Launch) (dC : Nat → ClassId) (dI : Nat → Nat → Nat) (tC : Nat → ClassId)  (k : Nat) (x0 : Int64) (res : Int64) (hf : f_CA_monthOf k x0 = some res) : cx_M l y_CA_monthOf w_CA_monthOf { frames := 2, cells := 0, slots := 0, locals := 54 } (dC, dI) classes (tyS tC) [.long x0] ([]) ([]) (some (.long res)) := by
  refine cx_of (cc := b_CA_monthOf) (maxL := 5) (ret := some .long) (plainFor_of_name (by decide)) rfl (Nat.le_of_ble_eq_true rfl) ?_
  intro p e s m below meth c hx hb hr hml hown hts hlocks A hA H locs ls hK hN hP hD hS hl
  have hown : s.vm.findClass R_CA = some m.cls := hown
  have hl : lv_has ls 5 [(0, .long x0)] := hl
  unfold f_CA_monthOf at hf
  refine lv_lload_n hx hb d_CA_monthOf_0 rfl (lv_at hl 0 rfl) ?_
  refine lv_ldc2 (v := 4800) hx hb hown (hts _ (List.mem_cons_of_mem _ mw_645)) d_CA_monthOf_1 ?_
  refine lv_lmul hx hb d_CA_monthOf_4 ?_
  refine lv_ldc2 (v := 146097) hx hb hown (hts _ (List.mem_cons_of_mem _ mw_646)) d_CA_monthOf_5 ?_
  obtain ⟨r, hc, hf⟩ := g_bind hf
  try dsimp only at hf
  refine cx_callS (As := [.long (x0 * 4800), .long 146097]) (rest := []) ⟨hx, hb, hml, hown, hts⟩ (c_MA_floorDiv l dC dI tC  (x0 * 4800) 146097 r hc) (k_CA_13 hts ⟨Nat.le_of_ble_eq_true rfl, Nat.le_of_ble_eq_true rfl⟩) hl.1 hP hD hS hA hK hN [] rfl rfl rfl rfl rfl (Nat.le_of_ble_eq_true rfl) d_CA_monthOf_8 ⟨Nat.zero_le _, Nat.zero_le _⟩ (fun H locs hP hD hS => ?_)
  have hP : va_P (dC, dI) classes ([]) H := hP
  have hD : va_D A ([]) := hD
  refine W.eq (g2 := F0 m 11 ls [.long r]) rfl ?_
  refine lv_ldc2 (v := 2) hx hb hown (hts _ (List.mem_cons_of_mem _ mw_471)) d_CA_monthOf_11 ?_
  refine lv_lsub hx hb d_CA_monthOf_14 ?_
  refine lv_topl (fun v2 h_v2 => ?_)
  have hf := g_let hf h_v2
  refine lv_lstore_n (lv' := [(2, .long v2), (0, .long x0)]) hx hb d_CA_monthOf_15 rfl hl (by decide) rfl (fun ls hl => ?_)
  refine lv_iconst (v := 0) hx hb d_CA_monthOf_16 (by decide) ?_
  refine lv_istore (lv' := [(4, .int 0), (2, .long v2), (0, .long x0)]) hx hb d_CA_monthOf_17 hl (by decide) rfl (fun ls hl => ?_)
  have L_19 : ∀ (n : Nat) (v2_1 : Int64) (v4 : Int32) (v2_2 : Int64), f_CA_monthOf_L19 x0 n v2_1 v4 = some v2_2 → ∀ (H : Heap) (locs : List Loc) (ls : Array Slot), va_P (dC, dI) classes ([]) H → va_D A ([]) → va_S A s.heap H locs → lv_has ls 5 [(0, .long x0), (2, .long v2_1), (4, .int v4)] → (∀ (H : Heap) (locs : List Loc) (ls : Array Slot), va_P (dC, dI) classes ([]) H → va_D A ([]) → va_S A s.heap H locs → lv_has ls 5 [(2, .long v2_2)] → W p l e { frames := 2, cells := 0, slots := 0, locals := 54 } s m [.long x0].toArray below meth c H locs 0 0 (cx_Z (dC, dI) classes below [.long x0] s ([]) (some (.long res)) A) (F0 m 46 ls [])) → W p l e { frames := 2, cells := 0, slots := 0, locals := 54 } s m [.long x0].toArray below meth c H locs 0 0 (cx_Z (dC, dI) classes below [.long x0] s ([]) (some (.long res)) A) (F0 m 19 ls []) := by
    intro n
    induction n with
    | zero =>
      intro v2_1 v4 v2_2 hf
      rw [f_CA_monthOf_L19] at hf
      cases hf
    | succ n ih =>
      intro v2_1 v4 v2_2 hf H locs ls hP hD hS hl kk
      rw [f_CA_monthOf_L19] at hf
      refine lv_iload hx hb d_CA_monthOf_19 (lv_at hl 2 rfl) ?_
      refine lv_iconst (v := 5) hx hb d_CA_monthOf_21 (by decide) ?_
      refine lv_icmp_ge (tgt := 46) hx hb d_CA_monthOf_22 (by decide) (fun cb => ?_) (fun cb => ?_)
      · have hf := g_t hf cb
        cases hf
        exact kk _ _ _ hP hD hS (lv_sub hl [1] rfl)
      · have hf := g_f hf cb
        refine lv_lload_n hx hb d_CA_monthOf_25 rfl (lv_at hl 1 rfl) ?_
        refine lv_lconst (v := 1) hx hb d_CA_monthOf_26 (by decide) ?_
        refine lv_ladd hx hb d_CA_monthOf_27 ?_
        obtain ⟨r_1, hc_1, hf⟩ := g_bind hf
        try dsimp only at hf
        refine cx_callS (As := [.long (v2_1 + 1)]) (rest := []) ⟨hx, hb, hml, hown, hts⟩ (c_CA_firstDay l dC dI tC  (v2_1 + 1) r_1 hc_1) (k_CA_39 hts ⟨Nat.le_of_ble_eq_true rfl, Nat.le_of_ble_eq_true rfl⟩) hl.1 hP hD hS hA hK hN [] rfl rfl rfl rfl rfl (Nat.le_of_ble_eq_true rfl) d_CA_monthOf_28 ⟨Nat.zero_le _, Nat.zero_le _⟩ (fun H locs hP hD hS => ?_)
        have hP : va_P (dC, dI) classes ([]) H := hP
        have hD : va_D A ([]) := hD
        refine W.eq (g2 := F0 m 31 ls [.long r_1]) rfl ?_
        refine lv_lload_n hx hb d_CA_monthOf_31 rfl (lv_at hl 0 rfl) ?_
        refine cq_gt (tgt := 46) hx hb d_CA_monthOf_32 d_CA_monthOf_33 (by decide) (fun cb_1 => ?_) (fun cb_1 => ?_)
        · have hf := g_t hf cb_1
          cases hf
          exact kk _ _ _ hP hD hS (lv_sub hl [1] rfl)
        · have hf := g_f hf cb_1
          refine lv_lload_n hx hb d_CA_monthOf_36 rfl (lv_at hl 1 rfl) ?_
          refine lv_lconst (v := 1) hx hb d_CA_monthOf_37 (by decide) ?_
          refine lv_ladd hx hb d_CA_monthOf_38 ?_
          refine lv_topl (fun v2_3 h_v2_3 => ?_)
          have hf := g_let hf h_v2_3
          refine lv_lstore_n (lv' := [(2, .long v2_3), (0, .long x0), (4, .int v4)]) hx hb d_CA_monthOf_39 rfl hl (by decide) rfl (fun ls hl => ?_)
          obtain ⟨v4_1, h_v4_1⟩ : ∃ z : Int32, z = v4 + 1 := ⟨_, rfl⟩
          have hf := g_let hf h_v4_1
          refine lv_iinc (v := v4_1) (lv' := [(4, .int v4_1), (2, .long v2_3), (0, .long x0)]) hx hb d_CA_monthOf_40 hl (k := 2) rfl (by rw [h_v4_1]; rfl) (by decide) rfl (fun ls hl => ?_)
          refine lv_goto (tgt := 19) hx hb d_CA_monthOf_43 (by decide) ?_
          exact ih v2_3 v4_1 v2_2 hf H locs ls hP hD hS (lv_sub hl [2, 1, 0] rfl) kk
  obtain ⟨v2_2, hL_19, hf⟩ := g_bind hf
  try dsimp only at hf
  refine L_19 k v2 0 v2_2 hL_19 H locs ls hP hD hS (lv_sub hl [2, 1, 0] rfl) (fun H locs ls hP hD hS hl => ?_)
  refine lv_lload_n hx hb d_CA_monthOf_46 rfl (lv_at hl 0 rfl) ?_
  cases hf
  exact cx_lret hx hb hr hlocks hP hS d_CA_monthOf_47
end
section
def f_CO_clear (co : COt) : COt :=
  (sCO_mix (sCO_greatest (sCO_least (sCO_sum (sCO_rows co 0) 0) 0) 0) 0)
set_option maxHeartbeats 4000000 in
set_option maxRecDepth 100000 in
theorem c_CO_clear (l : Launch) (dC : Nat → ClassId) (dI : Nat → Nat → Nat) (tC : Nat → ClassId) (a : Nat → Nat) (co : COt) (coR : COt) (hf : f_CO_clear co = coR) : cx_M l y_CO_clear w_CO_clear { frames := 0, cells := 0, slots := 0, locals := 0 } (dC, dI) classes (tyS tC) [.ref (a 0)] (wCO tC a co) (wCO tC a coR) (none) := by
  refine cx_of (cc := b_CO_clear) (maxL := 1) (ret := none) (plainFor_of_name (by decide)) rfl (Nat.le_of_ble_eq_true rfl) ?_
  intro p e s m below meth c hx hb hr hml hown hts hlocks A hA H locs ls hK hN hP hD hS hl
  have hown : s.vm.findClass R_CO = some m.cls := hown
  have hl : lv_has ls 1 [(0, .ref (a 0))] := hl
  unfold f_CO_clear at hf
  refine lv_aload_n hx hb d_CO_clear_0 rfl (lv_at hl 0 rfl) ?_
  refine lv_iconst (v := 0) hx hb d_CO_clear_1 (by decide) ?_
  refine va_put (D := (dC, dI)) (ci := 7) (v := .int 0) (ty := .int) (C := R_CO) (T := F_CO) (N := 5) hx hb hts (in_CO _) t_CO t_CO_ok n_CO hown hK hP hD hS 0 rfl rfl 0 (by decide) (hts _ (List.mem_cons_of_mem _ mw_172)) (fun _ h9 => h9) rfl (by decide +kernel) rfl rfl (Nat.le_of_ble_eq_true rfl) d_CO_clear_2 (fun H locs hP hD hS => ?_)
  have hP : va_P (dC, dI) classes (wCO tC a (sCO_rows co 0)) H := hP
  have hD : va_D A (wCO tC a (sCO_rows co 0)) := hD
  refine lv_aload_n hx hb d_CO_clear_5 rfl (lv_at hl 0 rfl) ?_
  refine lv_lconst (v := 0) hx hb d_CO_clear_6 (by decide) ?_
  refine va_put (D := (dC, dI)) (ci := 7) (v := .long 0) (ty := .long) (C := R_CO) (T := F_CO) (N := 5) hx hb hts (in_CO _) t_CO t_CO_ok n_CO hown hK hP hD hS 0 rfl rfl 1 (by decide) (hts _ (List.mem_cons_of_mem _ mw_173)) (fun _ h9 => h9) rfl (by decide +kernel) rfl rfl (Nat.le_of_ble_eq_true rfl) d_CO_clear_7 (fun H locs hP hD hS => ?_)
  have hP : va_P (dC, dI) classes (wCO tC a (sCO_sum (sCO_rows co 0) 0)) H := hP
  have hD : va_D A (wCO tC a (sCO_sum (sCO_rows co 0) 0)) := hD
  refine lv_aload_n hx hb d_CO_clear_10 rfl (lv_at hl 0 rfl) ?_
  refine lv_lconst (v := 0) hx hb d_CO_clear_11 (by decide) ?_
  refine va_put (D := (dC, dI)) (ci := 7) (v := .long 0) (ty := .long) (C := R_CO) (T := F_CO) (N := 5) hx hb hts (in_CO _) t_CO t_CO_ok n_CO hown hK hP hD hS 0 rfl rfl 2 (by decide) (hts _ (List.mem_cons_of_mem _ mw_174)) (fun _ h9 => h9) rfl (by decide +kernel) rfl rfl (Nat.le_of_ble_eq_true rfl) d_CO_clear_12 (fun H locs hP hD hS => ?_)
  have hP : va_P (dC, dI) classes (wCO tC a (sCO_least (sCO_sum (sCO_rows co 0) 0) 0)) H := hP
  have hD : va_D A (wCO tC a (sCO_least (sCO_sum (sCO_rows co 0) 0) 0)) := hD
  refine lv_aload_n hx hb d_CO_clear_15 rfl (lv_at hl 0 rfl) ?_
  refine lv_lconst (v := 0) hx hb d_CO_clear_16 (by decide) ?_
  refine va_put (D := (dC, dI)) (ci := 7) (v := .long 0) (ty := .long) (C := R_CO) (T := F_CO) (N := 5) hx hb hts (in_CO _) t_CO t_CO_ok n_CO hown hK hP hD hS 0 rfl rfl 3 (by decide) (hts _ (List.mem_cons_of_mem _ mw_175)) (fun _ h9 => h9) rfl (by decide +kernel) rfl rfl (Nat.le_of_ble_eq_true rfl) d_CO_clear_17 (fun H locs hP hD hS => ?_)
  have hP : va_P (dC, dI) classes (wCO tC a (sCO_greatest (sCO_least (sCO_sum (sCO_rows co 0) 0) 0) 0)) H := hP
  have hD : va_D A (wCO tC a (sCO_greatest (sCO_least (sCO_sum (sCO_rows co 0) 0) 0) 0)) := hD
  refine lv_aload_n hx hb d_CO_clear_20 rfl (lv_at hl 0 rfl) ?_
  refine lv_lconst (v := 0) hx hb d_CO_clear_21 (by decide) ?_
  refine va_put (D := (dC, dI)) (ci := 7) (v := .long 0) (ty := .long) (C := R_CO) (T := F_CO) (N := 5) hx hb hts (in_CO _) t_CO t_CO_ok n_CO hown hK hP hD hS 0 rfl rfl 4 (by decide) (hts _ (List.mem_cons_of_mem _ mw_176)) (fun _ h9 => h9) rfl (by decide +kernel) rfl rfl (Nat.le_of_ble_eq_true rfl) d_CO_clear_22 (fun H locs hP hD hS => ?_)
  have hP : va_P (dC, dI) classes (wCO tC a (sCO_mix (sCO_greatest (sCO_least (sCO_sum (sCO_rows co 0) 0) 0) 0) 0)) H := hP
  have hD : va_D A (wCO tC a (sCO_mix (sCO_greatest (sCO_least (sCO_sum (sCO_rows co 0) 0) 0) 0) 0)) := hD
  cases hf
  exact cx_vret hx hb hr hlocks hP hS d_CO_clear_25
def f_CO_add_B5 (x1 : Int64) (co : COt) : Int64 :=
  if (CO_rows co) = 0 then (
    x1
  ) else
  (if x1 < (CO_least co) then x1 else (CO_least co))
def f_CO_add_B28 (x1 : Int64) (co : COt) (co_1 : COt) : Int64 :=
  if (CO_rows co) = 0 then (
    x1
  ) else
  (if x1 < (CO_greatest co_1) then (CO_greatest co_1) else x1)
def f_CO_add (x1 : Int64) (co : COt) : COt :=
  gl_let (f_CO_add_B5 x1 co) fun t =>
  gl_let ((sCO_least co t) : COt) fun co_1 =>
  gl_let (f_CO_add_B28 x1 co co_1) fun t_1 =>
  (sCO_mix (sCO_greatest (sCO_sum (sCO_rows co_1 ((CO_rows co_1) + 1)) ((CO_sum co_1) + x1)) t_1) ((31 * (CO_mix co_1)) + x1))
set_option maxHeartbeats 4000000 in
set_option maxRecDepth 100000 in
theorem c_CO_add (l : Launch) (dC : Nat → ClassId) (dI : Nat → Nat → Nat) (tC : Nat → ClassId) (a : Nat → Nat) (x1 : Int64) (co : COt) (coR : COt) (hf : f_CO_add x1 co = coR) : cx_M l y_CO_add w_CO_add { frames := 1, cells := 0, slots := 0, locals := 24 } (dC, dI) classes (tyS tC) [.ref (a 0), .long x1] (wCO tC a co) (wCO tC a coR) (none) := by
  refine cx_of (cc := b_CO_add) (maxL := 3) (ret := none) (plainFor_of_name (by decide)) rfl (Nat.le_of_ble_eq_true rfl) ?_
  intro p e s m below meth c hx hb hr hml hown hts hlocks A hA H locs ls hK hN hP hD hS hl
  have hown : s.vm.findClass R_CO = some m.cls := hown
  have hl : lv_has ls 3 [(0, .ref (a 0)), (1, .long x1)] := hl
  unfold f_CO_add at hf
  refine lv_aload_n hx hb d_CO_add_0 rfl (lv_at hl 0 rfl) ?_
  refine lv_aload_n hx hb d_CO_add_1 rfl (lv_at hl 0 rfl) ?_
  refine va_get (D := (dC, dI)) (ci := 7) (v := .int (CO_rows co)) (C := R_CO) (T := F_CO) (N := 5) hx hb hts (in_CO _) hown hK hP 0 rfl rfl 0 (by decide) (hts _ (List.mem_cons_of_mem _ mw_172)) (fun _ h9 => h9) rfl d_CO_add_2 ?_
  obtain ⟨t, hB_20⟩ : ∃ z : Int64, z = f_CO_add_B5 x1 co := ⟨_, rfl⟩
  have hf := g_let hf hB_20
  have hB_20 := hB_20.symm
  try dsimp only at hf
  have K_20 : ∀ (H : Heap) (locs : List Loc) (ls : Array Slot), va_P (dC, dI) classes (wCO tC a co) H → va_D A (wCO tC a co) → va_S A s.heap H locs → lv_has ls 3 [(0, .ref (a 0)), (1, .long x1)] → W p l e { frames := 1, cells := 0, slots := 0, locals := 24 } s m [.ref (a 0), .long x1].toArray below meth c H locs 0 0 (cx_Z (dC, dI) classes below [.ref (a 0), .long x1] s (wCO tC a coR) (none) A) (F0 m 20 ls [.long t, .ref (a 0)]) := by
    intro H locs ls hP hD hS hl
    refine va_put (D := (dC, dI)) (ci := 7) (v := .long t) (ty := .long) (C := R_CO) (T := F_CO) (N := 5) hx hb hts (in_CO _) t_CO t_CO_ok n_CO hown hK hP hD hS 0 rfl rfl 2 (by decide) (hts _ (List.mem_cons_of_mem _ mw_174)) (fun _ h9 => h9) rfl (by decide +kernel) rfl rfl (Nat.le_of_ble_eq_true rfl) d_CO_add_20 (fun H locs hP hD hS => ?_)
    have hP : va_P (dC, dI) classes (wCO tC a (sCO_least co t)) H := hP
    have hD : va_D A (wCO tC a (sCO_least co t)) := hD
    refine lv_aload_n hx hb d_CO_add_23 rfl (lv_at hl 0 rfl) ?_
    refine lv_aload_n hx hb d_CO_add_24 rfl (lv_at hl 0 rfl) ?_
    refine va_get (D := (dC, dI)) (ci := 7) (v := .int (CO_rows co)) (C := R_CO) (T := F_CO) (N := 5) hx hb hts (in_CO _) hown hK hP 0 rfl rfl 0 (by decide) (hts _ (List.mem_cons_of_mem _ mw_172)) (fun _ h9 => h9) rfl d_CO_add_25 ?_
    obtain ⟨co_1, h_co_1⟩ : ∃ z : COt, z = (sCO_least co t) := ⟨_, rfl⟩
    have hf := g_let hf h_co_1
    have hP : va_P (dC, dI) classes (wCO tC a co_1) H := by rw [h_co_1]; exact hP
    have hD : va_D A (wCO tC a co_1) := by rw [h_co_1]; exact hD
    obtain ⟨t_1, hB_43⟩ : ∃ z : Int64, z = f_CO_add_B28 x1 co co_1 := ⟨_, rfl⟩
    have hf := g_let hf hB_43
    have hB_43 := hB_43.symm
    try dsimp only at hf
    have K_43 : ∀ (H : Heap) (locs : List Loc) (ls : Array Slot), va_P (dC, dI) classes (wCO tC a co_1) H → va_D A (wCO tC a co_1) → va_S A s.heap H locs → lv_has ls 3 [(0, .ref (a 0)), (1, .long x1)] → W p l e { frames := 1, cells := 0, slots := 0, locals := 24 } s m [.ref (a 0), .long x1].toArray below meth c H locs 0 0 (cx_Z (dC, dI) classes below [.ref (a 0), .long x1] s (wCO tC a coR) (none) A) (F0 m 43 ls [.long t_1, .ref (a 0)]) := by
      intro H locs ls hP hD hS hl
      refine va_put (D := (dC, dI)) (ci := 7) (v := .long t_1) (ty := .long) (C := R_CO) (T := F_CO) (N := 5) hx hb hts (in_CO _) t_CO t_CO_ok n_CO hown hK hP hD hS 0 rfl rfl 3 (by decide) (hts _ (List.mem_cons_of_mem _ mw_175)) (fun _ h9 => h9) rfl (by decide +kernel) rfl rfl (Nat.le_of_ble_eq_true rfl) d_CO_add_43 (fun H locs hP hD hS => ?_)
      have hP : va_P (dC, dI) classes (wCO tC a (sCO_greatest co_1 t_1)) H := hP
      have hD : va_D A (wCO tC a (sCO_greatest co_1 t_1)) := hD
      refine lv_aload_n hx hb d_CO_add_46 rfl (lv_at hl 0 rfl) ?_
      refine lv_dup hx hb d_CO_add_47 rfl ?_
      refine va_get (D := (dC, dI)) (ci := 7) (v := .int (CO_rows co_1)) (C := R_CO) (T := F_CO) (N := 5) hx hb hts (in_CO _) hown hK hP 0 rfl rfl 0 (by decide) (hts _ (List.mem_cons_of_mem _ mw_172)) (fun _ h9 => h9) rfl d_CO_add_48 ?_
      refine lv_iconst (v := 1) hx hb d_CO_add_51 (by decide) ?_
      refine lv_iadd hx hb d_CO_add_52 ?_
      refine va_put (D := (dC, dI)) (ci := 7) (v := .int ((CO_rows co_1) + 1)) (ty := .int) (C := R_CO) (T := F_CO) (N := 5) hx hb hts (in_CO _) t_CO t_CO_ok n_CO hown hK hP hD hS 0 rfl rfl 0 (by decide) (hts _ (List.mem_cons_of_mem _ mw_172)) (fun _ h9 => h9) rfl (by decide +kernel) rfl rfl (Nat.le_of_ble_eq_true rfl) d_CO_add_53 (fun H locs hP hD hS => ?_)
      have hP : va_P (dC, dI) classes (wCO tC a (sCO_greatest (sCO_rows co_1 ((CO_rows co_1) + 1)) t_1)) H := hP
      have hD : va_D A (wCO tC a (sCO_greatest (sCO_rows co_1 ((CO_rows co_1) + 1)) t_1)) := hD
      refine lv_aload_n hx hb d_CO_add_56 rfl (lv_at hl 0 rfl) ?_
      refine lv_dup hx hb d_CO_add_57 rfl ?_
      refine va_get (D := (dC, dI)) (ci := 7) (v := .long (CO_sum co_1)) (C := R_CO) (T := F_CO) (N := 5) hx hb hts (in_CO _) hown hK hP 0 rfl rfl 1 (by decide) (hts _ (List.mem_cons_of_mem _ mw_173)) (fun _ h9 => h9) rfl d_CO_add_58 ?_
      refine lv_lload_n hx hb d_CO_add_61 rfl (lv_at hl 1 rfl) ?_
      refine lv_ladd hx hb d_CO_add_62 ?_
      refine va_put (D := (dC, dI)) (ci := 7) (v := .long ((CO_sum co_1) + x1)) (ty := .long) (C := R_CO) (T := F_CO) (N := 5) hx hb hts (in_CO _) t_CO t_CO_ok n_CO hown hK hP hD hS 0 rfl rfl 1 (by decide) (hts _ (List.mem_cons_of_mem _ mw_173)) (fun _ h9 => h9) rfl (by decide +kernel) rfl rfl (Nat.le_of_ble_eq_true rfl) d_CO_add_63 (fun H locs hP hD hS => ?_)
      have hP : va_P (dC, dI) classes (wCO tC a (sCO_greatest (sCO_sum (sCO_rows co_1 ((CO_rows co_1) + 1)) ((CO_sum co_1) + x1)) t_1)) H := hP
      have hD : va_D A (wCO tC a (sCO_greatest (sCO_sum (sCO_rows co_1 ((CO_rows co_1) + 1)) ((CO_sum co_1) + x1)) t_1)) := hD
      refine lv_aload_n hx hb d_CO_add_66 rfl (lv_at hl 0 rfl) ?_
      refine lv_ldc2 (v := 31) hx hb hown (hts _ (List.mem_cons_of_mem _ mw_353)) d_CO_add_67 ?_
      refine lv_aload_n hx hb d_CO_add_70 rfl (lv_at hl 0 rfl) ?_
      refine va_get (D := (dC, dI)) (ci := 7) (v := .long (CO_mix co_1)) (C := R_CO) (T := F_CO) (N := 5) hx hb hts (in_CO _) hown hK hP 0 rfl rfl 4 (by decide) (hts _ (List.mem_cons_of_mem _ mw_176)) (fun _ h9 => h9) rfl d_CO_add_71 ?_
      refine lv_lmul hx hb d_CO_add_74 ?_
      refine lv_lload_n hx hb d_CO_add_75 rfl (lv_at hl 1 rfl) ?_
      refine lv_ladd hx hb d_CO_add_76 ?_
      refine va_put (D := (dC, dI)) (ci := 7) (v := .long ((31 * (CO_mix co_1)) + x1)) (ty := .long) (C := R_CO) (T := F_CO) (N := 5) hx hb hts (in_CO _) t_CO t_CO_ok n_CO hown hK hP hD hS 0 rfl rfl 4 (by decide) (hts _ (List.mem_cons_of_mem _ mw_176)) (fun _ h9 => h9) rfl (by decide +kernel) rfl rfl (Nat.le_of_ble_eq_true rfl) d_CO_add_77 (fun H locs hP hD hS => ?_)
      have hP : va_P (dC, dI) classes (wCO tC a (sCO_mix (sCO_greatest (sCO_sum (sCO_rows co_1 ((CO_rows co_1) + 1)) ((CO_sum co_1) + x1)) t_1) ((31 * (CO_mix co_1)) + x1))) H := hP
      have hD : va_D A (wCO tC a (sCO_mix (sCO_greatest (sCO_sum (sCO_rows co_1 ((CO_rows co_1) + 1)) ((CO_sum co_1) + x1)) t_1) ((31 * (CO_mix co_1)) + x1))) := hD
      cases hf
      exact cx_vret hx hb hr hlocks hP hS d_CO_add_80
    have hf := hB_43
    unfold f_CO_add_B28 at hf
    refine lv_if_ne (tgt := 35) hx hb d_CO_add_28 (by decide) (fun cb_1 => ?_) (fun cb_1 => ?_)
    · have hf := g_f hf cb_1
      refine lv_aload_n hx hb d_CO_add_35 rfl (lv_at hl 0 rfl) ?_
      refine va_get (D := (dC, dI)) (ci := 7) (v := .long (CO_greatest co_1)) (C := R_CO) (T := F_CO) (N := 5) hx hb hts (in_CO _) hown hK hP 0 rfl rfl 3 (by decide) (hts _ (List.mem_cons_of_mem _ mw_175)) (fun _ h9 => h9) rfl d_CO_add_36 ?_
      refine lv_lload_n hx hb d_CO_add_39 rfl (lv_at hl 1 rfl) ?_
      refine va_mmax_long hx hb (by rw [hml]; exact hl.1.symm) hown (hts _ (List.mem_cons_of_mem _ mw_350)) (hts _ (List.mem_cons_of_mem _ mw_351)) (hts _ (List.mem_cons_of_mem _ mw_14)) (hts _ (List.mem_cons_of_mem _ mw_352)) (Nat.le_of_ble_eq_true rfl) (Nat.le_of_ble_eq_true rfl) (Nat.zero_le _) (Nat.zero_le _) d_CO_add_40 ?_
      cases hf
      exact K_43 _ _ _ hP hD hS (lv_sub hl [0, 1] rfl)
    · have hf := g_t hf cb_1
      refine lv_lload_n hx hb d_CO_add_31 rfl (lv_at hl 1 rfl) ?_
      refine lv_goto (tgt := 43) hx hb d_CO_add_32 (by decide) ?_
      cases hf
      exact K_43 _ _ _ hP hD hS (lv_sub hl [0, 1] rfl)
  have hf := hB_20
  unfold f_CO_add_B5 at hf
  refine lv_if_ne (tgt := 12) hx hb d_CO_add_5 (by decide) (fun cb => ?_) (fun cb => ?_)
  · have hf := g_f hf cb
    refine lv_aload_n hx hb d_CO_add_12 rfl (lv_at hl 0 rfl) ?_
    refine va_get (D := (dC, dI)) (ci := 7) (v := .long (CO_least co)) (C := R_CO) (T := F_CO) (N := 5) hx hb hts (in_CO _) hown hK hP 0 rfl rfl 2 (by decide) (hts _ (List.mem_cons_of_mem _ mw_174)) (fun _ h9 => h9) rfl d_CO_add_13 ?_
    refine lv_lload_n hx hb d_CO_add_16 rfl (lv_at hl 1 rfl) ?_
    refine va_mmin_long hx hb (by rw [hml]; exact hl.1.symm) hown (hts _ (List.mem_cons_of_mem _ mw_347)) (hts _ (List.mem_cons_of_mem _ mw_348)) (hts _ (List.mem_cons_of_mem _ mw_14)) (hts _ (List.mem_cons_of_mem _ mw_349)) (Nat.le_of_ble_eq_true rfl) (Nat.le_of_ble_eq_true rfl) (Nat.zero_le _) (Nat.zero_le _) d_CO_add_17 ?_
    cases hf
    exact K_20 _ _ _ hP hD hS (lv_sub hl [0, 1] rfl)
  · have hf := g_t hf cb
    refine lv_lload_n hx hb d_CO_add_8 rfl (lv_at hl 1 rfl) ?_
    refine lv_goto (tgt := 20) hx hb d_CO_add_9 (by decide) ?_
    cases hf
    exact K_20 _ _ _ hP hD hS (lv_sub hl [0, 1] rfl)
def f_CO_part (x1 : Int32) (co : COt) : Int64 :=
  if x1 = 4 then (
    (CO_rows co).toInt64
  ) else
  if x1 = 5 then (
    (CO_sum co)
  ) else
  if x1 = 6 then (
    (CO_least co)
  ) else
  if x1 = 7 then (
    (CO_greatest co)
  ) else
  (CO_mix co)
set_option maxHeartbeats 4000000 in
set_option maxRecDepth 100000 in
theorem c_CO_part (l : Launch) (dC : Nat → ClassId) (dI : Nat → Nat → Nat) (tC : Nat → ClassId) (a : Nat → Nat) (x1 : Int32) (co : COt) (res : Int64) (hf : f_CO_part x1 co = res) : cx_M l y_CO_part w_CO_part { frames := 0, cells := 0, slots := 0, locals := 0 } (dC, dI) classes (tyS tC) [.ref (a 0), .int x1] (wCO tC a co) (wCO tC a co) (some (.long res)) := by
  refine cx_of (cc := b_CO_part) (maxL := 2) (ret := some .long) (plainFor_of_name (by decide)) rfl (Nat.le_of_ble_eq_true rfl) ?_
  intro p e s m below meth c hx hb hr hml hown hts hlocks A hA H locs ls hK hN hP hD hS hl
  have hown : s.vm.findClass R_CO = some m.cls := hown
  have hl : lv_has ls 2 [(0, .ref (a 0)), (1, .int x1)] := hl
  unfold f_CO_part at hf
  refine lv_iload_n hx hb d_CO_part_0 rfl (lv_at hl 1 rfl) ?_
  by_cases cb : x1 = 4
  · have hf := g_t hf cb
    refine lv_tableIn (tgt := 32) hx hb d_CO_part_1 (by rw [cb]; decide) (by rw [cb]; decide) (by rw [cb]; rfl) (by decide) ?_
    refine lv_aload_n hx hb d_CO_part_32 rfl (lv_at hl 0 rfl) ?_
    refine va_get (D := (dC, dI)) (ci := 7) (v := .int (CO_rows co)) (C := R_CO) (T := F_CO) (N := 5) hx hb hts (in_CO _) hown hK hP 0 rfl rfl 0 (by decide) (hts _ (List.mem_cons_of_mem _ mw_172)) (fun _ h9 => h9) rfl d_CO_part_33 ?_
    refine lv_i2l hx hb d_CO_part_36 rfl ?_
    cases hf
    exact cx_lret hx hb hr hlocks hP hS d_CO_part_37
  have hf := g_f hf cb
  by_cases cb_1 : x1 = 5
  · have hf := g_t hf cb_1
    refine lv_tableIn (tgt := 38) hx hb d_CO_part_1 (by rw [cb_1]; decide) (by rw [cb_1]; decide) (by rw [cb_1]; rfl) (by decide) ?_
    refine lv_aload_n hx hb d_CO_part_38 rfl (lv_at hl 0 rfl) ?_
    refine va_get (D := (dC, dI)) (ci := 7) (v := .long (CO_sum co)) (C := R_CO) (T := F_CO) (N := 5) hx hb hts (in_CO _) hown hK hP 0 rfl rfl 1 (by decide) (hts _ (List.mem_cons_of_mem _ mw_173)) (fun _ h9 => h9) rfl d_CO_part_39 ?_
    cases hf
    exact cx_lret hx hb hr hlocks hP hS d_CO_part_42
  have hf := g_f hf cb_1
  by_cases cb_2 : x1 = 6
  · have hf := g_t hf cb_2
    refine lv_tableIn (tgt := 43) hx hb d_CO_part_1 (by rw [cb_2]; decide) (by rw [cb_2]; decide) (by rw [cb_2]; rfl) (by decide) ?_
    refine lv_aload_n hx hb d_CO_part_43 rfl (lv_at hl 0 rfl) ?_
    refine va_get (D := (dC, dI)) (ci := 7) (v := .long (CO_least co)) (C := R_CO) (T := F_CO) (N := 5) hx hb hts (in_CO _) hown hK hP 0 rfl rfl 2 (by decide) (hts _ (List.mem_cons_of_mem _ mw_174)) (fun _ h9 => h9) rfl d_CO_part_44 ?_
    cases hf
    exact cx_lret hx hb hr hlocks hP hS d_CO_part_47
  have hf := g_f hf cb_2
  by_cases cb_3 : x1 = 7
  · have hf := g_t hf cb_3
    refine lv_tableIn (tgt := 48) hx hb d_CO_part_1 (by rw [cb_3]; decide) (by rw [cb_3]; decide) (by rw [cb_3]; rfl) (by decide) ?_
    refine lv_aload_n hx hb d_CO_part_48 rfl (lv_at hl 0 rfl) ?_
    refine va_get (D := (dC, dI)) (ci := 7) (v := .long (CO_greatest co)) (C := R_CO) (T := F_CO) (N := 5) hx hb hts (in_CO _) hown hK hP 0 rfl rfl 3 (by decide) (hts _ (List.mem_cons_of_mem _ mw_175)) (fun _ h9 => h9) rfl d_CO_part_49 ?_
    cases hf
    exact cx_lret hx hb hr hlocks hP hS d_CO_part_52
  have hf := g_f hf cb_3
  have n_cb := cx_ne (n := 4) (by decide) cb
  have n_cb_1 := cx_ne (n := 5) (by decide) cb_1
  have n_cb_2 := cx_ne (n := 6) (by decide) cb_2
  have n_cb_3 := cx_ne (n := 7) (by decide) cb_3
  refine lv_tableOut (tgt := 53) hx hb d_CO_part_1 (by omega) (by decide) ?_
  refine lv_aload_n hx hb d_CO_part_53 rfl (lv_at hl 0 rfl) ?_
  refine va_get (D := (dC, dI)) (ci := 7) (v := .long (CO_mix co)) (C := R_CO) (T := F_CO) (N := 5) hx hb hts (in_CO _) hown hK hP 0 rfl rfl 4 (by decide) (hts _ (List.mem_cons_of_mem _ mw_176)) (fun _ h9 => h9) rfl d_CO_part_54 ?_
  cases hf
  exact cx_lret hx hb hr hlocks hP hS d_CO_part_57
def f_FS_kept (fs : FSt) : Int32 :=
  (if 400 < (FS_total fs) then 400 else (FS_total fs))
set_option maxHeartbeats 4000000 in
set_option maxRecDepth 100000 in
theorem c_FS_kept (l : Launch) (dC : Nat → ClassId) (dI : Nat → Nat → Nat) (tC : Nat → ClassId) (a : Nat → Nat) (fs : FSt) (res : Int32) (hf : f_FS_kept fs = res) : cx_M l y_FS_kept w_FS_kept { frames := 1, cells := 0, slots := 0, locals := 24 } (dC, dI) classes (tyS tC) [.ref (a 0)] (wFS tC a fs) (wFS tC a fs) (some (.int res)) := by
  refine cx_of (cc := b_FS_kept) (maxL := 1) (ret := some .int) (plainFor_of_name (by decide)) rfl (Nat.le_of_ble_eq_true rfl) ?_
  intro p e s m below meth c hx hb hr hml hown hts hlocks A hA H locs ls hK hN hP hD hS hl
  have hown : s.vm.findClass R_FS = some m.cls := hown
  have hl : lv_has ls 1 [(0, .ref (a 0))] := hl
  unfold f_FS_kept at hf
  refine lv_aload_n hx hb d_FS_kept_0 rfl (lv_at hl 0 rfl) ?_
  refine va_get (D := (dC, dI)) (ci := 6) (v := .int (FS_total fs)) (C := R_FS) (T := F_FS) (N := 4) hx hb hts (in_FS _) hown hK hP 0 rfl rfl 1 (by decide) (hts _ (List.mem_cons_of_mem _ mw_151)) (fun _ h9 => h9) rfl d_FS_kept_1 ?_
  refine lv_sipush (v := 400) hx hb d_FS_kept_4 (by decide) ?_
  refine va_mmin hx hb (by rw [hml]; exact hl.1.symm) hown (hts _ (List.mem_cons_of_mem _ mw_419)) (hts _ (List.mem_cons_of_mem _ mw_420)) (hts _ (List.mem_cons_of_mem _ mw_14)) (hts _ (List.mem_cons_of_mem _ mw_421)) (Nat.le_of_ble_eq_true rfl) (Nat.le_of_ble_eq_true rfl) (Nat.zero_le _) (Nat.zero_le _) d_FS_kept_7 ?_
  cases hf
  exact cx_iret hx hb hr hlocks hP hS d_FS_kept_10
def f_FS_cell (x1 : Int32) (x2 : Int32) (fs : FSt) : Option Int64 :=
  if ((((((FS_total fs) - (f_FS_kept fs)) + x1) - (((FS_total fs) - (f_FS_kept fs)) + x1) / 400 * 400) * 10) + x2) < 0 ∨ 4000 ≤ ((((((FS_total fs) - (f_FS_kept fs)) + x1) - (((FS_total fs) - (f_FS_kept fs)) + x1) / 400 * 400) * 10) + x2).toNatClampNeg then none else
  some (FS_cells fs ((((((FS_total fs) - (f_FS_kept fs)) + x1) - (((FS_total fs) - (f_FS_kept fs)) + x1) / 400 * 400) * 10) + x2).toNatClampNeg)
set_option maxHeartbeats 4000000 in
set_option maxRecDepth 100000 in
theorem c_FS_cell (l : Launch) (dC : Nat → ClassId) (dI : Nat → Nat → Nat) (tC : Nat → ClassId) (a : Nat → Nat) (x1 : Int32) (x2 : Int32) (fs : FSt) (res : Int64) (hf : f_FS_cell x1 x2 fs = some res) : cx_M l y_FS_cell w_FS_cell { frames := 2, cells := 0, slots := 0, locals := 44 } (dC, dI) classes (tyS tC) [.ref (a 0), .int x1, .int x2] (wFS tC a fs) (wFS tC a fs) (some (.long res)) := by
  refine cx_of (cc := b_FS_cell) (maxL := 3) (ret := some .long) (plainFor_of_name (by decide)) rfl (Nat.le_of_ble_eq_true rfl) ?_
  intro p e s m below meth c hx hb hr hml hown hts hlocks A hA H locs ls hK hN hP hD hS hl
  have hown : s.vm.findClass R_FS = some m.cls := hown
  have hl : lv_has ls 3 [(0, .ref (a 0)), (1, .int x1), (2, .int x2)] := hl
  unfold f_FS_cell at hf
  refine lv_aload_n hx hb d_FS_cell_0 rfl (lv_at hl 0 rfl) ?_
  refine va_get (D := (dC, dI)) (ci := 6) (v := .ref (a 1)) (C := R_FS) (T := F_FS) (N := 4) hx hb hts (in_FS _) hown hK hP 0 rfl rfl 0 (by decide) (hts _ (List.mem_cons_of_mem _ mw_150)) (fun _ h9 => h9) rfl d_FS_cell_1 ?_
  refine lv_aload_n hx hb d_FS_cell_4 rfl (lv_at hl 0 rfl) ?_
  refine va_get (D := (dC, dI)) (ci := 6) (v := .int (FS_total fs)) (C := R_FS) (T := F_FS) (N := 4) hx hb hts (in_FS _) hown hK hP 0 rfl rfl 1 (by decide) (hts _ (List.mem_cons_of_mem _ mw_151)) (fun _ h9 => h9) rfl d_FS_cell_5 ?_
  refine lv_aload_n hx hb d_FS_cell_8 rfl (lv_at hl 0 rfl) ?_
  refine cx_callV (As := []) (rest := [.int (FS_total fs), .ref (a 1)]) ⟨hx, hb, hml, hown, hts⟩ (c_FS_kept l dC dI tC a fs (f_FS_kept fs) rfl) (k_FS_31 hts ⟨Nat.le_of_ble_eq_true rfl, Nat.le_of_ble_eq_true rfl⟩) hl.1 hP hD hS hA hK hN [0, 1] 0 6 rfl rfl rfl rfl rfl rfl rfl rfl (Nat.le_of_ble_eq_true rfl) d_FS_cell_9 ⟨Nat.zero_le _, Nat.zero_le _⟩ (fun H locs hP hD hS => ?_)
  have hP : va_P (dC, dI) classes (wFS tC a fs) H := hP
  have hD : va_D A (wFS tC a fs) := hD
  refine W.eq (g2 := F0 m 12 ls [.int (f_FS_kept fs), .int (FS_total fs), .ref (a 1)]) rfl ?_
  refine lv_isub hx hb d_FS_cell_12 ?_
  refine lv_iload_n hx hb d_FS_cell_13 rfl (lv_at hl 1 rfl) ?_
  refine lv_iadd hx hb d_FS_cell_14 ?_
  refine lv_sipush (v := 400) hx hb d_FS_cell_15 (by decide) ?_
  refine lv_irem hx hb d_FS_cell_18 (by decide) ?_
  refine lv_bipush (v := 10) hx hb d_FS_cell_19 (by decide) ?_
  refine lv_imul hx hb d_FS_cell_21 ?_
  refine lv_iload_n hx hb d_FS_cell_22 rfl (lv_at hl 2 rfl) ?_
  refine lv_iadd hx hb d_FS_cell_23 ?_
  obtain ⟨ck, hf⟩ := g_ck hf
  refine va_lald (D := (dC, dI)) hx hb hK hP 1 1 rfl rfl ck d_FS_cell_24 ?_
  cases hf
  exact cx_lret hx hb hr hlocks hP hS d_FS_cell_25
def f_FS_add_L58 (co : COt) (v9 : Int32) : Nat → Int32 → FSt → Option (FSt)
  | 0, _, _ => none
  | n + 1, v10, fs_2 =>
    if 8 < v10 then (
      some fs_2
    ) else
    if (v9 + v10) < 0 ∨ 4000 ≤ (v9 + v10).toNatClampNeg then none else
    gl_let (v10 + 1) fun v10_1 =>
    gl_let ((sFS_cells fs_2 (vp_updL (FS_cells fs_2) (v9 + v10).toNatClampNeg (f_CO_part v10 co))) : FSt) fun fs_4 =>
    f_FS_add_L58 co v9 n v10_1 fs_4
def f_FS_add (k : Nat) (x1 : Int32) (x2 : Int64) (x4 : Int64) (x6 : Int32) (x7 : Int32) (fs : FSt) (co : COt) : Option FSt :=
  gl_let ((((FS_total fs) - (FS_total fs) / 400 * 400) * 10)) fun v9 =>
  if v9 < 0 ∨ 4000 ≤ v9.toNatClampNeg then none else
  if (v9 + 1) < 0 ∨ 4000 ≤ (v9 + 1).toNatClampNeg then none else
  if (v9 + 2) < 0 ∨ 4000 ≤ (v9 + 2).toNatClampNeg then none else
  if (v9 + 3) < 0 ∨ 4000 ≤ (v9 + 3).toNatClampNeg then none else
  gl_let ((sFS_cells fs (vp_updL (vp_updL (vp_updL (vp_updL (FS_cells fs) v9.toNatClampNeg (x1.toInt64)) (v9 + 1).toNatClampNeg x2) (v9 + 2).toNatClampNeg x4) (v9 + 3).toNatClampNeg (x6.toInt64))) : FSt) fun fs_1 =>
  (f_FS_add_L58 co v9 k 4 fs_1).bind fun fs_3 =>
  if (v9 + 9) < 0 ∨ 4000 ≤ (v9 + 9).toNatClampNeg then none else
  if x6 = 0 then (
    some (sFS_early (sFS_total (sFS_cells fs_3 (vp_updL (FS_cells fs_3) (v9 + 9).toNatClampNeg (x7.toInt64))) ((FS_total fs_3) + 1)) ((FS_early fs_3) + 1))
  ) else
  if x6 = 2 then (
    some (sFS_lately (sFS_total (sFS_cells fs_3 (vp_updL (FS_cells fs_3) (v9 + 9).toNatClampNeg (x7.toInt64))) ((FS_total fs_3) + 1)) ((FS_lately fs_3) + 1))
  ) else
  some (sFS_total (sFS_cells fs_3 (vp_updL (FS_cells fs_3) (v9 + 9).toNatClampNeg (x7.toInt64))) ((FS_total fs_3) + 1))
set_option maxHeartbeats 4000000 in
set_option maxRecDepth 100000 in
theorem c_FS_add (l : Launch) (dC : Nat → ClassId) (dI : Nat → Nat → Nat) (tC : Nat → ClassId) (a : Nat → Nat) (a_q8 : Nat → Nat) (k : Nat) (x1 : Int32) (x2 : Int64) (x4 : Int64) (x6 : Int32) (x7 : Int32) (fs : FSt) (co : COt) (fsR : FSt) (hf : f_FS_add k x1 x2 x4 x6 x7 fs co = some fsR) : cx_M l y_FS_add w_FS_add { frames := 1, cells := 0, slots := 0, locals := 21 } (dC, dI) classes (tyS tC) [.ref (a 0), .int x1, .long x2, .long x4, .int x6, .int x7, .ref (a_q8 0)] (wFS tC a fs ++ wCO tC a_q8 co) (wFS tC a fsR ++ wCO tC a_q8 co) (none) := by
  refine cx_of (cc := b_FS_add) (maxL := 11) (ret := none) (plainFor_of_name (by decide)) rfl (Nat.le_of_ble_eq_true rfl) ?_
  intro p e s m below meth c hx hb hr hml hown hts hlocks A hA H locs ls hK hN hP hD hS hl
  have hown : s.vm.findClass R_FS = some m.cls := hown
  have hl : lv_has ls 11 [(0, .ref (a 0)), (1, .int x1), (2, .long x2), (4, .long x4), (6, .int x6), (7, .int x7), (8, .ref (a_q8 0))] := hl
  unfold f_FS_add at hf
  refine lv_aload_n hx hb d_FS_add_0 rfl (lv_at hl 0 rfl) ?_
  refine va_get (D := (dC, dI)) (ci := 6) (v := .int (FS_total fs)) (C := R_FS) (T := F_FS) (N := 4) hx hb hts (in_FS _) hown hK hP 0 rfl rfl 1 (by decide) (hts _ (List.mem_cons_of_mem _ mw_151)) (fun _ h9 => h9) rfl d_FS_add_1 ?_
  refine lv_sipush (v := 400) hx hb d_FS_add_4 (by decide) ?_
  refine lv_irem hx hb d_FS_add_7 (by decide) ?_
  refine lv_bipush (v := 10) hx hb d_FS_add_8 (by decide) ?_
  refine lv_imul hx hb d_FS_add_10 ?_
  refine lv_topi (fun v9 h_v9 => ?_)
  have hf := g_let hf h_v9
  refine lv_istore (lv' := [(9, .int v9), (0, .ref (a 0)), (1, .int x1), (2, .long x2), (4, .long x4), (6, .int x6), (7, .int x7), (8, .ref (a_q8 0))]) hx hb d_FS_add_11 hl (by decide) rfl (fun ls hl => ?_)
  refine lv_aload_n hx hb d_FS_add_13 rfl (lv_at hl 1 rfl) ?_
  refine va_get (D := (dC, dI)) (ci := 6) (v := .ref (a 1)) (C := R_FS) (T := F_FS) (N := 4) hx hb hts (in_FS _) hown hK hP 0 rfl rfl 0 (by decide) (hts _ (List.mem_cons_of_mem _ mw_150)) (fun _ h9 => h9) rfl d_FS_add_14 ?_
  refine lv_iload hx hb d_FS_add_17 (lv_at hl 0 rfl) ?_
  refine lv_iload_n hx hb d_FS_add_19 rfl (lv_at hl 2 rfl) ?_
  refine lv_i2l hx hb d_FS_add_20 rfl ?_
  obtain ⟨ck, hf⟩ := g_ck hf
  refine va_last (D := (dC, dI)) hx hb hK hP hD hS 1 1 rfl rfl ck d_FS_add_21 (fun H locs hP hD hS => ?_)
  have hP : va_P (dC, dI) classes (wFS tC a (sFS_cells fs (vp_updL (FS_cells fs) v9.toNatClampNeg (x1.toInt64))) ++ wCO tC a_q8 co) H := hP
  have hD : va_D A (wFS tC a (sFS_cells fs (vp_updL (FS_cells fs) v9.toNatClampNeg (x1.toInt64))) ++ wCO tC a_q8 co) := hD
  refine lv_aload_n hx hb d_FS_add_22 rfl (lv_at hl 1 rfl) ?_
  refine va_get (D := (dC, dI)) (ci := 6) (v := .ref (a 1)) (C := R_FS) (T := F_FS) (N := 4) hx hb hts (in_FS _) hown hK hP 0 rfl rfl 0 (by decide) (hts _ (List.mem_cons_of_mem _ mw_150)) (fun _ h9 => h9) rfl d_FS_add_23 ?_
  refine lv_iload hx hb d_FS_add_26 (lv_at hl 0 rfl) ?_
  refine lv_iconst (v := 1) hx hb d_FS_add_28 (by decide) ?_
  refine lv_iadd hx hb d_FS_add_29 ?_
  refine lv_lload_n hx hb d_FS_add_30 rfl (lv_at hl 3 rfl) ?_
  obtain ⟨ck_1, hf⟩ := g_ck hf
  refine va_last (D := (dC, dI)) hx hb hK hP hD hS 1 1 rfl rfl ck_1 d_FS_add_31 (fun H locs hP hD hS => ?_)
  have hP : va_P (dC, dI) classes (wFS tC a (sFS_cells fs (vp_updL (vp_updL (FS_cells fs) v9.toNatClampNeg (x1.toInt64)) (v9 + 1).toNatClampNeg x2)) ++ wCO tC a_q8 co) H := hP
  have hD : va_D A (wFS tC a (sFS_cells fs (vp_updL (vp_updL (FS_cells fs) v9.toNatClampNeg (x1.toInt64)) (v9 + 1).toNatClampNeg x2)) ++ wCO tC a_q8 co) := hD
  refine lv_aload_n hx hb d_FS_add_32 rfl (lv_at hl 1 rfl) ?_
  refine va_get (D := (dC, dI)) (ci := 6) (v := .ref (a 1)) (C := R_FS) (T := F_FS) (N := 4) hx hb hts (in_FS _) hown hK hP 0 rfl rfl 0 (by decide) (hts _ (List.mem_cons_of_mem _ mw_150)) (fun _ h9 => h9) rfl d_FS_add_33 ?_
  refine lv_iload hx hb d_FS_add_36 (lv_at hl 0 rfl) ?_
  refine lv_iconst (v := 2) hx hb d_FS_add_38 (by decide) ?_
  refine lv_iadd hx hb d_FS_add_39 ?_
  refine lv_lload hx hb d_FS_add_40 (lv_at hl 4 rfl) ?_
  obtain ⟨ck_2, hf⟩ := g_ck hf
  refine va_last (D := (dC, dI)) hx hb hK hP hD hS 1 1 rfl rfl ck_2 d_FS_add_42 (fun H locs hP hD hS => ?_)
  have hP : va_P (dC, dI) classes (wFS tC a (sFS_cells fs (vp_updL (vp_updL (vp_updL (FS_cells fs) v9.toNatClampNeg (x1.toInt64)) (v9 + 1).toNatClampNeg x2) (v9 + 2).toNatClampNeg x4)) ++ wCO tC a_q8 co) H := hP
  have hD : va_D A (wFS tC a (sFS_cells fs (vp_updL (vp_updL (vp_updL (FS_cells fs) v9.toNatClampNeg (x1.toInt64)) (v9 + 1).toNatClampNeg x2) (v9 + 2).toNatClampNeg x4)) ++ wCO tC a_q8 co) := hD
  refine lv_aload_n hx hb d_FS_add_43 rfl (lv_at hl 1 rfl) ?_
  refine va_get (D := (dC, dI)) (ci := 6) (v := .ref (a 1)) (C := R_FS) (T := F_FS) (N := 4) hx hb hts (in_FS _) hown hK hP 0 rfl rfl 0 (by decide) (hts _ (List.mem_cons_of_mem _ mw_150)) (fun _ h9 => h9) rfl d_FS_add_44 ?_
  refine lv_iload hx hb d_FS_add_47 (lv_at hl 0 rfl) ?_
  refine lv_iconst (v := 3) hx hb d_FS_add_49 (by decide) ?_
  refine lv_iadd hx hb d_FS_add_50 ?_
  refine lv_iload hx hb d_FS_add_51 (lv_at hl 5 rfl) ?_
  refine lv_i2l hx hb d_FS_add_53 rfl ?_
  obtain ⟨ck_3, hf⟩ := g_ck hf
  refine va_last (D := (dC, dI)) hx hb hK hP hD hS 1 1 rfl rfl ck_3 d_FS_add_54 (fun H locs hP hD hS => ?_)
  have hP : va_P (dC, dI) classes (wFS tC a (sFS_cells fs (vp_updL (vp_updL (vp_updL (vp_updL (FS_cells fs) v9.toNatClampNeg (x1.toInt64)) (v9 + 1).toNatClampNeg x2) (v9 + 2).toNatClampNeg x4) (v9 + 3).toNatClampNeg (x6.toInt64))) ++ wCO tC a_q8 co) H := hP
  have hD : va_D A (wFS tC a (sFS_cells fs (vp_updL (vp_updL (vp_updL (vp_updL (FS_cells fs) v9.toNatClampNeg (x1.toInt64)) (v9 + 1).toNatClampNeg x2) (v9 + 2).toNatClampNeg x4) (v9 + 3).toNatClampNeg (x6.toInt64))) ++ wCO tC a_q8 co) := hD
  refine lv_iconst (v := 4) hx hb d_FS_add_55 (by decide) ?_
  refine lv_istore (lv' := [(10, .int 4), (9, .int v9), (0, .ref (a 0)), (1, .int x1), (2, .long x2), (4, .long x4), (6, .int x6), (7, .int x7), (8, .ref (a_q8 0))]) hx hb d_FS_add_56 hl (by decide) rfl (fun ls hl => ?_)
  obtain ⟨fs_1, h_fs_1⟩ : ∃ z : FSt, z = (sFS_cells fs (vp_updL (vp_updL (vp_updL (vp_updL (FS_cells fs) v9.toNatClampNeg (x1.toInt64)) (v9 + 1).toNatClampNeg x2) (v9 + 2).toNatClampNeg x4) (v9 + 3).toNatClampNeg (x6.toInt64))) := ⟨_, rfl⟩
  have hf := g_let hf h_fs_1
  have hP : va_P (dC, dI) classes (wFS tC a fs_1 ++ wCO tC a_q8 co) H := by rw [h_fs_1]; exact hP
  have hD : va_D A (wFS tC a fs_1 ++ wCO tC a_q8 co) := by rw [h_fs_1]; exact hD
  have L_58 : ∀ (n : Nat) (v10 : Int32) (fs_2 : FSt) (fs_3 : FSt), f_FS_add_L58 co v9 n v10 fs_2 = some fs_3 → ∀ (H : Heap) (locs : List Loc) (ls : Array Slot), va_P (dC, dI) classes (wFS tC a fs_2 ++ wCO tC a_q8 co) H → va_D A (wFS tC a fs_2 ++ wCO tC a_q8 co) → va_S A s.heap H locs → lv_has ls 11 [(0, .ref (a 0)), (6, .int x6), (7, .int x7), (8, .ref (a_q8 0)), (9, .int v9), (10, .int v10)] → (∀ (H : Heap) (locs : List Loc) (ls : Array Slot), va_P (dC, dI) classes (wFS tC a fs_3 ++ wCO tC a_q8 co) H → va_D A (wFS tC a fs_3 ++ wCO tC a_q8 co) → va_S A s.heap H locs → lv_has ls 11 [(0, .ref (a 0)), (6, .int x6), (7, .int x7), (9, .int v9)] → W p l e { frames := 1, cells := 0, slots := 0, locals := 21 } s m [.ref (a 0), .int x1, .long x2, .long x4, .int x6, .int x7, .ref (a_q8 0)].toArray below meth c H locs 0 0 (cx_Z (dC, dI) classes below [.ref (a 0), .int x1, .long x2, .long x4, .int x6, .int x7, .ref (a_q8 0)] s (wFS tC a fsR ++ wCO tC a_q8 co) (none) A) (F0 m 88 ls [])) → W p l e { frames := 1, cells := 0, slots := 0, locals := 21 } s m [.ref (a 0), .int x1, .long x2, .long x4, .int x6, .int x7, .ref (a_q8 0)].toArray below meth c H locs 0 0 (cx_Z (dC, dI) classes below [.ref (a 0), .int x1, .long x2, .long x4, .int x6, .int x7, .ref (a_q8 0)] s (wFS tC a fsR ++ wCO tC a_q8 co) (none) A) (F0 m 58 ls []) := by
    intro n
    induction n with
    | zero =>
      intro v10 fs_2 fs_3 hf
      rw [f_FS_add_L58] at hf
      cases hf
    | succ n ih =>
      intro v10 fs_2 fs_3 hf H locs ls hP hD hS hl kk
      rw [f_FS_add_L58] at hf
      refine lv_iload hx hb d_FS_add_58 (lv_at hl 5 rfl) ?_
      refine lv_bipush (v := 8) hx hb d_FS_add_60 (by decide) ?_
      refine lv_icmp_gt (tgt := 88) hx hb d_FS_add_62 (by decide) (fun cb => ?_) (fun cb => ?_)
      · have hf := g_t hf cb
        cases hf
        exact kk _ _ _ hP hD hS (lv_sub hl [0, 1, 2, 4] rfl)
      · have hf := g_f hf cb
        refine lv_aload_n hx hb d_FS_add_65 rfl (lv_at hl 0 rfl) ?_
        refine va_get (D := (dC, dI)) (ci := 6) (v := .ref (a 1)) (C := R_FS) (T := F_FS) (N := 4) hx hb hts (in_FS _) hown hK hP 0 rfl rfl 0 (by decide) (hts _ (List.mem_cons_of_mem _ mw_150)) (fun _ h9 => h9) rfl d_FS_add_66 ?_
        refine lv_iload hx hb d_FS_add_69 (lv_at hl 4 rfl) ?_
        refine lv_iload hx hb d_FS_add_71 (lv_at hl 5 rfl) ?_
        refine lv_iadd hx hb d_FS_add_73 ?_
        refine lv_aload hx hb d_FS_add_74 (lv_at hl 3 rfl) ?_
        refine lv_iload hx hb d_FS_add_76 (lv_at hl 5 rfl) ?_
        refine cx_callV (As := [.int v10]) (rest := [.int (v9 + v10), .ref (a 1)]) ⟨hx, hb, hml, hown, hts⟩ (c_CO_part l dC dI tC a_q8 v10 co (f_CO_part v10 co) rfl) (k_FS_35 hts ⟨Nat.le_of_ble_eq_true rfl, Nat.le_of_ble_eq_true rfl⟩) hl.1 hP hD hS hA hK hN [2] 2 7 rfl rfl rfl rfl rfl rfl rfl rfl (Nat.le_of_ble_eq_true rfl) d_FS_add_78 ⟨Nat.zero_le _, Nat.zero_le _⟩ (fun H locs hP hD hS => ?_)
        have hP : va_P (dC, dI) classes (wFS tC a fs_2 ++ wCO tC a_q8 co) H := hP
        have hD : va_D A (wFS tC a fs_2 ++ wCO tC a_q8 co) := hD
        refine W.eq (g2 := F0 m 81 ls [.long (f_CO_part v10 co), .int (v9 + v10), .ref (a 1)]) rfl ?_
        obtain ⟨ck_4, hf⟩ := g_ck hf
        refine va_last (D := (dC, dI)) hx hb hK hP hD hS 1 1 rfl rfl ck_4 d_FS_add_81 (fun H locs hP hD hS => ?_)
        have hP : va_P (dC, dI) classes (wFS tC a (sFS_cells fs_2 (vp_updL (FS_cells fs_2) (v9 + v10).toNatClampNeg (f_CO_part v10 co))) ++ wCO tC a_q8 co) H := hP
        have hD : va_D A (wFS tC a (sFS_cells fs_2 (vp_updL (FS_cells fs_2) (v9 + v10).toNatClampNeg (f_CO_part v10 co))) ++ wCO tC a_q8 co) := hD
        obtain ⟨v10_1, h_v10_1⟩ : ∃ z : Int32, z = v10 + 1 := ⟨_, rfl⟩
        have hf := g_let hf h_v10_1
        refine lv_iinc (v := v10_1) (lv' := [(10, .int v10_1), (0, .ref (a 0)), (6, .int x6), (7, .int x7), (8, .ref (a_q8 0)), (9, .int v9)]) hx hb d_FS_add_82 hl (k := 5) rfl (by rw [h_v10_1]; rfl) (by decide) rfl (fun ls hl => ?_)
        refine lv_goto (tgt := 58) hx hb d_FS_add_85 (by decide) ?_
        obtain ⟨fs_4, h_fs_4⟩ : ∃ z : FSt, z = (sFS_cells fs_2 (vp_updL (FS_cells fs_2) (v9 + v10).toNatClampNeg (f_CO_part v10 co))) := ⟨_, rfl⟩
        have hf := g_let hf h_fs_4
        have hP : va_P (dC, dI) classes (wFS tC a fs_4 ++ wCO tC a_q8 co) H := by rw [h_fs_4]; exact hP
        have hD : va_D A (wFS tC a fs_4 ++ wCO tC a_q8 co) := by rw [h_fs_4]; exact hD
        exact ih v10_1 fs_4 fs_3 hf H locs ls hP hD hS (lv_sub hl [1, 2, 3, 4, 5, 0] rfl) kk
  obtain ⟨fs_3, hL_58, hf⟩ := g_bind hf
  try dsimp only at hf
  refine L_58 k 4 fs_1 fs_3 hL_58 H locs ls hP hD hS (lv_sub hl [2, 6, 7, 8, 1, 0] rfl) (fun H locs ls hP hD hS hl => ?_)
  refine lv_aload_n hx hb d_FS_add_88 rfl (lv_at hl 0 rfl) ?_
  refine va_get (D := (dC, dI)) (ci := 6) (v := .ref (a 1)) (C := R_FS) (T := F_FS) (N := 4) hx hb hts (in_FS _) hown hK hP 0 rfl rfl 0 (by decide) (hts _ (List.mem_cons_of_mem _ mw_150)) (fun _ h9 => h9) rfl d_FS_add_89 ?_
  refine lv_iload hx hb d_FS_add_92 (lv_at hl 3 rfl) ?_
  refine lv_bipush (v := 9) hx hb d_FS_add_94 (by decide) ?_
  refine lv_iadd hx hb d_FS_add_96 ?_
  refine lv_iload hx hb d_FS_add_97 (lv_at hl 2 rfl) ?_
  refine lv_i2l hx hb d_FS_add_99 rfl ?_
  obtain ⟨ck_5, hf⟩ := g_ck hf
  refine va_last (D := (dC, dI)) hx hb hK hP hD hS 1 1 rfl rfl ck_5 d_FS_add_100 (fun H locs hP hD hS => ?_)
  have hP : va_P (dC, dI) classes (wFS tC a (sFS_cells fs_3 (vp_updL (FS_cells fs_3) (v9 + 9).toNatClampNeg (x7.toInt64))) ++ wCO tC a_q8 co) H := hP
  have hD : va_D A (wFS tC a (sFS_cells fs_3 (vp_updL (FS_cells fs_3) (v9 + 9).toNatClampNeg (x7.toInt64))) ++ wCO tC a_q8 co) := hD
  refine lv_aload_n hx hb d_FS_add_101 rfl (lv_at hl 0 rfl) ?_
  refine lv_dup hx hb d_FS_add_102 rfl ?_
  refine va_get (D := (dC, dI)) (ci := 6) (v := .int (FS_total fs_3)) (C := R_FS) (T := F_FS) (N := 4) hx hb hts (in_FS _) hown hK hP 0 rfl rfl 1 (by decide) (hts _ (List.mem_cons_of_mem _ mw_151)) (fun _ h9 => h9) rfl d_FS_add_103 ?_
  refine lv_iconst (v := 1) hx hb d_FS_add_106 (by decide) ?_
  refine lv_iadd hx hb d_FS_add_107 ?_
  refine va_put (D := (dC, dI)) (ci := 6) (v := .int ((FS_total fs_3) + 1)) (ty := .int) (C := R_FS) (T := F_FS) (N := 4) hx hb hts (in_FS _) t_FS t_FS_ok n_FS hown hK hP hD hS 0 rfl rfl 1 (by decide) (hts _ (List.mem_cons_of_mem _ mw_151)) (fun _ h9 => h9) rfl (by decide +kernel) rfl rfl (Nat.le_of_ble_eq_true rfl) d_FS_add_108 (fun H locs hP hD hS => ?_)
  have hP : va_P (dC, dI) classes (wFS tC a (sFS_total (sFS_cells fs_3 (vp_updL (FS_cells fs_3) (v9 + 9).toNatClampNeg (x7.toInt64))) ((FS_total fs_3) + 1)) ++ wCO tC a_q8 co) H := hP
  have hD : va_D A (wFS tC a (sFS_total (sFS_cells fs_3 (vp_updL (FS_cells fs_3) (v9 + 9).toNatClampNeg (x7.toInt64))) ((FS_total fs_3) + 1)) ++ wCO tC a_q8 co) := hD
  refine lv_iload hx hb d_FS_add_111 (lv_at hl 1 rfl) ?_
  refine lv_if_ne (tgt := 129) hx hb d_FS_add_113 (by decide) (fun cb_1 => ?_) (fun cb_1 => ?_)
  · have hf := g_f hf cb_1
    refine lv_iload hx hb d_FS_add_129 (lv_at hl 1 rfl) ?_
    refine lv_iconst (v := 2) hx hb d_FS_add_131 (by decide) ?_
    refine lv_icmp_ne (tgt := 145) hx hb d_FS_add_132 (by decide) (fun cb_2 => ?_) (fun cb_2 => ?_)
    · have hf := g_f hf cb_2
      cases hf
      exact cx_vret hx hb hr hlocks hP hS d_FS_add_145
    · have hf := g_t hf cb_2
      refine lv_aload_n hx hb d_FS_add_135 rfl (lv_at hl 0 rfl) ?_
      refine lv_dup hx hb d_FS_add_136 rfl ?_
      refine va_get (D := (dC, dI)) (ci := 6) (v := .int (FS_lately fs_3)) (C := R_FS) (T := F_FS) (N := 4) hx hb hts (in_FS _) hown hK hP 0 rfl rfl 3 (by decide) (hts _ (List.mem_cons_of_mem _ mw_155)) (fun _ h9 => h9) rfl d_FS_add_137 ?_
      refine lv_iconst (v := 1) hx hb d_FS_add_140 (by decide) ?_
      refine lv_iadd hx hb d_FS_add_141 ?_
      refine va_put (D := (dC, dI)) (ci := 6) (v := .int ((FS_lately fs_3) + 1)) (ty := .int) (C := R_FS) (T := F_FS) (N := 4) hx hb hts (in_FS _) t_FS t_FS_ok n_FS hown hK hP hD hS 0 rfl rfl 3 (by decide) (hts _ (List.mem_cons_of_mem _ mw_155)) (fun _ h9 => h9) rfl (by decide +kernel) rfl rfl (Nat.le_of_ble_eq_true rfl) d_FS_add_142 (fun H locs hP hD hS => ?_)
      have hP : va_P (dC, dI) classes (wFS tC a (sFS_lately (sFS_total (sFS_cells fs_3 (vp_updL (FS_cells fs_3) (v9 + 9).toNatClampNeg (x7.toInt64))) ((FS_total fs_3) + 1)) ((FS_lately fs_3) + 1)) ++ wCO tC a_q8 co) H := hP
      have hD : va_D A (wFS tC a (sFS_lately (sFS_total (sFS_cells fs_3 (vp_updL (FS_cells fs_3) (v9 + 9).toNatClampNeg (x7.toInt64))) ((FS_total fs_3) + 1)) ((FS_lately fs_3) + 1)) ++ wCO tC a_q8 co) := hD
      cases hf
      exact cx_vret hx hb hr hlocks hP hS d_FS_add_145
  · have hf := g_t hf cb_1
    refine lv_aload_n hx hb d_FS_add_116 rfl (lv_at hl 0 rfl) ?_
    refine lv_dup hx hb d_FS_add_117 rfl ?_
    refine va_get (D := (dC, dI)) (ci := 6) (v := .int (FS_early fs_3)) (C := R_FS) (T := F_FS) (N := 4) hx hb hts (in_FS _) hown hK hP 0 rfl rfl 2 (by decide) (hts _ (List.mem_cons_of_mem _ mw_153)) (fun _ h9 => h9) rfl d_FS_add_118 ?_
    refine lv_iconst (v := 1) hx hb d_FS_add_121 (by decide) ?_
    refine lv_iadd hx hb d_FS_add_122 ?_
    refine va_put (D := (dC, dI)) (ci := 6) (v := .int ((FS_early fs_3) + 1)) (ty := .int) (C := R_FS) (T := F_FS) (N := 4) hx hb hts (in_FS _) t_FS t_FS_ok n_FS hown hK hP hD hS 0 rfl rfl 2 (by decide) (hts _ (List.mem_cons_of_mem _ mw_153)) (fun _ h9 => h9) rfl (by decide +kernel) rfl rfl (Nat.le_of_ble_eq_true rfl) d_FS_add_123 (fun H locs hP hD hS => ?_)
    have hP : va_P (dC, dI) classes (wFS tC a (sFS_early (sFS_total (sFS_cells fs_3 (vp_updL (FS_cells fs_3) (v9 + 9).toNatClampNeg (x7.toInt64))) ((FS_total fs_3) + 1)) ((FS_early fs_3) + 1)) ++ wCO tC a_q8 co) H := hP
    have hD : va_D A (wFS tC a (sFS_early (sFS_total (sFS_cells fs_3 (vp_updL (FS_cells fs_3) (v9 + 9).toNatClampNeg (x7.toInt64))) ((FS_total fs_3) + 1)) ((FS_early fs_3) + 1)) ++ wCO tC a_q8 co) := hD
    refine lv_goto (tgt := 145) hx hb d_FS_add_126 (by decide) ?_
    cases hf
    exact cx_vret hx hb hr hlocks hP hS d_FS_add_145
def f_FB_has_L3 (x1 : Int32) (x2 : Int64) (fb : FBt) : Nat → Int32 → Option (Int32)
  | 0, _ => none
  | n + 1, v4 =>
    if x1 < 0 ∨ 3 ≤ x1.toNatClampNeg then none else
    if (FB_known fb x1.toNatClampNeg) ≤ v4 then (
      some 0
    ) else
    if ((x1 * 8) + v4) < 0 ∨ 24 ≤ ((x1 * 8) + v4).toNatClampNeg then none else
    if (FB_values fb ((x1 * 8) + v4).toNatClampNeg) = x2 then (
      some 1
    ) else
    gl_let (v4 + 1) fun v4_1 =>
    f_FB_has_L3 x1 x2 fb n v4_1
def f_FB_has (k : Nat) (x1 : Int32) (x2 : Int64) (fb : FBt) : Option Int32 :=
  f_FB_has_L3 x1 x2 fb k 0
set_option maxHeartbeats 4000000 in
set_option maxRecDepth 100000 in
theorem c_FB_has (l : Launch) (dC : Nat → ClassId) (dI : Nat → Nat → Nat) (tC : Nat → ClassId) (a : Nat → Nat) (k : Nat) (x1 : Int32) (x2 : Int64) (fb : FBt) (res : Int32) (hf : f_FB_has k x1 x2 fb = some res) : cx_M l y_FB_has w_FB_has { frames := 0, cells := 0, slots := 0, locals := 0 } (dC, dI) classes (tyS tC) [.ref (a 0), .int x1, .long x2] (wFB tC a fb) (wFB tC a fb) (some (.int res)) := by
  refine cx_of (cc := b_FB_has) (maxL := 5) (ret := some .boolean) (plainFor_of_name (by decide)) rfl (Nat.le_of_ble_eq_true rfl) ?_
  intro p e s m below meth c hx hb hr hml hown hts hlocks A hA H locs ls hK hN hP hD hS hl
  have hown : s.vm.findClass R_FB = some m.cls := hown
  have hl : lv_has ls 5 [(0, .ref (a 0)), (1, .int x1), (2, .long x2)] := hl
  unfold f_FB_has at hf
  refine lv_iconst (v := 0) hx hb d_FB_has_0 (by decide) ?_
  refine lv_istore (lv' := [(4, .int 0), (0, .ref (a 0)), (1, .int x1), (2, .long x2)]) hx hb d_FB_has_1 hl (by decide) rfl (fun ls hl => ?_)
  have L_3 : ∀ (n : Nat) (v4 : Int32), f_FB_has_L3 x1 x2 fb n v4 = some res → ∀ (H : Heap) (locs : List Loc) (ls : Array Slot), va_P (dC, dI) classes (wFB tC a fb) H → va_D A (wFB tC a fb) → va_S A s.heap H locs → lv_has ls 5 [(0, .ref (a 0)), (1, .int x1), (2, .long x2), (4, .int v4)] → W p l e { frames := 0, cells := 0, slots := 0, locals := 0 } s m [.ref (a 0), .int x1, .long x2].toArray below meth c H locs 0 0 (cx_Z (dC, dI) classes below [.ref (a 0), .int x1, .long x2] s (wFB tC a fb) (some (.int res)) A) (F0 m 3 ls []) := by
    intro n
    induction n with
    | zero =>
      intro v4 hf
      rw [f_FB_has_L3] at hf
      cases hf
    | succ n ih =>
      intro v4 hf H locs ls hP hD hS hl
      rw [f_FB_has_L3] at hf
      refine lv_iload hx hb d_FB_has_3 (lv_at hl 3 rfl) ?_
      refine lv_aload_n hx hb d_FB_has_5 rfl (lv_at hl 0 rfl) ?_
      refine va_get (D := (dC, dI)) (ci := 2) (v := .ref (a 2)) (C := R_FB) (T := F_FB) (N := 2) hx hb hts (in_FB _) hown hK hP 0 rfl rfl 1 (by decide) (hts _ (List.mem_cons_of_mem _ mw_31)) (fun _ h9 => h9) rfl d_FB_has_6 ?_
      refine lv_iload_n hx hb d_FB_has_9 rfl (lv_at hl 1 rfl) ?_
      obtain ⟨ck, hf⟩ := g_ck hf
      refine va_iald (D := (dC, dI)) hx hb hK hP 2 0 rfl rfl ck d_FB_has_10 ?_
      refine lv_icmp_ge (tgt := 39) hx hb d_FB_has_11 (by decide) (fun cb => ?_) (fun cb => ?_)
      · have hf := g_t hf cb
        refine lv_iconst (v := 0) hx hb d_FB_has_39 (by decide) ?_
        cases hf
        exact cx_zret hx hb hr hlocks rfl hP hS d_FB_has_40
      · have hf := g_f hf cb
        refine lv_aload_n hx hb d_FB_has_14 rfl (lv_at hl 0 rfl) ?_
        refine va_get (D := (dC, dI)) (ci := 2) (v := .ref (a 1)) (C := R_FB) (T := F_FB) (N := 2) hx hb hts (in_FB _) hown hK hP 0 rfl rfl 0 (by decide) (hts _ (List.mem_cons_of_mem _ mw_30)) (fun _ h9 => h9) rfl d_FB_has_15 ?_
        refine lv_iload_n hx hb d_FB_has_18 rfl (lv_at hl 1 rfl) ?_
        refine lv_bipush (v := 8) hx hb d_FB_has_19 (by decide) ?_
        refine lv_imul hx hb d_FB_has_21 ?_
        refine lv_iload hx hb d_FB_has_22 (lv_at hl 3 rfl) ?_
        refine lv_iadd hx hb d_FB_has_24 ?_
        obtain ⟨ck_1, hf⟩ := g_ck hf
        refine va_lald (D := (dC, dI)) hx hb hK hP 1 1 rfl rfl ck_1 d_FB_has_25 ?_
        refine lv_lload_n hx hb d_FB_has_26 rfl (lv_at hl 2 rfl) ?_
        refine cq_ne (tgt := 33) hx hb d_FB_has_27 d_FB_has_28 (by decide) (fun cb_1 => ?_) (fun cb_1 => ?_)
        · have hf := g_f hf cb_1
          obtain ⟨v4_1, h_v4_1⟩ : ∃ z : Int32, z = v4 + 1 := ⟨_, rfl⟩
          have hf := g_let hf h_v4_1
          refine lv_iinc (v := v4_1) (lv' := [(4, .int v4_1), (0, .ref (a 0)), (1, .int x1), (2, .long x2)]) hx hb d_FB_has_33 hl (k := 3) rfl (by rw [h_v4_1]; rfl) (by decide) rfl (fun ls hl => ?_)
          refine lv_goto (tgt := 3) hx hb d_FB_has_36 (by decide) ?_
          exact ih v4_1 hf H locs ls hP hD hS (lv_sub hl [1, 2, 3, 0] rfl)
        · have hf := g_t hf cb_1
          refine lv_iconst (v := 1) hx hb d_FB_has_31 (by decide) ?_
          cases hf
          exact cx_zret hx hb hr hlocks rfl hP hS d_FB_has_32
  exact L_3 k 0 hf H locs ls hP hD hS (lv_sub hl [1, 2, 3, 0] rfl)
def f_FB_add (k : Nat) (x1 : Int32) (x2 : Int64) (fb : FBt) : Option (Int32 × FBt) :=
  (f_FB_has k x1 x2 fb).bind fun r =>
  if r = 0 then (
    if x1 < 0 ∨ 3 ≤ x1.toNatClampNeg then none else
    if (FB_known fb x1.toNatClampNeg) < 8 then (
      if ((x1 * 8) + (FB_known fb x1.toNatClampNeg)) < 0 ∨ 24 ≤ ((x1 * 8) + (FB_known fb x1.toNatClampNeg)).toNatClampNeg then none else
      some (((upd (FB_known fb) x1.toNatClampNeg ((FB_known fb x1.toNatClampNeg) + 1)) x1.toNatClampNeg), (sFB_known (sFB_values fb (vp_updL (FB_values fb) ((x1 * 8) + (FB_known fb x1.toNatClampNeg)).toNatClampNeg x2)) (upd (FB_known fb) x1.toNatClampNeg ((FB_known fb x1.toNatClampNeg) + 1))))
    ) else
    some ((-4), fb)
  ) else
  if x1 < 0 ∨ 3 ≤ x1.toNatClampNeg then none else
  some ((FB_known fb x1.toNatClampNeg), fb)
set_option maxHeartbeats 4000000 in
set_option maxRecDepth 100000 in
theorem c_FB_add (l : Launch) (dC : Nat → ClassId) (dI : Nat → Nat → Nat) (tC : Nat → ClassId) (a : Nat → Nat) (k : Nat) (x1 : Int32) (x2 : Int64) (fb : FBt) (res : Int32) (fbR : FBt) (hf : f_FB_add k x1 x2 fb = some (res, fbR)) : cx_M l y_FB_add w_FB_add { frames := 1, cells := 0, slots := 0, locals := 24 } (dC, dI) classes (tyS tC) [.ref (a 0), .int x1, .long x2] (wFB tC a fb) (wFB tC a fbR) (some (.int res)) := by
  refine cx_of (cc := b_FB_add) (maxL := 4) (ret := some .int) (plainFor_of_name (by decide)) rfl (Nat.le_of_ble_eq_true rfl) ?_
  intro p e s m below meth c hx hb hr hml hown hts hlocks A hA H locs ls hK hN hP hD hS hl
  have hown : s.vm.findClass R_FB = some m.cls := hown
  have hl : lv_has ls 4 [(0, .ref (a 0)), (1, .int x1), (2, .long x2)] := hl
  unfold f_FB_add at hf
  refine lv_aload_n hx hb d_FB_add_0 rfl (lv_at hl 0 rfl) ?_
  refine lv_iload_n hx hb d_FB_add_1 rfl (lv_at hl 1 rfl) ?_
  refine lv_lload_n hx hb d_FB_add_2 rfl (lv_at hl 2 rfl) ?_
  obtain ⟨r, hc, hf⟩ := g_bind hf
  try dsimp only at hf
  refine cx_callV (As := [.int x1, .long x2]) (rest := []) ⟨hx, hb, hml, hown, hts⟩ (c_FB_has l dC dI tC a k x1 x2 fb r hc) (k_FB_19 hts ⟨Nat.le_of_ble_eq_true rfl, Nat.le_of_ble_eq_true rfl⟩) hl.1 hP hD hS hA hK hN [0, 1, 2] 0 2 rfl rfl rfl rfl rfl rfl rfl rfl (Nat.le_of_ble_eq_true rfl) d_FB_add_3 ⟨Nat.zero_le _, Nat.zero_le _⟩ (fun H locs hP hD hS => ?_)
  have hP : va_P (dC, dI) classes (wFB tC a fb) H := hP
  have hD : va_D A (wFB tC a fb) := hD
  refine W.eq (g2 := F0 m 6 ls [.int r]) rfl ?_
  refine lv_if_eq (tgt := 16) hx hb d_FB_add_6 (by decide) (fun cb => ?_) (fun cb => ?_)
  · have hf := g_t hf cb
    refine lv_aload_n hx hb d_FB_add_16 rfl (lv_at hl 0 rfl) ?_
    refine va_get (D := (dC, dI)) (ci := 2) (v := .ref (a 2)) (C := R_FB) (T := F_FB) (N := 2) hx hb hts (in_FB _) hown hK hP 0 rfl rfl 1 (by decide) (hts _ (List.mem_cons_of_mem _ mw_31)) (fun _ h9 => h9) rfl d_FB_add_17 ?_
    refine lv_iload_n hx hb d_FB_add_20 rfl (lv_at hl 1 rfl) ?_
    obtain ⟨ck, hf⟩ := g_ck hf
    refine va_iald (D := (dC, dI)) hx hb hK hP 2 0 rfl rfl ck d_FB_add_21 ?_
    refine lv_bipush (v := 8) hx hb d_FB_add_22 (by decide) ?_
    refine lv_icmp_lt (tgt := 30) hx hb d_FB_add_24 (by decide) (fun cb_1 => ?_) (fun cb_1 => ?_)
    · have hf := g_t hf cb_1
      refine lv_aload_n hx hb d_FB_add_30 rfl (lv_at hl 0 rfl) ?_
      refine va_get (D := (dC, dI)) (ci := 2) (v := .ref (a 1)) (C := R_FB) (T := F_FB) (N := 2) hx hb hts (in_FB _) hown hK hP 0 rfl rfl 0 (by decide) (hts _ (List.mem_cons_of_mem _ mw_30)) (fun _ h9 => h9) rfl d_FB_add_31 ?_
      refine lv_iload_n hx hb d_FB_add_34 rfl (lv_at hl 1 rfl) ?_
      refine lv_bipush (v := 8) hx hb d_FB_add_35 (by decide) ?_
      refine lv_imul hx hb d_FB_add_37 ?_
      refine lv_aload_n hx hb d_FB_add_38 rfl (lv_at hl 0 rfl) ?_
      refine va_get (D := (dC, dI)) (ci := 2) (v := .ref (a 2)) (C := R_FB) (T := F_FB) (N := 2) hx hb hts (in_FB _) hown hK hP 0 rfl rfl 1 (by decide) (hts _ (List.mem_cons_of_mem _ mw_31)) (fun _ h9 => h9) rfl d_FB_add_39 ?_
      refine lv_iload_n hx hb d_FB_add_42 rfl (lv_at hl 1 rfl) ?_
      refine va_iald (D := (dC, dI)) hx hb hK hP 2 0 rfl rfl ck d_FB_add_43 ?_
      refine lv_iadd hx hb d_FB_add_44 ?_
      refine lv_lload_n hx hb d_FB_add_45 rfl (lv_at hl 2 rfl) ?_
      obtain ⟨ck_1, hf⟩ := g_ck hf
      refine va_last (D := (dC, dI)) hx hb hK hP hD hS 1 1 rfl rfl ck_1 d_FB_add_46 (fun H locs hP hD hS => ?_)
      have hP : va_P (dC, dI) classes (wFB tC a (sFB_values fb (vp_updL (FB_values fb) ((x1 * 8) + (FB_known fb x1.toNatClampNeg)).toNatClampNeg x2))) H := hP
      have hD : va_D A (wFB tC a (sFB_values fb (vp_updL (FB_values fb) ((x1 * 8) + (FB_known fb x1.toNatClampNeg)).toNatClampNeg x2))) := hD
      refine lv_aload_n hx hb d_FB_add_47 rfl (lv_at hl 0 rfl) ?_
      refine va_get (D := (dC, dI)) (ci := 2) (v := .ref (a 2)) (C := R_FB) (T := F_FB) (N := 2) hx hb hts (in_FB _) hown hK hP 0 rfl rfl 1 (by decide) (hts _ (List.mem_cons_of_mem _ mw_31)) (fun _ h9 => h9) rfl d_FB_add_48 ?_
      refine lv_iload_n hx hb d_FB_add_51 rfl (lv_at hl 1 rfl) ?_
      refine lv_dup2_11 hx hb d_FB_add_52 rfl rfl ?_
      refine va_iald (D := (dC, dI)) hx hb hK hP 2 0 rfl rfl ck d_FB_add_53 ?_
      refine lv_iconst (v := 1) hx hb d_FB_add_54 (by decide) ?_
      refine lv_iadd hx hb d_FB_add_55 ?_
      refine va_iast (D := (dC, dI)) hx hb hK hP hD hS 2 0 rfl rfl ck d_FB_add_56 (fun H locs hP hD hS => ?_)
      have hP : va_P (dC, dI) classes (wFB tC a (sFB_known (sFB_values fb (vp_updL (FB_values fb) ((x1 * 8) + (FB_known fb x1.toNatClampNeg)).toNatClampNeg x2)) (upd (FB_known fb) x1.toNatClampNeg ((FB_known fb x1.toNatClampNeg) + 1)))) H := hP
      have hD : va_D A (wFB tC a (sFB_known (sFB_values fb (vp_updL (FB_values fb) ((x1 * 8) + (FB_known fb x1.toNatClampNeg)).toNatClampNeg x2)) (upd (FB_known fb) x1.toNatClampNeg ((FB_known fb x1.toNatClampNeg) + 1)))) := hD
      refine lv_aload_n hx hb d_FB_add_57 rfl (lv_at hl 0 rfl) ?_
      refine va_get (D := (dC, dI)) (ci := 2) (v := .ref (a 2)) (C := R_FB) (T := F_FB) (N := 2) hx hb hts (in_FB _) hown hK hP 0 rfl rfl 1 (by decide) (hts _ (List.mem_cons_of_mem _ mw_31)) (fun _ h9 => h9) rfl d_FB_add_58 ?_
      refine lv_iload_n hx hb d_FB_add_61 rfl (lv_at hl 1 rfl) ?_
      refine va_iald (D := (dC, dI)) hx hb hK hP 2 0 rfl rfl ck d_FB_add_62 ?_
      cases hf
      exact cx_iret hx hb hr hlocks hP hS d_FB_add_63
    · have hf := g_f hf cb_1
      refine lv_bipush (v := (-4)) hx hb d_FB_add_27 (by decide) ?_
      cases hf
      exact cx_iret hx hb hr hlocks hP hS d_FB_add_29
  · have hf := g_f hf cb
    refine lv_aload_n hx hb d_FB_add_9 rfl (lv_at hl 0 rfl) ?_
    refine va_get (D := (dC, dI)) (ci := 2) (v := .ref (a 2)) (C := R_FB) (T := F_FB) (N := 2) hx hb hts (in_FB _) hown hK hP 0 rfl rfl 1 (by decide) (hts _ (List.mem_cons_of_mem _ mw_31)) (fun _ h9 => h9) rfl d_FB_add_10 ?_
    refine lv_iload_n hx hb d_FB_add_13 rfl (lv_at hl 1 rfl) ?_
    obtain ⟨ck_2, hf⟩ := g_ck hf
    refine va_iald (D := (dC, dI)) hx hb hK hP 2 0 rfl rfl ck_2 d_FB_add_14 ?_
    cases hf
    exact cx_iret hx hb hr hlocks hP hS d_FB_add_15
end
