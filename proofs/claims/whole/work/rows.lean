section
-- ===== PART A: goes FIRST, ahead of the names: the tables' words, and 'selects' of the private methods out of them =====
/-- a private method of a class that the tables say can be made, by its rows of tables_1 -/
def lw_okq (q : MethodName × Nat) : Prop := (q.1.cls ≠ "java/lang/invoke/MethodHandle" ∧ q.1.cls ≠ "java/lang/invoke/VarHandle") ∧ Cond.instantiable q.1.cls q.2 ∈ tables_1 ∧ Cond.privateMethod q.1 ∈ tables_1 ∧ Cond.instanceMethod q.1 ∈ tables_1
theorem lw_p0 : lw_okq (⟨"PlanValues$Walks", "forget", "()V"⟩, 8) := ⟨⟨by decide +kernel, by decide +kernel⟩, List.mem_of_getElem? (i := 21) (by decide +kernel), List.mem_of_getElem? (i := 185) (by decide +kernel), List.mem_of_getElem? (i := 186) (by decide +kernel)⟩
theorem lw_p1 : lw_okq (⟨"PlanValues$Walks", "addState", "(Z)I"⟩, 8) := ⟨⟨by decide +kernel, by decide +kernel⟩, List.mem_of_getElem? (i := 21) (by decide +kernel), List.mem_of_getElem? (i := 197) (by decide +kernel), List.mem_of_getElem? (i := 198) (by decide +kernel)⟩
theorem lw_p2 : lw_okq (⟨"PlanValues$Walks", "hasState", "(I)Z"⟩, 8) := ⟨⟨by decide +kernel, by decide +kernel⟩, List.mem_of_getElem? (i := 21) (by decide +kernel), List.mem_of_getElem? (i := 205) (by decide +kernel), List.mem_of_getElem? (i := 206) (by decide +kernel)⟩
theorem lw_p3 : lw_okq (⟨"PlanValues$Walks", "addAct", "(II)I"⟩, 8) := ⟨⟨by decide +kernel, by decide +kernel⟩, List.mem_of_getElem? (i := 21) (by decide +kernel), List.mem_of_getElem? (i := 212) (by decide +kernel), List.mem_of_getElem? (i := 213) (by decide +kernel)⟩
theorem lw_p4 : lw_okq (⟨"PlanValues$Walks", "hasAct", "(II)Z"⟩, 8) := ⟨⟨by decide +kernel, by decide +kernel⟩, List.mem_of_getElem? (i := 21) (by decide +kernel), List.mem_of_getElem? (i := 223) (by decide +kernel), List.mem_of_getElem? (i := 224) (by decide +kernel)⟩
theorem lw_p5 : lw_okq (⟨"PlanValues$PlanWorths", "findValues", "(LPlanValues$Walks;[I)V"⟩, 2) := ⟨⟨by decide +kernel, by decide +kernel⟩, List.mem_of_getElem? (i := 75) (by decide +kernel), List.mem_of_getElem? (i := 245) (by decide +kernel), List.mem_of_getElem? (i := 246) (by decide +kernel)⟩
theorem lw_p6 : lw_okq (⟨"PlanValues$PlanWorths", "replyBy", "(ZLPlanValues$Walks;[I)V"⟩, 2) := ⟨⟨by decide +kernel, by decide +kernel⟩, List.mem_of_getElem? (i := 75) (by decide +kernel), List.mem_of_getElem? (i := 249) (by decide +kernel), List.mem_of_getElem? (i := 250) (by decide +kernel)⟩
theorem lw_p7 : lw_okq (⟨"PlanValues$PlanWorths", "follow", "(LPlanValues$Walks;[I)V"⟩, 2) := ⟨⟨by decide +kernel, by decide +kernel⟩, List.mem_of_getElem? (i := 75) (by decide +kernel), List.mem_of_getElem? (i := 253) (by decide +kernel), List.mem_of_getElem? (i := 254) (by decide +kernel)⟩
theorem lw_p8 : lw_okq (⟨"PlanValues$Equations", "begin", "()V"⟩, 1) := ⟨⟨by decide +kernel, by decide +kernel⟩, List.mem_of_getElem? (i := 81) (by decide +kernel), List.mem_of_getElem? (i := 257) (by decide +kernel), List.mem_of_getElem? (i := 258) (by decide +kernel)⟩
theorem lw_p9 : lw_okq (⟨"PlanValues$Equations", "solve", "(ILPlanValues$Numbers;)V"⟩, 1) := ⟨⟨by decide +kernel, by decide +kernel⟩, List.mem_of_getElem? (i := 81) (by decide +kernel), List.mem_of_getElem? (i := 268) (by decide +kernel), List.mem_of_getElem? (i := 269) (by decide +kernel)⟩
theorem lw_p10 : lw_okq (⟨"PlanValues$Equations", "eliminate", "(IIJ)V"⟩, 1) := ⟨⟨by decide +kernel, by decide +kernel⟩, List.mem_of_getElem? (i := 81) (by decide +kernel), List.mem_of_getElem? (i := 272) (by decide +kernel), List.mem_of_getElem? (i := 273) (by decide +kernel)⟩
theorem lw_p11 : lw_okq (⟨"PlanValues$PlanWorths", "improve", "(ZLPlanValues$Walks;[I)Z"⟩, 2) := ⟨⟨by decide +kernel, by decide +kernel⟩, List.mem_of_getElem? (i := 75) (by decide +kernel), List.mem_of_getElem? (i := 279) (by decide +kernel), List.mem_of_getElem? (i := 280) (by decide +kernel)⟩
theorem lw_p12 : lw_okq (⟨"PlanValues$Walks", "likedAct", "(IILPlanValues$Numbers;)I"⟩, 8) := ⟨⟨by decide +kernel, by decide +kernel⟩, List.mem_of_getElem? (i := 21) (by decide +kernel), List.mem_of_getElem? (i := 283) (by decide +kernel), List.mem_of_getElem? (i := 284) (by decide +kernel)⟩
theorem lw_p13 : lw_okq (⟨"PlanValues$Walks", "comesTo", "(ILPlanValues$Numbers;)J"⟩, 8) := ⟨⟨by decide +kernel, by decide +kernel⟩, List.mem_of_getElem? (i := 21) (by decide +kernel), List.mem_of_getElem? (i := 287) (by decide +kernel), List.mem_of_getElem? (i := 288) (by decide +kernel)⟩
theorem lw_p14 : lw_okq (⟨"PlanValues$Walks", "stepScale", "()J"⟩, 8) := ⟨⟨by decide +kernel, by decide +kernel⟩, List.mem_of_getElem? (i := 21) (by decide +kernel), List.mem_of_getElem? (i := 291) (by decide +kernel), List.mem_of_getElem? (i := 292) (by decide +kernel)⟩
theorem lw_p15 : lw_okq (⟨"PlanValues$Walks", "likes", "(IJJ)Z"⟩, 8) := ⟨⟨by decide +kernel, by decide +kernel⟩, List.mem_of_getElem? (i := 21) (by decide +kernel), List.mem_of_getElem? (i := 296) (by decide +kernel), List.mem_of_getElem? (i := 297) (by decide +kernel)⟩
def lw_privs_1 : List (MethodName × Nat) := [(⟨"PlanValues$Walks", "forget", "()V"⟩, 8), (⟨"PlanValues$Walks", "addState", "(Z)I"⟩, 8), (⟨"PlanValues$Walks", "hasState", "(I)Z"⟩, 8), (⟨"PlanValues$Walks", "addAct", "(II)I"⟩, 8), (⟨"PlanValues$Walks", "hasAct", "(II)Z"⟩, 8), (⟨"PlanValues$PlanWorths", "findValues", "(LPlanValues$Walks;[I)V"⟩, 2), (⟨"PlanValues$PlanWorths", "replyBy", "(ZLPlanValues$Walks;[I)V"⟩, 2), (⟨"PlanValues$PlanWorths", "follow", "(LPlanValues$Walks;[I)V"⟩, 2), (⟨"PlanValues$Equations", "begin", "()V"⟩, 1), (⟨"PlanValues$Equations", "solve", "(ILPlanValues$Numbers;)V"⟩, 1), (⟨"PlanValues$Equations", "eliminate", "(IIJ)V"⟩, 1), (⟨"PlanValues$PlanWorths", "improve", "(ZLPlanValues$Walks;[I)Z"⟩, 2), (⟨"PlanValues$Walks", "likedAct", "(IILPlanValues$Numbers;)I"⟩, 8), (⟨"PlanValues$Walks", "comesTo", "(ILPlanValues$Numbers;)J"⟩, 8), (⟨"PlanValues$Walks", "stepScale", "()J"⟩, 8), (⟨"PlanValues$Walks", "likes", "(IJJ)Z"⟩, 8)]
theorem lw_r1 : ∀ q ∈ lw_privs_1, lw_okq q := List.forall_mem_cons.mpr ⟨lw_p0, List.forall_mem_cons.mpr ⟨lw_p1, List.forall_mem_cons.mpr ⟨lw_p2, List.forall_mem_cons.mpr ⟨lw_p3, List.forall_mem_cons.mpr ⟨lw_p4, List.forall_mem_cons.mpr ⟨lw_p5, List.forall_mem_cons.mpr ⟨lw_p6, List.forall_mem_cons.mpr ⟨lw_p7, List.forall_mem_cons.mpr ⟨lw_p8, List.forall_mem_cons.mpr ⟨lw_p9, List.forall_mem_cons.mpr ⟨lw_p10, List.forall_mem_cons.mpr ⟨lw_p11, List.forall_mem_cons.mpr ⟨lw_p12, List.forall_mem_cons.mpr ⟨lw_p13, List.forall_mem_cons.mpr ⟨lw_p14, List.forall_mem_cons.mpr ⟨lw_p15, fun _ h => absurd h List.not_mem_nil⟩⟩⟩⟩⟩⟩⟩⟩⟩⟩⟩⟩⟩⟩⟩⟩
theorem lw_p16 : lw_okq (⟨"PlanValues", "giveAnswer", "(JJ)I"⟩, 10) := ⟨⟨by decide +kernel, by decide +kernel⟩, List.mem_of_getElem? (i := 13) (by decide +kernel), List.mem_of_getElem? (i := 300) (by decide +kernel), List.mem_of_getElem? (i := 301) (by decide +kernel)⟩
theorem lw_p17 : lw_okq (⟨"PlanValues", "bestBits", "(I)I"⟩, 10) := ⟨⟨by decide +kernel, by decide +kernel⟩, List.mem_of_getElem? (i := 13) (by decide +kernel), List.mem_of_getElem? (i := 321) (by decide +kernel), List.mem_of_getElem? (i := 322) (by decide +kernel)⟩
theorem lw_p18 : lw_okq (⟨"PlanValues", "isBest", "(II)Z"⟩, 10) := ⟨⟨by decide +kernel, by decide +kernel⟩, List.mem_of_getElem? (i := 13) (by decide +kernel), List.mem_of_getElem? (i := 325) (by decide +kernel), List.mem_of_getElem? (i := 326) (by decide +kernel)⟩
theorem lw_p19 : lw_okq (⟨"PlanValues", "tryToldPlan", "()V"⟩, 10) := ⟨⟨by decide +kernel, by decide +kernel⟩, List.mem_of_getElem? (i := 13) (by decide +kernel), List.mem_of_getElem? (i := 338) (by decide +kernel), List.mem_of_getElem? (i := 339) (by decide +kernel)⟩
theorem lw_p20 : lw_okq (⟨"PlanValues", "stepBack", "()V"⟩, 10) := ⟨⟨by decide +kernel, by decide +kernel⟩, List.mem_of_getElem? (i := 13) (by decide +kernel), List.mem_of_getElem? (i := 356) (by decide +kernel), List.mem_of_getElem? (i := 357) (by decide +kernel)⟩
theorem lw_p21 : lw_okq (⟨"PlanValues$LongRun", "follow", "(LPlanValues$Walks;[I)V"⟩, 4) := ⟨⟨by decide +kernel, by decide +kernel⟩, List.mem_of_getElem? (i := 123) (by decide +kernel), List.mem_of_getElem? (i := 365) (by decide +kernel), List.mem_of_getElem? (i := 366) (by decide +kernel)⟩
theorem lw_p22 : lw_okq (⟨"PlanValues$LongRun", "findReach", "(LPlanValues$Walks;[I)V"⟩, 4) := ⟨⟨by decide +kernel, by decide +kernel⟩, List.mem_of_getElem? (i := 123) (by decide +kernel), List.mem_of_getElem? (i := 369) (by decide +kernel), List.mem_of_getElem? (i := 370) (by decide +kernel)⟩
theorem lw_p23 : lw_okq (⟨"PlanValues$LongRun", "reaches", "(II)Z"⟩, 4) := ⟨⟨by decide +kernel, by decide +kernel⟩, List.mem_of_getElem? (i := 123) (by decide +kernel), List.mem_of_getElem? (i := 374) (by decide +kernel), List.mem_of_getElem? (i := 375) (by decide +kernel)⟩
theorem lw_p24 : lw_okq (⟨"PlanValues$LongRun", "findHomes", "(I)V"⟩, 4) := ⟨⟨by decide +kernel, by decide +kernel⟩, List.mem_of_getElem? (i := 123) (by decide +kernel), List.mem_of_getElem? (i := 378) (by decide +kernel), List.mem_of_getElem? (i := 379) (by decide +kernel)⟩
theorem lw_p25 : lw_okq (⟨"PlanValues$LongRun", "isInCircle", "(II)Z"⟩, 4) := ⟨⟨by decide +kernel, by decide +kernel⟩, List.mem_of_getElem? (i := 123) (by decide +kernel), List.mem_of_getElem? (i := 382) (by decide +kernel), List.mem_of_getElem? (i := 383) (by decide +kernel)⟩
theorem lw_p26 : lw_okq (⟨"PlanValues$LongRun", "writeCircle", "(LPlanValues$Walks;II)V"⟩, 4) := ⟨⟨by decide +kernel, by decide +kernel⟩, List.mem_of_getElem? (i := 123) (by decide +kernel), List.mem_of_getElem? (i := 387) (by decide +kernel), List.mem_of_getElem? (i := 388) (by decide +kernel)⟩
theorem lw_p27 : lw_okq (⟨"PlanValues$LongRun", "writePassage", "(LPlanValues$Walks;II)V"⟩, 4) := ⟨⟨by decide +kernel, by decide +kernel⟩, List.mem_of_getElem? (i := 123) (by decide +kernel), List.mem_of_getElem? (i := 391) (by decide +kernel), List.mem_of_getElem? (i := 392) (by decide +kernel)⟩
theorem lw_p28 : lw_okq (⟨"PlanValues", "countActs", "()I"⟩, 10) := ⟨⟨by decide +kernel, by decide +kernel⟩, List.mem_of_getElem? (i := 13) (by decide +kernel), List.mem_of_getElem? (i := 413) (by decide +kernel), List.mem_of_getElem? (i := 414) (by decide +kernel)⟩
theorem lw_p29 : lw_okq (⟨"PlanValues", "countPlans", "()I"⟩, 10) := ⟨⟨by decide +kernel, by decide +kernel⟩, List.mem_of_getElem? (i := 13) (by decide +kernel), List.mem_of_getElem? (i := 417) (by decide +kernel), List.mem_of_getElem? (i := 418) (by decide +kernel)⟩
theorem lw_p30 : lw_okq (⟨"PlanValues", "countBestPlans", "()I"⟩, 10) := ⟨⟨by decide +kernel, by decide +kernel⟩, List.mem_of_getElem? (i := 13) (by decide +kernel), List.mem_of_getElem? (i := 422) (by decide +kernel), List.mem_of_getElem? (i := 423) (by decide +kernel)⟩
theorem lw_p31 : lw_okq (⟨"PlanValues", "countTheirs", "()I"⟩, 10) := ⟨⟨by decide +kernel, by decide +kernel⟩, List.mem_of_getElem? (i := 13) (by decide +kernel), List.mem_of_getElem? (i := 432) (by decide +kernel), List.mem_of_getElem? (i := 433) (by decide +kernel)⟩
def lw_privs_2 : List (MethodName × Nat) := [(⟨"PlanValues", "giveAnswer", "(JJ)I"⟩, 10), (⟨"PlanValues", "bestBits", "(I)I"⟩, 10), (⟨"PlanValues", "isBest", "(II)Z"⟩, 10), (⟨"PlanValues", "tryToldPlan", "()V"⟩, 10), (⟨"PlanValues", "stepBack", "()V"⟩, 10), (⟨"PlanValues$LongRun", "follow", "(LPlanValues$Walks;[I)V"⟩, 4), (⟨"PlanValues$LongRun", "findReach", "(LPlanValues$Walks;[I)V"⟩, 4), (⟨"PlanValues$LongRun", "reaches", "(II)Z"⟩, 4), (⟨"PlanValues$LongRun", "findHomes", "(I)V"⟩, 4), (⟨"PlanValues$LongRun", "isInCircle", "(II)Z"⟩, 4), (⟨"PlanValues$LongRun", "writeCircle", "(LPlanValues$Walks;II)V"⟩, 4), (⟨"PlanValues$LongRun", "writePassage", "(LPlanValues$Walks;II)V"⟩, 4), (⟨"PlanValues", "countActs", "()I"⟩, 10), (⟨"PlanValues", "countPlans", "()I"⟩, 10), (⟨"PlanValues", "countBestPlans", "()I"⟩, 10), (⟨"PlanValues", "countTheirs", "()I"⟩, 10)]
theorem lw_r2 : ∀ q ∈ lw_privs_2, lw_okq q := List.forall_mem_cons.mpr ⟨lw_p16, List.forall_mem_cons.mpr ⟨lw_p17, List.forall_mem_cons.mpr ⟨lw_p18, List.forall_mem_cons.mpr ⟨lw_p19, List.forall_mem_cons.mpr ⟨lw_p20, List.forall_mem_cons.mpr ⟨lw_p21, List.forall_mem_cons.mpr ⟨lw_p22, List.forall_mem_cons.mpr ⟨lw_p23, List.forall_mem_cons.mpr ⟨lw_p24, List.forall_mem_cons.mpr ⟨lw_p25, List.forall_mem_cons.mpr ⟨lw_p26, List.forall_mem_cons.mpr ⟨lw_p27, List.forall_mem_cons.mpr ⟨lw_p28, List.forall_mem_cons.mpr ⟨lw_p29, List.forall_mem_cons.mpr ⟨lw_p30, List.forall_mem_cons.mpr ⟨lw_p31, fun _ h => absurd h List.not_mem_nil⟩⟩⟩⟩⟩⟩⟩⟩⟩⟩⟩⟩⟩⟩⟩⟩
theorem lw_p32 : lw_okq (⟨"PlanValuesModel", "isState", "(I)Z"⟩, 26) := ⟨⟨by decide +kernel, by decide +kernel⟩, List.mem_of_getElem? (i := 436) (by decide +kernel), List.mem_of_getElem? (i := 533) (by decide +kernel), List.mem_of_getElem? (i := 534) (by decide +kernel)⟩
theorem lw_p33 : lw_okq (⟨"PlanValuesModel", "isAct", "(II)Z"⟩, 26) := ⟨⟨by decide +kernel, by decide +kernel⟩, List.mem_of_getElem? (i := 436) (by decide +kernel), List.mem_of_getElem? (i := 546) (by decide +kernel), List.mem_of_getElem? (i := 547) (by decide +kernel)⟩
theorem lw_p34 : lw_okq (⟨"PlanValuesModel", "weightOf", "(III)I"⟩, 26) := ⟨⟨by decide +kernel, by decide +kernel⟩, List.mem_of_getElem? (i := 436) (by decide +kernel), List.mem_of_getElem? (i := 550) (by decide +kernel), List.mem_of_getElem? (i := 551) (by decide +kernel)⟩
theorem lw_p35 : lw_okq (⟨"PlanValuesModel", "total", "(II)I"⟩, 26) := ⟨⟨by decide +kernel, by decide +kernel⟩, List.mem_of_getElem? (i := 436) (by decide +kernel), List.mem_of_getElem? (i := 555) (by decide +kernel), List.mem_of_getElem? (i := 556) (by decide +kernel)⟩
theorem lw_p36 : lw_okq (⟨"PlanValuesModel", "layValues", "()V"⟩, 26) := ⟨⟨by decide +kernel, by decide +kernel⟩, List.mem_of_getElem? (i := 436) (by decide +kernel), List.mem_of_getElem? (i := 575) (by decide +kernel), List.mem_of_getElem? (i := 576) (by decide +kernel)⟩
theorem lw_p37 : lw_okq (⟨"PlanValuesModel", "layPlans", "()V"⟩, 26) := ⟨⟨by decide +kernel, by decide +kernel⟩, List.mem_of_getElem? (i := 436) (by decide +kernel), List.mem_of_getElem? (i := 579) (by decide +kernel), List.mem_of_getElem? (i := 580) (by decide +kernel)⟩
theorem lw_p38 : lw_okq (⟨"PlanValuesModel", "actIn", "(II)I"⟩, 26) := ⟨⟨by decide +kernel, by decide +kernel⟩, List.mem_of_getElem? (i := 436) (by decide +kernel), List.mem_of_getElem? (i := 583) (by decide +kernel), List.mem_of_getElem? (i := 584) (by decide +kernel)⟩
theorem lw_p39 : lw_okq (⟨"PlanValuesModel", "layWorth", "(II)V"⟩, 26) := ⟨⟨by decide +kernel, by decide +kernel⟩, List.mem_of_getElem? (i := 436) (by decide +kernel), List.mem_of_getElem? (i := 587) (by decide +kernel), List.mem_of_getElem? (i := 588) (by decide +kernel)⟩
theorem lw_p40 : lw_okq (⟨"PlanValuesModel", "fix", "(IJ)V"⟩, 26) := ⟨⟨by decide +kernel, by decide +kernel⟩, List.mem_of_getElem? (i := 436) (by decide +kernel), List.mem_of_getElem? (i := 591) (by decide +kernel), List.mem_of_getElem? (i := 592) (by decide +kernel)⟩
theorem lw_p41 : lw_okq (⟨"PlanValuesModel", "all", "(I)J"⟩, 26) := ⟨⟨by decide +kernel, by decide +kernel⟩, List.mem_of_getElem? (i := 436) (by decide +kernel), List.mem_of_getElem? (i := 595) (by decide +kernel), List.mem_of_getElem? (i := 596) (by decide +kernel)⟩
theorem lw_p42 : lw_okq (⟨"PlanValuesModel", "hasZeros", "(I)Z"⟩, 26) := ⟨⟨by decide +kernel, by decide +kernel⟩, List.mem_of_getElem? (i := 436) (by decide +kernel), List.mem_of_getElem? (i := 602) (by decide +kernel), List.mem_of_getElem? (i := 603) (by decide +kernel)⟩
theorem lw_p43 : lw_okq (⟨"PlanValuesModel", "utmost", "(IIZZ)I"⟩, 26) := ⟨⟨by decide +kernel, by decide +kernel⟩, List.mem_of_getElem? (i := 436) (by decide +kernel), List.mem_of_getElem? (i := 606) (by decide +kernel), List.mem_of_getElem? (i := 607) (by decide +kernel)⟩
theorem lw_p44 : lw_okq (⟨"PlanValuesModel", "agree", "(IIZ)Z"⟩, 26) := ⟨⟨by decide +kernel, by decide +kernel⟩, List.mem_of_getElem? (i := 436) (by decide +kernel), List.mem_of_getElem? (i := 610) (by decide +kernel), List.mem_of_getElem? (i := 611) (by decide +kernel)⟩
theorem lw_p45 : lw_okq (⟨"PlanValuesModel", "compare", "(III)I"⟩, 26) := ⟨⟨by decide +kernel, by decide +kernel⟩, List.mem_of_getElem? (i := 436) (by decide +kernel), List.mem_of_getElem? (i := 614) (by decide +kernel), List.mem_of_getElem? (i := 615) (by decide +kernel)⟩
theorem lw_p46 : lw_okq (⟨"PlanValuesModel", "hasAllValues", "(I)Z"⟩, 26) := ⟨⟨by decide +kernel, by decide +kernel⟩, List.mem_of_getElem? (i := 436) (by decide +kernel), List.mem_of_getElem? (i := 618) (by decide +kernel), List.mem_of_getElem? (i := 619) (by decide +kernel)⟩
theorem lw_p47 : lw_okq (⟨"PlanValuesModel", "answerWorth", "(II)I"⟩, 26) := ⟨⟨by decide +kernel, by decide +kernel⟩, List.mem_of_getElem? (i := 436) (by decide +kernel), List.mem_of_getElem? (i := 622) (by decide +kernel), List.mem_of_getElem? (i := 623) (by decide +kernel)⟩
def lw_privs_3 : List (MethodName × Nat) := [(⟨"PlanValuesModel", "isState", "(I)Z"⟩, 26), (⟨"PlanValuesModel", "isAct", "(II)Z"⟩, 26), (⟨"PlanValuesModel", "weightOf", "(III)I"⟩, 26), (⟨"PlanValuesModel", "total", "(II)I"⟩, 26), (⟨"PlanValuesModel", "layValues", "()V"⟩, 26), (⟨"PlanValuesModel", "layPlans", "()V"⟩, 26), (⟨"PlanValuesModel", "actIn", "(II)I"⟩, 26), (⟨"PlanValuesModel", "layWorth", "(II)V"⟩, 26), (⟨"PlanValuesModel", "fix", "(IJ)V"⟩, 26), (⟨"PlanValuesModel", "all", "(I)J"⟩, 26), (⟨"PlanValuesModel", "hasZeros", "(I)Z"⟩, 26), (⟨"PlanValuesModel", "utmost", "(IIZZ)I"⟩, 26), (⟨"PlanValuesModel", "agree", "(IIZ)Z"⟩, 26), (⟨"PlanValuesModel", "compare", "(III)I"⟩, 26), (⟨"PlanValuesModel", "hasAllValues", "(I)Z"⟩, 26), (⟨"PlanValuesModel", "answerWorth", "(II)I"⟩, 26)]
theorem lw_r3 : ∀ q ∈ lw_privs_3, lw_okq q := List.forall_mem_cons.mpr ⟨lw_p32, List.forall_mem_cons.mpr ⟨lw_p33, List.forall_mem_cons.mpr ⟨lw_p34, List.forall_mem_cons.mpr ⟨lw_p35, List.forall_mem_cons.mpr ⟨lw_p36, List.forall_mem_cons.mpr ⟨lw_p37, List.forall_mem_cons.mpr ⟨lw_p38, List.forall_mem_cons.mpr ⟨lw_p39, List.forall_mem_cons.mpr ⟨lw_p40, List.forall_mem_cons.mpr ⟨lw_p41, List.forall_mem_cons.mpr ⟨lw_p42, List.forall_mem_cons.mpr ⟨lw_p43, List.forall_mem_cons.mpr ⟨lw_p44, List.forall_mem_cons.mpr ⟨lw_p45, List.forall_mem_cons.mpr ⟨lw_p46, List.forall_mem_cons.mpr ⟨lw_p47, fun _ h => absurd h List.not_mem_nil⟩⟩⟩⟩⟩⟩⟩⟩⟩⟩⟩⟩⟩⟩⟩⟩
theorem lw_p48 : lw_okq (⟨"PlanValuesModel", "answer", "(JJ)I"⟩, 26) := ⟨⟨by decide +kernel, by decide +kernel⟩, List.mem_of_getElem? (i := 436) (by decide +kernel), List.mem_of_getElem? (i := 626) (by decide +kernel), List.mem_of_getElem? (i := 627) (by decide +kernel)⟩
theorem lw_p49 : lw_okq (⟨"PlanValuesModel", "layComes", "(II)V"⟩, 26) := ⟨⟨by decide +kernel, by decide +kernel⟩, List.mem_of_getElem? (i := 436) (by decide +kernel), List.mem_of_getElem? (i := 637) (by decide +kernel), List.mem_of_getElem? (i := 638) (by decide +kernel)⟩
theorem lw_p50 : lw_okq (⟨"PlanValuesModel", "toldPlan", "(II)I"⟩, 26) := ⟨⟨by decide +kernel, by decide +kernel⟩, List.mem_of_getElem? (i := 436) (by decide +kernel), List.mem_of_getElem? (i := 649) (by decide +kernel), List.mem_of_getElem? (i := 650) (by decide +kernel)⟩
theorem lw_p51 : lw_okq (⟨"PlanValuesModel", "comesNow", "(IIJ)J"⟩, 26) := ⟨⟨by decide +kernel, by decide +kernel⟩, List.mem_of_getElem? (i := 436) (by decide +kernel), List.mem_of_getElem? (i := 667) (by decide +kernel), List.mem_of_getElem? (i := 668) (by decide +kernel)⟩
theorem lw_p52 : lw_okq (⟨"PlanValuesModel", "ring", "(I)I"⟩, 26) := ⟨⟨by decide +kernel, by decide +kernel⟩, List.mem_of_getElem? (i := 436) (by decide +kernel), List.mem_of_getElem? (i := 675) (by decide +kernel), List.mem_of_getElem? (i := 676) (by decide +kernel)⟩
theorem lw_p53 : lw_okq (⟨"PlanValuesModel", "reach", "(I)I"⟩, 26) := ⟨⟨by decide +kernel, by decide +kernel⟩, List.mem_of_getElem? (i := 436) (by decide +kernel), List.mem_of_getElem? (i := 679) (by decide +kernel), List.mem_of_getElem? (i := 680) (by decide +kernel)⟩
theorem lw_p54 : lw_okq (⟨"PlanValuesModel", "toldWeight", "(II)I"⟩, 26) := ⟨⟨by decide +kernel, by decide +kernel⟩, List.mem_of_getElem? (i := 436) (by decide +kernel), List.mem_of_getElem? (i := 683) (by decide +kernel), List.mem_of_getElem? (i := 684) (by decide +kernel)⟩
theorem lw_p55 : lw_okq (⟨"PlanValuesModel", "toldTotal", "(I)I"⟩, 26) := ⟨⟨by decide +kernel, by decide +kernel⟩, List.mem_of_getElem? (i := 436) (by decide +kernel), List.mem_of_getElem? (i := 687) (by decide +kernel), List.mem_of_getElem? (i := 688) (by decide +kernel)⟩
theorem lw_p56 : lw_okq (⟨"PlanValuesModel", "layGain", "(I)V"⟩, 26) := ⟨⟨by decide +kernel, by decide +kernel⟩, List.mem_of_getElem? (i := 436) (by decide +kernel), List.mem_of_getElem? (i := 691) (by decide +kernel), List.mem_of_getElem? (i := 692) (by decide +kernel)⟩
theorem lw_p57 : lw_okq (⟨"PlanValuesModel", "layWalk", "(I)V"⟩, 26) := ⟨⟨by decide +kernel, by decide +kernel⟩, List.mem_of_getElem? (i := 436) (by decide +kernel), List.mem_of_getElem? (i := 695) (by decide +kernel), List.mem_of_getElem? (i := 696) (by decide +kernel)⟩
def lw_privs_4 : List (MethodName × Nat) := [(⟨"PlanValuesModel", "answer", "(JJ)I"⟩, 26), (⟨"PlanValuesModel", "layComes", "(II)V"⟩, 26), (⟨"PlanValuesModel", "toldPlan", "(II)I"⟩, 26), (⟨"PlanValuesModel", "comesNow", "(IIJ)J"⟩, 26), (⟨"PlanValuesModel", "ring", "(I)I"⟩, 26), (⟨"PlanValuesModel", "reach", "(I)I"⟩, 26), (⟨"PlanValuesModel", "toldWeight", "(II)I"⟩, 26), (⟨"PlanValuesModel", "toldTotal", "(I)I"⟩, 26), (⟨"PlanValuesModel", "layGain", "(I)V"⟩, 26), (⟨"PlanValuesModel", "layWalk", "(I)V"⟩, 26)]
theorem lw_r4 : ∀ q ∈ lw_privs_4, lw_okq q := List.forall_mem_cons.mpr ⟨lw_p48, List.forall_mem_cons.mpr ⟨lw_p49, List.forall_mem_cons.mpr ⟨lw_p50, List.forall_mem_cons.mpr ⟨lw_p51, List.forall_mem_cons.mpr ⟨lw_p52, List.forall_mem_cons.mpr ⟨lw_p53, List.forall_mem_cons.mpr ⟨lw_p54, List.forall_mem_cons.mpr ⟨lw_p55, List.forall_mem_cons.mpr ⟨lw_p56, List.forall_mem_cons.mpr ⟨lw_p57, fun _ h => absurd h List.not_mem_nil⟩⟩⟩⟩⟩⟩⟩⟩⟩⟩
def lw_privs : List (MethodName × Nat) := lw_privs_1 ++ (lw_privs_2 ++ (lw_privs_3 ++ (lw_privs_4)))
def lw_tbl : List Cond := k2_sels lw_privs ++ tables_1
theorem lw_privs_ok : ∀ q ∈ lw_privs, lw_okq q := by
  show ∀ q ∈ lw_privs_1 ++ (lw_privs_2 ++ (lw_privs_3 ++ (lw_privs_4))), lw_okq q
  exact List.forall_mem_append.mpr ⟨lw_r1, List.forall_mem_append.mpr ⟨lw_r2, List.forall_mem_append.mpr ⟨lw_r3, lw_r4⟩⟩⟩
end
section
/-! names, by program (gennames.py), out of the tables of the Statement -/
def RE : String := "PlanValues$Equations"
def TE : u_T := fun k => match k with
  | _ => ("PlanValues$Equations", "rows", "[[J", true)
def YE : Nat → FieldType := fun k => match k with
  | _ => (.array (.array .long))
def RL : String := "PlanValues$LongRun"
def TL : u_T := fun k => match k with
  | 0 => ("PlanValues$LongRun", "equations", "LPlanValues$Equations;", true)
  | 1 => ("PlanValues$LongRun", "numbers", "LPlanValues$Numbers;", true)
  | 2 => ("PlanValues$LongRun", "reach", "[I", true)
  | _ => ("PlanValues$LongRun", "homes", "[I", true)
def YL : Nat → FieldType := fun k => match k with
  | 0 => (.object "PlanValues$Equations")
  | 1 => (.object "PlanValues$Numbers")
  | 2 => (.array .int)
  | _ => (.array .int)
def RU : String := "PlanValues$Numbers"
def TU : u_T := fun k => match k with
  | 0 => ("PlanValues$Numbers", "uppers", "[J", true)
  | _ => ("PlanValues$Numbers", "lower", "J", false)
def YU : Nat → FieldType := fun k => match k with
  | 0 => (.array .long)
  | _ => .long
def RP : String := "PlanValues$PlanWorths"
def TP : u_T := fun k => match k with
  | 0 => ("PlanValues$PlanWorths", "equations", "LPlanValues$Equations;", true)
  | _ => ("PlanValues$PlanWorths", "numbers", "LPlanValues$Numbers;", true)
def YP : Nat → FieldType := fun k => match k with
  | 0 => (.object "PlanValues$Equations")
  | _ => (.object "PlanValues$Numbers")
def RW : String := "PlanValues$Walks"
def TW : u_T := fun k => match k with
  | 0 => ("PlanValues$Walks", "states", "I", false)
  | 1 => ("PlanValues$Walks", "shareUpper", "I", false)
  | 2 => ("PlanValues$Walks", "shareLower", "I", false)
  | 3 => ("PlanValues$Walks", "theirs", "[Z", true)
  | 4 => ("PlanValues$Walks", "acts", "[I", true)
  | 5 => ("PlanValues$Walks", "pays", "[I", true)
  | 6 => ("PlanValues$Walks", "totals", "[I", true)
  | _ => ("PlanValues$Walks", "weights", "[[I", true)
def YW : Nat → FieldType := fun k => match k with
  | 0 => .int
  | 1 => .int
  | 2 => .int
  | 3 => (.array .boolean)
  | 4 => (.array .int)
  | 5 => (.array .int)
  | 6 => (.array .int)
  | _ => (.array (.array .int))
def RV : String := "PlanValues"
def TV : u_T := fun k => match k with
  | 0 => ("PlanValues", "walks", "LPlanValues$Walks;", true)
  | 1 => ("PlanValues", "worths", "LPlanValues$PlanWorths;", true)
  | 2 => ("PlanValues", "longRun", "LPlanValues$LongRun;", true)
  | 3 => ("PlanValues", "stepNumbers", "LPlanValues$Numbers;", true)
  | 4 => ("PlanValues", "nextNumbers", "[J", true)
  | 5 => ("PlanValues", "toldPlan", "[I", true)
  | 6 => ("PlanValues", "valuePlan", "[I", true)
  | 7 => ("PlanValues", "trialPlan", "[I", true)
  | 8 => ("PlanValues", "answerUpper", "J", false)
  | _ => ("PlanValues", "answerLower", "J", false)
def YV : Nat → FieldType := fun k => match k with
  | 0 => (.object "PlanValues$Walks")
  | 1 => (.object "PlanValues$PlanWorths")
  | 2 => (.object "PlanValues$LongRun")
  | 3 => (.object "PlanValues$Numbers")
  | 4 => (.array .long)
  | 5 => (.array .int)
  | 6 => (.array .int)
  | 7 => (.array .int)
  | 8 => .long
  | _ => .long
def RM : String := "PlanValuesModel"
def TM : u_T := fun k => match k with
  | 0 => ("PlanValuesModel", "thrown", "I", false)
  | 1 => ("PlanValuesModel", "states", "I", false)
  | 2 => ("PlanValuesModel", "theirs", "[Z", false)
  | 3 => ("PlanValuesModel", "acts", "[I", false)
  | 4 => ("PlanValuesModel", "pays", "[I", false)
  | 5 => ("PlanValuesModel", "weights", "[I", false)
  | 6 => ("PlanValuesModel", "chosen", "[I", false)
  | 7 => ("PlanValuesModel", "upShare", "I", false)
  | 8 => ("PlanValuesModel", "downShare", "I", false)
  | 9 => ("PlanValuesModel", "up", "J", false)
  | 10 => ("PlanValuesModel", "down", "J", false)
  | 11 => ("PlanValuesModel", "cell", "[J", false)
  | 12 => ("PlanValuesModel", "right", "[J", false)
  | 13 => ("PlanValuesModel", "sum", "[J", false)
  | 14 => ("PlanValuesModel", "plans", "I", false)
  | 15 => ("PlanValuesModel", "upper", "[J", false)
  | 16 => ("PlanValuesModel", "lower", "[J", false)
  | 17 => ("PlanValuesModel", "valueAt", "[I", false)
  | 18 => ("PlanValuesModel", "common", "I", false)
  | 19 => ("PlanValuesModel", "shared", "I", false)
  | 20 => ("PlanValuesModel", "actUp", "J", false)
  | 21 => ("PlanValuesModel", "actDown", "J", false)
  | 22 => ("PlanValuesModel", "now", "[J", false)
  | 23 => ("PlanValuesModel", "then", "[J", false)
  | 24 => ("PlanValuesModel", "gainUp", "J", false)
  | _ => ("PlanValuesModel", "gainDown", "J", false)
def YM : Nat → FieldType := fun k => match k with
  | 0 => .int
  | 1 => .int
  | 2 => (.array .boolean)
  | 3 => (.array .int)
  | 4 => (.array .int)
  | 5 => (.array .int)
  | 6 => (.array .int)
  | 7 => .int
  | 8 => .int
  | 9 => .long
  | 10 => .long
  | 11 => (.array .long)
  | 12 => (.array .long)
  | 13 => (.array .long)
  | 14 => .int
  | 15 => (.array .long)
  | 16 => (.array .long)
  | 17 => (.array .int)
  | 18 => .int
  | 19 => .int
  | 20 => .long
  | 21 => .long
  | 22 => (.array .long)
  | 23 => (.array .long)
  | 24 => .long
  | _ => .long
abbrev vwCl : List vw_C := [(RE, TE, 1), (RL, TL, 4), (RU, TU, 2), (RP, TP, 2), (RW, TW, 8), (RV, TV, 10), (RM, TM, 26)]
def TT : List Cond := lw_tbl.filter goodWord
theorem TT_good : ∀ w ∈ TT, w ∈ TT ∧ ((w.onTables && w.keeps) = true ∨ ∃ ty, w = .arrayClass ty) := fun w h => ⟨h, good_of_word (List.mem_filter.mp h).2⟩
def nnKind : Cond → Bool
  | .fieldLinkNest .. => true
  | .methodLinkNest .. => true
  | .arrayOver (.array _) => true
  | _ => false
def NN : List Cond := tables_1.filter nnKind
theorem NN_kind : ∀ w ∈ NN, nnKind w = true := fun w h => (List.mem_filter.mp h).2
/-- what must be known of a class so that its fields can be read and written -/
def Wr (C : String) (T : u_T) (N : Nat) (ty0 : Nat → FieldType) : Prop := (∀ w ∈ u_ws C T N, w ∈ TT) ∧ (∀ k, k < N → parseFieldDescriptor (T k).2.2.1 = some (ty0 k)) ∧ ∀ a, a < N → ∀ b, b < N → a ≠ b → (T a).2.1 ≠ (T b).2.1
set_option maxRecDepth 100000 in
theorem wrE : Wr RE TE 1 YE := ⟨by decide +kernel, by decide +kernel, by decide +kernel⟩
set_option maxRecDepth 100000 in
theorem wrL : Wr RL TL 4 YL := ⟨by decide +kernel, by decide +kernel, by decide +kernel⟩
set_option maxRecDepth 100000 in
theorem wrU : Wr RU TU 2 YU := ⟨by decide +kernel, by decide +kernel, by decide +kernel⟩
set_option maxRecDepth 100000 in
theorem wrP : Wr RP TP 2 YP := ⟨by decide +kernel, by decide +kernel, by decide +kernel⟩
set_option maxRecDepth 100000 in
theorem wrW : Wr RW TW 8 YW := ⟨by decide +kernel, by decide +kernel, by decide +kernel⟩
set_option maxRecDepth 100000 in
theorem wrV : Wr RV TV 10 YV := ⟨by decide +kernel, by decide +kernel, by decide +kernel⟩
set_option maxRecDepth 100000 in
theorem wrM : Wr RM TM 26 YM := ⟨by decide +kernel, by decide +kernel, by decide +kernel⟩
/-- what must be known of a method that is called -/
def Yk (y : MethodName) (code : ByteArray) (maxL : Nat) (rt : Option FieldType) (na : Nat) : Prop := Cond.code y code maxL rt ∈ TT ∧ Cond.initialized y.cls ∈ TT ∧ y.cls ≠ "java/lang/invoke/MethodHandle" ∧ y.cls ≠ "java/lang/invoke/VarHandle" ∧ (parseMethodDescriptor y.desc).map (fun d => d.parameters.length) = some na
abbrev c_V_init : ByteArray := prog_1_method_1_code
def y_V_init : MethodName := ⟨RV, "<init>", "()V"⟩
set_option maxRecDepth 100000 in
theorem k_V_init : Yk y_V_init c_V_init 1 none 0 := ⟨List.mem_filter.mpr ⟨List.mem_append_right _ (by decide +kernel), rfl⟩, by decide +kernel, by decide +kernel, by decide +kernel, by decide +kernel⟩
abbrev c_JO_init : ByteArray := object_method_1_code
def y_JO_init : MethodName := ⟨"java/lang/Object", "<init>", "()V"⟩
abbrev c_W_init : ByteArray := prog_6_method_1_code
def y_W_init : MethodName := ⟨RW, "<init>", "()V"⟩
set_option maxRecDepth 100000 in
theorem k_W_init : Yk y_W_init c_W_init 1 none 0 := ⟨List.mem_filter.mpr ⟨List.mem_append_right _ (by decide +kernel), rfl⟩, by decide +kernel, by decide +kernel, by decide +kernel, by decide +kernel⟩
abbrev c_P_init : ByteArray := prog_5_method_1_code
def y_P_init : MethodName := ⟨RP, "<init>", "()V"⟩
set_option maxRecDepth 100000 in
theorem k_P_init : Yk y_P_init c_P_init 1 none 0 := ⟨List.mem_filter.mpr ⟨List.mem_append_right _ (by decide +kernel), rfl⟩, by decide +kernel, by decide +kernel, by decide +kernel, by decide +kernel⟩
abbrev c_E_init : ByteArray := prog_2_method_1_code
def y_E_init : MethodName := ⟨RE, "<init>", "()V"⟩
set_option maxRecDepth 100000 in
theorem k_E_init : Yk y_E_init c_E_init 1 none 0 := ⟨List.mem_filter.mpr ⟨List.mem_append_right _ (by decide +kernel), rfl⟩, by decide +kernel, by decide +kernel, by decide +kernel, by decide +kernel⟩
abbrev c_U_init : ByteArray := prog_4_method_1_code
def y_U_init : MethodName := ⟨RU, "<init>", "()V"⟩
set_option maxRecDepth 100000 in
theorem k_U_init : Yk y_U_init c_U_init 1 none 0 := ⟨List.mem_filter.mpr ⟨List.mem_append_right _ (by decide +kernel), rfl⟩, by decide +kernel, by decide +kernel, by decide +kernel, by decide +kernel⟩
abbrev c_L_init : ByteArray := prog_3_method_1_code
def y_L_init : MethodName := ⟨RL, "<init>", "()V"⟩
set_option maxRecDepth 100000 in
theorem k_L_init : Yk y_L_init c_L_init 1 none 0 := ⟨List.mem_filter.mpr ⟨List.mem_append_right _ (by decide +kernel), rfl⟩, by decide +kernel, by decide +kernel, by decide +kernel, by decide +kernel⟩
abbrev c_V_clear : ByteArray := prog_1_method_2_code
def y_V_clear : MethodName := ⟨RV, "clear", "()V"⟩
set_option maxRecDepth 100000 in
theorem k_V_clear : Yk y_V_clear c_V_clear 1 none 0 := ⟨List.mem_filter.mpr ⟨List.mem_append_right _ (by decide +kernel), rfl⟩, by decide +kernel, by decide +kernel, by decide +kernel, by decide +kernel⟩
abbrev c_W_forget : ByteArray := prog_6_method_3_code
def y_W_forget : MethodName := ⟨RW, "forget", "()V"⟩
set_option maxRecDepth 100000 in
theorem k_W_forget : Yk y_W_forget c_W_forget 2 none 0 := ⟨List.mem_filter.mpr ⟨List.mem_append_right _ (by decide +kernel), rfl⟩, by decide +kernel, by decide +kernel, by decide +kernel, by decide +kernel⟩
abbrev c_JA_fill_AII : ByteArray := prog_12_method_103_code
def y_JA_fill_AII : MethodName := ⟨"java/util/Arrays", "fill", "([II)V"⟩
set_option maxRecDepth 100000 in
theorem k_JA_fill_AII : Yk y_JA_fill_AII c_JA_fill_AII 4 none 2 := ⟨List.mem_filter.mpr ⟨List.mem_append_right _ (by decide +kernel), rfl⟩, by decide +kernel, by decide +kernel, by decide +kernel, by decide +kernel⟩
abbrev c_V_state : ByteArray := prog_1_method_3_code
def y_V_state : MethodName := ⟨RV, "state", "(Z)I"⟩
set_option maxRecDepth 100000 in
theorem k_V_state : Yk y_V_state c_V_state 2 (some .int) 1 := ⟨List.mem_filter.mpr ⟨List.mem_append_right _ (by decide +kernel), rfl⟩, by decide +kernel, by decide +kernel, by decide +kernel, by decide +kernel⟩
abbrev c_W_addState : ByteArray := prog_6_method_6_code
def y_W_addState : MethodName := ⟨RW, "addState", "(Z)I"⟩
set_option maxRecDepth 100000 in
theorem k_W_addState : Yk y_W_addState c_W_addState 3 (some .int) 1 := ⟨List.mem_filter.mpr ⟨List.mem_append_right _ (by decide +kernel), rfl⟩, by decide +kernel, by decide +kernel, by decide +kernel, by decide +kernel⟩
abbrev c_V_act : ByteArray := prog_1_method_4_code
def y_V_act : MethodName := ⟨RV, "act", "(II)I"⟩
set_option maxRecDepth 100000 in
theorem k_V_act : Yk y_V_act c_V_act 3 (some .int) 2 := ⟨List.mem_filter.mpr ⟨List.mem_append_right _ (by decide +kernel), rfl⟩, by decide +kernel, by decide +kernel, by decide +kernel, by decide +kernel⟩
abbrev c_W_hasState : ByteArray := prog_6_method_4_code
def y_W_hasState : MethodName := ⟨RW, "hasState", "(I)Z"⟩
set_option maxRecDepth 100000 in
theorem k_W_hasState : Yk y_W_hasState c_W_hasState 2 (some .boolean) 1 := ⟨List.mem_filter.mpr ⟨List.mem_append_right _ (by decide +kernel), rfl⟩, by decide +kernel, by decide +kernel, by decide +kernel, by decide +kernel⟩
abbrev c_V_isPay : ByteArray := prog_1_method_21_code
def y_V_isPay : MethodName := ⟨RV, "isPay", "(I)Z"⟩
set_option maxRecDepth 100000 in
theorem k_V_isPay : Yk y_V_isPay c_V_isPay 1 (some .boolean) 1 := ⟨List.mem_filter.mpr ⟨List.mem_append_right _ (by decide +kernel), rfl⟩, by decide +kernel, by decide +kernel, by decide +kernel, by decide +kernel⟩
abbrev c_W_addAct : ByteArray := prog_6_method_7_code
def y_W_addAct : MethodName := ⟨RW, "addAct", "(II)I"⟩
set_option maxRecDepth 100000 in
theorem k_W_addAct : Yk y_W_addAct c_W_addAct 4 (some .int) 2 := ⟨List.mem_filter.mpr ⟨List.mem_append_right _ (by decide +kernel), rfl⟩, by decide +kernel, by decide +kernel, by decide +kernel, by decide +kernel⟩
abbrev c_W_slotOf : ByteArray := prog_6_method_2_code
def y_W_slotOf : MethodName := ⟨RW, "slotOf", "(II)I"⟩
set_option maxRecDepth 100000 in
theorem k_W_slotOf : Yk y_W_slotOf c_W_slotOf 2 (some .int) 2 := ⟨List.mem_filter.mpr ⟨List.mem_append_right _ (by decide +kernel), rfl⟩, by decide +kernel, by decide +kernel, by decide +kernel, by decide +kernel⟩
abbrev c_V_weight : ByteArray := prog_1_method_5_code
def y_V_weight : MethodName := ⟨RV, "weight", "(IIII)I"⟩
set_option maxRecDepth 100000 in
theorem k_V_weight : Yk y_V_weight c_V_weight 8 (some .int) 4 := ⟨List.mem_filter.mpr ⟨List.mem_append_right _ (by decide +kernel), rfl⟩, by decide +kernel, by decide +kernel, by decide +kernel, by decide +kernel⟩
abbrev c_W_hasAct : ByteArray := prog_6_method_5_code
def y_W_hasAct : MethodName := ⟨RW, "hasAct", "(II)Z"⟩
set_option maxRecDepth 100000 in
theorem k_W_hasAct : Yk y_W_hasAct c_W_hasAct 3 (some .boolean) 2 := ⟨List.mem_filter.mpr ⟨List.mem_append_right _ (by decide +kernel), rfl⟩, by decide +kernel, by decide +kernel, by decide +kernel, by decide +kernel⟩
abbrev c_V_pay : ByteArray := prog_1_method_6_code
def y_V_pay : MethodName := ⟨RV, "pay", "(III)I"⟩
set_option maxRecDepth 100000 in
theorem k_V_pay : Yk y_V_pay c_V_pay 6 (some .int) 3 := ⟨List.mem_filter.mpr ⟨List.mem_append_right _ (by decide +kernel), rfl⟩, by decide +kernel, by decide +kernel, by decide +kernel, by decide +kernel⟩
abbrev c_V_share : ByteArray := prog_1_method_7_code
def y_V_share : MethodName := ⟨RV, "share", "(II)I"⟩
set_option maxRecDepth 100000 in
theorem k_V_share : Yk y_V_share c_V_share 3 (some .int) 2 := ⟨List.mem_filter.mpr ⟨List.mem_append_right _ (by decide +kernel), rfl⟩, by decide +kernel, by decide +kernel, by decide +kernel, by decide +kernel⟩
abbrev c_V_tell : ByteArray := prog_1_method_8_code
def y_V_tell : MethodName := ⟨RV, "tell", "(II)I"⟩
set_option maxRecDepth 100000 in
theorem k_V_tell : Yk y_V_tell c_V_tell 4 (some .int) 2 := ⟨List.mem_filter.mpr ⟨List.mem_append_right _ (by decide +kernel), rfl⟩, by decide +kernel, by decide +kernel, by decide +kernel, by decide +kernel⟩
abbrev c_V_value : ByteArray := prog_1_method_9_code
def y_V_value : MethodName := ⟨RV, "value", "(I)I"⟩
set_option maxRecDepth 100000 in
theorem k_V_value : Yk y_V_value c_V_value 2 (some .int) 1 := ⟨List.mem_filter.mpr ⟨List.mem_append_right _ (by decide +kernel), rfl⟩, by decide +kernel, by decide +kernel, by decide +kernel, by decide +kernel⟩
abbrev c_P_findValues : ByteArray := prog_5_method_5_code
def y_P_findValues : MethodName := ⟨RP, "findValues", "(LPlanValues$Walks;[I)V"⟩
set_option maxRecDepth 100000 in
theorem k_P_findValues : Yk y_P_findValues c_P_findValues 4 none 2 := ⟨List.mem_filter.mpr ⟨List.mem_append_right _ (by decide +kernel), rfl⟩, by decide +kernel, by decide +kernel, by decide +kernel, by decide +kernel⟩
abbrev c_P_replyBy : ByteArray := prog_5_method_4_code
def y_P_replyBy : MethodName := ⟨RP, "replyBy", "(ZLPlanValues$Walks;[I)V"⟩
set_option maxRecDepth 100000 in
theorem k_P_replyBy : Yk y_P_replyBy c_P_replyBy 5 none 3 := ⟨List.mem_filter.mpr ⟨List.mem_append_right _ (by decide +kernel), rfl⟩, by decide +kernel, by decide +kernel, by decide +kernel, by decide +kernel⟩
abbrev c_P_follow : ByteArray := prog_5_method_2_code
def y_P_follow : MethodName := ⟨RP, "follow", "(LPlanValues$Walks;[I)V"⟩
set_option maxRecDepth 100000 in
theorem k_P_follow : Yk y_P_follow c_P_follow 8 none 2 := ⟨List.mem_filter.mpr ⟨List.mem_append_right _ (by decide +kernel), rfl⟩, by decide +kernel, by decide +kernel, by decide +kernel, by decide +kernel⟩
abbrev c_E_begin : ByteArray := prog_2_method_2_code
def y_E_begin : MethodName := ⟨RE, "begin", "()V"⟩
set_option maxRecDepth 100000 in
theorem k_E_begin : Yk y_E_begin c_E_begin 2 none 0 := ⟨List.mem_filter.mpr ⟨List.mem_append_right _ (by decide +kernel), rfl⟩, by decide +kernel, by decide +kernel, by decide +kernel, by decide +kernel⟩
abbrev c_JA_fill_AJJ : ByteArray := prog_12_method_101_code
def y_JA_fill_AJJ : MethodName := ⟨"java/util/Arrays", "fill", "([JJ)V"⟩
set_option maxRecDepth 100000 in
theorem k_JA_fill_AJJ : Yk y_JA_fill_AJJ c_JA_fill_AJJ 5 none 2 := ⟨List.mem_filter.mpr ⟨List.mem_append_right _ (by decide +kernel), rfl⟩, by decide +kernel, by decide +kernel, by decide +kernel, by decide +kernel⟩
abbrev c_JM_max_II : ByteArray := prog_10_method_65_code
def y_JM_max_II : MethodName := ⟨"java/lang/Math", "max", "(II)I"⟩
set_option maxRecDepth 100000 in
theorem k_JM_max_II : Yk y_JM_max_II c_JM_max_II 2 (some .int) 2 := ⟨List.mem_filter.mpr ⟨List.mem_append_right _ (by decide +kernel), rfl⟩, by decide +kernel, by decide +kernel, by decide +kernel, by decide +kernel⟩
abbrev c_E_solve : ByteArray := prog_2_method_3_code
def y_E_solve : MethodName := ⟨RE, "solve", "(ILPlanValues$Numbers;)V"⟩
set_option maxRecDepth 100000 in
theorem k_E_solve : Yk y_E_solve c_E_solve 7 none 2 := ⟨List.mem_filter.mpr ⟨List.mem_append_right _ (by decide +kernel), rfl⟩, by decide +kernel, by decide +kernel, by decide +kernel, by decide +kernel⟩
abbrev c_E_eliminate : ByteArray := prog_2_method_4_code
def y_E_eliminate : MethodName := ⟨RE, "eliminate", "(IIJ)V"⟩
set_option maxRecDepth 100000 in
theorem k_E_eliminate : Yk y_E_eliminate c_E_eliminate 12 none 3 := ⟨List.mem_filter.mpr ⟨List.mem_append_right _ (by decide +kernel), rfl⟩, by decide +kernel, by decide +kernel, by decide +kernel, by decide +kernel⟩
abbrev c_JM_max_JJ : ByteArray := prog_10_method_66_code
def y_JM_max_JJ : MethodName := ⟨"java/lang/Math", "max", "(JJ)J"⟩
set_option maxRecDepth 100000 in
theorem k_JM_max_JJ : Yk y_JM_max_JJ c_JM_max_JJ 4 (some .long) 2 := ⟨List.mem_filter.mpr ⟨List.mem_append_right _ (by decide +kernel), rfl⟩, by decide +kernel, by decide +kernel, by decide +kernel, by decide +kernel⟩
abbrev c_P_improve : ByteArray := prog_5_method_3_code
def y_P_improve : MethodName := ⟨RP, "improve", "(ZLPlanValues$Walks;[I)Z"⟩
set_option maxRecDepth 100000 in
theorem k_P_improve : Yk y_P_improve c_P_improve 7 (some .boolean) 3 := ⟨List.mem_filter.mpr ⟨List.mem_append_right _ (by decide +kernel), rfl⟩, by decide +kernel, by decide +kernel, by decide +kernel, by decide +kernel⟩
abbrev c_W_likedAct : ByteArray := prog_6_method_11_code
def y_W_likedAct : MethodName := ⟨RW, "likedAct", "(IILPlanValues$Numbers;)I"⟩
set_option maxRecDepth 100000 in
theorem k_W_likedAct : Yk y_W_likedAct c_W_likedAct 10 (some .int) 3 := ⟨List.mem_filter.mpr ⟨List.mem_append_right _ (by decide +kernel), rfl⟩, by decide +kernel, by decide +kernel, by decide +kernel, by decide +kernel⟩
abbrev c_W_comesTo : ByteArray := prog_6_method_9_code
def y_W_comesTo : MethodName := ⟨RW, "comesTo", "(ILPlanValues$Numbers;)J"⟩
set_option maxRecDepth 100000 in
theorem k_W_comesTo : Yk y_W_comesTo c_W_comesTo 9 (some .long) 2 := ⟨List.mem_filter.mpr ⟨List.mem_append_right _ (by decide +kernel), rfl⟩, by decide +kernel, by decide +kernel, by decide +kernel, by decide +kernel⟩
abbrev c_W_stepScale : ByteArray := prog_6_method_8_code
def y_W_stepScale : MethodName := ⟨RW, "stepScale", "()J"⟩
set_option maxRecDepth 100000 in
theorem k_W_stepScale : Yk y_W_stepScale c_W_stepScale 1 (some .long) 0 := ⟨List.mem_filter.mpr ⟨List.mem_append_right _ (by decide +kernel), rfl⟩, by decide +kernel, by decide +kernel, by decide +kernel, by decide +kernel⟩
abbrev c_W_likes : ByteArray := prog_6_method_10_code
def y_W_likes : MethodName := ⟨RW, "likes", "(IJJ)Z"⟩
set_option maxRecDepth 100000 in
theorem k_W_likes : Yk y_W_likes c_W_likes 6 (some .boolean) 3 := ⟨List.mem_filter.mpr ⟨List.mem_append_right _ (by decide +kernel), rfl⟩, by decide +kernel, by decide +kernel, by decide +kernel, by decide +kernel⟩
abbrev c_V_giveAnswer : ByteArray := prog_1_method_22_code
def y_V_giveAnswer : MethodName := ⟨RV, "giveAnswer", "(JJ)I"⟩
set_option maxRecDepth 100000 in
theorem k_V_giveAnswer : Yk y_V_giveAnswer c_V_giveAnswer 7 (some .int) 2 := ⟨List.mem_filter.mpr ⟨List.mem_append_right _ (by decide +kernel), rfl⟩, by decide +kernel, by decide +kernel, by decide +kernel, by decide +kernel⟩
abbrev c_JM_abs : ByteArray := prog_10_method_61_code
def y_JM_abs : MethodName := ⟨"java/lang/Math", "abs", "(J)J"⟩
set_option maxRecDepth 100000 in
theorem k_JM_abs : Yk y_JM_abs c_JM_abs 2 (some .long) 1 := ⟨List.mem_filter.mpr ⟨List.mem_append_right _ (by decide +kernel), rfl⟩, by decide +kernel, by decide +kernel, by decide +kernel, by decide +kernel⟩
abbrev c_V_commonDivisor : ByteArray := prog_1_method_23_code
def y_V_commonDivisor : MethodName := ⟨RV, "commonDivisor", "(JJ)J"⟩
set_option maxRecDepth 100000 in
theorem k_V_commonDivisor : Yk y_V_commonDivisor c_V_commonDivisor 11 (some .long) 2 := ⟨List.mem_filter.mpr ⟨List.mem_append_right _ (by decide +kernel), rfl⟩, by decide +kernel, by decide +kernel, by decide +kernel, by decide +kernel⟩
abbrev c_V_comes : ByteArray := prog_1_method_10_code
def y_V_comes : MethodName := ⟨RV, "comes", "(II)I"⟩
set_option maxRecDepth 100000 in
theorem k_V_comes : Yk y_V_comes c_V_comes 5 (some .int) 2 := ⟨List.mem_filter.mpr ⟨List.mem_append_right _ (by decide +kernel), rfl⟩, by decide +kernel, by decide +kernel, by decide +kernel, by decide +kernel⟩
abbrev c_V_best : ByteArray := prog_1_method_11_code
def y_V_best : MethodName := ⟨RV, "best", "(I)I"⟩
set_option maxRecDepth 100000 in
theorem k_V_best : Yk y_V_best c_V_best 2 (some .int) 1 := ⟨List.mem_filter.mpr ⟨List.mem_append_right _ (by decide +kernel), rfl⟩, by decide +kernel, by decide +kernel, by decide +kernel, by decide +kernel⟩
abbrev c_V_bestBits : ByteArray := prog_1_method_27_code
def y_V_bestBits : MethodName := ⟨RV, "bestBits", "(I)I"⟩
set_option maxRecDepth 100000 in
theorem k_V_bestBits : Yk y_V_bestBits c_V_bestBits 4 (some .int) 1 := ⟨List.mem_filter.mpr ⟨List.mem_append_right _ (by decide +kernel), rfl⟩, by decide +kernel, by decide +kernel, by decide +kernel, by decide +kernel⟩
abbrev c_V_isBest : ByteArray := prog_1_method_26_code
def y_V_isBest : MethodName := ⟨RV, "isBest", "(II)Z"⟩
set_option maxRecDepth 100000 in
theorem k_V_isBest : Yk y_V_isBest c_V_isBest 5 (some .boolean) 2 := ⟨List.mem_filter.mpr ⟨List.mem_append_right _ (by decide +kernel), rfl⟩, by decide +kernel, by decide +kernel, by decide +kernel, by decide +kernel⟩
abbrev c_V_worth : ByteArray := prog_1_method_12_code
def y_V_worth : MethodName := ⟨RV, "worth", "(I)I"⟩
set_option maxRecDepth 100000 in
theorem k_V_worth : Yk y_V_worth c_V_worth 2 (some .int) 1 := ⟨List.mem_filter.mpr ⟨List.mem_append_right _ (by decide +kernel), rfl⟩, by decide +kernel, by decide +kernel, by decide +kernel, by decide +kernel⟩
abbrev c_V_reply : ByteArray := prog_1_method_13_code
def y_V_reply : MethodName := ⟨RV, "reply", "(II)I"⟩
set_option maxRecDepth 100000 in
theorem k_V_reply : Yk y_V_reply c_V_reply 3 (some .int) 2 := ⟨List.mem_filter.mpr ⟨List.mem_append_right _ (by decide +kernel), rfl⟩, by decide +kernel, by decide +kernel, by decide +kernel, by decide +kernel⟩
abbrev c_V_tryToldPlan : ByteArray := prog_1_method_24_code
def y_V_tryToldPlan : MethodName := ⟨RV, "tryToldPlan", "()V"⟩
set_option maxRecDepth 100000 in
theorem k_V_tryToldPlan : Yk y_V_tryToldPlan c_V_tryToldPlan 1 none 0 := ⟨List.mem_filter.mpr ⟨List.mem_append_right _ (by decide +kernel), rfl⟩, by decide +kernel, by decide +kernel, by decide +kernel, by decide +kernel⟩
abbrev c_V_change : ByteArray := prog_1_method_14_code
def y_V_change : MethodName := ⟨RV, "change", "(I)I"⟩
set_option maxRecDepth 100000 in
theorem k_V_change : Yk y_V_change c_V_change 12 (some .int) 1 := ⟨List.mem_filter.mpr ⟨List.mem_append_right _ (by decide +kernel), rfl⟩, by decide +kernel, by decide +kernel, by decide +kernel, by decide +kernel⟩
abbrev c_V_within : ByteArray := prog_1_method_15_code
def y_V_within : MethodName := ⟨RV, "within", "(II)I"⟩
set_option maxRecDepth 100000 in
theorem k_V_within : Yk y_V_within c_V_within 4 (some .int) 2 := ⟨List.mem_filter.mpr ⟨List.mem_append_right _ (by decide +kernel), rfl⟩, by decide +kernel, by decide +kernel, by decide +kernel, by decide +kernel⟩
abbrev c_V_stepBack : ByteArray := prog_1_method_25_code
def y_V_stepBack : MethodName := ⟨RV, "stepBack", "()V"⟩
set_option maxRecDepth 100000 in
theorem k_V_stepBack : Yk y_V_stepBack c_V_stepBack 3 none 0 := ⟨List.mem_filter.mpr ⟨List.mem_append_right _ (by decide +kernel), rfl⟩, by decide +kernel, by decide +kernel, by decide +kernel, by decide +kernel⟩
abbrev c_V_run : ByteArray := prog_1_method_16_code
def y_V_run : MethodName := ⟨RV, "run", "(I)I"⟩
set_option maxRecDepth 100000 in
theorem k_V_run : Yk y_V_run c_V_run 2 (some .int) 1 := ⟨List.mem_filter.mpr ⟨List.mem_append_right _ (by decide +kernel), rfl⟩, by decide +kernel, by decide +kernel, by decide +kernel, by decide +kernel⟩
abbrev c_L_follow : ByteArray := prog_3_method_2_code
def y_L_follow : MethodName := ⟨RL, "follow", "(LPlanValues$Walks;[I)V"⟩
set_option maxRecDepth 100000 in
theorem k_L_follow : Yk y_L_follow c_L_follow 5 none 2 := ⟨List.mem_filter.mpr ⟨List.mem_append_right _ (by decide +kernel), rfl⟩, by decide +kernel, by decide +kernel, by decide +kernel, by decide +kernel⟩
abbrev c_L_findReach : ByteArray := prog_3_method_3_code
def y_L_findReach : MethodName := ⟨RL, "findReach", "(LPlanValues$Walks;[I)V"⟩
set_option maxRecDepth 100000 in
theorem k_L_findReach : Yk y_L_findReach c_L_findReach 7 none 2 := ⟨List.mem_filter.mpr ⟨List.mem_append_right _ (by decide +kernel), rfl⟩, by decide +kernel, by decide +kernel, by decide +kernel, by decide +kernel⟩
abbrev c_L_reaches : ByteArray := prog_3_method_4_code
def y_L_reaches : MethodName := ⟨RL, "reaches", "(II)Z"⟩
set_option maxRecDepth 100000 in
theorem k_L_reaches : Yk y_L_reaches c_L_reaches 3 (some .boolean) 2 := ⟨List.mem_filter.mpr ⟨List.mem_append_right _ (by decide +kernel), rfl⟩, by decide +kernel, by decide +kernel, by decide +kernel, by decide +kernel⟩
abbrev c_L_findHomes : ByteArray := prog_3_method_6_code
def y_L_findHomes : MethodName := ⟨RL, "findHomes", "(I)V"⟩
set_option maxRecDepth 100000 in
theorem k_L_findHomes : Yk y_L_findHomes c_L_findHomes 5 none 1 := ⟨List.mem_filter.mpr ⟨List.mem_append_right _ (by decide +kernel), rfl⟩, by decide +kernel, by decide +kernel, by decide +kernel, by decide +kernel⟩
abbrev c_L_isInCircle : ByteArray := prog_3_method_5_code
def y_L_isInCircle : MethodName := ⟨RL, "isInCircle", "(II)Z"⟩
set_option maxRecDepth 100000 in
theorem k_L_isInCircle : Yk y_L_isInCircle c_L_isInCircle 4 (some .boolean) 2 := ⟨List.mem_filter.mpr ⟨List.mem_append_right _ (by decide +kernel), rfl⟩, by decide +kernel, by decide +kernel, by decide +kernel, by decide +kernel⟩
abbrev c_L_writeCircle : ByteArray := prog_3_method_7_code
def y_L_writeCircle : MethodName := ⟨RL, "writeCircle", "(LPlanValues$Walks;II)V"⟩
set_option maxRecDepth 100000 in
theorem k_L_writeCircle : Yk y_L_writeCircle c_L_writeCircle 8 none 3 := ⟨List.mem_filter.mpr ⟨List.mem_append_right _ (by decide +kernel), rfl⟩, by decide +kernel, by decide +kernel, by decide +kernel, by decide +kernel⟩
abbrev c_L_writePassage : ByteArray := prog_3_method_8_code
def y_L_writePassage : MethodName := ⟨RL, "writePassage", "(LPlanValues$Walks;II)V"⟩
set_option maxRecDepth 100000 in
theorem k_L_writePassage : Yk y_L_writePassage c_L_writePassage 6 none 3 := ⟨List.mem_filter.mpr ⟨List.mem_append_right _ (by decide +kernel), rfl⟩, by decide +kernel, by decide +kernel, by decide +kernel, by decide +kernel⟩
abbrev c_V_settled : ByteArray := prog_1_method_17_code
def y_V_settled : MethodName := ⟨RV, "settled", "()I"⟩
set_option maxRecDepth 100000 in
theorem k_V_settled : Yk y_V_settled c_V_settled 2 (some .int) 0 := ⟨List.mem_filter.mpr ⟨List.mem_append_right _ (by decide +kernel), rfl⟩, by decide +kernel, by decide +kernel, by decide +kernel, by decide +kernel⟩
abbrev c_V_upper : ByteArray := prog_1_method_18_code
def y_V_upper : MethodName := ⟨RV, "upper", "()J"⟩
set_option maxRecDepth 100000 in
theorem k_V_upper : Yk y_V_upper c_V_upper 1 (some .long) 0 := ⟨List.mem_filter.mpr ⟨List.mem_append_right _ (by decide +kernel), rfl⟩, by decide +kernel, by decide +kernel, by decide +kernel, by decide +kernel⟩
abbrev c_V_lower : ByteArray := prog_1_method_19_code
def y_V_lower : MethodName := ⟨RV, "lower", "()J"⟩
set_option maxRecDepth 100000 in
theorem k_V_lower : Yk y_V_lower c_V_lower 1 (some .long) 0 := ⟨List.mem_filter.mpr ⟨List.mem_append_right _ (by decide +kernel), rfl⟩, by decide +kernel, by decide +kernel, by decide +kernel, by decide +kernel⟩
abbrev c_V_told : ByteArray := prog_1_method_20_code
def y_V_told : MethodName := ⟨RV, "told", "(I)I"⟩
set_option maxRecDepth 100000 in
theorem k_V_told : Yk y_V_told c_V_told 2 (some .int) 1 := ⟨List.mem_filter.mpr ⟨List.mem_append_right _ (by decide +kernel), rfl⟩, by decide +kernel, by decide +kernel, by decide +kernel, by decide +kernel⟩
abbrev c_V_countActs : ByteArray := prog_1_method_28_code
def y_V_countActs : MethodName := ⟨RV, "countActs", "()I"⟩
set_option maxRecDepth 100000 in
theorem k_V_countActs : Yk y_V_countActs c_V_countActs 3 (some .int) 0 := ⟨List.mem_filter.mpr ⟨List.mem_append_right _ (by decide +kernel), rfl⟩, by decide +kernel, by decide +kernel, by decide +kernel, by decide +kernel⟩
abbrev c_V_countPlans : ByteArray := prog_1_method_29_code
def y_V_countPlans : MethodName := ⟨RV, "countPlans", "()I"⟩
set_option maxRecDepth 100000 in
theorem k_V_countPlans : Yk y_V_countPlans c_V_countPlans 3 (some .int) 0 := ⟨List.mem_filter.mpr ⟨List.mem_append_right _ (by decide +kernel), rfl⟩, by decide +kernel, by decide +kernel, by decide +kernel, by decide +kernel⟩
abbrev c_V_countBestPlans : ByteArray := prog_1_method_30_code
def y_V_countBestPlans : MethodName := ⟨RV, "countBestPlans", "()I"⟩
set_option maxRecDepth 100000 in
theorem k_V_countBestPlans : Yk y_V_countBestPlans c_V_countBestPlans 3 (some .int) 0 := ⟨List.mem_filter.mpr ⟨List.mem_append_right _ (by decide +kernel), rfl⟩, by decide +kernel, by decide +kernel, by decide +kernel, by decide +kernel⟩
abbrev c_JI_bitCount : ByteArray := prog_9_method_49_code
def y_JI_bitCount : MethodName := ⟨"java/lang/Integer", "bitCount", "(I)I"⟩
set_option maxRecDepth 100000 in
theorem k_JI_bitCount : Yk y_JI_bitCount c_JI_bitCount 1 (some .int) 1 := ⟨List.mem_filter.mpr ⟨List.mem_append_right _ (by decide +kernel), rfl⟩, by decide +kernel, by decide +kernel, by decide +kernel, by decide +kernel⟩
abbrev c_V_countTheirs : ByteArray := prog_1_method_31_code
def y_V_countTheirs : MethodName := ⟨RV, "countTheirs", "()I"⟩
set_option maxRecDepth 100000 in
theorem k_V_countTheirs : Yk y_V_countTheirs c_V_countTheirs 3 (some .int) 0 := ⟨List.mem_filter.mpr ⟨List.mem_append_right _ (by decide +kernel), rfl⟩, by decide +kernel, by decide +kernel, by decide +kernel, by decide +kernel⟩
abbrev c_M_init : ByteArray := prog_8_method_1_code
def y_M_init : MethodName := ⟨RM, "<init>", "()V"⟩
set_option maxRecDepth 100000 in
theorem k_M_init : Yk y_M_init c_M_init 1 none 0 := ⟨List.mem_filter.mpr ⟨List.mem_append_right _ (by decide +kernel), rfl⟩, by decide +kernel, by decide +kernel, by decide +kernel, by decide +kernel⟩
abbrev c_M_clear : ByteArray := prog_8_method_10_code
def y_M_clear : MethodName := ⟨RM, "clear", "()V"⟩
set_option maxRecDepth 100000 in
theorem k_M_clear : Yk y_M_clear c_M_clear 1 none 0 := ⟨List.mem_filter.mpr ⟨List.mem_append_right _ (by decide +kernel), rfl⟩, by decide +kernel, by decide +kernel, by decide +kernel, by decide +kernel⟩
abbrev c_M_state : ByteArray := prog_8_method_11_code
def y_M_state : MethodName := ⟨RM, "state", "(Z)I"⟩
set_option maxRecDepth 100000 in
theorem k_M_state : Yk y_M_state c_M_state 2 (some .int) 1 := ⟨List.mem_filter.mpr ⟨List.mem_append_right _ (by decide +kernel), rfl⟩, by decide +kernel, by decide +kernel, by decide +kernel, by decide +kernel⟩
abbrev c_M_act : ByteArray := prog_8_method_12_code
def y_M_act : MethodName := ⟨RM, "act", "(II)I"⟩
set_option maxRecDepth 100000 in
theorem k_M_act : Yk y_M_act c_M_act 5 (some .int) 2 := ⟨List.mem_filter.mpr ⟨List.mem_append_right _ (by decide +kernel), rfl⟩, by decide +kernel, by decide +kernel, by decide +kernel, by decide +kernel⟩
abbrev c_M_isState : ByteArray := prog_8_method_6_code
def y_M_isState : MethodName := ⟨RM, "isState", "(I)Z"⟩
set_option maxRecDepth 100000 in
theorem k_M_isState : Yk y_M_isState c_M_isState 2 (some .boolean) 1 := ⟨List.mem_filter.mpr ⟨List.mem_append_right _ (by decide +kernel), rfl⟩, by decide +kernel, by decide +kernel, by decide +kernel, by decide +kernel⟩
abbrev c_M_in : ByteArray := prog_8_method_3_code
def y_M_in : MethodName := ⟨RM, "in", "(JJJ)Z"⟩
set_option maxRecDepth 100000 in
theorem k_M_in : Yk y_M_in c_M_in 6 (some .boolean) 3 := ⟨List.mem_filter.mpr ⟨List.mem_append_right _ (by decide +kernel), rfl⟩, by decide +kernel, by decide +kernel, by decide +kernel, by decide +kernel⟩
abbrev c_M_weight : ByteArray := prog_8_method_13_code
def y_M_weight : MethodName := ⟨RM, "weight", "(IIII)I"⟩
set_option maxRecDepth 100000 in
theorem k_M_weight : Yk y_M_weight c_M_weight 6 (some .int) 4 := ⟨List.mem_filter.mpr ⟨List.mem_append_right _ (by decide +kernel), rfl⟩, by decide +kernel, by decide +kernel, by decide +kernel, by decide +kernel⟩
abbrev c_M_isAct : ByteArray := prog_8_method_7_code
def y_M_isAct : MethodName := ⟨RM, "isAct", "(II)Z"⟩
set_option maxRecDepth 100000 in
theorem k_M_isAct : Yk y_M_isAct c_M_isAct 3 (some .boolean) 2 := ⟨List.mem_filter.mpr ⟨List.mem_append_right _ (by decide +kernel), rfl⟩, by decide +kernel, by decide +kernel, by decide +kernel, by decide +kernel⟩
abbrev c_M_weightOf : ByteArray := prog_8_method_8_code
def y_M_weightOf : MethodName := ⟨RM, "weightOf", "(III)I"⟩
set_option maxRecDepth 100000 in
theorem k_M_weightOf : Yk y_M_weightOf c_M_weightOf 4 (some .int) 3 := ⟨List.mem_filter.mpr ⟨List.mem_append_right _ (by decide +kernel), rfl⟩, by decide +kernel, by decide +kernel, by decide +kernel, by decide +kernel⟩
abbrev c_M_total : ByteArray := prog_8_method_9_code
def y_M_total : MethodName := ⟨RM, "total", "(II)I"⟩
set_option maxRecDepth 100000 in
theorem k_M_total : Yk y_M_total c_M_total 5 (some .int) 2 := ⟨List.mem_filter.mpr ⟨List.mem_append_right _ (by decide +kernel), rfl⟩, by decide +kernel, by decide +kernel, by decide +kernel, by decide +kernel⟩
abbrev c_M_pay : ByteArray := prog_8_method_14_code
def y_M_pay : MethodName := ⟨RM, "pay", "(III)I"⟩
set_option maxRecDepth 100000 in
theorem k_M_pay : Yk y_M_pay c_M_pay 5 (some .int) 3 := ⟨List.mem_filter.mpr ⟨List.mem_append_right _ (by decide +kernel), rfl⟩, by decide +kernel, by decide +kernel, by decide +kernel, by decide +kernel⟩
abbrev c_M_share : ByteArray := prog_8_method_15_code
def y_M_share : MethodName := ⟨RM, "share", "(II)I"⟩
set_option maxRecDepth 100000 in
theorem k_M_share : Yk y_M_share c_M_share 3 (some .int) 2 := ⟨List.mem_filter.mpr ⟨List.mem_append_right _ (by decide +kernel), rfl⟩, by decide +kernel, by decide +kernel, by decide +kernel, by decide +kernel⟩
abbrev c_M_tell : ByteArray := prog_8_method_16_code
def y_M_tell : MethodName := ⟨RM, "tell", "(II)I"⟩
set_option maxRecDepth 100000 in
theorem k_M_tell : Yk y_M_tell c_M_tell 4 (some .int) 2 := ⟨List.mem_filter.mpr ⟨List.mem_append_right _ (by decide +kernel), rfl⟩, by decide +kernel, by decide +kernel, by decide +kernel, by decide +kernel⟩
abbrev c_M_value : ByteArray := prog_8_method_31_code
def y_M_value : MethodName := ⟨RM, "value", "(I)I"⟩
set_option maxRecDepth 100000 in
theorem k_M_value : Yk y_M_value c_M_value 2 (some .int) 1 := ⟨List.mem_filter.mpr ⟨List.mem_append_right _ (by decide +kernel), rfl⟩, by decide +kernel, by decide +kernel, by decide +kernel, by decide +kernel⟩
abbrev c_M_layValues : ByteArray := prog_8_method_29_code
def y_M_layValues : MethodName := ⟨RM, "layValues", "()V"⟩
set_option maxRecDepth 100000 in
theorem k_M_layValues : Yk y_M_layValues c_M_layValues 5 none 0 := ⟨List.mem_filter.mpr ⟨List.mem_append_right _ (by decide +kernel), rfl⟩, by decide +kernel, by decide +kernel, by decide +kernel, by decide +kernel⟩
abbrev c_M_layPlans : ByteArray := prog_8_method_23_code
def y_M_layPlans : MethodName := ⟨RM, "layPlans", "()V"⟩
set_option maxRecDepth 100000 in
theorem k_M_layPlans : Yk y_M_layPlans c_M_layPlans 3 none 0 := ⟨List.mem_filter.mpr ⟨List.mem_append_right _ (by decide +kernel), rfl⟩, by decide +kernel, by decide +kernel, by decide +kernel, by decide +kernel⟩
abbrev c_M_actIn : ByteArray := prog_8_method_21_code
def y_M_actIn : MethodName := ⟨RM, "actIn", "(II)I"⟩
set_option maxRecDepth 100000 in
theorem k_M_actIn : Yk y_M_actIn c_M_actIn 5 (some .int) 2 := ⟨List.mem_filter.mpr ⟨List.mem_append_right _ (by decide +kernel), rfl⟩, by decide +kernel, by decide +kernel, by decide +kernel, by decide +kernel⟩
abbrev c_M_layWorth : ByteArray := prog_8_method_20_code
def y_M_layWorth : MethodName := ⟨RM, "layWorth", "(II)V"⟩
set_option maxRecDepth 100000 in
theorem k_M_layWorth : Yk y_M_layWorth c_M_layWorth 5 none 2 := ⟨List.mem_filter.mpr ⟨List.mem_append_right _ (by decide +kernel), rfl⟩, by decide +kernel, by decide +kernel, by decide +kernel, by decide +kernel⟩
abbrev c_M_fix : ByteArray := prog_8_method_19_code
def y_M_fix : MethodName := ⟨RM, "fix", "(IJ)V"⟩
set_option maxRecDepth 100000 in
theorem k_M_fix : Yk y_M_fix c_M_fix 5 none 2 := ⟨List.mem_filter.mpr ⟨List.mem_append_right _ (by decide +kernel), rfl⟩, by decide +kernel, by decide +kernel, by decide +kernel, by decide +kernel⟩
abbrev c_M_all : ByteArray := prog_8_method_18_code
def y_M_all : MethodName := ⟨RM, "all", "(I)J"⟩
set_option maxRecDepth 100000 in
theorem k_M_all : Yk y_M_all c_M_all 8 (some .long) 1 := ⟨List.mem_filter.mpr ⟨List.mem_append_right _ (by decide +kernel), rfl⟩, by decide +kernel, by decide +kernel, by decide +kernel, by decide +kernel⟩
abbrev c_M_many : ByteArray := prog_8_method_17_code
def y_M_many : MethodName := ⟨RM, "many", "(I)I"⟩
set_option maxRecDepth 100000 in
theorem k_M_many : Yk y_M_many c_M_many 3 (some .int) 1 := ⟨List.mem_filter.mpr ⟨List.mem_append_right _ (by decide +kernel), rfl⟩, by decide +kernel, by decide +kernel, by decide +kernel, by decide +kernel⟩
abbrev c_M_hasZeros : ByteArray := prog_8_method_27_code
def y_M_hasZeros : MethodName := ⟨RM, "hasZeros", "(I)Z"⟩
set_option maxRecDepth 100000 in
theorem k_M_hasZeros : Yk y_M_hasZeros c_M_hasZeros 3 (some .boolean) 1 := ⟨List.mem_filter.mpr ⟨List.mem_append_right _ (by decide +kernel), rfl⟩, by decide +kernel, by decide +kernel, by decide +kernel, by decide +kernel⟩
abbrev c_M_utmost : ByteArray := prog_8_method_26_code
def y_M_utmost : MethodName := ⟨RM, "utmost", "(IIZZ)I"⟩
set_option maxRecDepth 100000 in
theorem k_M_utmost : Yk y_M_utmost c_M_utmost 8 (some .int) 4 := ⟨List.mem_filter.mpr ⟨List.mem_append_right _ (by decide +kernel), rfl⟩, by decide +kernel, by decide +kernel, by decide +kernel, by decide +kernel⟩
abbrev c_M_agree : ByteArray := prog_8_method_25_code
def y_M_agree : MethodName := ⟨RM, "agree", "(IIZ)Z"⟩
set_option maxRecDepth 100000 in
theorem k_M_agree : Yk y_M_agree c_M_agree 5 (some .boolean) 3 := ⟨List.mem_filter.mpr ⟨List.mem_append_right _ (by decide +kernel), rfl⟩, by decide +kernel, by decide +kernel, by decide +kernel, by decide +kernel⟩
abbrev c_M_compare : ByteArray := prog_8_method_24_code
def y_M_compare : MethodName := ⟨RM, "compare", "(III)I"⟩
set_option maxRecDepth 100000 in
theorem k_M_compare : Yk y_M_compare c_M_compare 8 (some .int) 3 := ⟨List.mem_filter.mpr ⟨List.mem_append_right _ (by decide +kernel), rfl⟩, by decide +kernel, by decide +kernel, by decide +kernel, by decide +kernel⟩
abbrev c_M_hasAllValues : ByteArray := prog_8_method_28_code
def y_M_hasAllValues : MethodName := ⟨RM, "hasAllValues", "(I)Z"⟩
set_option maxRecDepth 100000 in
theorem k_M_hasAllValues : Yk y_M_hasAllValues c_M_hasAllValues 3 (some .boolean) 1 := ⟨List.mem_filter.mpr ⟨List.mem_append_right _ (by decide +kernel), rfl⟩, by decide +kernel, by decide +kernel, by decide +kernel, by decide +kernel⟩
abbrev c_M_answerWorth : ByteArray := prog_8_method_30_code
def y_M_answerWorth : MethodName := ⟨RM, "answerWorth", "(II)I"⟩
set_option maxRecDepth 100000 in
theorem k_M_answerWorth : Yk y_M_answerWorth c_M_answerWorth 3 (some .int) 2 := ⟨List.mem_filter.mpr ⟨List.mem_append_right _ (by decide +kernel), rfl⟩, by decide +kernel, by decide +kernel, by decide +kernel, by decide +kernel⟩
abbrev c_M_answer : ByteArray := prog_8_method_5_code
def y_M_answer : MethodName := ⟨RM, "answer", "(JJ)I"⟩
set_option maxRecDepth 100000 in
theorem k_M_answer : Yk y_M_answer c_M_answer 7 (some .int) 2 := ⟨List.mem_filter.mpr ⟨List.mem_append_right _ (by decide +kernel), rfl⟩, by decide +kernel, by decide +kernel, by decide +kernel, by decide +kernel⟩
abbrev c_M_divisor : ByteArray := prog_8_method_4_code
def y_M_divisor : MethodName := ⟨RM, "divisor", "(JJ)J"⟩
set_option maxRecDepth 100000 in
theorem k_M_divisor : Yk y_M_divisor c_M_divisor 10 (some .long) 2 := ⟨List.mem_filter.mpr ⟨List.mem_append_right _ (by decide +kernel), rfl⟩, by decide +kernel, by decide +kernel, by decide +kernel, by decide +kernel⟩
abbrev c_M_comes : ByteArray := prog_8_method_33_code
def y_M_comes : MethodName := ⟨RM, "comes", "(II)I"⟩
set_option maxRecDepth 100000 in
theorem k_M_comes : Yk y_M_comes c_M_comes 3 (some .int) 2 := ⟨List.mem_filter.mpr ⟨List.mem_append_right _ (by decide +kernel), rfl⟩, by decide +kernel, by decide +kernel, by decide +kernel, by decide +kernel⟩
abbrev c_M_layComes : ByteArray := prog_8_method_32_code
def y_M_layComes : MethodName := ⟨RM, "layComes", "(II)V"⟩
set_option maxRecDepth 100000 in
theorem k_M_layComes : Yk y_M_layComes c_M_layComes 7 none 2 := ⟨List.mem_filter.mpr ⟨List.mem_append_right _ (by decide +kernel), rfl⟩, by decide +kernel, by decide +kernel, by decide +kernel, by decide +kernel⟩
abbrev c_M_best : ByteArray := prog_8_method_34_code
def y_M_best : MethodName := ⟨RM, "best", "(I)I"⟩
set_option maxRecDepth 100000 in
theorem k_M_best : Yk y_M_best c_M_best 11 (some .int) 1 := ⟨List.mem_filter.mpr ⟨List.mem_append_right _ (by decide +kernel), rfl⟩, by decide +kernel, by decide +kernel, by decide +kernel, by decide +kernel⟩
abbrev c_M_worth : ByteArray := prog_8_method_35_code
def y_M_worth : MethodName := ⟨RM, "worth", "(I)I"⟩
set_option maxRecDepth 100000 in
theorem k_M_worth : Yk y_M_worth c_M_worth 2 (some .int) 1 := ⟨List.mem_filter.mpr ⟨List.mem_append_right _ (by decide +kernel), rfl⟩, by decide +kernel, by decide +kernel, by decide +kernel, by decide +kernel⟩
abbrev c_M_toldPlan : ByteArray := prog_8_method_22_code
def y_M_toldPlan : MethodName := ⟨RM, "toldPlan", "(II)I"⟩
set_option maxRecDepth 100000 in
theorem k_M_toldPlan : Yk y_M_toldPlan c_M_toldPlan 6 (some .int) 2 := ⟨List.mem_filter.mpr ⟨List.mem_append_right _ (by decide +kernel), rfl⟩, by decide +kernel, by decide +kernel, by decide +kernel, by decide +kernel⟩
abbrev c_M_reply : ByteArray := prog_8_method_36_code
def y_M_reply : MethodName := ⟨RM, "reply", "(II)I"⟩
set_option maxRecDepth 100000 in
theorem k_M_reply : Yk y_M_reply c_M_reply 3 (some .int) 2 := ⟨List.mem_filter.mpr ⟨List.mem_append_right _ (by decide +kernel), rfl⟩, by decide +kernel, by decide +kernel, by decide +kernel, by decide +kernel⟩
abbrev c_M_change : ByteArray := prog_8_method_37_code
def y_M_change : MethodName := ⟨RM, "change", "(I)I"⟩
set_option maxRecDepth 100000 in
theorem k_M_change : Yk y_M_change c_M_change 5 (some .int) 1 := ⟨List.mem_filter.mpr ⟨List.mem_append_right _ (by decide +kernel), rfl⟩, by decide +kernel, by decide +kernel, by decide +kernel, by decide +kernel⟩
abbrev c_M_within : ByteArray := prog_8_method_38_code
def y_M_within : MethodName := ⟨RM, "within", "(II)I"⟩
set_option maxRecDepth 100000 in
theorem k_M_within : Yk y_M_within c_M_within 10 (some .int) 2 := ⟨List.mem_filter.mpr ⟨List.mem_append_right _ (by decide +kernel), rfl⟩, by decide +kernel, by decide +kernel, by decide +kernel, by decide +kernel⟩
abbrev c_M_comesNow : ByteArray := prog_8_method_39_code
def y_M_comesNow : MethodName := ⟨RM, "comesNow", "(IIJ)J"⟩
set_option maxRecDepth 100000 in
theorem k_M_comesNow : Yk y_M_comesNow c_M_comesNow 9 (some .long) 3 := ⟨List.mem_filter.mpr ⟨List.mem_append_right _ (by decide +kernel), rfl⟩, by decide +kernel, by decide +kernel, by decide +kernel, by decide +kernel⟩
abbrev c_M_run : ByteArray := prog_8_method_46_code
def y_M_run : MethodName := ⟨RM, "run", "(I)I"⟩
set_option maxRecDepth 100000 in
theorem k_M_run : Yk y_M_run c_M_run 25 (some .int) 1 := ⟨List.mem_filter.mpr ⟨List.mem_append_right _ (by decide +kernel), rfl⟩, by decide +kernel, by decide +kernel, by decide +kernel, by decide +kernel⟩
abbrev c_M_ring : ByteArray := prog_8_method_43_code
def y_M_ring : MethodName := ⟨RM, "ring", "(I)I"⟩
set_option maxRecDepth 100000 in
theorem k_M_ring : Yk y_M_ring c_M_ring 4 (some .int) 1 := ⟨List.mem_filter.mpr ⟨List.mem_append_right _ (by decide +kernel), rfl⟩, by decide +kernel, by decide +kernel, by decide +kernel, by decide +kernel⟩
abbrev c_M_reach : ByteArray := prog_8_method_42_code
def y_M_reach : MethodName := ⟨RM, "reach", "(I)I"⟩
set_option maxRecDepth 100000 in
theorem k_M_reach : Yk y_M_reach c_M_reach 7 (some .int) 1 := ⟨List.mem_filter.mpr ⟨List.mem_append_right _ (by decide +kernel), rfl⟩, by decide +kernel, by decide +kernel, by decide +kernel, by decide +kernel⟩
abbrev c_M_toldWeight : ByteArray := prog_8_method_41_code
def y_M_toldWeight : MethodName := ⟨RM, "toldWeight", "(II)I"⟩
set_option maxRecDepth 100000 in
theorem k_M_toldWeight : Yk y_M_toldWeight c_M_toldWeight 3 (some .int) 2 := ⟨List.mem_filter.mpr ⟨List.mem_append_right _ (by decide +kernel), rfl⟩, by decide +kernel, by decide +kernel, by decide +kernel, by decide +kernel⟩
abbrev c_M_toldTotal : ByteArray := prog_8_method_40_code
def y_M_toldTotal : MethodName := ⟨RM, "toldTotal", "(I)I"⟩
set_option maxRecDepth 100000 in
theorem k_M_toldTotal : Yk y_M_toldTotal c_M_toldTotal 2 (some .int) 1 := ⟨List.mem_filter.mpr ⟨List.mem_append_right _ (by decide +kernel), rfl⟩, by decide +kernel, by decide +kernel, by decide +kernel, by decide +kernel⟩
abbrev c_M_layGain : ByteArray := prog_8_method_45_code
def y_M_layGain : MethodName := ⟨RM, "layGain", "(I)V"⟩
set_option maxRecDepth 100000 in
theorem k_M_layGain : Yk y_M_layGain c_M_layGain 5 none 1 := ⟨List.mem_filter.mpr ⟨List.mem_append_right _ (by decide +kernel), rfl⟩, by decide +kernel, by decide +kernel, by decide +kernel, by decide +kernel⟩
abbrev c_M_layWalk : ByteArray := prog_8_method_44_code
def y_M_layWalk : MethodName := ⟨RM, "layWalk", "(I)V"⟩
set_option maxRecDepth 100000 in
theorem k_M_layWalk : Yk y_M_layWalk c_M_layWalk 4 none 1 := ⟨List.mem_filter.mpr ⟨List.mem_append_right _ (by decide +kernel), rfl⟩, by decide +kernel, by decide +kernel, by decide +kernel, by decide +kernel⟩
abbrev c_M_settled : ByteArray := prog_8_method_47_code
def y_M_settled : MethodName := ⟨RM, "settled", "()I"⟩
set_option maxRecDepth 100000 in
theorem k_M_settled : Yk y_M_settled c_M_settled 1 (some .int) 0 := ⟨List.mem_filter.mpr ⟨List.mem_append_right _ (by decide +kernel), rfl⟩, by decide +kernel, by decide +kernel, by decide +kernel, by decide +kernel⟩
abbrev c_M_upper : ByteArray := prog_8_method_48_code
def y_M_upper : MethodName := ⟨RM, "upper", "()J"⟩
set_option maxRecDepth 100000 in
theorem k_M_upper : Yk y_M_upper c_M_upper 1 (some .long) 0 := ⟨List.mem_filter.mpr ⟨List.mem_append_right _ (by decide +kernel), rfl⟩, by decide +kernel, by decide +kernel, by decide +kernel, by decide +kernel⟩
abbrev c_M_lower : ByteArray := prog_8_method_49_code
def y_M_lower : MethodName := ⟨RM, "lower", "()J"⟩
set_option maxRecDepth 100000 in
theorem k_M_lower : Yk y_M_lower c_M_lower 1 (some .long) 0 := ⟨List.mem_filter.mpr ⟨List.mem_append_right _ (by decide +kernel), rfl⟩, by decide +kernel, by decide +kernel, by decide +kernel, by decide +kernel⟩
abbrev c_M_told : ByteArray := prog_8_method_50_code
def y_M_told : MethodName := ⟨RM, "told", "(I)I"⟩
set_option maxRecDepth 100000 in
theorem k_M_told : Yk y_M_told c_M_told 4 (some .int) 1 := ⟨List.mem_filter.mpr ⟨List.mem_append_right _ (by decide +kernel), rfl⟩, by decide +kernel, by decide +kernel, by decide +kernel, by decide +kernel⟩
end
section
theorem ao_spec {args : Array Value} {s : State} {ty : FieldType} (h : (Cond.arrayOver (.array ty)).before args s = true) :
    ∃ comp c k, s.vm.findClass (FieldType.array ty).toString = some comp ∧ (s.vm.classes.findIdx? fun (x : Class) => match x.kind with | .array component _ => component == comp | _ => false) = some c ∧ s.vm.classes[c]? = some k ∧ k.kind = .array comp (.array ty) ∧
      s.vm.findClass ("[" ++ (FieldType.array ty).toString) = some c := by
  simp only [Cond.before, Cond.holds, Cond.value, beq_iff_eq] at h
  cases hc : s.vm.findClass (FieldType.array ty).toString with
  | none => simp [hc] at h
  | some comp =>
    simp only [hc, Option.bind_some, Option.bind_eq_some_iff, Option.map_eq_some_iff] at h
    obtain ⟨c, hi, k, hk, hb⟩ := h
    obtain ⟨hlt, hp, -⟩ := Array.findIdx?_eq_some_iff_getElem.mp hi
    have hkk : s.vm.classes[c] = k := (Array.getElem?_eq_some_iff.mp hk).2
    rw [hkk] at hp
    cases hkind : k.kind with
    | array component ty =>
      rw [hkind] at hb hp
      simp at hb hp
      exact ⟨comp, c, k, rfl, hi, hk, by rw [hkind, hp, hb.1], hb.2⟩
    | _ => rw [hkind] at hb; simp at hb
theorem ao_moved {ty : FieldType} {u U : State} (hvm : u.vm.Alike U.vm) (h : va_Nw (.arrayOver (.array ty)) u) : va_Nw (.arrayOver (.array ty)) U := by
  obtain ⟨comp, c, k, h1, h2, h3, h4, h5⟩ := ao_spec h
  obtain ⟨k', hk', he⟩ := hvm.2.2 _ _ h3
  have hi : (U.vm.classes.findIdx? fun (x : Class) => match x.kind with | .array component _ => component == comp | _ => false) = some c := by
    have e1 := va_idx_bare U.vm comp
    have e2 := va_idx_bare u.vm comp
    first | rw [hvm.bare_eq] at e2 | rw [← hvm.bare_eq] at e2
    exact (e1.symm.trans e2).trans h2
  have hkind : k'.kind = .array comp (.array ty) := by rw [he]; exact h4
  have f1 : U.vm.findClass (FieldType.array ty).toString = some comp := by rw [hvm.findClass]; exact h1
  have f2 : U.vm.findClass ("[" ++ (FieldType.array ty).toString) = some c := by rw [hvm.findClass]; exact h5
  unfold va_Nw Cond.before Cond.holds
  simp only [Cond.value]
  rw [f1, Option.bind_some]
  refine (congrArg (fun o : Option Nat => (o.bind (fun c => (U.vm.classes[c]?).map fun (k : Class) => match k.kind with | .array _ ty' => decide (ty' = FieldType.array ty) && decide (U.vm.findClass ("[" ++ (FieldType.array ty).toString) = some c) | _ => false) == some true)) hi).trans ?_
  simp [hk', hkind, f2]
theorem NN_same {u U : State} (w : Cond) (h : w ∈ NN) (hv : u.vm = U.vm) (hz : va_Nw w u) : va_Nw w U := by
  have hk := NN_kind w h
  cases w with
  | fieldLinkNest a i b n d h => exact va_Nw.same rfl hv hz
  | methodLinkNest a i x h => exact va_Nw.same rfl hv hz
  | arrayOver ty =>
    cases ty with
    | array t => exact ao_moved (hv ▸ Vm.Alike.refl u.vm) hz
    | _ => simp [nnKind] at hk
  | _ => simp [nnKind] at hk
theorem NN_warm {s U : State} (w : Cond) (h : w ∈ NN) (hW : s.WarmedH U.vm) (hz : va_Nw w s) : va_Nw w U := by
  have hk := NN_kind w h
  cases w with
  | fieldLinkNest a i b n d h => exact va_Nw.warmF hW hz
  | methodLinkNest a i x h => exact va_Nw.warmM hW hz
  | arrayOver ty =>
    cases ty with
    | array t => exact ao_moved hW.alike hz
    | _ => simp [nnKind] at hk
  | _ => simp [nnKind] at hk
/-! THE MACHINE SEEN BY NUMBERS. A heap of the claim's own is a list of cells (a cell's number is its place in the list: its address is b + the place, b the size of the heap where the law began); an int, a long by its number; the law's script is the word '.float 0'. A row an instruction, over the kit's rows. -/
def iZ (z : Int) : Int32 := Int32.ofInt z
def lZ (z : Int) : Int64 := Int64.ofInt z
abbrev vi (z : Int) : Value := .int (iZ z)
abbrev vl (z : Int) : Value := .long (lZ z)
/-- a value as the machine has it -/
def mv (b sb : Nat) (v : Value) : Value := match v with
  | .ref a => .ref (b + a)
  | .float _ => .ref sb
  | w => w
def ma (b : Nat) (x : vp_A) : vp_A := match x with
  | (n, .inr (.inr (.inr (.inr f)))) => (n, .inr (.inr (.inr (.inr (fun k => (f k).map (fun a => b + a))))))
  | y => y
def me (b sb : Nat) (e : va_E) : va_E := match e with
  | .inl (cA, x) => .inl (cA, ma b x)
  | .inr (ci, fs) => .inr (ci, fs.map (mv b sb))
abbrev Hp : Type := List va_E
/-- the heap of the machine holds the cells -/
def Rl (D : va_G) (cl : List vw_C) (b sb : Nat) (ah : Hp) (H : Heap) : Prop := H.size = b + ah.length ∧ ∀ (i : Nat) (e : va_E), ah[i]? = some e → va_at D cl (b + i, me b sb e) H
theorem Rl.one {D : va_G} {cl : List vw_C} {b sb : Nat} {ah : Hp} {H : Heap} (h : Rl D cl b sb ah H) {i : Nat} {e : va_E} (hi : ah[i]? = some e) : va_P D cl [(b + i, me b sb e)] H := by
  intro k q hk
  match k, hk with
  | 0, hk => cases hk; exact h.2 i e hi
theorem Rl.set {D : va_G} {cl : List vw_C} {b sb : Nat} {ah : Hp} {H H1 : Heap} (h : Rl D cl b sb ah H) {i : Nat} {e : va_E} (he : va_at D cl (b + i, me b sb e) H1) (hz : H1.size = H.size) (ho : ∀ q, q ≠ b + i → H1[q]? = H[q]?) : Rl D cl b sb (ah.set i e) H1 := by
  refine ⟨by rw [hz, h.1, List.length_set], fun j e' hj => ?_⟩
  by_cases hij : i = j
  · subst hij
    rw [List.getElem?_set] at hj
    simp only [if_true] at hj
    split at hj
    · cases hj; exact he
    · cases hj
  · rw [List.getElem?_set_ne hij] at hj
    exact (h.2 j e' hj).kept (ho _ (by show b + j ≠ b + i; omega))
theorem Rl.push {D : va_G} {cl : List vw_C} {b sb : Nat} {ah : Hp} {H H1 : Heap} (h : Rl D cl b sb ah H) {e : va_E} (he : va_at D cl (H.size, me b sb e) H1) (hz : H1.size = H.size + 1) (ho : ∀ q, q < H.size → H1[q]? = H[q]?) : Rl D cl b sb (ah ++ [e]) H1 := by
  refine ⟨by rw [hz, h.1, List.length_append]; simp [Nat.add_assoc], fun j e' hj => ?_⟩
  by_cases hlt : j < ah.length
  · rw [List.getElem?_append_left hlt] at hj
    exact (h.2 j e' hj).kept (ho _ (by rw [h.1]; show b + j < b + ah.length; omega))
  · rw [List.getElem?_append_right (by omega)] at hj
    have hz' : j - ah.length < 1 := (List.getElem?_eq_some_iff.mp hj).1
    rw [show j - ah.length = 0 by omega] at hj
    cases hj
    have : b + j = H.size := by rw [h.1]; omega
    rw [this]; exact he
/-- where a method runs: program, launch, environment, room, its first state, itself, its arguments, the frames below, its method and code, what is wanted at the end; the tables' numbers, the classes, the array classes; the base, the script -/
abbrev Xt : Type := Program × Launch × Env × Room × State × MethodId × Array Value × List Frame × Method × Code × (State → Prop) × va_G × List (ClassId × FieldType) × Nat × Nat
abbrev Xt.pg (X : Xt) : Program := X.1
abbrev Xt.la (X : Xt) : Launch := X.2.1
abbrev Xt.en (X : Xt) : Env := X.2.2.1
abbrev Xt.ro (X : Xt) : Room := X.2.2.2.1
abbrev Xt.s0 (X : Xt) : State := X.2.2.2.2.1
abbrev Xt.mi (X : Xt) : MethodId := X.2.2.2.2.2.1
abbrev Xt.ar (X : Xt) : Array Value := X.2.2.2.2.2.2.1
abbrev Xt.be (X : Xt) : List Frame := X.2.2.2.2.2.2.2.1
abbrev Xt.me (X : Xt) : Method := X.2.2.2.2.2.2.2.2.1
abbrev Xt.co (X : Xt) : Code := X.2.2.2.2.2.2.2.2.2.1
abbrev Xt.qq (X : Xt) : State → Prop := X.2.2.2.2.2.2.2.2.2.2.1
abbrev Xt.dd (X : Xt) : va_G := X.2.2.2.2.2.2.2.2.2.2.2.1
abbrev Xt.ty (X : Xt) : List (ClassId × FieldType) := X.2.2.2.2.2.2.2.2.2.2.2.2.1
abbrev Xt.ba (X : Xt) : Nat := X.2.2.2.2.2.2.2.2.2.2.2.2.2.1
abbrev Xt.sb (X : Xt) : Nat := X.2.2.2.2.2.2.2.2.2.2.2.2.2.2
/-- the walk's judgement: k cells of n slots are made so far; at pc, locals lv, operands st, heap ah -/
def AW (X : Xt) (nL k n pc : Nat) (lv : List (Nat × Value)) (st : List Value) (ah : Hp) : Prop :=
  ∀ (H : Heap) (locs : List Loc) (ls : Array Slot), Rl X.dd vwCl X.ba X.sb ah H → va_S (fun q => X.ba ≤ q) X.s0.heap H locs → lv_has ls nL (lv.map fun q => (q.1, mv X.ba X.sb q.2)) →
    W X.pg X.la X.en X.ro X.s0 X.mi X.ar X.be X.me X.co H locs k n X.qq (F0 X.mi pc ls (st.map (mv X.ba X.sb)))
/-- what holds in a method of class 'own' with the bytes cc: TT the tables' words, NN the nest mates' -/
def Cx (X : Xt) (cc : ByteArray) (nL : Nat) (own : String) (ret : Option FieldType) : Prop :=
  X.pg.tables.exec = Jvm.exec ∧ X.co.code = cc ∧ X.co.maxLocals = nL ∧ X.s0.vm.findClass own = some X.mi.cls ∧ (∀ w ∈ TT, w.before X.ar X.s0 = true) ∧ (∀ w ∈ NN, va_Nw w X.s0) ∧ va_K X.dd vwCl X.ty X.s0 ∧ X.me.sig.returnType = ret ∧ X.me.locks = false
theorem iZ_add (x y : Int) : iZ x + iZ y = iZ (x + y) := (Int32.ofInt_add x y).symm
theorem iZ_sub (x y : Int) : iZ x - iZ y = iZ (x - y) := (Int32.ofInt_sub x y).symm
theorem iZ_mul (x y : Int) : iZ x * iZ y = iZ (x * y) := (Int32.ofInt_mul x y).symm
theorem iZ_neg (x : Int) : - iZ x = iZ (-x) := (Int32.ofInt_neg x).symm
theorem lZ_add (x y : Int) : lZ x + lZ y = lZ (x + y) := (Int64.ofInt_add x y).symm
theorem lZ_sub (x y : Int) : lZ x - lZ y = lZ (x - y) := (Int64.ofInt_sub x y).symm
theorem lZ_mul (x y : Int) : lZ x * lZ y = lZ (x * y) := (Int64.ofInt_mul x y).symm
theorem lZ_neg (x : Int) : - lZ x = lZ (-x) := (Int64.ofInt_neg x).symm
def inI (x : Int) : Prop := -2147483648 ≤ x ∧ x ≤ 2147483647
def inL (x : Int) : Prop := -9223372036854775808 ≤ x ∧ x ≤ 9223372036854775807
theorem iZ_toInt {x : Int} (h : inI x) : (iZ x).toInt = x := Int32.toInt_ofInt_of_le (by have := h.1; omega) (by have := h.2; omega)
theorem lZ_toInt {x : Int} (h : inL x) : (lZ x).toInt = x := Int64.toInt_ofInt_of_le (by have := h.1; omega) (by have := h.2; omega)
theorem iZ_eq {x y : Int} (hx : inI x) (hy : inI y) : iZ x = iZ y ↔ x = y := ⟨fun h => by rw [← iZ_toInt hx, ← iZ_toInt hy, h], fun h => by rw [h]⟩
theorem iZ_lt {x y : Int} (hx : inI x) (hy : inI y) : iZ x < iZ y ↔ x < y := by rw [Int32.lt_iff_toInt_lt, iZ_toInt hx, iZ_toInt hy]
theorem iZ_le {x y : Int} (hx : inI x) (hy : inI y) : iZ x ≤ iZ y ↔ x ≤ y := by rw [Int32.le_iff_toInt_le, iZ_toInt hx, iZ_toInt hy]
theorem lZ_eq {x y : Int} (hx : inL x) (hy : inL y) : lZ x = lZ y ↔ x = y := ⟨fun h => by rw [← lZ_toInt hx, ← lZ_toInt hy, h], fun h => by rw [h]⟩
theorem lZ_lt {x y : Int} (hx : inL x) (hy : inL y) : lZ x < lZ y ↔ x < y := by rw [Int64.lt_iff_toInt_lt, lZ_toInt hx, lZ_toInt hy]
theorem lZ_le {x y : Int} (hx : inL x) (hy : inL y) : lZ x ≤ lZ y ↔ x ≤ y := by rw [Int64.le_iff_toInt_le, lZ_toInt hx, lZ_toInt hy]
theorem iZ_0 : iZ 0 = 0 := rfl
theorem lZ_0 : lZ 0 = 0 := rfl
theorem inI_0 : inI 0 := ⟨by decide, by decide⟩
theorem inL_0 : inL 0 := ⟨by decide, by decide⟩
theorem iZ_l {x : Int} (h : inI x) : (iZ x).toInt64 = lZ x := by
  refine Int32.toInt64_ofInt ?_ ?_
  · exact h.1
  · exact h.2
theorem iZ_clamp {x : Int} (h : inI x) : (iZ x).toNatClampNeg = x.toNat := by
  show (iZ x).toInt.toNat = x.toNat
  rw [iZ_toInt h]
theorem iZ_in {x : Int} {N : Nat} (h0 : 0 ≤ x) (h1 : x < N) (hN : N < 2147483648) : vp_in (iZ x) N := by
  have hx : inI x := ⟨by omega, by omega⟩
  rw [vp_in_iff, iZ_toInt hx]
  exact ⟨h0, h1⟩
theorem iZ_div {x y : Int} (hx : inI x) (hy : inI y) : iZ x / iZ y = iZ (x.tdiv y) := (Int32.ofInt_tdiv hx.1 hx.2 hy.1 hy.2).symm
theorem lZ_div {x y : Int} (hx : inL x) (hy : inL y) : lZ x / lZ y = lZ (x.tdiv y) := (Int64.ofInt_tdiv hx.1 hx.2 hy.1 hy.2).symm
theorem lZ_mod {x y : Int} (hx : inL x) (hy : inL y) : lZ x % lZ y = lZ (x.tmod y) := (Int64.ofInt_tmod hx.1 hx.2 hy.1 hy.2).symm
theorem iZ_mod {x y : Int} (hx : inI x) (hy : inI y) : iZ x % iZ y = iZ (x.tmod y) := (Int32.ofInt_tmod hx.1 hx.2 hy.1 hy.2).symm
section ROWS
variable {X : Xt} {cc : ByteArray} {nL k n pc : Nat} {own : String} {ret : Option FieldType} {lv : List (Nat × Value)} {st : List Value} {ah : Hp}
theorem a_iadd (hC : Cx X cc nL own ret) {x y : Int} (hd : decode cc pc = .ok (.iadd, 1))  (kk : AW X nL k n (pc + 1) lv (vi (x + y) :: st) ah) : AW X nL k n pc lv (vi y :: vi x :: st) ah := fun H locs ls hR hS hl => lv_iadd (x := iZ x) (y := iZ y) (rest := st.map (mv X.ba X.sb)) hC.1 hC.2.1 hd (by rw [iZ_add]; exact kk H locs ls hR hS hl)
theorem a_isub (hC : Cx X cc nL own ret) {x y : Int} (hd : decode cc pc = .ok (.isub, 1))  (kk : AW X nL k n (pc + 1) lv (vi (x - y) :: st) ah) : AW X nL k n pc lv (vi y :: vi x :: st) ah := fun H locs ls hR hS hl => lv_isub (x := iZ x) (y := iZ y) (rest := st.map (mv X.ba X.sb)) hC.1 hC.2.1 hd (by rw [iZ_sub]; exact kk H locs ls hR hS hl)
theorem a_imul (hC : Cx X cc nL own ret) {x y : Int} (hd : decode cc pc = .ok (.imul, 1))  (kk : AW X nL k n (pc + 1) lv (vi (x * y) :: st) ah) : AW X nL k n pc lv (vi y :: vi x :: st) ah := fun H locs ls hR hS hl => lv_imul (x := iZ x) (y := iZ y) (rest := st.map (mv X.ba X.sb)) hC.1 hC.2.1 hd (by rw [iZ_mul]; exact kk H locs ls hR hS hl)
theorem a_ladd (hC : Cx X cc nL own ret) {x y : Int} (hd : decode cc pc = .ok (.ladd, 1))  (kk : AW X nL k n (pc + 1) lv (vl (x + y) :: st) ah) : AW X nL k n pc lv (vl y :: vl x :: st) ah := fun H locs ls hR hS hl => lv_ladd (x := lZ x) (y := lZ y) (rest := st.map (mv X.ba X.sb)) hC.1 hC.2.1 hd (by rw [lZ_add]; exact kk H locs ls hR hS hl)
theorem a_lsub (hC : Cx X cc nL own ret) {x y : Int} (hd : decode cc pc = .ok (.lsub, 1))  (kk : AW X nL k n (pc + 1) lv (vl (x - y) :: st) ah) : AW X nL k n pc lv (vl y :: vl x :: st) ah := fun H locs ls hR hS hl => lv_lsub (x := lZ x) (y := lZ y) (rest := st.map (mv X.ba X.sb)) hC.1 hC.2.1 hd (by rw [lZ_sub]; exact kk H locs ls hR hS hl)
theorem a_lmul (hC : Cx X cc nL own ret) {x y : Int} (hd : decode cc pc = .ok (.lmul, 1))  (kk : AW X nL k n (pc + 1) lv (vl (x * y) :: st) ah) : AW X nL k n pc lv (vl y :: vl x :: st) ah := fun H locs ls hR hS hl => lv_lmul (x := lZ x) (y := lZ y) (rest := st.map (mv X.ba X.sb)) hC.1 hC.2.1 hd (by rw [lZ_mul]; exact kk H locs ls hR hS hl)
theorem a_ineg (hC : Cx X cc nL own ret) {x : Int} (hd : decode cc pc = .ok (.ineg, 1))  (kk : AW X nL k n (pc + 1) lv (vi (-x) :: st) ah) : AW X nL k n pc lv (vi x :: st) ah := fun H locs ls hR hS hl => lv_ineg (x := iZ x) (rest := st.map (mv X.ba X.sb)) hC.1 hC.2.1 hd (by rw [iZ_neg]; exact kk H locs ls hR hS hl)
theorem a_lneg (hC : Cx X cc nL own ret) {x : Int} (hd : decode cc pc = .ok (.lneg, 1))  (kk : AW X nL k n (pc + 1) lv (vl (-x) :: st) ah) : AW X nL k n pc lv (vl x :: st) ah := fun H locs ls hR hS hl => lv_lneg (x := lZ x) (rest := st.map (mv X.ba X.sb)) hC.1 hC.2.1 hd (by rw [lZ_neg]; exact kk H locs ls hR hS hl)
theorem a_idiv (hC : Cx X cc nL own ret) {x y : Int} (hd : decode cc pc = .ok (.idiv, 1)) (hx : inI x) (hy : inI y) (h0 : y ≠ 0) (kk : AW X nL k n (pc + 1) lv (vi (x.tdiv y) :: st) ah) : AW X nL k n pc lv (vi y :: vi x :: st) ah := fun H locs ls hR hS hl => lv_idiv (x := iZ x) (y := iZ y) (rest := st.map (mv X.ba X.sb)) hC.1 hC.2.1 hd (fun q => h0 ((iZ_eq hy inI_0).mp q)) (by rw [iZ_div hx hy]; exact kk H locs ls hR hS hl)
theorem a_ldiv (hC : Cx X cc nL own ret) {x y : Int} (hd : decode cc pc = .ok (.ldiv, 1)) (hx : inL x) (hy : inL y) (h0 : y ≠ 0) (kk : AW X nL k n (pc + 1) lv (vl (x.tdiv y) :: st) ah) : AW X nL k n pc lv (vl y :: vl x :: st) ah := fun H locs ls hR hS hl => lv_ldiv (x := lZ x) (y := lZ y) (rest := st.map (mv X.ba X.sb)) hC.1 hC.2.1 hd (fun q => h0 ((lZ_eq hy inL_0).mp q)) (by rw [lZ_div hx hy]; exact kk H locs ls hR hS hl)
theorem a_lrem (hC : Cx X cc nL own ret) {x y : Int} (hd : decode cc pc = .ok (.lrem, 1)) (hx : inL x) (hy : inL y) (h0 : y ≠ 0) (kk : AW X nL k n (pc + 1) lv (vl (x.tmod y) :: st) ah) : AW X nL k n pc lv (vl y :: vl x :: st) ah := fun H locs ls hR hS hl => lv_lrem (x := lZ x) (y := lZ y) (rest := st.map (mv X.ba X.sb)) hC.1 hC.2.1 hd (fun q => h0 ((lZ_eq hy inL_0).mp q)) (by rw [lZ_div hx hy, lZ_mul, lZ_sub, show x - x.tdiv y * y = x.tmod y by rw [Int.tmod_def, Int.mul_comm]]; exact kk H locs ls hR hS hl)
theorem a_irem (hC : Cx X cc nL own ret) {x y : Int} (hd : decode cc pc = .ok (.irem, 1)) (hx : inI x) (hy : inI y) (h0 : y ≠ 0) (kk : AW X nL k n (pc + 1) lv (vi (x.tmod y) :: st) ah) : AW X nL k n pc lv (vi y :: vi x :: st) ah := fun H locs ls hR hS hl => lv_irem (x := iZ x) (y := iZ y) (rest := st.map (mv X.ba X.sb)) hC.1 hC.2.1 hd (fun q => h0 ((iZ_eq hy inI_0).mp q)) (by rw [iZ_div hx hy, iZ_mul, iZ_sub, show x - x.tdiv y * y = x.tmod y by rw [Int.tmod_def, Int.mul_comm]]; exact kk H locs ls hR hS hl)
theorem a_iand (hC : Cx X cc nL own ret) {x y z : Int} (hd : decode cc pc = .ok (.iand, 1)) (hz : iZ x &&& iZ y = iZ z) (kk : AW X nL k n (pc + 1) lv (vi z :: st) ah) : AW X nL k n pc lv (vi y :: vi x :: st) ah := fun H locs ls hR hS hl => lv_iand (x := iZ x) (y := iZ y) (rest := st.map (mv X.ba X.sb)) hC.1 hC.2.1 hd (by rw [hz]; exact kk H locs ls hR hS hl)
theorem a_ior (hC : Cx X cc nL own ret) {x y z : Int} (hd : decode cc pc = .ok (.ior, 1)) (hz : iZ x ||| iZ y = iZ z) (kk : AW X nL k n (pc + 1) lv (vi z :: st) ah) : AW X nL k n pc lv (vi y :: vi x :: st) ah := fun H locs ls hR hS hl => lv_ior (x := iZ x) (y := iZ y) (rest := st.map (mv X.ba X.sb)) hC.1 hC.2.1 hd (by rw [hz]; exact kk H locs ls hR hS hl)
theorem a_ixor (hC : Cx X cc nL own ret) {x y z : Int} (hd : decode cc pc = .ok (.ixor, 1)) (hz : iZ x ^^^ iZ y = iZ z) (kk : AW X nL k n (pc + 1) lv (vi z :: st) ah) : AW X nL k n pc lv (vi y :: vi x :: st) ah := fun H locs ls hR hS hl => lv_ixor (x := iZ x) (y := iZ y) (rest := st.map (mv X.ba X.sb)) hC.1 hC.2.1 hd (by rw [hz]; exact kk H locs ls hR hS hl)
theorem a_ishl (hC : Cx X cc nL own ret) {x y z : Int} (hd : decode cc pc = .ok (.ishl, 1)) (hz : iZ x <<< (iZ y &&& 31) = iZ z) (kk : AW X nL k n (pc + 1) lv (vi z :: st) ah) : AW X nL k n pc lv (vi y :: vi x :: st) ah := fun H locs ls hR hS hl => lv_ishl (x := iZ x) (y := iZ y) (rest := st.map (mv X.ba X.sb)) hC.1 hC.2.1 hd (by rw [hz]; exact kk H locs ls hR hS hl)
theorem a_ishr (hC : Cx X cc nL own ret) {x y z : Int} (hd : decode cc pc = .ok (.ishr, 1)) (hz : iZ x >>> (iZ y &&& 31) = iZ z) (kk : AW X nL k n (pc + 1) lv (vi z :: st) ah) : AW X nL k n pc lv (vi y :: vi x :: st) ah := fun H locs ls hR hS hl => lv_ishr (x := iZ x) (y := iZ y) (rest := st.map (mv X.ba X.sb)) hC.1 hC.2.1 hd (by rw [hz]; exact kk H locs ls hR hS hl)
theorem a_i2l (hC : Cx X cc nL own ret) {x : Int} (hd : decode cc pc = .ok (.i2l, 1)) (hx : inI x) (kk : AW X nL k n (pc + 1) lv (vl x :: st) ah) : AW X nL k n pc lv (vi x :: st) ah := fun H locs ls hR hS hl => lv_i2l (x := iZ x) (v := lZ x) (rest := st.map (mv X.ba X.sb)) hC.1 hC.2.1 hd (iZ_l hx) (kk H locs ls hR hS hl)
theorem a_l2i (hC : Cx X cc nL own ret) {x : Int} (hd : decode cc pc = .ok (.l2i, 1))  (kk : AW X nL k n (pc + 1) lv (vi x :: st) ah) : AW X nL k n pc lv (vl x :: st) ah := fun H locs ls hR hS hl => lv_l2i (x := lZ x) (v := iZ x) (rest := st.map (mv X.ba X.sb)) hC.1 hC.2.1 hd (Int64.toInt32_ofInt) (kk H locs ls hR hS hl)
theorem a_iconst (hC : Cx X cc nL own ret) {c : Int} (hd : decode cc pc = .ok (.iconst c, 1))  (kk : AW X nL k n (pc + 1) lv (vi c :: st) ah) : AW X nL k n pc lv st ah := fun H locs ls hR hS hl => lv_iconst (v := iZ c) (rest := st.map (mv X.ba X.sb)) hC.1 hC.2.1 hd rfl (kk H locs ls hR hS hl)
theorem a_bipush (hC : Cx X cc nL own ret) {c : Int} (hd : decode cc pc = .ok (.bipush c, 2)) (hc : (Int8.ofInt c).toInt32 = iZ c) (kk : AW X nL k n (pc + 2) lv (vi c :: st) ah) : AW X nL k n pc lv st ah := fun H locs ls hR hS hl => lv_bipush (v := iZ c) (rest := st.map (mv X.ba X.sb)) hC.1 hC.2.1 hd hc (kk H locs ls hR hS hl)
theorem a_sipush (hC : Cx X cc nL own ret) {c : Int} (hd : decode cc pc = .ok (.sipush c, 3)) (hc : (Int16.ofInt c).toInt32 = iZ c) (kk : AW X nL k n (pc + 3) lv (vi c :: st) ah) : AW X nL k n pc lv st ah := fun H locs ls hR hS hl => lv_sipush (v := iZ c) (rest := st.map (mv X.ba X.sb)) hC.1 hC.2.1 hd hc (kk H locs ls hR hS hl)
theorem a_lconst (hC : Cx X cc nL own ret) {c : Fin 2} {z : Int} (hd : decode cc pc = .ok (.lconst c, 1)) (hz : Int64.ofNat (c : Nat) = lZ z) (kk : AW X nL k n (pc + 1) lv (vl z :: st) ah) : AW X nL k n pc lv st ah := fun H locs ls hR hS hl => lv_lconst (v := lZ z) (rest := st.map (mv X.ba X.sb)) hC.1 hC.2.1 hd hz (kk H locs ls hR hS hl)
theorem a_null (hC : Cx X cc nL own ret)  (hd : decode cc pc = .ok (.aconst_null, 1))  (kk : AW X nL k n (pc + 1) lv (.null :: st) ah) : AW X nL k n pc lv st ah := fun H locs ls hR hS hl => lv_null (rest := st.map (mv X.ba X.sb)) hC.1 hC.2.1 hd (kk H locs ls hR hS hl)
theorem a_loc {ls : Array Slot} {b sb : Nat} {i j : Nat} {v : Value} (hl : lv_has ls nL (lv.map fun q => (q.1, mv b sb q.2))) (hj : lv[j]? = some (i, v)) : ls[i]? = some (.val (mv b sb v)) := lv_at hl j (by rw [List.getElem?_map, hj]; rfl)
theorem a_iload_n (hC : Cx X cc nL own ret) {q : Fin 4} {i : Nat} {x : Int} (hd : decode cc pc = .ok (.iload_n q, 1)) (hi : (q : Nat) = i) (j : Nat) (hj : lv[j]? = some (i, vi x)) (kk : AW X nL k n (pc + 1) lv (vi x :: st) ah) : AW X nL k n pc lv st ah := fun H locs ls hR hS hl => lv_iload_n (x := iZ x) (rest := st.map (mv X.ba X.sb)) hC.1 hC.2.1 hd hi (a_loc hl hj) (kk H locs ls hR hS hl)
theorem a_iload (hC : Cx X cc nL own ret) {i : Nat} {x : Int} (hd : decode cc pc = .ok (.iload i, 2)) (j : Nat) (hj : lv[j]? = some (i, vi x)) (kk : AW X nL k n (pc + 2) lv (vi x :: st) ah) : AW X nL k n pc lv st ah := fun H locs ls hR hS hl => lv_iload (x := iZ x) (rest := st.map (mv X.ba X.sb)) hC.1 hC.2.1 hd (a_loc hl hj) (kk H locs ls hR hS hl)
theorem a_lload_n (hC : Cx X cc nL own ret) {q : Fin 4} {i : Nat} {x : Int} (hd : decode cc pc = .ok (.lload_n q, 1)) (hi : (q : Nat) = i) (j : Nat) (hj : lv[j]? = some (i, vl x)) (kk : AW X nL k n (pc + 1) lv (vl x :: st) ah) : AW X nL k n pc lv st ah := fun H locs ls hR hS hl => lv_lload_n (x := lZ x) (rest := st.map (mv X.ba X.sb)) hC.1 hC.2.1 hd hi (a_loc hl hj) (kk H locs ls hR hS hl)
theorem a_lload (hC : Cx X cc nL own ret) {i : Nat} {x : Int} (hd : decode cc pc = .ok (.lload i, 2)) (j : Nat) (hj : lv[j]? = some (i, vl x)) (kk : AW X nL k n (pc + 2) lv (vl x :: st) ah) : AW X nL k n pc lv st ah := fun H locs ls hR hS hl => lv_lload (x := lZ x) (rest := st.map (mv X.ba X.sb)) hC.1 hC.2.1 hd (a_loc hl hj) (kk H locs ls hR hS hl)
theorem a_aload_n (hC : Cx X cc nL own ret) {q : Fin 4} {i x : Nat} (hd : decode cc pc = .ok (.aload_n q, 1)) (hi : (q : Nat) = i) (j : Nat) (hj : lv[j]? = some (i, .ref x)) (kk : AW X nL k n (pc + 1) lv (.ref x :: st) ah) : AW X nL k n pc lv st ah := fun H locs ls hR hS hl => lv_aload_n (x := X.ba + x) (rest := st.map (mv X.ba X.sb)) hC.1 hC.2.1 hd hi (a_loc hl hj) (kk H locs ls hR hS hl)
theorem a_aload (hC : Cx X cc nL own ret) {i x : Nat} (hd : decode cc pc = .ok (.aload i, 2)) (j : Nat) (hj : lv[j]? = some (i, .ref x)) (kk : AW X nL k n (pc + 2) lv (.ref x :: st) ah) : AW X nL k n pc lv st ah := fun H locs ls hR hS hl => lv_aload (x := X.ba + x) (rest := st.map (mv X.ba X.sb)) hC.1 hC.2.1 hd (a_loc hl hj) (kk H locs ls hR hS hl)
theorem a_sload_n (hC : Cx X cc nL own ret) {q : Fin 4} {i : Nat} (hd : decode cc pc = .ok (.aload_n q, 1)) (hi : (q : Nat) = i) (j : Nat) (hj : lv[j]? = some (i, .float 0)) (kk : AW X nL k n (pc + 1) lv (.float 0 :: st) ah) : AW X nL k n pc lv st ah := fun H locs ls hR hS hl => lv_aload_n (x := X.sb) (rest := st.map (mv X.ba X.sb)) hC.1 hC.2.1 hd hi (a_loc hl hj) (kk H locs ls hR hS hl)
def f1 (i : Nat) (q : Nat × Value) : Bool := !(q.1 == i) && !(q.1 + 1 == i && q.2.category == 2)
def f2 (i : Nat) (q : Nat × Value) : Bool := !(q.1 == i) && (!(q.1 == i + 1) && !(q.1 + 1 == i && q.2.category == 2))
theorem mv_cat (b sb : Nat) (v : Value) : (mv b sb v).category = v.category := by cases v <;> rfl
theorem f1_map (b sb i : Nat) (lv : List (Nat × Value)) : (lv.map fun q => (q.1, mv b sb q.2)).filter (fun q => !(q.1 == i) && !(q.1 + 1 == i && q.2.category == 2)) = (lv.filter (f1 i)).map fun q => (q.1, mv b sb q.2) := by
  rw [List.filter_map]
  congr 1
  apply List.filter_congr
  intro q _
  simp [f1, mv_cat, Function.comp]
theorem f2_map (b sb i : Nat) (lv : List (Nat × Value)) : (lv.map fun q => (q.1, mv b sb q.2)).filter (fun q => !(q.1 == i) && (!(q.1 == i + 1) && !(q.1 + 1 == i && q.2.category == 2))) = (lv.filter (f2 i)).map fun q => (q.1, mv b sb q.2) := by
  rw [List.filter_map]
  congr 1
  apply List.filter_congr
  intro q _
  simp [f2, mv_cat, Function.comp]
theorem a_istore_n (hC : Cx X cc nL own ret) {q : Fin 4} {i : Nat} {x : Int} (hd : decode cc pc = .ok (.istore_n q, 1)) (hi : (q : Nat) = i) (hn : i < nL) {lv' : List (Nat × Value)} (hl' : (i, vi x) :: lv.filter (f1 i) = lv') (kk : AW X nL k n (pc + 1) lv' st ah) : AW X nL k n pc lv (vi x :: st) ah := by
  intro H locs ls hR hS hl
  refine lv_istore_n (x := iZ x) (rest := st.map (mv X.ba X.sb)) hC.1 hC.2.1 hd hi hl hn rfl (fun ls1 hl1 => ?_)
  refine kk H locs ls1 hR hS ?_
  rw [← hl', List.map_cons, ← f1_map]
  exact hl1
theorem a_istore (hC : Cx X cc nL own ret) {q : Fin 4} {i : Nat} {x : Int} (hd : decode cc pc = .ok (.istore i, 2))  (hn : i < nL) {lv' : List (Nat × Value)} (hl' : (i, vi x) :: lv.filter (f1 i) = lv') (kk : AW X nL k n (pc + 2) lv' st ah) : AW X nL k n pc lv (vi x :: st) ah := by
  intro H locs ls hR hS hl
  refine lv_istore (x := iZ x) (rest := st.map (mv X.ba X.sb)) hC.1 hC.2.1 hd hl hn rfl (fun ls1 hl1 => ?_)
  refine kk H locs ls1 hR hS ?_
  rw [← hl', List.map_cons, ← f1_map]
  exact hl1
theorem a_lstore_n (hC : Cx X cc nL own ret) {q : Fin 4} {i : Nat} {x : Int} (hd : decode cc pc = .ok (.lstore_n q, 1)) (hi : (q : Nat) = i) (hn : i + 1 < nL) {lv' : List (Nat × Value)} (hl' : (i, vl x) :: lv.filter (f2 i) = lv') (kk : AW X nL k n (pc + 1) lv' st ah) : AW X nL k n pc lv (vl x :: st) ah := by
  intro H locs ls hR hS hl
  refine lv_lstore_n (x := lZ x) (rest := st.map (mv X.ba X.sb)) hC.1 hC.2.1 hd hi hl hn rfl (fun ls1 hl1 => ?_)
  refine kk H locs ls1 hR hS ?_
  rw [← hl', List.map_cons, ← f2_map]
  exact hl1
theorem a_lstore (hC : Cx X cc nL own ret) {q : Fin 4} {i : Nat} {x : Int} (hd : decode cc pc = .ok (.lstore i, 2))  (hn : i + 1 < nL) {lv' : List (Nat × Value)} (hl' : (i, vl x) :: lv.filter (f2 i) = lv') (kk : AW X nL k n (pc + 2) lv' st ah) : AW X nL k n pc lv (vl x :: st) ah := by
  intro H locs ls hR hS hl
  refine lv_lstore (x := lZ x) (rest := st.map (mv X.ba X.sb)) hC.1 hC.2.1 hd hl hn rfl (fun ls1 hl1 => ?_)
  refine kk H locs ls1 hR hS ?_
  rw [← hl', List.map_cons, ← f2_map]
  exact hl1
theorem a_astore_n (hC : Cx X cc nL own ret) {q : Fin 4} {i : Nat} {x : Nat} (hd : decode cc pc = .ok (.astore_n q, 1)) (hi : (q : Nat) = i) (hn : i < nL) {lv' : List (Nat × Value)} (hl' : (i, .ref x) :: lv.filter (f1 i) = lv') (kk : AW X nL k n (pc + 1) lv' st ah) : AW X nL k n pc lv (.ref x :: st) ah := by
  intro H locs ls hR hS hl
  refine lv_astore_n (x := X.ba + x) (rest := st.map (mv X.ba X.sb)) hC.1 hC.2.1 hd hi hl hn rfl (fun ls1 hl1 => ?_)
  refine kk H locs ls1 hR hS ?_
  rw [← hl', List.map_cons, ← f1_map]
  exact hl1
theorem a_astore (hC : Cx X cc nL own ret) {q : Fin 4} {i : Nat} {x : Nat} (hd : decode cc pc = .ok (.astore i, 2))  (hn : i < nL) {lv' : List (Nat × Value)} (hl' : (i, .ref x) :: lv.filter (f1 i) = lv') (kk : AW X nL k n (pc + 2) lv' st ah) : AW X nL k n pc lv (.ref x :: st) ah := by
  intro H locs ls hR hS hl
  refine lv_astore (x := X.ba + x) (rest := st.map (mv X.ba X.sb)) hC.1 hC.2.1 hd hl hn rfl (fun ls1 hl1 => ?_)
  refine kk H locs ls1 hR hS ?_
  rw [← hl', List.map_cons, ← f1_map]
  exact hl1
theorem a_iinc (hC : Cx X cc nL own ret) {i : Nat} {c x : Int} (hd : decode cc pc = .ok (.iinc i c, 3)) (j : Nat) (hj : lv[j]? = some (i, vi x)) (hn : i < nL) {lv' : List (Nat × Value)} (hl' : (i, vi (x + c)) :: lv.filter (f1 i) = lv') (kk : AW X nL k n (pc + 3) lv' st ah) : AW X nL k n pc lv st ah := by
  intro H locs ls hR hS hl
  refine lv_iinc (x := iZ x) (v := iZ (x + c)) (k := j) (rest := st.map (mv X.ba X.sb)) hC.1 hC.2.1 hd hl (by rw [List.getElem?_map, hj]; rfl) (iZ_add x c) hn rfl (fun ls1 hl1 => ?_)
  refine kk H locs ls1 hR hS ?_
  rw [← hl', List.map_cons, ← f1_map]
  exact hl1
theorem a_sub {lv' : List (Nat × Value)} (ks : List Nat) (hl' : lv_pick lv ks = lv') (kk : AW X nL k n pc lv' st ah) : AW X nL k n pc lv st ah := by
  intro H locs ls hR hS hl
  refine kk H locs ls hR hS (lv_sub hl ks ?_)
  rw [← hl']
  unfold lv_pick
  rw [List.map_filterMap]
  congr 1
  funext z
  rw [List.getElem?_map]
theorem a_dup (hC : Cx X cc nL own ret) {v : Value} (hd : decode cc pc = .ok (.dup, 1)) (hv : v.category = 1) (kk : AW X nL k n (pc + 1) lv (v :: v :: st) ah) : AW X nL k n pc lv (v :: st) ah := fun H locs ls hR hS hl => lv_dup (va := mv X.ba X.sb v) (rest := st.map (mv X.ba X.sb)) hC.1 hC.2.1 hd (by rw [mv_cat]; exact hv) (kk H locs ls hR hS hl)
theorem a_pop (hC : Cx X cc nL own ret) {v : Value} (hd : decode cc pc = .ok (.pop, 1)) (hv : v.category = 1) (kk : AW X nL k n (pc + 1) lv st ah) : AW X nL k n pc lv (v :: st) ah := fun H locs ls hR hS hl => lv_pop (va := mv X.ba X.sb v) (rest := st.map (mv X.ba X.sb)) hC.1 hC.2.1 hd (by rw [mv_cat]; exact hv) (kk H locs ls hR hS hl)
theorem a_pop2 (hC : Cx X cc nL own ret) {v : Value} (hd : decode cc pc = .ok (.pop2, 1)) (hv : v.category = 2) (kk : AW X nL k n (pc + 1) lv st ah) : AW X nL k n pc lv (v :: st) ah := fun H locs ls hR hS hl => lv_pop2_2 (va := mv X.ba X.sb v) (rest := st.map (mv X.ba X.sb)) hC.1 hC.2.1 hd (by rw [mv_cat]; exact hv) (kk H locs ls hR hS hl)
theorem a_dup_x1 (hC : Cx X cc nL own ret) {v w : Value} (hd : decode cc pc = .ok (.dup_x1, 1)) (hv : v.category = 1) (hw : w.category = 1) (kk : AW X nL k n (pc + 1) lv (v :: w :: v :: st) ah) : AW X nL k n pc lv (v :: w :: st) ah := fun H locs ls hR hS hl => lv_dup_x1 (va := mv X.ba X.sb v) (vb := mv X.ba X.sb w) (rest := st.map (mv X.ba X.sb)) hC.1 hC.2.1 hd (by rw [mv_cat]; exact hv) (by rw [mv_cat]; exact hw) (kk H locs ls hR hS hl)
theorem a_dup_x2 (hC : Cx X cc nL own ret) {v w u : Value} (hd : decode cc pc = .ok (.dup_x2, 1)) (hv : v.category = 1) (hw : w.category = 1) (hu : u.category = 1) (kk : AW X nL k n (pc + 1) lv (v :: w :: u :: v :: st) ah) : AW X nL k n pc lv (v :: w :: u :: st) ah := fun H locs ls hR hS hl => lv_dup_x2 (va := mv X.ba X.sb v) (vb := mv X.ba X.sb w) (vd := mv X.ba X.sb u) (rest := st.map (mv X.ba X.sb)) hC.1 hC.2.1 hd (by rw [mv_cat]; exact hv) (by rw [mv_cat]; exact hw) (by rw [mv_cat]; exact hu) (kk H locs ls hR hS hl)
theorem a_dup2 (hC : Cx X cc nL own ret) {v w : Value} (hd : decode cc pc = .ok (.dup2, 1)) (hv : v.category = 1) (hw : w.category = 1) (kk : AW X nL k n (pc + 1) lv (v :: w :: v :: w :: st) ah) : AW X nL k n pc lv (v :: w :: st) ah := fun H locs ls hR hS hl => lv_dup2_11 (va := mv X.ba X.sb v) (vb := mv X.ba X.sb w) (rest := st.map (mv X.ba X.sb)) hC.1 hC.2.1 hd (by rw [mv_cat]; exact hv) (by rw [mv_cat]; exact hw) (kk H locs ls hR hS hl)
theorem a_dup2L (hC : Cx X cc nL own ret) {v : Value} (hd : decode cc pc = .ok (.dup2, 1)) (hv : v.category = 2) (kk : AW X nL k n (pc + 1) lv (v :: v :: st) ah) : AW X nL k n pc lv (v :: st) ah := fun H locs ls hR hS hl => lv_dup2_2 (va := mv X.ba X.sb v) (rest := st.map (mv X.ba X.sb)) hC.1 hC.2.1 hd (by rw [mv_cat]; exact hv) (kk H locs ls hR hS hl)
theorem a_dup2_x1 (hC : Cx X cc nL own ret) {v w : Value} (hd : decode cc pc = .ok (.dup2_x1, 1)) (hv : v.category = 2) (hw : w.category = 1) (kk : AW X nL k n (pc + 1) lv (v :: w :: v :: st) ah) : AW X nL k n pc lv (v :: w :: st) ah := fun H locs ls hR hS hl => lv_dup2_x1_2 (va := mv X.ba X.sb v) (vb := mv X.ba X.sb w) (rest := st.map (mv X.ba X.sb)) hC.1 hC.2.1 hd (by rw [mv_cat]; exact hv) (by rw [mv_cat]; exact hw) (kk H locs ls hR hS hl)
theorem a_dup2_x2 (hC : Cx X cc nL own ret) {v w u : Value} (hd : decode cc pc = .ok (.dup2_x2, 1)) (hv : v.category = 2) (hw : w.category = 1) (hu : u.category = 1) (kk : AW X nL k n (pc + 1) lv (v :: w :: u :: v :: st) ah) : AW X nL k n pc lv (v :: w :: u :: st) ah := fun H locs ls hR hS hl => lv_dup2_x2_2 (va := mv X.ba X.sb v) (vb := mv X.ba X.sb w) (vd := mv X.ba X.sb u) (rest := st.map (mv X.ba X.sb)) hC.1 hC.2.1 hd (by rw [mv_cat]; exact hv) (by rw [mv_cat]; exact hw) (by rw [mv_cat]; exact hu) (kk H locs ls hR hS hl)
theorem a_icmp_eq (hC : Cx X cc nL own ret) {off : Int} (tgt : Nat) {x y : Int} (hd : decode cc pc = .ok (.if_icmp .eq off, 3)) (ht : (pc : Int) + off = (tgt : Int)) (hx : inI x) (hy : inI y) (kt : x = y → AW X nL k n tgt lv st ah) (kf : ¬ (x = y) → AW X nL k n (pc + 3) lv st ah) : AW X nL k n pc lv (vi y :: vi x :: st) ah := fun H locs ls hR hS hl => lv_icmp_eq (x := iZ x) (y := iZ y) (rest := st.map (mv X.ba X.sb)) hC.1 hC.2.1 hd ht (fun c => kt ((iZ_eq hx hy).mp c) H locs ls hR hS hl) (fun c => kf (fun d => c ((iZ_eq hx hy).mpr d)) H locs ls hR hS hl)
theorem a_if_eq (hC : Cx X cc nL own ret) {off : Int} (tgt : Nat) {x : Int} (hd : decode cc pc = .ok (.ifCond .eq off, 3)) (ht : (pc : Int) + off = (tgt : Int)) (hx : inI x) (kt : x = 0 → AW X nL k n tgt lv st ah) (kf : ¬ (x = 0) → AW X nL k n (pc + 3) lv st ah) : AW X nL k n pc lv (vi x :: st) ah := fun H locs ls hR hS hl => lv_if_eq (x := iZ x) (rest := st.map (mv X.ba X.sb)) hC.1 hC.2.1 hd ht (fun c => kt ((iZ_eq hx inI_0).mp c) H locs ls hR hS hl) (fun c => kf (fun d => c ((iZ_eq hx inI_0).mpr d)) H locs ls hR hS hl)
theorem a_icmp_ne (hC : Cx X cc nL own ret) {off : Int} (tgt : Nat) {x y : Int} (hd : decode cc pc = .ok (.if_icmp .ne off, 3)) (ht : (pc : Int) + off = (tgt : Int)) (hx : inI x) (hy : inI y) (kt : ¬ x = y → AW X nL k n tgt lv st ah) (kf : x = y → AW X nL k n (pc + 3) lv st ah) : AW X nL k n pc lv (vi y :: vi x :: st) ah := fun H locs ls hR hS hl => lv_icmp_ne (x := iZ x) (y := iZ y) (rest := st.map (mv X.ba X.sb)) hC.1 hC.2.1 hd ht (fun c => kt (fun d => c ((iZ_eq hx hy).mpr d)) H locs ls hR hS hl) (fun c => kf ((iZ_eq hx hy).mp c) H locs ls hR hS hl)
theorem a_if_ne (hC : Cx X cc nL own ret) {off : Int} (tgt : Nat) {x : Int} (hd : decode cc pc = .ok (.ifCond .ne off, 3)) (ht : (pc : Int) + off = (tgt : Int)) (hx : inI x) (kt : ¬ x = 0 → AW X nL k n tgt lv st ah) (kf : x = 0 → AW X nL k n (pc + 3) lv st ah) : AW X nL k n pc lv (vi x :: st) ah := fun H locs ls hR hS hl => lv_if_ne (x := iZ x) (rest := st.map (mv X.ba X.sb)) hC.1 hC.2.1 hd ht (fun c => kt (fun d => c ((iZ_eq hx inI_0).mpr d)) H locs ls hR hS hl) (fun c => kf ((iZ_eq hx inI_0).mp c) H locs ls hR hS hl)
theorem a_icmp_lt (hC : Cx X cc nL own ret) {off : Int} (tgt : Nat) {x y : Int} (hd : decode cc pc = .ok (.if_icmp .lt off, 3)) (ht : (pc : Int) + off = (tgt : Int)) (hx : inI x) (hy : inI y) (kt : x < y → AW X nL k n tgt lv st ah) (kf : ¬ (x < y) → AW X nL k n (pc + 3) lv st ah) : AW X nL k n pc lv (vi y :: vi x :: st) ah := fun H locs ls hR hS hl => lv_icmp_lt (x := iZ x) (y := iZ y) (rest := st.map (mv X.ba X.sb)) hC.1 hC.2.1 hd ht (fun c => kt ((iZ_lt hx hy).mp c) H locs ls hR hS hl) (fun c => kf (fun d => c ((iZ_lt hx hy).mpr d)) H locs ls hR hS hl)
theorem a_if_lt (hC : Cx X cc nL own ret) {off : Int} (tgt : Nat) {x : Int} (hd : decode cc pc = .ok (.ifCond .lt off, 3)) (ht : (pc : Int) + off = (tgt : Int)) (hx : inI x) (kt : x < 0 → AW X nL k n tgt lv st ah) (kf : ¬ (x < 0) → AW X nL k n (pc + 3) lv st ah) : AW X nL k n pc lv (vi x :: st) ah := fun H locs ls hR hS hl => lv_if_lt (x := iZ x) (rest := st.map (mv X.ba X.sb)) hC.1 hC.2.1 hd ht (fun c => kt ((iZ_lt hx inI_0).mp c) H locs ls hR hS hl) (fun c => kf (fun d => c ((iZ_lt hx inI_0).mpr d)) H locs ls hR hS hl)
theorem a_icmp_ge (hC : Cx X cc nL own ret) {off : Int} (tgt : Nat) {x y : Int} (hd : decode cc pc = .ok (.if_icmp .ge off, 3)) (ht : (pc : Int) + off = (tgt : Int)) (hx : inI x) (hy : inI y) (kt : y ≤ x → AW X nL k n tgt lv st ah) (kf : ¬ (y ≤ x) → AW X nL k n (pc + 3) lv st ah) : AW X nL k n pc lv (vi y :: vi x :: st) ah := fun H locs ls hR hS hl => lv_icmp_ge (x := iZ x) (y := iZ y) (rest := st.map (mv X.ba X.sb)) hC.1 hC.2.1 hd ht (fun c => kt ((iZ_le hy hx).mp c) H locs ls hR hS hl) (fun c => kf (fun d => c ((iZ_le hy hx).mpr d)) H locs ls hR hS hl)
theorem a_if_ge (hC : Cx X cc nL own ret) {off : Int} (tgt : Nat) {x : Int} (hd : decode cc pc = .ok (.ifCond .ge off, 3)) (ht : (pc : Int) + off = (tgt : Int)) (hx : inI x) (kt : 0 ≤ x → AW X nL k n tgt lv st ah) (kf : ¬ (0 ≤ x) → AW X nL k n (pc + 3) lv st ah) : AW X nL k n pc lv (vi x :: st) ah := fun H locs ls hR hS hl => lv_if_ge (x := iZ x) (rest := st.map (mv X.ba X.sb)) hC.1 hC.2.1 hd ht (fun c => kt ((iZ_le inI_0 hx).mp c) H locs ls hR hS hl) (fun c => kf (fun d => c ((iZ_le inI_0 hx).mpr d)) H locs ls hR hS hl)
theorem a_icmp_gt (hC : Cx X cc nL own ret) {off : Int} (tgt : Nat) {x y : Int} (hd : decode cc pc = .ok (.if_icmp .gt off, 3)) (ht : (pc : Int) + off = (tgt : Int)) (hx : inI x) (hy : inI y) (kt : y < x → AW X nL k n tgt lv st ah) (kf : ¬ (y < x) → AW X nL k n (pc + 3) lv st ah) : AW X nL k n pc lv (vi y :: vi x :: st) ah := fun H locs ls hR hS hl => lv_icmp_gt (x := iZ x) (y := iZ y) (rest := st.map (mv X.ba X.sb)) hC.1 hC.2.1 hd ht (fun c => kt ((iZ_lt hy hx).mp c) H locs ls hR hS hl) (fun c => kf (fun d => c ((iZ_lt hy hx).mpr d)) H locs ls hR hS hl)
theorem a_if_gt (hC : Cx X cc nL own ret) {off : Int} (tgt : Nat) {x : Int} (hd : decode cc pc = .ok (.ifCond .gt off, 3)) (ht : (pc : Int) + off = (tgt : Int)) (hx : inI x) (kt : 0 < x → AW X nL k n tgt lv st ah) (kf : ¬ (0 < x) → AW X nL k n (pc + 3) lv st ah) : AW X nL k n pc lv (vi x :: st) ah := fun H locs ls hR hS hl => lv_if_gt (x := iZ x) (rest := st.map (mv X.ba X.sb)) hC.1 hC.2.1 hd ht (fun c => kt ((iZ_lt inI_0 hx).mp c) H locs ls hR hS hl) (fun c => kf (fun d => c ((iZ_lt inI_0 hx).mpr d)) H locs ls hR hS hl)
theorem a_icmp_le (hC : Cx X cc nL own ret) {off : Int} (tgt : Nat) {x y : Int} (hd : decode cc pc = .ok (.if_icmp .le off, 3)) (ht : (pc : Int) + off = (tgt : Int)) (hx : inI x) (hy : inI y) (kt : x ≤ y → AW X nL k n tgt lv st ah) (kf : ¬ (x ≤ y) → AW X nL k n (pc + 3) lv st ah) : AW X nL k n pc lv (vi y :: vi x :: st) ah := fun H locs ls hR hS hl => lv_icmp_le (x := iZ x) (y := iZ y) (rest := st.map (mv X.ba X.sb)) hC.1 hC.2.1 hd ht (fun c => kt ((iZ_le hx hy).mp c) H locs ls hR hS hl) (fun c => kf (fun d => c ((iZ_le hx hy).mpr d)) H locs ls hR hS hl)
theorem a_if_le (hC : Cx X cc nL own ret) {off : Int} (tgt : Nat) {x : Int} (hd : decode cc pc = .ok (.ifCond .le off, 3)) (ht : (pc : Int) + off = (tgt : Int)) (hx : inI x) (kt : x ≤ 0 → AW X nL k n tgt lv st ah) (kf : ¬ (x ≤ 0) → AW X nL k n (pc + 3) lv st ah) : AW X nL k n pc lv (vi x :: st) ah := fun H locs ls hR hS hl => lv_if_le (x := iZ x) (rest := st.map (mv X.ba X.sb)) hC.1 hC.2.1 hd ht (fun c => kt ((iZ_le hx inI_0).mp c) H locs ls hR hS hl) (fun c => kf (fun d => c ((iZ_le hx inI_0).mpr d)) H locs ls hR hS hl)
theorem a_goto (hC : Cx X cc nL own ret) {off : Int} (tgt : Nat) (hd : decode cc pc = .ok (.goto off, 3)) (ht : (pc : Int) + off = (tgt : Int)) (kk : AW X nL k n tgt lv st ah) : AW X nL k n pc lv st ah := fun H locs ls hR hS hl => lv_goto (rest := st.map (mv X.ba X.sb)) hC.1 hC.2.1 hd ht (kk H locs ls hR hS hl)
def cmpZ (x y : Int) : Int := if y < x then 1 else if x = y then 0 else -1
theorem lg_cmpZ {x y : Int} (hx : inL x) (hy : inL y) : lg_cmp (lZ x) (lZ y) = iZ (cmpZ x y) := by
  unfold lg_cmp cmpZ
  by_cases h : y < x
  · rw [if_pos h, if_pos ((lZ_lt hy hx).mpr h)]; rfl
  · rw [if_neg h, if_neg (fun q => h ((lZ_lt hy hx).mp q))]
    by_cases h2 : x = y
    · rw [if_pos h2, if_pos ((lZ_eq hx hy).mpr h2)]; rfl
    · rw [if_neg h2, if_neg (fun q => h2 ((lZ_eq hx hy).mp q))]; rfl
theorem a_lcmp (hC : Cx X cc nL own ret) {x y : Int} (hd : decode cc pc = .ok (.lcmp, 1)) (hx : inL x) (hy : inL y) (kk : AW X nL k n (pc + 1) lv (vi (cmpZ x y) :: st) ah) : AW X nL k n pc lv (vl y :: vl x :: st) ah := fun H locs ls hR hS hl => W.lcmp (x := lZ x) (y := lZ y) (rest := st.map (mv X.ba X.sb)) hC.1 hC.2.1 hd (by rw [lg_cmpZ hx hy]; exact kk H locs ls hR hS hl)
theorem cmpZ_in (x y : Int) : inI (cmpZ x y) := by
  unfold cmpZ inI
  split
  · omega
  · split <;> omega
theorem cmpZ_lt (x y : Int) : cmpZ x y < 0 ↔ x < y := by unfold cmpZ; split <;> (try split) <;> omega
theorem cmpZ_le (x y : Int) : cmpZ x y ≤ 0 ↔ x ≤ y := by unfold cmpZ; split <;> (try split) <;> omega
theorem cmpZ_gt (x y : Int) : 0 < cmpZ x y ↔ y < x := by unfold cmpZ; split <;> (try split) <;> omega
theorem cmpZ_ge (x y : Int) : 0 ≤ cmpZ x y ↔ y ≤ x := by unfold cmpZ; split <;> (try split) <;> omega
theorem cmpZ_eq (x y : Int) : cmpZ x y = 0 ↔ x = y := by unfold cmpZ; split <;> (try split) <;> omega

theorem Rl.at {D : va_G} {cl : List vw_C} {b sb : Nat} {ah : Hp} {H : Heap} (h : Rl D cl b sb ah H) {i : Nat} {e : va_E} (hi : ah[i]? = some e) : va_at D cl (b + i, me b sb e) H := h.2 i e hi
/-- a field of a class of the tables is read -/
theorem a_get (hC : Cx X cc nL own ret) {idx ci i f : Nat} {fs : List Value} {v : Value} {C : String} {T : u_T} {N : Nat} (hd : decode cc pc = .ok (.getfield idx, 3)) (hc : vwCl[ci]? = some (C, T, N)) (hin : ∀ w ∈ u_ws C T N, w ∈ TT) (hf : f < N) (hT : (T f).1 = C) (hlink : Cond.fieldLink own idx C (T f).2.1 (T f).2.2.1 ∈ TT) (he : ah[i]? = some (.inr (ci, fs))) (hv : fs[f]? = some v)
    (kk : AW X nL k n (pc + 3) lv (v :: st) ah) : AW X nL k n pc lv (.ref i :: st) ah := by
  intro H locs ls hR hS hl
  obtain ⟨hx, hb, hml, hown, hts, hNw, hK, -⟩ := hC
  exact va_get (a := X.ba + i) (v := mv X.ba X.sb v) (C := C) (T := T) (N := N) (ci := ci) (ref := C) hx hb hts hin hown hK (hR.one he) 0 (fs := fs.map (mv X.ba X.sb)) rfl hc f hf (hts _ hlink) (by rw [hT]; exact fun _ h => h) (by rw [List.getElem?_map, hv]; rfl) hd (kk H locs ls hR hS hl)
/-- a nest mate's field is read -/
theorem a_getN (hC : Cx X cc nL own ret) {idx ci i f : Nat} {fs : List Value} {v : Value} {C host : String} {T : u_T} {N : Nat} (hd : decode cc pc = .ok (.getfield idx, 3)) (hc : vwCl[ci]? = some (C, T, N)) (hin : ∀ w ∈ u_ws C T N, w ∈ TT) (hf : f < N) (hT : (T f).1 = C) (hlink : Cond.fieldLinkNest own idx C (T f).2.1 (T f).2.2.1 host ∈ NN) (he : ah[i]? = some (.inr (ci, fs))) (hv : fs[f]? = some v)
    (kk : AW X nL k n (pc + 3) lv (v :: st) ah) : AW X nL k n pc lv (.ref i :: st) ah := by
  intro H locs ls hR hS hl
  obtain ⟨hx, hb, hml, hown, hts, hNw, hK, -⟩ := hC
  exact va_getN (a := X.ba + i) (v := mv X.ba X.sb v) (C := C) (T := T) (N := N) (ci := ci) (ref := C) (host := host) hx hb hts hin hown hK (hR.one he) 0 (fs := fs.map (mv X.ba X.sb)) rfl hc f hf (va_Nw.use rfl (hNw _ hlink)) (by rw [hT]; exact fun _ h => h) (by rw [List.getElem?_map, hv]; rfl) hd (kk H locs ls hR hS hl)
theorem me_set (b sb ci f : Nat) (fs : List Value) (v : Value) : me b sb (.inr (ci, fs.set f v)) = .inr (ci, (fs.map (mv b sb)).set f (mv b sb v)) := by
  show (Sum.inr (ci, (fs.set f v).map (mv b sb)) : va_E) = _
  rw [List.map_set]
/-- a field is written -/
theorem a_put (hC : Cx X cc nL own ret) {idx ci i f : Nat} {fs : List Value} {v : Value} {C : String} {T : u_T} {N : Nat} {ty0 : Nat → FieldType} (hd : decode cc pc = .ok (.putfield idx, 3)) (hc : vwCl[ci]? = some (C, T, N)) (hw : Wr C T N ty0) (hf : f < N) (hT : (T f).1 = C) (hlink : Cond.fieldLink own idx C (T f).2.1 (T f).2.2.1 ∈ TT) (hfin : (T f).2.2.2 = false) (hn : narrow (ty0 f) (mv X.ba X.sb v) = mv X.ba X.sb v) (hfit : fits (ty0 f) (mv X.ba X.sb v) = true) (he : ah[i]? = some (.inr (ci, fs))) (hlen : f < fs.length) {ah' : Hp} (hah : ah.set i (.inr (ci, fs.set f v)) = ah')
    (kk : AW X nL k n (pc + 3) lv st ah') : AW X nL k n pc lv (v :: .ref i :: st) ah := by
  intro H locs ls hR hS hl
  obtain ⟨hx, hb, hml, hown, hts, hNw, hK, -⟩ := hC
  obtain ⟨hin, hty, hnm⟩ := hw
  have hap := va_apart (own := own) hts hin ty0 hty hnm hK hc
  obtain ⟨r, h1, cell, q1, q2, q3, q4⟩ := hR.at he
  have hr : r = (C, T, N) := Option.some.inj (h1.symm.trans hc)
  subst hr
  obtain ⟨hSl, hfc, kC, hkC, hkind⟩ := hK.1 ci _ hc
  obtain ⟨cf, kf, fi, fd, hi, hsl⟩ := hSl f hf
  have hlay := hts _ (hin _ (u_in_lay hf))
  unfold u_lay at hlay
  rw [if_neg (by rw [hfin]; decide)] at hlay
  have hst := (u_facts hfc hkC (u_lays hts hin hf) hi).1
  have h6 := u_store hfc hkC hkind hlay hi (hty f hf) hn hfit
  have hi2 : X.s0.fieldFound? C (T f).2.1 (T f).2.2.1 = some (cf, kf, fi, fd) := by rw [← hT]; exact hi
  refine W.putK (a := X.ba + i) hx hb (f := fd) (ref := C) ⟨hown, hts _ hlink, ⟨_, _, _, hi2⟩, hst⟩ (by rw [q2]; exact h6) q1 q3 (by rw [hsl]; exact k2_hasslot (q4 f hf)) rfl rfl hd fun H' e1 e2 e3 => ?_
  rw [hsl] at e1 ⊢
  refine kk H' _ ls ?_ (hS.put e2 e3 (Nat.le_add_right _ _)) hl
  rw [← hah]
  refine hR.set ?_ e2 e3
  rw [me_set]
  exact ⟨_, hc, t_OB.to (V := updV (vp_V (fs.map (mv X.ba X.sb))) f (mv X.ba X.sb v)) ⟨_, e1, q2, q3, t_set q4 hap hf _⟩ (fun j _ => vp_updV_set (by rw [List.length_map]; exact hlen) _ j)⟩
/-- a nest mate's field is written -/
theorem a_putN (hC : Cx X cc nL own ret) {idx ci i f : Nat} {fs : List Value} {v : Value} {C host : String} {T : u_T} {N : Nat} {ty0 : Nat → FieldType} (hd : decode cc pc = .ok (.putfield idx, 3)) (hc : vwCl[ci]? = some (C, T, N)) (hw : Wr C T N ty0) (hf : f < N) (hT : (T f).1 = C) (hlink : Cond.fieldLinkNest own idx C (T f).2.1 (T f).2.2.1 host ∈ NN) (hfin : (T f).2.2.2 = false) (hn : narrow (ty0 f) (mv X.ba X.sb v) = mv X.ba X.sb v) (hfit : fits (ty0 f) (mv X.ba X.sb v) = true) (he : ah[i]? = some (.inr (ci, fs))) (hlen : f < fs.length) {ah' : Hp} (hah : ah.set i (.inr (ci, fs.set f v)) = ah')
    (kk : AW X nL k n (pc + 3) lv st ah') : AW X nL k n pc lv (v :: .ref i :: st) ah := by
  intro H locs ls hR hS hl
  obtain ⟨hx, hb, hml, hown, hts, hNw, hK, -⟩ := hC
  obtain ⟨hin, hty, hnm⟩ := hw
  have hap := va_apart (own := own) hts hin ty0 hty hnm hK hc
  obtain ⟨r, h1, cell, q1, q2, q3, q4⟩ := hR.at he
  have hr : r = (C, T, N) := Option.some.inj (h1.symm.trans hc)
  subst hr
  obtain ⟨hSl, hfc, kC, hkC, hkind⟩ := hK.1 ci _ hc
  obtain ⟨cf, kf, fi, fd, hi, hsl⟩ := hSl f hf
  have hlay := hts _ (hin _ (u_in_lay hf))
  unfold u_lay at hlay
  rw [if_neg (by rw [hfin]; decide)] at hlay
  have hst := (u_facts hfc hkC (u_lays hts hin hf) hi).1
  have h6 := u_store hfc hkC hkind hlay hi (hty f hf) hn hfit
  have hi2 : X.s0.fieldFound? C (T f).2.1 (T f).2.2.1 = some (cf, kf, fi, fd) := by rw [← hT]; exact hi
  refine va_WputK (a := X.ba + i) hx hb (f := fd) (ref := C) (host := host) hown (va_Nw.use rfl (hNw _ hlink)) hi2 hst (by rw [q2]; exact h6) q1 q3 (by rw [hsl]; exact k2_hasslot (q4 f hf)) rfl rfl hd fun H' e1 e2 e3 => ?_
  rw [hsl] at e1 ⊢
  refine kk H' _ ls ?_ (hS.put e2 e3 (Nat.le_add_right _ _)) hl
  rw [← hah]
  refine hR.set ?_ e2 e3
  rw [me_set]
  exact ⟨_, hc, t_OB.to (V := updV (vp_V (fs.map (mv X.ba X.sb))) f (mv X.ba X.sb v)) ⟨_, e1, q2, q3, t_set q4 hap hf _⟩ (fun j _ => vp_updV_set (by rw [List.length_map]; exact hlen) _ j)⟩
/-- a final field is written in its constructor -/
theorem a_putF (hC : Cx X cc nL own ret) {idx ci i f : Nat} {fs : List Value} {v : Value} {C : String} {T : u_T} {N : Nat} {ty0 : Nat → FieldType} (hd : decode cc pc = .ok (.putfield idx, 3)) (hc : vwCl[ci]? = some (C, T, N)) (hw : Wr C T N ty0) (hf : f < N) (hT : (T f).1 = C) (hlink : Cond.fieldLink own idx C (T f).2.1 (T f).2.2.1 ∈ TT) (hfin : (T f).2.2.2 = true) (hin2 : X.me.name = "<init>") (hdecl : C = own) (hn : narrow (ty0 f) (mv X.ba X.sb v) = mv X.ba X.sb v) (hfit : fits (ty0 f) (mv X.ba X.sb v) = true) (he : ah[i]? = some (.inr (ci, fs))) (hlen : f < fs.length) {ah' : Hp} (hah : ah.set i (.inr (ci, fs.set f v)) = ah')
    (kk : AW X nL k n (pc + 3) lv st ah') : AW X nL k n pc lv (v :: .ref i :: st) ah := by
  intro H locs ls hR hS hl
  obtain ⟨hx, hb, hml, hown, hts, hNw, hK, -⟩ := hC
  obtain ⟨hin, hty, hnm⟩ := hw
  have hap := va_apart (own := own) hts hin ty0 hty hnm hK hc
  obtain ⟨r, h1, cell, q1, q2, q3, q4⟩ := hR.at he
  have hr : r = (C, T, N) := Option.some.inj (h1.symm.trans hc)
  subst hr
  obtain ⟨hSl, hfc, kC, hkC, hkind⟩ := hK.1 ci _ hc
  obtain ⟨cf, kf, fi, fd, hi, hsl⟩ := hSl f hf
  have hlay := hts _ (hin _ (u_in_lay hf))
  unfold u_lay at hlay
  rw [if_pos hfin] at hlay
  have hst := (u_facts hfc hkC (u_lays hts hin hf) hi).1
  have hcf : X.mi.cls = cf := by
    obtain ⟨_, _, c', _, _, _, -, -, hf', -, -, -, hown2, -⟩ := Cond.laysFinal_spec hlay
    have e1 : c' = cf := by have := hi.symm.trans hf'; simp at this; exact this.1.symm
    rw [hT, hdecl] at hown2
    rw [← e1]; exact Option.some.inj (hown.symm.trans hown2)
  have h6 := u_fits hfc hkC hkind (Or.inr hlay) hi (hty f hf) hn hfit
  have hi2 : X.s0.fieldFound? C (T f).2.1 (T f).2.2.1 = some (cf, kf, fi, fd) := by rw [← hT]; exact hi
  refine W.putFinK (a := X.ba + i) hx hb (ref := C) hown (hts _ hlink) hi2 hst hcf hin2 (by rw [q2]; exact h6) q1 q3 (by rw [hsl]; exact k2_hasslot (q4 f hf)) rfl rfl hd fun H' e1 e2 e3 => ?_
  rw [hsl] at e1 ⊢
  refine kk H' _ ls ?_ (hS.put e2 e3 (Nat.le_add_right _ _)) hl
  rw [← hah]
  refine hR.set ?_ e2 e3
  rw [me_set]
  exact ⟨_, hc, t_OB.to (V := updV (vp_V (fs.map (mv X.ba X.sb))) f (mv X.ba X.sb v)) ⟨_, e1, q2, q3, t_set q4 hap hf _⟩ (fun j _ => vp_updV_set (by rw [List.length_map]; exact hlen) _ j)⟩
abbrev aI (cA : ClassId) (N : Nat) (f : Nat → Int) : va_E := .inl (cA, N, .inl (fun j => iZ (f j)))
abbrev aL (cA : ClassId) (N : Nat) (f : Nat → Int) : va_E := .inl (cA, N, .inr (.inl (fun j => lZ (f j))))
abbrev aQ (cA : ClassId) (N : Nat) (f : Nat → Option Nat) : va_E := .inl (cA, N, .inr (.inr (.inr (.inr f))))
def up (f : Nat → Int) (i : Nat) (x : Int) : Nat → Int := fun j => if j = i then x else f j
theorem up_s (f : Nat → Int) (i : Nat) (x : Int) : up f i x i = x := if_pos rfl
theorem up_n (f : Nat → Int) {i j : Nat} (x : Int) (h : j ≠ i) : up f i x j = f j := if_neg h
theorem iZ_inN {j N : Nat} (h : j < N) (hN : N < 2147483648) : vp_in (iZ (j : Int)) N := iZ_in (by omega) (by omega) hN
theorem iZ_clN {j : Nat} (h : j < 2147483648) : (iZ (j : Int)).toNatClampNeg = j := by
  rw [iZ_clamp ⟨by omega, by omega⟩]; exact Int.toNat_natCast j
theorem a_iaload (hC : Cx X cc nL own ret) (hd : decode cc pc = .ok (.iaload, 1)) {a j N : Nat} {cA : ClassId} {f : Nat → Int} (ht : (cA, FieldType.int) ∈ X.ty) (he : ah[a]? = some (aI cA N f)) (hj : j < N) (hN : N < 2147483648) (kk : AW X nL k n (pc + 1) lv (vi (f j) :: st) ah) : AW X nL k n pc lv (vi j :: .ref a :: st) ah := by
  intro H locs ls hR hS hl
  obtain ⟨t0, ht0⟩ := List.getElem?_of_mem ht
  refine va_iald (a := X.ba + a) (cA := cA) (n := N) (f := fun j => iZ (f j)) hC.1 hC.2.1 hC.2.2.2.2.2.2.1 (hR.one he) 0 t0 rfl ht0 (iZ_inN hj hN) hd ?_
  rw [iZ_clN (by omega)]
  exact kk H locs ls hR hS hl
theorem a_zaload (hC : Cx X cc nL own ret) (hd : decode cc pc = .ok (.baload, 1)) {a j N : Nat} {cA : ClassId} {f : Nat → Int} (ht : (cA, FieldType.boolean) ∈ X.ty) (he : ah[a]? = some (aI cA N f)) (hj : j < N) (hN : N < 2147483648) (kk : AW X nL k n (pc + 1) lv (vi (f j) :: st) ah) : AW X nL k n pc lv (vi j :: .ref a :: st) ah := by
  intro H locs ls hR hS hl
  obtain ⟨t0, ht0⟩ := List.getElem?_of_mem ht
  refine va_zald (a := X.ba + a) (cA := cA) (n := N) (f := fun j => iZ (f j)) hC.1 hC.2.1 hC.2.2.2.2.2.2.1 (hR.one he) 0 t0 rfl ht0 (iZ_inN hj hN) hd ?_
  rw [iZ_clN (by omega)]
  exact kk H locs ls hR hS hl
theorem a_laload (hC : Cx X cc nL own ret) (hd : decode cc pc = .ok (.laload, 1)) {a j N : Nat} {cA : ClassId} {f : Nat → Int} (ht : (cA, FieldType.long) ∈ X.ty) (he : ah[a]? = some (aL cA N f)) (hj : j < N) (hN : N < 2147483648) (kk : AW X nL k n (pc + 1) lv (vl (f j) :: st) ah) : AW X nL k n pc lv (vi j :: .ref a :: st) ah := by
  intro H locs ls hR hS hl
  obtain ⟨t0, ht0⟩ := List.getElem?_of_mem ht
  refine va_lald (a := X.ba + a) (cA := cA) (n := N) (f := fun j => lZ (f j)) hC.1 hC.2.1 hC.2.2.2.2.2.2.1 (hR.one he) 0 t0 rfl ht0 (iZ_inN hj hN) hd ?_
  rw [iZ_clN (by omega)]
  exact kk H locs ls hR hS hl
theorem a_aaload (hC : Cx X cc nL own ret) (hd : decode cc pc = .ok (.aaload, 1)) {a j N q : Nat} {cA : ClassId} {f : Nat → Option Nat} {ty : FieldType} (hty : ty.isReference = true) (ht : (cA, ty) ∈ X.ty) (he : ah[a]? = some (aQ cA N f)) (hj : j < N) (hN : N < 2147483648) (hq : f j = some q) (kk : AW X nL k n (pc + 1) lv (.ref q :: st) ah) : AW X nL k n pc lv (vi j :: .ref a :: st) ah := by
  intro H locs ls hR hS hl
  obtain ⟨t0, ht0⟩ := List.getElem?_of_mem ht
  have h1 := (hC.2.2.2.2.2.2.1.2 t0 _ ht0).1 N (fun j => va_rf ((f j).map (fun a => X.ba + a)))
  have h2 : H[X.ba + a]? = some (arrV cA N (fun j => va_rf ((f j).map (fun a => X.ba + a)))) := hR.at he
  refine W.aald (a := X.ba + a) (v := .ref (X.ba + q)) (ty := ty) hC.1 hC.2.1 h2 h1 hty (fun q => by cases q) (by rw [arrV_size]; exact iZ_inN hj hN) (by rw [iZ_clN (by omega), arrV_read _ _ hj, hq]; rfl) rfl rfl hd ?_
  exact kk H locs ls hR hS hl
theorem up_iZ (f : Nat → Int) (i : Nat) (x : Int) : (fun j => iZ (up f i x j)) = upd (fun j => iZ (f j)) i (iZ x) := by
  funext j
  by_cases h : j = i
  · subst h; simp [up, upd]
  · simp [up, upd, h]
theorem up_lZ (f : Nat → Int) (i : Nat) (x : Int) : (fun j => lZ (up f i x j)) = vp_updL (fun j => lZ (f j)) i (lZ x) := by
  funext j
  by_cases h : j = i
  · subst h; simp [up, vp_updL]
  · simp [up, vp_updL, h]
theorem a_iastore (hC : Cx X cc nL own ret) (hd : decode cc pc = .ok (.iastore, 1)) {a j N : Nat} {cA : ClassId} {f : Nat → Int} {x : Int} (ht : (cA, FieldType.int) ∈ X.ty) (he : ah[a]? = some (aI cA N f)) (hj : j < N) (hN : N < 2147483648) {ah' : Hp} (hah : ah.set a (aI cA N (up f j x)) = ah') (kk : AW X nL k n (pc + 1) lv st ah') : AW X nL k n pc lv (vi x :: vi j :: .ref a :: st) ah := by
  intro H locs ls hR hS hl
  obtain ⟨t0, ht0⟩ := List.getElem?_of_mem ht
  refine W.iast (a := X.ba + a) hC.1 hC.2.1 (hR.at he) ((hC.2.2.2.2.2.2.1.2 t0 _ ht0).1 N (fun j => .int (iZ (f j)))) (fun q => by cases q) (by show ¬ (iZ (j : Int) < 0 ∨ (arrV _ _ _).slots.size ≤ _); rw [arrV_size]; exact iZ_inN hj hN) rfl rfl hd fun H1 e z oq => ?_
  refine kk H1 _ ls ?_ (hS.put z oq (Nat.le_add_right _ _)) hl
  rw [← hah]
  refine hR.set ?_ z oq
  show H1[X.ba + a]? = some (vp_cell cA (N, .inl (fun j' => iZ (up f j x j'))))
  rw [e, up_iZ]
  show some ((vp_cell cA (N, .inl (fun j => iZ (f j)))).setSlot _ _) = _
  rw [vp_cell_i, vp_cell_i, arrV_store, iZ_clN (by omega)]
  congr 2
  funext q
  by_cases hq : q = j
  · subst hq
    simp [updV, upd]
  · simp [updV, upd, hq]
theorem a_lastore (hC : Cx X cc nL own ret) (hd : decode cc pc = .ok (.lastore, 1)) {a j N : Nat} {cA : ClassId} {f : Nat → Int} {x : Int} (ht : (cA, FieldType.long) ∈ X.ty) (he : ah[a]? = some (aL cA N f)) (hj : j < N) (hN : N < 2147483648) {ah' : Hp} (hah : ah.set a (aL cA N (up f j x)) = ah') (kk : AW X nL k n (pc + 1) lv st ah') : AW X nL k n pc lv (vl x :: vi j :: .ref a :: st) ah := by
  intro H locs ls hR hS hl
  obtain ⟨t0, ht0⟩ := List.getElem?_of_mem ht
  refine W.last (a := X.ba + a) hC.1 hC.2.1 (hR.at he) ((hC.2.2.2.2.2.2.1.2 t0 _ ht0).1 N (fun j => .long (lZ (f j)))) (fun q => by cases q) (by show ¬ (iZ (j : Int) < 0 ∨ (arrV _ _ _).slots.size ≤ _); rw [arrV_size]; exact iZ_inN hj hN) rfl rfl hd fun H1 e z oq => ?_
  refine kk H1 _ ls ?_ (hS.put z oq (Nat.le_add_right _ _)) hl
  rw [← hah]
  refine hR.set ?_ z oq
  show H1[X.ba + a]? = some (vp_cell cA (N, .inr (.inl (fun j' => lZ (up f j x j')))))
  rw [e, up_lZ]
  show some ((vp_cell cA (N, .inr (.inl (fun j => lZ (f j))))).setSlot _ _) = _
  rw [vp_cell_l, vp_cell_l, arrV_store, iZ_clN (by omega)]
  congr 2
  funext q
  by_cases hq : q = j
  · subst hq
    simp [updV, vp_updL]
  · simp [updV, vp_updL, hq]
theorem a_zastore (hC : Cx X cc nL own ret) (hd : decode cc pc = .ok (.bastore, 1)) {a j N : Nat} {cA : ClassId} {f : Nat → Int} {x : Int} (hx : x = 0 ∨ x = 1) (ht : (cA, FieldType.boolean) ∈ X.ty) (he : ah[a]? = some (aI cA N f)) (hj : j < N) (hN : N < 2147483648) {ah' : Hp} (hah : ah.set a (aI cA N (up f j x)) = ah') (kk : AW X nL k n (pc + 1) lv st ah') : AW X nL k n pc lv (vi x :: vi j :: .ref a :: st) ah := by
  intro H locs ls hR hS hl
  obtain ⟨t0, ht0⟩ := List.getElem?_of_mem ht
  refine W.zast (a := X.ba + a) hC.1 hC.2.1 (hR.at he) ((hC.2.2.2.2.2.2.1.2 t0 _ ht0).1 N (fun j => .int (iZ (f j)))) (fun q => by cases q) (by show ¬ (iZ (j : Int) < 0 ∨ (arrV _ _ _).slots.size ≤ _); rw [arrV_size]; exact iZ_inN hj hN) rfl rfl hd fun H1 e z oq => ?_
  refine kk H1 _ ls ?_ (hS.put z oq (Nat.le_add_right _ _)) hl
  rw [← hah]
  refine hR.set ?_ z oq
  show H1[X.ba + a]? = some (vp_cell cA (N, .inl (fun j' => iZ (up f j x j'))))
  rw [e, up_iZ]
  show some ((vp_cell cA (N, .inl (fun j => iZ (f j)))).setSlot _ _) = _
  rw [vp_cell_i, vp_cell_i, arrV_store, iZ_clN (by omega)]
  congr 2
  funext q
  by_cases hq : q = j
  · subst hq
    rcases hx with rfl | rfl <;> simp [updV, upd] <;> rfl
  · simp [updV, upd, hq]
theorem a_widen {k' n' : Nat} (h1 : k ≤ k') (h2 : n ≤ n') (kk : AW X nL k' n' pc lv st ah) : AW X nL k n pc lv st ah := fun H locs ls hR hS hl => W.widen h1 h2 (kk H locs ls hR hS hl)
/-- what a method leaves: its answer and the heap -/
def qc (D : va_G) (b sb : Nat) (post : Option Value → Hp → Prop) : Array Value → State → Outcome → State → Prop := fun _ s0 oc t =>
  (∃ (r : Option Value) (ah' : Hp), oc = .returned (r.map (mv b sb)) ∧ post r ah' ∧ Rl D vwCl b sb ah' t.heap) ∧ va_F (fun q => b ≤ q) s0 t
def pcx (D : va_G) (tys : List (ClassId × FieldType)) (b sb : Nat) (av : List Value) (ah : Hp) : Array Value → State → Prop := fun v U =>
  v = (av.map (mv b sb)).toArray ∧ Rl D vwCl b sb ah U.heap ∧ va_K D vwCl tys U ∧ ∀ w ∈ NN, va_Nw w U
/-- a method's contract at its arguments and its heap -/
def Mt (l : Launch) (y : MethodName) (cc : ByteArray) (maxL : Nat) (ret : Option FieldType) (rm : Room) (D : va_G) (tys : List (ClassId × FieldType)) (av : List Value) (ah : Hp) (post : Option Value → Hp → Prop) : Prop :=
  ∀ b sb : Nat, Met l y (Cond.code y cc maxL ret :: TT) rm (pcx D tys b sb av ah) (qc D b sb post) rm.cells rm.slots (fun q => b ≤ q)
def EndOk (X : Xt) (post : Option Value → Hp → Prop) (mc ms : Nat) : Prop := X.qq = MQ X.be (qc X.dd X.ba X.sb post) X.ar X.s0 mc ms (fun q => X.ba ≤ q)
theorem args_map (b sb : Nat) : ∀ (vs : List Value) (i : Nat), lv_args i (vs.map (mv b sb)) = (lv_args i vs).map fun q => (q.1, mv b sb q.2)
  | [], _ => rfl
  | v :: vs, i => by
    show lv_args i (mv b sb v :: vs.map (mv b sb)) = (lv_args i (v :: vs)).map _
    simp only [lv_args, List.map_cons, mv_cat, args_map b sb vs]
theorem sl_len (b sb : Nat) : ∀ (vs : List Value), (lg_sl (vs.map (mv b sb))).length = (lg_sl vs).length
  | [] => rfl
  | v :: vs => by
    have h := sl_len b sb vs
    cases v <;> simp_all [lg_sl, mv, Value.category]
theorem Mt.intro {l : Launch} {y : MethodName} {maxL : Nat} {rm : Room} {D : va_G} {tys : List (ClassId × FieldType)} {av : List Value} {post : Option Value → Hp → Prop} (hy : plainFor y = true) (hlen : (lg_sl av).length ≤ maxL)
    (h : ∀ X : Xt, X.la = l → X.ro = rm → X.dd = D → X.ty = tys → X.me.name = y.name → Cx X cc maxL y.cls ret → EndOk X post rm.cells rm.slots → AW X maxL 0 0 0 (lv_args 0 av) [] ah) : Mt l y cc maxL ret rm D tys av ah post := by
  intro b sb
  refine va_MetF (cc := cc) (maxL := maxL) (ret := ret) hy rfl ?_
  intro p e s m args below meth c s₁ B hml hv
  obtain ⟨rfl, hR, hK, hN⟩ := hv
  have hts := atoms_spec (ws := Cond.code y cc maxL ret :: TT) B.pre
  have hnm : meth.name = y.name := (name_of_methodNamed B.named B.method).1
  have key := h (p, l, e, rm, s, m, (av.map (mv b sb)).toArray, below, meth, c, MQ below (qc D b sb post) (av.map (mv b sb)).toArray s rm.cells rm.slots (fun q => b ≤ q), D, tys, b, sb) rfl rfl rfl rfl hnm
    ⟨B.exec, B.bytes, hml, findClass_of_methodNamed B.named, fun w hw => hts w (List.mem_cons_of_mem _ hw), hN, hK, B.returns, B.notSynchronized⟩ rfl
  have hl := lv_entry (av.map (mv b sb)) (n := maxL) (by rw [sl_len]; exact hlen)
  rw [lg_entry_eq]
  rw [args_map] at hl
  exact key s.heap [] _ hR va_S.rf hl
theorem fr_end {X : Xt} {post : Option Value → Hp → Prop} {H : Heap} {locs : List Loc} {ah : Hp} {r : Option Value} (hR : Rl X.dd vwCl X.ba X.sb ah H) (hS : va_S (fun q => X.ba ≤ q) X.s0.heap H locs) (hp : post r ah) : ∀ t : State, t.heap = H → X.s0.WarmedH t.vm → qc X.dd X.ba X.sb post X.ar X.s0 (.returned (r.map (mv X.ba X.sb))) t :=
  fun t ht _ => ⟨⟨r, ah, rfl, hp, by rw [ht]; exact hR⟩, hS.F ht⟩
theorem a_ireturn {post : Option Value → Hp → Prop} (hC : Cx X cc nL own (some .int)) (hE : EndOk X post k n) (hd : decode cc pc = .ok (.ireturn, 1)) {x : Int} (hp : post (some (vi x)) ah) : AW X nL k n pc lv [vi x] ah := by
  intro H locs ls hR hS hl
  have := W.iret (v := iZ x) (Qc := qc X.dd X.ba X.sb post) (free := fun q => X.ba ≤ q) (pc := pc) (ls := ls) hC.1 hC.2.1 hC.2.2.2.2.2.2.2.1 (fr_end (r := some (vi x)) hR hS hp) hS.2.2 hd hC.2.2.2.2.2.2.2.2 (p := X.pg) (l := X.la) (e := X.en) (R := X.ro) (m := X.mi) (below := X.be) (c := X.co) (cells := k) (slots := n)
  rw [show X.qq = _ from hE]
  exact this
theorem a_zreturn {post : Option Value → Hp → Prop} {ty : FieldType} (hC : Cx X cc nL own (some ty)) (hE : EndOk X post k n) (hd : decode cc pc = .ok (.ireturn, 1)) {x : Int} (hn : narrow ty (vi x) = vi x) (hp : post (some (vi x)) ah) : AW X nL k n pc lv [vi x] ah := by
  intro H locs ls hR hS hl
  have := W.zret (v := iZ x) (ty := ty) (Qc := qc X.dd X.ba X.sb post) (free := fun q => X.ba ≤ q) (pc := pc) (ls := ls) hC.1 hC.2.1 hC.2.2.2.2.2.2.2.1 hn (fr_end (r := some (vi x)) hR hS hp) hS.2.2 hd hC.2.2.2.2.2.2.2.2 (p := X.pg) (l := X.la) (e := X.en) (R := X.ro) (m := X.mi) (below := X.be) (c := X.co) (cells := k) (slots := n)
  rw [show X.qq = _ from hE]
  exact this
theorem a_lreturn {post : Option Value → Hp → Prop} (hC : Cx X cc nL own (some .long)) (hE : EndOk X post k n) (hd : decode cc pc = .ok (.lreturn, 1)) {x : Int} (hp : post (some (vl x)) ah) : AW X nL k n pc lv [vl x] ah := by
  intro H locs ls hR hS hl
  have := W.lret (v := lZ x) (Qc := qc X.dd X.ba X.sb post) (free := fun q => X.ba ≤ q) (pc := pc) (ls := ls) hC.1 hC.2.1 hC.2.2.2.2.2.2.2.1 (fr_end (r := some (vl x)) hR hS hp) hS.2.2 hd hC.2.2.2.2.2.2.2.2 (p := X.pg) (l := X.la) (e := X.en) (R := X.ro) (m := X.mi) (below := X.be) (c := X.co) (cells := k) (slots := n)
  rw [show X.qq = _ from hE]
  exact this
theorem a_return {post : Option Value → Hp → Prop} (hC : Cx X cc nL own none) (hE : EndOk X post k n) (hd : decode cc pc = .ok (.return_, 1)) (hp : post none ah) : AW X nL k n pc lv [] ah := by
  intro H locs ls hR hS hl
  have := W.vret (Qc := qc X.dd X.ba X.sb post) (free := fun q => X.ba ≤ q) (pc := pc) (ls := ls) hC.1 hC.2.1 hC.2.2.2.2.2.2.2.1 (fr_end (r := none) hR hS hp) hS.2.2 hd hC.2.2.2.2.2.2.2.2 (p := X.pg) (l := X.la) (e := X.en) (R := X.ro) (m := X.mi) (below := X.be) (c := X.co) (cells := k) (slots := n)
  rw [show X.qq = _ from hE]
  exact this
/-- behind a call -/
theorem a_run {post : Option Value → Hp → Prop} {mc ms : Nat} {st0 rest : List Value} {a : Array Value}
    (hr : ∀ (H : Heap) (locs : List Loc) (ls : Array Slot), Rl X.dd vwCl X.ba X.sb ah H → lv_has ls nL (lv.map fun q => (q.1, mv X.ba X.sb q.2)) → va_Run X.pg X.la X.en X.ro X.s0 X.mi X.ar X.be X.me X.co H locs k n mc ms (F0 X.mi pc ls (st0.map (mv X.ba X.sb))) (rest.map (mv X.ba X.sb)) (qc X.dd X.ba X.sb post a) (fun q => X.ba ≤ q))
    (kk : ∀ (r : Option Value) (ah' : Hp), post r ah' → AW X nL (k + mc) (n + ms) (pc + 3) lv (r.toList ++ rest) ah') : AW X nL k n pc lv st0 ah := by
  intro H locs ls hR hS hl T hT Xs
  obtain ⟨v, st₀, t, T', L, h0, X', hL, e1, e2, ⟨⟨r, ah', hv, hp, hR'⟩, hz, hk⟩, st⟩ := hr H locs ls hR hl T hT Xs
  cases hv
  rw [h0] at hz hk
  have hS' : va_S (fun q => X.ba ≤ q) X.s0.heap T'.heap (locs ++ L) := ⟨Nat.le_trans hS.1 (by rw [e1]; exact hz), fun q h1 h2 => by rw [e1, hk q (Nat.lt_of_lt_of_le h1 hS.1) h2]; exact hS.2.1 q h1 h2, fun q hq => by
      rcases List.mem_append.mp hq with h | h
      · exact hS.2.2 q h
      · exact hL q h⟩
  obtain ⟨t2, a1, b1⟩ := kk r ah' hp T'.heap (locs ++ L) ls (by rw [e1]; exact hR') hS' hl T' rfl X'
  refine ⟨t2, st t2 ?_, b1⟩
  have e3 : (r.map (mv X.ba X.sb)).toList ++ rest.map (mv X.ba X.sb) = (r.toList ++ rest).map (mv X.ba X.sb) := by cases r <;> simp
  rw [show ({ F0 X.mi pc ls (st0.map (mv X.ba X.sb)) with pc := pc + 3, stack := (r.map (mv X.ba X.sb)).toList ++ rest.map (mv X.ba X.sb) } : JFrame) = F0 X.mi (pc + 3) ls ((r.toList ++ rest).map (mv X.ba X.sb)) by rw [← e3]]
  exact a1
theorem blind {D : va_G} {tys : List (ClassId × FieldType)} {b sb : Nat} {av : List Value} : FrameBlind (pcx D tys b sb av ah) := by
  intro a U g mk q
  obtain ⟨q0, q1, q2, q3⟩ := q
  exact ⟨q0, q1, va_K.moved (u := U) (U := U.calling g mk a) (Vm.Alike.refl U.vm) q2, fun w hw => NN_same (u := U) w hw rfl (q3 w hw)⟩
theorem pcx_of (hC : Cx X cc nL own ret) {av : List Value} {H : Heap} (hR : Rl X.dd vwCl X.ba X.sb ah H) : ∀ U : State, U.heap = H → X.s0.WarmedH U.vm → pcx X.dd X.ty X.ba X.sb av ah (av.map (mv X.ba X.sb)).toArray U := by
  intro U hU hW
  exact ⟨rfl, by rw [hU]; exact hR, va_K.moved hW.alike hC.2.2.2.2.2.2.1, fun w hw => NN_warm w hw hW (hC.2.2.2.2.2.1 w hw)⟩
/-- its room within the caller's -/
def Fits (rm R : Room) (maxL k n : Nat) : Prop := (rm.frames + 1 ≤ R.frames ∧ 8 + (maxL + 11) + rm.locals ≤ R.locals) ∧ k + rm.cells ≤ R.cells ∧ n + rm.slots ≤ R.slots
theorem good_cons {w : Cond} (h : w ∈ TT) : GoodIn TT (w :: TT) := fun v hv => by
  rcases List.mem_cons.mp hv with rfl | h2
  · exact TT_good _ h
  · exact TT_good _ h2
theorem cat_sum (b sb : Nat) (st : List Value) : ((st.map (mv b sb)).map fun v => v.category).sum = (st.map fun v => v.category).sum := by
  rw [List.map_map]; congr 1; apply List.map_congr_left; intro v _; exact mv_cat b sb v
theorem room_ok {m : MethodId} {ls : Array Slot} {b sb : Nat} {rest st1 : List Value} (h : (rest.map fun v => v.category).sum ≤ 8) : 2 * (F0 m pc ls st1).monitorRoom + ((rest.map (mv b sb)).map fun v => v.category).sum ≤ 8 := lv_room (by rw [cat_sum]; exact h)
section CALL
variable {y : MethodName} {code : ByteArray} {maxL na idx : Nat} {rt : Option FieldType} {rm : Room} {av rest : List Value} {post : Option Value → Hp → Prop} {host : String}
/-- a static method of the same class -/
theorem a_callS (hC : Cx X cc nL own ret) (hd : decode cc pc = .ok (.invokestatic idx, 3)) (hy : Yk y code maxL rt na) (hs : Cond.static y ∈ TT) (hlk : Cond.methodLink own idx y ∈ TT) (hM : Mt X.la y code maxL rt rm X.dd X.ty av ah post) (hna : av.length = na) (hf : Fits rm X.ro maxL k n) (hcat : (rest.map fun v => v.category).sum ≤ 8)
    (kk : ∀ (r : Option Value) (ah' : Hp), post r ah' → AW X nL (k + rm.cells) (n + rm.slots) (pc + 3) lv (r.toList ++ rest) ah') : AW X nL k n pc lv (av.reverse ++ rest) ah := by
  refine a_run (rest := rest) (a := (av.map (mv X.ba X.sb)).toArray) (fun H locs ls hR hl => ?_) kk
  obtain ⟨h1, h2, h3, h4, h5⟩ := hy
  have hts := hC.2.2.2.2.1
  exact va_runS (As := av.map (mv X.ba X.sb)) (cc := cc) (nL := nL) (Ts := TT) (own := own) (index := idx) (n := na) ⟨hC.1, hC.2.1, hC.2.2.1, hC.2.2.2.1, hts⟩ (hM X.ba X.sb)
    ⟨callB_of na hts (good_cons h1) rfl rfl rfl (hts _ h2) (hts _ hlk) ⟨h3, h4, h5⟩ hf.1, hts _ hs⟩ ⟨blind, pcx_of hC hR⟩ rfl (by rw [List.length_map]; exact hna) hl.1 (by simp [List.map_reverse]) (room_ok hcat) hd hf.2
/-- a nest mate's static method -/
theorem a_callSN (hC : Cx X cc nL own ret) (hd : decode cc pc = .ok (.invokestatic idx, 3)) (hy : Yk y code maxL rt na) (hs : Cond.static y ∈ TT) (hlk : Cond.methodLinkNest own idx y host ∈ NN) (hM : Mt X.la y code maxL rt rm X.dd X.ty av ah post) (hna : av.length = na) (hf : Fits rm X.ro maxL k n) (hcat : (rest.map fun v => v.category).sum ≤ 8)
    (kk : ∀ (r : Option Value) (ah' : Hp), post r ah' → AW X nL (k + rm.cells) (n + rm.slots) (pc + 3) lv (r.toList ++ rest) ah') : AW X nL k n pc lv (av.reverse ++ rest) ah := by
  refine a_run (rest := rest) (a := (av.map (mv X.ba X.sb)).toArray) (fun H locs ls hR hl => ?_) kk
  obtain ⟨h1, h2, h3, h4, h5⟩ := hy
  have hts := hC.2.2.2.2.1
  exact va_runSN (As := av.map (mv X.ba X.sb)) (cc := cc) (nL := nL) (Ts := TT) (own := own) (index := idx) (n := na) (host := host) ⟨hC.1, hC.2.1, hC.2.2.1, hC.2.2.2.1, hts⟩ (hM X.ba X.sb)
    ⟨va_cnB na hts (good_cons h1) rfl rfl rfl (hC.2.2.2.2.2.1 _ hlk) (hts _ h2) ⟨h3, h4, h5⟩ hf.1, hts _ hs, trivial⟩ ⟨blind, pcx_of hC hR⟩ rfl (by rw [List.length_map]; exact hna) hl.1 (by simp [List.map_reverse]) (room_ok hcat) hd hf.2
theorem rv_of (hC : Cx X cc nL own ret) {ci i : Nat} {q : vw_C} {fs : List Value} {H : Heap} (hR : Rl X.dd vwCl X.ba X.sb ah H) (hc : vwCl[ci]? = some q) (he : ah[i]? = some (.inr (ci, fs))) : ∃ cell : Cell, H[X.ba + i]? = some cell ∧ cell.vm.isStatics = false ∧ X.s0.vm.findClass q.1 = some cell.cls :=
  va_recv hC.2.2.2.2.2.2.1 (hR.one he) hc (q0 := 0) rfl
/-- a method of an object -/
theorem a_callV (hC : Cx X cc nL own ret) (hd : decode cc pc = .ok (.invokevirtual idx, 3)) {ci i : Nat} {T : u_T} {N : Nat} {fs : List Value} (hc : vwCl[ci]? = some (y.cls, T, N)) (he : ah[i]? = some (.inr (ci, fs))) (hy : Yk y code maxL rt na) (hi : Cond.instanceMethod y ∈ TT) (hsel : Cond.selects y.cls y y ∈ TT) (hlk : Cond.methodLink own idx y ∈ TT) (hM : Mt X.la y code maxL rt rm X.dd X.ty (.ref i :: av) ah post) (hna : av.length = na) (hf : Fits rm X.ro maxL k n) (hcat : (rest.map fun v => v.category).sum ≤ 8)
    (kk : ∀ (r : Option Value) (ah' : Hp), post r ah' → AW X nL (k + rm.cells) (n + rm.slots) (pc + 3) lv (r.toList ++ rest) ah') : AW X nL k n pc lv (av.reverse ++ .ref i :: rest) ah := by
  refine a_run (rest := rest) (a := (Value.ref (X.ba + i) :: av.map (mv X.ba X.sb)).toArray) (fun H locs ls hR hl => ?_) kk
  obtain ⟨h1, h2, h3, h4, h5⟩ := hy
  have hts := hC.2.2.2.2.1
  exact va_runV (As := av.map (mv X.ba X.sb)) (C := y.cls) (b := X.ba + i) (cc := cc) (nL := nL) (Ts := TT) (own := own) (index := idx) (n := na) ⟨hC.1, hC.2.1, hC.2.2.1, hC.2.2.2.1, hts⟩ (hM X.ba X.sb)
    ⟨callB_of na hts (good_cons h1) rfl rfl rfl (hts _ h2) (hts _ hlk) ⟨h3, h4, h5⟩ hf.1, hts _ hi, hts _ hsel⟩ ⟨blind, rv_of hC hR hc he, pcx_of (av := .ref i :: av) hC hR⟩ rfl (by rw [List.length_map]; exact hna) hl.1 (by simp [List.map_reverse, mv]) (room_ok hcat) hd hf.2
/-- a nest mate's method -/
theorem a_callVN (hC : Cx X cc nL own ret) (hd : decode cc pc = .ok (.invokevirtual idx, 3)) {ci i : Nat} {T : u_T} {N : Nat} {fs : List Value} (hc : vwCl[ci]? = some (y.cls, T, N)) (he : ah[i]? = some (.inr (ci, fs))) (hy : Yk y code maxL rt na) (hi : Cond.instanceMethod y ∈ TT) (hsel : Cond.selects y.cls y y ∈ TT) (hlk : Cond.methodLinkNest own idx y host ∈ NN) (hM : Mt X.la y code maxL rt rm X.dd X.ty (.ref i :: av) ah post) (hna : av.length = na) (hf : Fits rm X.ro maxL k n) (hcat : (rest.map fun v => v.category).sum ≤ 8)
    (kk : ∀ (r : Option Value) (ah' : Hp), post r ah' → AW X nL (k + rm.cells) (n + rm.slots) (pc + 3) lv (r.toList ++ rest) ah') : AW X nL k n pc lv (av.reverse ++ .ref i :: rest) ah := by
  refine a_run (rest := rest) (a := (Value.ref (X.ba + i) :: av.map (mv X.ba X.sb)).toArray) (fun H locs ls hR hl => ?_) kk
  obtain ⟨h1, h2, h3, h4, h5⟩ := hy
  have hts := hC.2.2.2.2.1
  exact va_runVN (As := av.map (mv X.ba X.sb)) (C := y.cls) (b := X.ba + i) (cc := cc) (nL := nL) (Ts := TT) (own := own) (index := idx) (n := na) (host := host) ⟨hC.1, hC.2.1, hC.2.2.1, hC.2.2.2.1, hts⟩ (hM X.ba X.sb)
    ⟨va_cnB na hts (good_cons h1) rfl rfl rfl (hC.2.2.2.2.2.1 _ hlk) (hts _ h2) ⟨h3, h4, h5⟩ hf.1, hts _ hi, hts _ hsel⟩ ⟨blind, rv_of hC hR hc he, pcx_of (av := .ref i :: av) hC hR⟩ rfl (by rw [List.length_map]; exact hna) hl.1 (by simp [List.map_reverse, mv]) (room_ok hcat) hd hf.2
/-- a constructor -/
theorem a_callI (hC : Cx X cc nL own ret) (hd : decode cc pc = .ok (.invokespecial idx, 3)) {i : Nat} (hy : Yk y code maxL none na) (hi : Cond.instanceMethod y ∈ TT) (hnm : y.name = "<init>") (hlk : Cond.methodLink own idx y ∈ TT) (hM : Mt X.la y code maxL none rm X.dd X.ty (.ref i :: av) ah post) (hna : av.length = na) (hf : Fits rm X.ro maxL k n) (hcat : (rest.map fun v => v.category).sum ≤ 8)
    (kk : ∀ (r : Option Value) (ah' : Hp), post r ah' → AW X nL (k + rm.cells) (n + rm.slots) (pc + 3) lv (r.toList ++ rest) ah') : AW X nL k n pc lv (av.reverse ++ .ref i :: rest) ah := by
  refine a_run (rest := rest) (a := (Value.ref (X.ba + i) :: av.map (mv X.ba X.sb)).toArray) (fun H locs ls hR hl => ?_) kk
  obtain ⟨h1, h2, h3, h4, h5⟩ := hy
  have hts := hC.2.2.2.2.1
  exact va_runI (As := av.map (mv X.ba X.sb)) (b := X.ba + i) (cc := cc) (nL := nL) (Ts := TT) (own := own) (index := idx) (n := na) ⟨hC.1, hC.2.1, hC.2.2.1, hC.2.2.2.1, hts⟩ (hM X.ba X.sb)
    ⟨callB_of na hts (good_cons h1) rfl rfl rfl (hts _ h2) (hts _ hlk) ⟨h3, h4, h5⟩ hf.1, hnm, hts _ hi⟩ ⟨blind, pcx_of (av := .ref i :: av) hC hR⟩ rfl (by rw [List.length_map]; exact hna) hl.1 (by simp [List.map_reverse, mv]) (room_ok hcat) hd hf.2
/-- a nest mate's constructor -/
theorem a_callIN (hC : Cx X cc nL own ret) (hd : decode cc pc = .ok (.invokespecial idx, 3)) {i : Nat} (hy : Yk y code maxL none na) (hi : Cond.instanceMethod y ∈ TT) (hnm : y.name = "<init>") (hlk : Cond.methodLinkNest own idx y host ∈ NN) (hM : Mt X.la y code maxL none rm X.dd X.ty (.ref i :: av) ah post) (hna : av.length = na) (hf : Fits rm X.ro maxL k n) (hcat : (rest.map fun v => v.category).sum ≤ 8)
    (kk : ∀ (r : Option Value) (ah' : Hp), post r ah' → AW X nL (k + rm.cells) (n + rm.slots) (pc + 3) lv (r.toList ++ rest) ah') : AW X nL k n pc lv (av.reverse ++ .ref i :: rest) ah := by
  refine a_run (rest := rest) (a := (Value.ref (X.ba + i) :: av.map (mv X.ba X.sb)).toArray) (fun H locs ls hR hl => ?_) kk
  obtain ⟨h1, h2, h3, h4, h5⟩ := hy
  have hts := hC.2.2.2.2.1
  exact va_runIN (As := av.map (mv X.ba X.sb)) (b := X.ba + i) (cc := cc) (nL := nL) (Ts := TT) (own := own) (index := idx) (n := na) (host := host) ⟨hC.1, hC.2.1, hC.2.2.1, hC.2.2.2.1, hts⟩ (hM X.ba X.sb)
    ⟨va_cnB na hts (good_cons h1) rfl rfl rfl (hC.2.2.2.2.2.1 _ hlk) (hts _ h2) ⟨h3, h4, h5⟩ hf.1, hnm, hts _ hi⟩ ⟨blind, pcx_of (av := .ref i :: av) hC hR⟩ rfl (by rw [List.length_map]; exact hna) hl.1 (by simp [List.map_reverse, mv]) (room_ok hcat) hd hf.2
end CALL
end ROWS
end
section
section ROWS2
variable {X : Xt} {cc : ByteArray} {nL k n pc : Nat} {own : String} {ret : Option FieldType} {lv : List (Nat × Value)} {st : List Value} {ah : Hp}
/-- a new object: its number is the length of the heap -/
theorem a_new (hC : Cx X cc nL own ret) {idx ci a N : Nat} {C : String} {T : u_T} {ty0 : Nat → FieldType} {fs : List Value} (hd : decode cc pc = .ok (.new idx, 3)) (hc : vwCl[ci]? = some (C, T, N)) (hw : Wr C T N ty0) (hcl : Cond.classLink own idx C ∈ TT) (hinst : Cond.instantiable C N ∈ TT) (hini : Cond.initialized C ∈ TT) (hfs : ∀ j, j < N → defaultValue (ty0 j) = vp_V fs j) (hmv : ∀ b sb, fs.map (mv b sb) = fs) (hcells : k + 1 ≤ X.ro.cells) (hslots : n + N ≤ X.ro.slots) (ha : ah.length = a) {ah' : Hp} (hah : ah ++ [.inr (ci, fs)] = ah')
    (kk : AW X nL (k + 1) (n + N) (pc + 3) lv (.ref a :: st) ah') : AW X nL k n pc lv st ah := by
  intro H locs ls hR hS hl
  obtain ⟨hx, hb, hml, hown, hts, hNw, hK, -⟩ := hC
  have hKn := hK.1 ci _ hc
  refine W.newcK (h := H.size) hx hb hown (hts _ hcl) (hts _ hinst) (hts _ hini) rfl hd hcells hslots hKn.2.1 rfl fun H1 kC hkC e1 z1 o1 => ?_
  have key := kk H1 locs ls (by
    rw [← hah]
    refine hR.push ?_ z1 o1
    show va_at X.dd vwCl (H.size, .inr (ci, fs.map (mv X.ba X.sb))) H1
    rw [hmv]
    exact ⟨_, hc, (u_born ty0 hts hw.1 hKn hkC e1 hw.2.1).to hfs⟩) ⟨Nat.le_trans hS.1 (by omega), fun x h1 h2 => (o1 x (Nat.lt_of_lt_of_le h1 hS.1)).trans (hS.2.1 x h1 h2), hS.2.2⟩ hl
  have e : X.ba + a = H.size := by rw [hR.1, ha]
  have key2 : W X.pg X.la X.en X.ro X.s0 X.mi X.ar X.be X.me X.co H1 locs (k + 1) (n + N) X.qq (F0 X.mi (pc + 3) ls (.ref (X.ba + a) :: st.map (mv X.ba X.sb))) := key
  rw [e] at key2
  exact key2
theorem ty_cls (hC : Cx X cc nL own ret) {cA : ClassId} {ty : FieldType} (ht : (cA, ty) ∈ X.ty) : ArrOfT X.s0 cA ty ∧ va_RA X.s0 cA ty := by
  obtain ⟨t0, ht0⟩ := List.getElem?_of_mem ht
  exact hC.2.2.2.2.2.2.1.2 t0 _ ht0
/-- a new array of ints or of booleans -/
theorem a_newI (hC : Cx X cc nL own ret) {a N : Nat} {cA : ClassId} {z : Int} {atype : ArrayType} {ty : FieldType} (hd : decode cc pc = .ok (.newarray atype, 2)) (hty : newarray.typeOf atype = ty) (hint : ty = .int ∨ ty = .boolean) (ht : (cA, ty) ∈ X.ty) (hA : Cond.arrayClass ty ∈ TT) (hz : z = N) (hN : N < 1000000) (hcells : k + 1 ≤ X.ro.cells) (hslots : n + N ≤ X.ro.slots) (ha : ah.length = a) {ah' : Hp} (hah : ah ++ [aI cA N (fun _ => 0)] = ah')
    (kk : AW X nL (k + 1) (n + N) (pc + 2) lv (.ref a :: st) ah') : AW X nL k n pc lv (vi z :: st) ah := by
  intro H locs ls hR hS hl
  subst hz
  subst hty
  have hx := hC.1
  have hb := hC.2.1
  have hts := hC.2.2.2.2.1
  refine va_newaK (n := iZ (N : Int)) (N := N) (h := H.size) (rest := st.map (mv X.ba X.sb)) hx hb (hts _ hA) rfl hd rfl (fun q => by have := (iZ_lt (x := (N : Int)) (y := 0) ⟨by omega, by omega⟩ inI_0).mp q; omega) (iZ_clN (by omega)) (by rcases hint with h | h <;> rw [h] <;> simp [componentBytes] <;> omega) hcells hslots rfl fun H1 cB e1 z1 o1 hAr hNm => ?_
  have hcA : cB = cA := by
    have h2 := (ty_cls hC ht).2
    have h3 : X.s0.vm.findClass ("[" ++ (newarray.typeOf atype).toString) = some cA := by rcases hint with h | h <;> rw [h] at h2 ⊢ <;> exact h2
    exact Option.some.inj (hNm.symm.trans h3)
  subst hcA
  have key := kk H1 locs ls (by
    rw [← hah]
    refine hR.push ?_ z1 o1
    show H1[H.size]? = some (vp_cell cB (N, .inl (fun _ => iZ 0)))
    rw [e1, vp_cell_i]
    rcases hint with h | h <;> rw [h] <;> rfl) ⟨Nat.le_trans hS.1 (by omega), fun x h1 h2 => (o1 x (Nat.lt_of_lt_of_le h1 hS.1)).trans (hS.2.1 x h1 h2), hS.2.2⟩ hl
  have e : X.ba + a = H.size := by rw [hR.1, ha]
  have key2 : W X.pg X.la X.en X.ro X.s0 X.mi X.ar X.be X.me X.co H1 locs (k + 1) (n + N) X.qq (F0 X.mi (pc + 2) ls (.ref (X.ba + a) :: st.map (mv X.ba X.sb))) := key
  rw [e] at key2
  exact key2
/-- a new array of longs -/
theorem a_newL (hC : Cx X cc nL own ret) {a N : Nat} {cA : ClassId} {z : Int} {atype : ArrayType} (hd : decode cc pc = .ok (.newarray atype, 2)) (hty : newarray.typeOf atype = .long) (ht : (cA, FieldType.long) ∈ X.ty) (hA : Cond.arrayClass .long ∈ TT) (hz : z = N) (hN : N < 1000000) (hcells : k + 1 ≤ X.ro.cells) (hslots : n + N ≤ X.ro.slots) (ha : ah.length = a) {ah' : Hp} (hah : ah ++ [aL cA N (fun _ => 0)] = ah')
    (kk : AW X nL (k + 1) (n + N) (pc + 2) lv (.ref a :: st) ah') : AW X nL k n pc lv (vi z :: st) ah := by
  intro H locs ls hR hS hl
  subst hz
  have hx := hC.1
  have hb := hC.2.1
  have hts := hC.2.2.2.2.1
  refine va_newaK (n := iZ (N : Int)) (N := N) (h := H.size) (rest := st.map (mv X.ba X.sb)) hx hb (by rw [hty]; exact hts _ hA) rfl hd rfl (fun q => by have := (iZ_lt (x := (N : Int)) (y := 0) ⟨by omega, by omega⟩ inI_0).mp q; omega) (iZ_clN (by omega)) (by rw [hty]; simp [componentBytes]; omega) hcells hslots rfl fun H1 cB e1 z1 o1 hAr hNm => ?_
  have hcA : cB = cA := by
    have h2 : X.s0.vm.findClass ("[" ++ (FieldType.long).toString) = some cA := (ty_cls hC ht).2
    rw [hty] at hNm
    exact Option.some.inj (hNm.symm.trans h2)
  subst hcA
  have key := kk H1 locs ls (by
    rw [← hah]
    refine hR.push ?_ z1 o1
    show H1[H.size]? = some (vp_cell cB (N, .inr (.inl (fun _ => lZ 0))))
    rw [e1, vp_cell_l, hty]
    rfl) ⟨Nat.le_trans hS.1 (by omega), fun x h1 h2 => (o1 x (Nat.lt_of_lt_of_le h1 hS.1)).trans (hS.2.1 x h1 h2), hS.2.2⟩ hl
  have e : X.ba + a = H.size := by rw [hR.1, ha]
  have key2 : W X.pg X.la X.en X.ro X.s0 X.mi X.ar X.be X.me X.co H1 locs (k + 1) (n + N) X.qq (F0 X.mi (pc + 2) ls (.ref (X.ba + a) :: st.map (mv X.ba X.sb))) := key
  rw [e] at key2
  exact key2
/-- Object's constructor -/
theorem a_objInit (hC : Cx X cc nL own ret) {idx i : Nat} (hd : decode cc pc = .ok (.invokespecial idx, 3)) (hlk : Cond.methodLink own idx Lib.objectInit ∈ TT) (hi : Cond.instanceMethod Lib.objectInit ∈ TT) (hcode : Cond.code Lib.objectInit ⟨#[0xb1]⟩ 1 none ∈ TT) (hf : 1 ≤ X.ro.frames) (hlo : 20 ≤ X.ro.locals) (hcat : (st.map fun v => v.category).sum ≤ 8)
    (kk : AW X nL k n (pc + 3) lv st ah) : AW X nL k n pc lv (.ref i :: st) ah := by
  intro H locs ls hR hS hl
  have hts := hC.2.2.2.2.1
  exact W.objInit (a := X.ba + i) (rest := st.map (mv X.ba X.sb)) hC.1 hC.2.1 hC.2.2.2.1 (hts _ hlk) (hts _ hi) (hts _ hcode) rfl (by show ls.size = _; rw [hl.1, hC.2.2.1]) rfl hd hf (by have := room_ok (m := X.mi) (pc := pc) (ls := ls) (b := X.ba) (sb := X.sb) (st1 := ((Value.ref i :: st).map (mv X.ba X.sb))) hcat; omega) (kk H locs ls hR hS hl)
theorem a_alenI (hC : Cx X cc nL own ret) (hd : decode cc pc = .ok (.arraylength, 1)) {a N : Nat} {cA : ClassId} {ty : FieldType} {f : Nat → Int} (ht : (cA, ty) ∈ X.ty) (he : ah[a]? = some (aI cA N f)) (kk : AW X nL k n (pc + 1) lv (vi (N : Int) :: st) ah) : AW X nL k n pc lv (.ref a :: st) ah := by
  intro H locs ls hR hS hl
  obtain ⟨t0, ht0⟩ := List.getElem?_of_mem ht
  exact va_alen (a := X.ba + a) (cA := cA) (x := (N, .inl (fun j => iZ (f j)))) hC.1 hC.2.1 hC.2.2.2.2.2.2.1 (hR.one he) 0 t0 rfl ht0 (v := iZ (N : Int)) (by show Int32.ofNat N = Int32.ofInt (N : Int); exact (Int32.ofInt_eq_ofNat).symm) hd (kk H locs ls hR hS hl)
theorem a_alenL (hC : Cx X cc nL own ret) (hd : decode cc pc = .ok (.arraylength, 1)) {a N : Nat} {cA : ClassId} {ty : FieldType} {f : Nat → Int} (ht : (cA, ty) ∈ X.ty) (he : ah[a]? = some (aL cA N f)) (kk : AW X nL k n (pc + 1) lv (vi (N : Int) :: st) ah) : AW X nL k n pc lv (.ref a :: st) ah := by
  intro H locs ls hR hS hl
  obtain ⟨t0, ht0⟩ := List.getElem?_of_mem ht
  exact va_alen (a := X.ba + a) (cA := cA) (x := (N, .inr (.inl (fun j => lZ (f j))))) hC.1 hC.2.1 hC.2.2.2.2.2.2.1 (hR.one he) 0 t0 rfl ht0 (v := iZ (N : Int)) (by show Int32.ofNat N = Int32.ofInt (N : Int); exact (Int32.ofInt_eq_ofNat).symm) hd (kk H locs ls hR hS hl)
theorem a_ldc2 (hC : Cx X cc nL own ret) {idx : Nat} {z : Int} {v : Int64} (hd : decode cc pc = .ok (.ldc2_w idx, 3)) (hc : Cond.constantLong own idx v ∈ TT) (hv : v = lZ z) (kk : AW X nL k n (pc + 3) lv (vl z :: st) ah) : AW X nL k n pc lv st ah := by
  intro H locs ls hR hS hl
  subst hv
  exact lv_ldc2 (rest := st.map (mv X.ba X.sb)) hC.1 hC.2.1 hC.2.2.2.1 (hC.2.2.2.2.1 _ hc) hd (kk H locs ls hR hS hl)
theorem a_ldcw (hC : Cx X cc nL own ret) {idx : Nat} {z : Int} {v : Int32} (hd : decode cc pc = .ok (.ldc_w idx, 3)) (hc : Cond.constant own idx v ∈ TT) (hv : v = iZ z) (kk : AW X nL k n (pc + 3) lv (vi z :: st) ah) : AW X nL k n pc lv st ah := by
  intro H locs ls hR hS hl
  subst hv
  exact lv_ldcw (rest := st.map (mv X.ba X.sb)) hC.1 hC.2.1 hC.2.2.2.1 (hC.2.2.2.2.1 _ hc) hd (kk H locs ls hR hS hl)
theorem a_iushr (hC : Cx X cc nL own ret) {x y z : Int} (hd : decode cc pc = .ok (.iushr, 1)) (hz : ((iZ x).toUInt32 >>> ((iZ y).toUInt32 &&& Int32.toUInt32 31)).toInt32 = iZ z) (kk : AW X nL k n (pc + 1) lv (vi z :: st) ah) : AW X nL k n pc lv (vi y :: vi x :: st) ah := fun H locs ls hR hS hl => lv_iushr (x := iZ x) (y := iZ y) (v := iZ z) (rest := st.map (mv X.ba X.sb)) hC.1 hC.2.1 hd hz (kk H locs ls hR hS hl)
theorem a_tabOut (hC : Cx X cc nL own ret) {dflt lo hi : Int} {offs : Array Int} {len : Nat} (tgt : Nat) {x : Int} (hx : inI x) (hd : decode cc pc = .ok (.tableswitch dflt lo hi offs, len)) (h : x < lo ∨ hi < x) (ht : (pc : Int) + dflt = (tgt : Int)) (kk : AW X nL k n tgt lv st ah) : AW X nL k n pc lv (vi x :: st) ah := fun H locs ls hR hS hl => lv_tableOut (x := iZ x) (rest := st.map (mv X.ba X.sb)) hC.1 hC.2.1 hd (by rw [iZ_toInt hx]; exact h) ht (kk H locs ls hR hS hl)
theorem a_tabIn (hC : Cx X cc nL own ret) {dflt lo hi : Int} {offs : Array Int} {len : Nat} {off : Int} (tgt : Nat) {x : Int} (hx : inI x) (hd : decode cc pc = .ok (.tableswitch dflt lo hi offs, len)) (h1 : ¬ x < lo) (h2 : ¬ hi < x) (ho : offs[(x - lo).toNat]? = some off) (ht : (pc : Int) + off = (tgt : Int)) (kk : AW X nL k n tgt lv st ah) : AW X nL k n pc lv (vi x :: st) ah := fun H locs ls hR hS hl => lv_tableIn (x := iZ x) (rest := st.map (mv X.ba X.sb)) hC.1 hC.2.1 hd (by rw [iZ_toInt hx]; exact h1) (by rw [iZ_toInt hx]; exact h2) (by rw [iZ_toInt hx]; exact ho) ht (kk H locs ls hR hS hl)
/-- the law's script -/
theorem a_sald (hC : Cx X cc nL own ret) {L j : Nat} {xs : Nat → Int32} (hX : va_X X.sb L xs X.s0 X.s0.heap) (hb : X.sb < X.ba) (hb0 : X.ba ≤ X.s0.heap.size) (hd : decode cc pc = .ok (.iaload, 1)) (hj : j < L) (hL : L < 2147483648) (kk : AW X nL k n (pc + 1) lv (vi (xs j).toInt :: st) ah) : AW X nL k n pc lv (vi j :: .float 0 :: st) ah := by
  intro H locs ls hR hS hl
  refine va_sld (b := X.sb) (A := fun q => X.ba ≤ q) hC.1 hC.2.1 hX (Nat.lt_of_lt_of_le hb hb0) (Nat.not_le.mpr hb) hS (iZ_inN hj hL) hd ?_
  have key := kk H locs ls hR hS hl
  rw [iZ_clN (by omega)]
  have e : iZ (xs j).toInt = xs j := Int32.ofInt_toInt _
  have key2 : W X.pg X.la X.en X.ro X.s0 X.mi X.ar X.be X.me X.co H locs k n X.qq (F0 X.mi (pc + 1) ls (.int (iZ (xs j).toInt) :: st.map (mv X.ba X.sb))) := key
  rw [e] at key2
  exact key2
theorem a_slen (hC : Cx X cc nL own ret) {L : Nat} {xs : Nat → Int32} (hX : va_X X.sb L xs X.s0 X.s0.heap) (hb : X.sb < X.ba) (hb0 : X.ba ≤ X.s0.heap.size) (hd : decode cc pc = .ok (.arraylength, 1)) (kk : AW X nL k n (pc + 1) lv (vi (L : Int) :: st) ah) : AW X nL k n pc lv (.float 0 :: st) ah := by
  intro H locs ls hR hS hl
  refine va_slen (b := X.sb) (A := fun q => X.ba ≤ q) hC.1 hC.2.1 hX (Nat.lt_of_lt_of_le hb hb0) (Nat.not_le.mpr hb) hS hd ?_
  have key : W X.pg X.la X.en X.ro X.s0 X.mi X.ar X.be X.me X.co H locs k n X.qq (F0 X.mi (pc + 1) ls (.int (Int32.ofInt (L : Int)) :: st.map (mv X.ba X.sb))) := kk H locs ls hR hS hl
  rw [Int32.ofInt_eq_ofNat] at key
  exact key
end ROWS2
end
section
/-! THE HEAP OF THE CLAIM: 64 cells of fixed shapes; what they hold is one function G : cell → place → number -/
/-- a cell's shape: ints (0), longs (1), booleans (2), rows of ints (3), rows of longs (4) with their length and where their rows begin; or an object: its class, its fields: .inl none an int, .inl (some ()) a long, .inr r a reference -/
abbrev Sh : Type := (Nat × Nat × Nat) ⊕ (Nat × List (Option Unit ⊕ Nat))
abbrev shI (N : Nat) : Sh := .inl (0, N, 0)
abbrev shL (N : Nat) : Sh := .inl (1, N, 0)
abbrev shZ (N : Nat) : Sh := .inl (2, N, 0)
abbrev shII (N r : Nat) : Sh := .inl (3, N, r)
abbrev shLL (N r : Nat) : Sh := .inl (4, N, r)
abbrev fI : Option Unit ⊕ Nat := .inl none
abbrev fL : Option Unit ⊕ Nat := .inl (some ())
abbrev fR (r : Nat) : Option Unit ⊕ Nat := .inr r
abbrev K5 : Type := ClassId × ClassId × ClassId × ClassId × ClassId
def tyK (K : K5) : List (ClassId × FieldType) := [(K.1, .int), (K.2.1, .long), (K.2.2.1, .boolean), (K.2.2.2.1, .array .int), (K.2.2.2.2, .array .long)]
theorem tyK_I (K : K5) : (K.1, FieldType.int) ∈ tyK K := List.mem_of_getElem? (i := 0) rfl
theorem tyK_L (K : K5) : (K.2.1, FieldType.long) ∈ tyK K := List.mem_of_getElem? (i := 1) rfl
theorem tyK_Z (K : K5) : (K.2.2.1, FieldType.boolean) ∈ tyK K := List.mem_of_getElem? (i := 2) rfl
theorem tyK_II (K : K5) : (K.2.2.2.1, FieldType.array .int) ∈ tyK K := List.mem_of_getElem? (i := 3) rfl
theorem tyK_LL (K : K5) : (K.2.2.2.2, FieldType.array .long) ∈ tyK K := List.mem_of_getElem? (i := 4) rfl
def fv (g : Nat → Int) (k : Nat) (s : Option Unit ⊕ Nat) : Value := match s with
  | .inl none => vi (g k)
  | .inl (some _) => vl (g k)
  | .inr r => .ref r
def cellOf (K : K5) (s : Sh) (g : Nat → Int) : va_E := match s with
  | .inl (0, N, _) => aI K.1 N g
  | .inl (1, N, _) => aL K.2.1 N g
  | .inl (2, N, _) => aI K.2.2.1 N g
  | .inl (3, N, r) => aQ K.2.2.2.1 N (fun k => if k < N then some (r + k) else none)
  | .inl (_, N, r) => aQ K.2.2.2.2 N (fun k => if k < N then some (r + k) else none)
  | .inr (ci, fs) => .inr (ci, fs.mapIdx (fv g))
def shape : List Sh :=
  [.inr (5, [fR 1, fR 22, fR 32, fR 44, fR 46, fR 47, fR 48, fR 49, fL, fL]),
   .inr (4, [fI, fI, fI, fR 2, fR 3, fR 4, fR 5, fR 6]), shZ 5, shI 5, shI 15, shI 15, shII 15 7] ++ List.replicate 15 (shI 5) ++
  [.inr (3, [fR 23, fR 30]), .inr (0, [fR 24]), shLL 5 25] ++ List.replicate 5 (shL 6) ++ [.inr (2, [fR 31, fL]), shL 5] ++
  [.inr (1, [fR 33, fR 40, fR 42, fR 43]), .inr (0, [fR 34]), shLL 5 35] ++ List.replicate 5 (shL 6) ++ [.inr (2, [fR 41, fL]), shL 5, shI 5, shI 5] ++
  [.inr (2, [fR 45, fL]), shL 5, shL 5, shI 5, shI 5, shI 5] ++
  [.inr (6, [fI, fI, fR 51, fR 52, fR 53, fR 54, fR 55, fI, fI, fL, fL, fR 56, fR 57, fR 58, fI, fR 59, fR 60, fR 61, fI, fI, fL, fL, fR 62, fR 63, fL, fL]),
   shZ 5, shI 5, shI 15, shI 75, shI 5, shL 25, shL 5, shL 32, shL 1215, shL 243, shI 5, shL 5, shL 5]
abbrev GT : Type := Nat → Nat → Int
theorem hp_ex : ∃ h : K5 → GT → Hp, ∀ K G, h K G = shape.mapIdx (fun a s => cellOf K s (G a)) := ⟨fun K G => shape.mapIdx (fun a s => cellOf K s (G a)), fun _ _ => rfl⟩
/-- the heap; it is never opened but by hp_eq -/
noncomputable def hp (K : K5) (G : GT) : Hp := Classical.choose hp_ex K G
theorem hp_eq (K : K5) (G : GT) : hp K G = shape.mapIdx (fun a s => cellOf K s (G a)) := Classical.choose_spec hp_ex K G
def uG (G : GT) (a : Nat) (g : Nat → Int) : GT := fun b => if b = a then g else G b
theorem uG_s (G : GT) (a : Nat) (g : Nat → Int) : uG G a g a = g := if_pos rfl
theorem uG_n (G : GT) {a b : Nat} (g : Nat → Int) (h : b ≠ a) : uG G a g b = G b := if_neg h
theorem hp_at (K : K5) (G : GT) {a : Nat} {s : Sh} (h : shape[a]? = some s) : (hp K G)[a]? = some (cellOf K s (G a)) := by
  rw [hp_eq, List.getElem?_mapIdx, h]; rfl
theorem hp_set (K : K5) (G : GT) {a : Nat} {s : Sh} (h : shape[a]? = some s) (g : Nat → Int) : (hp K G).set a (cellOf K s g) = hp K (uG G a g) := by
  apply List.ext_getElem?
  intro i
  have hlt : a < (hp K G).length := by
    have := (List.getElem?_eq_some_iff.mp (hp_at K G h)).1
    exact this
  by_cases hi : a = i
  · subst hi
    rw [List.getElem?_set_self hlt, hp_at K _ h, uG_s]
  · rw [List.getElem?_set_ne hi]
    rw [hp_eq, hp_eq, List.getElem?_mapIdx, List.getElem?_mapIdx, uG_n G g (Ne.symm hi)]
theorem fs_set (K : K5) {ci f : Nat} {fs : List (Option Unit ⊕ Nat)} {q : Option Unit ⊕ Nat} (g : Nat → Int) (x : Int) (hf : fs[f]? = some q) (v : Value) (hv : fv (up g f x) f q = v) : (.inr (ci, (fs.mapIdx (fv g)).set f v) : va_E) = cellOf K (.inr (ci, fs)) (up g f x) := by
  show (Sum.inr (ci, _) : va_E) = Sum.inr (ci, _)
  congr 2
  apply List.ext_getElem?
  intro i
  have hlt : f < (fs.mapIdx (fv g)).length := by rw [List.length_mapIdx]; exact (List.getElem?_eq_some_iff.mp hf).1
  by_cases hi : f = i
  · subst hi
    rw [List.getElem?_set_self hlt, List.getElem?_mapIdx, hf, ← hv]; rfl
  · rw [List.getElem?_set_ne hi, List.getElem?_mapIdx, List.getElem?_mapIdx]
    cases hfi : fs[i]? with
    | none => rfl
    | some q2 =>
      have : fv (up g f x) i q2 = fv g i q2 := by
        unfold fv
        rcases q2 with (_ | _) | r
        · simp only [up_n g x (Ne.symm hi)]
        · simp only [up_n g x (Ne.symm hi)]
        · rfl
      simp [this]
section GROWS
variable {X : Xt} {cc : ByteArray} {nL k n pc : Nat} {own : String} {ret : Option FieldType} {lv : List (Nat × Value)} {st : List Value} {K : K5} {G : GT}
theorem g_top {x y : Int} (h : x = y) (kk : AW X nL k n pc lv (vi y :: st) (hp K G)) : AW X nL k n pc lv (vi x :: st) (hp K G) := by rw [h]; exact kk
theorem g_topl {x y : Int} (h : x = y) (kk : AW X nL k n pc lv (vl y :: st) (hp K G)) : AW X nL k n pc lv (vl x :: st) (hp K G) := by rw [h]; exact kk
theorem g_snd {v : Value} {x y : Int} (h : x = y) (kk : AW X nL k n pc lv (v :: vi y :: st) (hp K G)) : AW X nL k n pc lv (v :: vi x :: st) (hp K G) := by rw [h]; exact kk
theorem g_G {G' : GT} (h : G = G') (kk : AW X nL k n pc lv st (hp K G')) : AW X nL k n pc lv st (hp K G) := by rw [h]; exact kk
theorem fv_at {g : Nat → Int} {fs : List (Option Unit ⊕ Nat)} {f : Nat} {q : Option Unit ⊕ Nat} (h : fs[f]? = some q) : (fs.mapIdx (fv g))[f]? = some (fv g f q) := by rw [List.getElem?_mapIdx, h]; rfl
/-- fields: own class, nest mates; an int, a long, a reference -/
theorem g_get (hC : Cx X cc nL own ret) (a f : Nat) {idx ci N : Nat} {fs : List (Option Unit ⊕ Nat)} {q : Option Unit ⊕ Nat} {C : String} {T : u_T} {ty0 : Nat → FieldType} {v : Value} (hd : decode cc pc = .ok (.getfield idx, 3)) (hs : shape[a]? = some (.inr (ci, fs))) (hf : fs[f]? = some q) (hv : fv (G a) f q = v) (hc : vwCl[ci]? = some (C, T, N)) (hw : Wr C T N ty0) (hN : f < N) (hT : (T f).1 = C) (hlink : Cond.fieldLink own idx C (T f).2.1 (T f).2.2.1 ∈ TT)
    (kk : AW X nL k n (pc + 3) lv (v :: st) (hp K G)) : AW X nL k n pc lv (.ref a :: st) (hp K G) := by
  subst hv
  exact a_get hC hd hc hw.1 hN hT hlink (hp_at K G hs) (fv_at hf) kk
theorem g_getN (hC : Cx X cc nL own ret) (a f : Nat) {idx ci N : Nat} {fs : List (Option Unit ⊕ Nat)} {q : Option Unit ⊕ Nat} {C host : String} {T : u_T} {ty0 : Nat → FieldType} {v : Value} (hd : decode cc pc = .ok (.getfield idx, 3)) (hs : shape[a]? = some (.inr (ci, fs))) (hf : fs[f]? = some q) (hv : fv (G a) f q = v) (hc : vwCl[ci]? = some (C, T, N)) (hw : Wr C T N ty0) (hN : f < N) (hT : (T f).1 = C) (hlink : Cond.fieldLinkNest own idx C (T f).2.1 (T f).2.2.1 host ∈ NN)
    (kk : AW X nL k n (pc + 3) lv (v :: st) (hp K G)) : AW X nL k n pc lv (.ref a :: st) (hp K G) := by
  subst hv
  exact a_getN hC hd hc hw.1 hN hT hlink (hp_at K G hs) (fv_at hf) kk
theorem g_put (hC : Cx X cc nL own ret) (a f : Nat) {idx ci N : Nat} {fs : List (Option Unit ⊕ Nat)} {q : Option Unit ⊕ Nat} {C : String} {T : u_T} {ty0 : Nat → FieldType} {v : Value} {x : Int} (hd : decode cc pc = .ok (.putfield idx, 3)) (hs : shape[a]? = some (.inr (ci, fs))) (hf : fs[f]? = some q) (hv : fv (up (G a) f x) f q = v) (hc : vwCl[ci]? = some (C, T, N)) (hw : Wr C T N ty0) (hN : f < N) (hT : (T f).1 = C) (hlink : Cond.fieldLink own idx C (T f).2.1 (T f).2.2.1 ∈ TT) (hfin : (T f).2.2.2 = false) (hok : narrow (ty0 f) v = v ∧ fits (ty0 f) v = true ∧ ∀ b sb, mv b sb v = v)
    (kk : AW X nL k n (pc + 3) lv st (hp K (uG G a (up (G a) f x)))) : AW X nL k n pc lv (v :: .ref a :: st) (hp K G) := by
  refine a_put hC hd hc hw hN hT hlink hfin (by rw [hok.2.2]; exact hok.1) (by rw [hok.2.2]; exact hok.2.1) (hp_at K G hs) ?_ ?_ kk
  · rw [List.length_mapIdx]; exact (List.getElem?_eq_some_iff.mp hf).1
  · rw [fs_set K (G a) x hf v hv]
    exact hp_set K G hs _
theorem g_putN (hC : Cx X cc nL own ret) (a f : Nat) {idx ci N : Nat} {fs : List (Option Unit ⊕ Nat)} {q : Option Unit ⊕ Nat} {C host : String} {T : u_T} {ty0 : Nat → FieldType} {v : Value} {x : Int} (hd : decode cc pc = .ok (.putfield idx, 3)) (hs : shape[a]? = some (.inr (ci, fs))) (hf : fs[f]? = some q) (hv : fv (up (G a) f x) f q = v) (hc : vwCl[ci]? = some (C, T, N)) (hw : Wr C T N ty0) (hN : f < N) (hT : (T f).1 = C) (hlink : Cond.fieldLinkNest own idx C (T f).2.1 (T f).2.2.1 host ∈ NN) (hfin : (T f).2.2.2 = false) (hok : narrow (ty0 f) v = v ∧ fits (ty0 f) v = true ∧ ∀ b sb, mv b sb v = v)
    (kk : AW X nL k n (pc + 3) lv st (hp K (uG G a (up (G a) f x)))) : AW X nL k n pc lv (v :: .ref a :: st) (hp K G) := by
  refine a_putN hC hd hc hw hN hT hlink hfin (by rw [hok.2.2]; exact hok.1) (by rw [hok.2.2]; exact hok.2.1) (hp_at K G hs) ?_ ?_ kk
  · rw [List.length_mapIdx]; exact (List.getElem?_eq_some_iff.mp hf).1
  · rw [fs_set K (G a) x hf v hv]
    exact hp_set K G hs _
theorem ok_int (x : Int) : narrow .int (vi x) = vi x ∧ fits .int (vi x) = true ∧ ∀ b sb, mv b sb (vi x) = vi x := ⟨rfl, rfl, fun _ _ => rfl⟩
theorem ok_long (x : Int) : narrow .long (vl x) = vl x ∧ fits .long (vl x) = true ∧ ∀ b sb, mv b sb (vl x) = vl x := ⟨rfl, rfl, fun _ _ => rfl⟩
theorem g_iald (hC : Cx X cc nL own ret) (hty : X.ty = tyK K) {a j N : Nat} (hd : decode cc pc = .ok (.iaload, 1)) (hs : shape[a]? = some (shI N)) (hj : j < N) (hN : N < 2147483648) (kk : AW X nL k n (pc + 1) lv (vi (G a j) :: st) (hp K G)) : AW X nL k n pc lv (vi j :: .ref a :: st) (hp K G) :=
  a_iaload hC hd (by rw [hty]; exact tyK_I K) (hp_at K G hs) hj hN kk
theorem g_lald (hC : Cx X cc nL own ret) (hty : X.ty = tyK K) {a j N : Nat} (hd : decode cc pc = .ok (.laload, 1)) (hs : shape[a]? = some (shL N)) (hj : j < N) (hN : N < 2147483648) (kk : AW X nL k n (pc + 1) lv (vl (G a j) :: st) (hp K G)) : AW X nL k n pc lv (vi j :: .ref a :: st) (hp K G) :=
  a_laload hC hd (by rw [hty]; exact tyK_L K) (hp_at K G hs) hj hN kk
theorem g_zald (hC : Cx X cc nL own ret) (hty : X.ty = tyK K) {a j N : Nat} (hd : decode cc pc = .ok (.baload, 1)) (hs : shape[a]? = some (shZ N)) (hj : j < N) (hN : N < 2147483648) (kk : AW X nL k n (pc + 1) lv (vi (G a j) :: st) (hp K G)) : AW X nL k n pc lv (vi j :: .ref a :: st) (hp K G) :=
  a_zaload hC hd (by rw [hty]; exact tyK_Z K) (hp_at K G hs) hj hN kk
theorem g_ast {a j N : Nat} (cA : ClassId) (x : Int) {s : Sh} (hs : shape[a]? = some s) (he : cellOf K s (up (G a) j x) = aI cA N (up (G a) j x)) : (hp K G).set a (aI cA N (up (G a) j x)) = hp K (uG G a (up (G a) j x)) := by rw [← he]; exact hp_set K G hs _
theorem g_iast (hC : Cx X cc nL own ret) (hty : X.ty = tyK K) {a j N : Nat} {x : Int} (hd : decode cc pc = .ok (.iastore, 1)) (hs : shape[a]? = some (shI N)) (hj : j < N) (hN : N < 2147483648) (kk : AW X nL k n (pc + 1) lv st (hp K (uG G a (up (G a) j x)))) : AW X nL k n pc lv (vi x :: vi j :: .ref a :: st) (hp K G) :=
  a_iastore hC hd (by rw [hty]; exact tyK_I K) (hp_at K G hs) hj hN (hp_set K G hs (up (G a) j x)) kk
theorem g_last (hC : Cx X cc nL own ret) (hty : X.ty = tyK K) {a j N : Nat} {x : Int} (hd : decode cc pc = .ok (.lastore, 1)) (hs : shape[a]? = some (shL N)) (hj : j < N) (hN : N < 2147483648) (kk : AW X nL k n (pc + 1) lv st (hp K (uG G a (up (G a) j x)))) : AW X nL k n pc lv (vl x :: vi j :: .ref a :: st) (hp K G) :=
  a_lastore hC hd (by rw [hty]; exact tyK_L K) (hp_at K G hs) hj hN (hp_set K G hs (up (G a) j x)) kk
theorem g_zast (hC : Cx X cc nL own ret) (hty : X.ty = tyK K) {a j N : Nat} {x : Int} (hx : x = 0 ∨ x = 1) (hd : decode cc pc = .ok (.bastore, 1)) (hs : shape[a]? = some (shZ N)) (hj : j < N) (hN : N < 2147483648) (kk : AW X nL k n (pc + 1) lv st (hp K (uG G a (up (G a) j x)))) : AW X nL k n pc lv (vi x :: vi j :: .ref a :: st) (hp K G) :=
  a_zastore hC hd hx (by rw [hty]; exact tyK_Z K) (hp_at K G hs) hj hN (hp_set K G hs (up (G a) j x)) kk
theorem g_aaldI (hC : Cx X cc nL own ret) (hty : X.ty = tyK K) {a j N r : Nat} (hd : decode cc pc = .ok (.aaload, 1)) (hs : shape[a]? = some (shII N r)) (hj : j < N) (hN : N < 2147483648) (kk : AW X nL k n (pc + 1) lv (.ref (r + j) :: st) (hp K G)) : AW X nL k n pc lv (vi j :: .ref a :: st) (hp K G) :=
  a_aaload hC hd rfl (by rw [hty]; exact tyK_II K) (hp_at K G hs) hj hN (if_pos hj) kk
theorem g_aaldL (hC : Cx X cc nL own ret) (hty : X.ty = tyK K) {a j N r : Nat} (hd : decode cc pc = .ok (.aaload, 1)) (hs : shape[a]? = some (shLL N r)) (hj : j < N) (hN : N < 2147483648) (kk : AW X nL k n (pc + 1) lv (.ref (r + j) :: st) (hp K G)) : AW X nL k n pc lv (vi j :: .ref a :: st) (hp K G) :=
  a_aaload hC hd rfl (by rw [hty]; exact tyK_LL K) (hp_at K G hs) hj hN (if_pos hj) kk
/-- a method's room: it makes nothing -/
abbrev rmk (f l : Nat) : Room := { frames := f, cells := 0, slots := 0, locals := l }
/-- a contract over the heap of the claim: the answer v, the numbers g behind it -/
def Ct (l : Launch) (D : va_G) (K : K5) (y : MethodName) (code : ByteArray) (maxL : Nat) (rt : Option FieldType) (fr lo : Nat) (av : List Value) (G : GT) (v : Option Value) (g : GT) : Prop :=
  Mt l y code maxL rt (rmk fr lo) D (tyK K) av (hp K G) (fun r ah' => r = v ∧ ah' = hp K g)
/-- what stands at a method's end -/
def En (X : Xt) (K : K5) (v : Option Value) (g : GT) : Prop := EndOk X (fun r ah' => r = v ∧ ah' = hp K g) 0 0
theorem Ct.intro {l : Launch} {D : va_G} {y : MethodName} {maxL fr lo : Nat} {av : List Value} {v : Option Value} {g : GT} (hy : plainFor y = true) (hlen : (lg_sl av).length ≤ maxL)
    (h : ∀ X : Xt, X.ro = rmk fr lo → X.ty = tyK K → Cx X cc maxL y.cls ret → En X K v g → AW X maxL 0 0 0 (lv_args 0 av) [] (hp K G)) : Ct l D K y cc maxL ret fr lo av G v g :=
  Mt.intro hy hlen (fun X _ h2 _ h4 _ h6 h7 => h X h2 h4 h6 h7)
theorem g_iret {v : Int} {g : GT} {x : Int} (hC : Cx X cc nL own (some .int)) (hE : En X K (some (vi v)) g) (hd : decode cc pc = .ok (.ireturn, 1)) (hv : x = v) (hg : G = g) : AW X nL 0 0 pc lv [vi x] (hp K G) := a_ireturn hC hE hd ⟨by rw [hv], by rw [hg]⟩
theorem g_zret {v : Int} {g : GT} {x : Int} (hC : Cx X cc nL own (some .boolean)) (hE : En X K (some (vi v)) g) (hd : decode cc pc = .ok (.ireturn, 1)) (h01 : x = 0 ∨ x = 1) (hv : x = v) (hg : G = g) : AW X nL 0 0 pc lv [vi x] (hp K G) := a_zreturn hC hE hd (by rcases h01 with rfl | rfl <;> rfl) ⟨by rw [hv], by rw [hg]⟩
theorem g_lret {v : Int} {g : GT} {x : Int} (hC : Cx X cc nL own (some .long)) (hE : En X K (some (vl v)) g) (hd : decode cc pc = .ok (.lreturn, 1)) (hv : x = v) (hg : G = g) : AW X nL 0 0 pc lv [vl x] (hp K G) := a_lreturn hC hE hd ⟨by rw [hv], by rw [hg]⟩
theorem g_vret {g : GT} (hC : Cx X cc nL own none) (hE : En X K none g) (hd : decode cc pc = .ok (.return_, 1)) (hg : G = g) : AW X nL 0 0 pc lv [] (hp K G) := a_return hC hE hd ⟨rfl, by rw [hg]⟩
theorem ct_go {P : Option Value → Hp → Prop} {v : Option Value} {a : Hp} (kk : P v a) : ∀ (r : Option Value) (ah' : Hp), (r = v ∧ ah' = a) → P r ah' := fun r ah' h => by rw [h.1, h.2]; exact kk
section GCALL
variable {y : MethodName} {code : ByteArray} {maxL na idx fr lo F L : Nat} {rt : Option FieldType} {av rest st0 : List Value} {host : String} {g : GT}
theorem g_callS (hC : Cx X cc nL own ret) (hro : X.ro = rmk F L) (hty : X.ty = tyK K) {v : Value} (hd : decode cc pc = .ok (.invokestatic idx, 3)) (hy : Yk y code maxL rt na) (hs : Cond.static y ∈ TT) (hlk : Cond.methodLink own idx y ∈ TT) (hM : Ct X.la X.dd K y code maxL rt fr lo av G (some v) g) (hst : st0 = av.reverse ++ rest) (hna : av.length = na) (hf : fr + 1 ≤ F ∧ 8 + (maxL + 11) + lo ≤ L) (hcat : (rest.map fun v => v.category).sum ≤ 8)
    (kk : AW X nL 0 0 (pc + 3) lv (v :: rest) (hp K g)) : AW X nL 0 0 pc lv st0 (hp K G) := by
  rw [hst]
  exact a_callS (rm := rmk fr lo) hC hd hy hs hlk (by rw [hty]; exact hM) hna (by rw [hro]; exact ⟨hf, Nat.zero_le _, Nat.zero_le _⟩) hcat (ct_go (v := (some v)) (a := hp K g) (P := fun r ah' => AW X nL (0 + (rmk fr lo).cells) (0 + (rmk fr lo).slots) (pc + 3) lv (r.toList ++ rest) ah') kk)
theorem g_callS0 (hC : Cx X cc nL own ret) (hro : X.ro = rmk F L) (hty : X.ty = tyK K) (hd : decode cc pc = .ok (.invokestatic idx, 3)) (hy : Yk y code maxL rt na) (hs : Cond.static y ∈ TT) (hlk : Cond.methodLink own idx y ∈ TT) (hM : Ct X.la X.dd K y code maxL rt fr lo av G none g) (hst : st0 = av.reverse ++ rest) (hna : av.length = na) (hf : fr + 1 ≤ F ∧ 8 + (maxL + 11) + lo ≤ L) (hcat : (rest.map fun v => v.category).sum ≤ 8)
    (kk : AW X nL 0 0 (pc + 3) lv rest (hp K g)) : AW X nL 0 0 pc lv st0 (hp K G) := by
  rw [hst]
  exact a_callS (rm := rmk fr lo) hC hd hy hs hlk (by rw [hty]; exact hM) hna (by rw [hro]; exact ⟨hf, Nat.zero_le _, Nat.zero_le _⟩) hcat (ct_go (v := none) (a := hp K g) (P := fun r ah' => AW X nL (0 + (rmk fr lo).cells) (0 + (rmk fr lo).slots) (pc + 3) lv (r.toList ++ rest) ah') kk)
theorem g_callSN (hC : Cx X cc nL own ret) (hro : X.ro = rmk F L) (hty : X.ty = tyK K) {v : Value} (hd : decode cc pc = .ok (.invokestatic idx, 3)) (hy : Yk y code maxL rt na) (hs : Cond.static y ∈ TT) (hlk : Cond.methodLinkNest own idx y host ∈ NN) (hM : Ct X.la X.dd K y code maxL rt fr lo av G (some v) g) (hst : st0 = av.reverse ++ rest) (hna : av.length = na) (hf : fr + 1 ≤ F ∧ 8 + (maxL + 11) + lo ≤ L) (hcat : (rest.map fun v => v.category).sum ≤ 8)
    (kk : AW X nL 0 0 (pc + 3) lv (v :: rest) (hp K g)) : AW X nL 0 0 pc lv st0 (hp K G) := by
  rw [hst]
  exact a_callSN (rm := rmk fr lo) hC hd hy hs hlk (by rw [hty]; exact hM) hna (by rw [hro]; exact ⟨hf, Nat.zero_le _, Nat.zero_le _⟩) hcat (ct_go (v := (some v)) (a := hp K g) (P := fun r ah' => AW X nL (0 + (rmk fr lo).cells) (0 + (rmk fr lo).slots) (pc + 3) lv (r.toList ++ rest) ah') kk)
theorem g_callSN0 (hC : Cx X cc nL own ret) (hro : X.ro = rmk F L) (hty : X.ty = tyK K) (hd : decode cc pc = .ok (.invokestatic idx, 3)) (hy : Yk y code maxL rt na) (hs : Cond.static y ∈ TT) (hlk : Cond.methodLinkNest own idx y host ∈ NN) (hM : Ct X.la X.dd K y code maxL rt fr lo av G none g) (hst : st0 = av.reverse ++ rest) (hna : av.length = na) (hf : fr + 1 ≤ F ∧ 8 + (maxL + 11) + lo ≤ L) (hcat : (rest.map fun v => v.category).sum ≤ 8)
    (kk : AW X nL 0 0 (pc + 3) lv rest (hp K g)) : AW X nL 0 0 pc lv st0 (hp K G) := by
  rw [hst]
  exact a_callSN (rm := rmk fr lo) hC hd hy hs hlk (by rw [hty]; exact hM) hna (by rw [hro]; exact ⟨hf, Nat.zero_le _, Nat.zero_le _⟩) hcat (ct_go (v := none) (a := hp K g) (P := fun r ah' => AW X nL (0 + (rmk fr lo).cells) (0 + (rmk fr lo).slots) (pc + 3) lv (r.toList ++ rest) ah') kk)
theorem g_callV (hC : Cx X cc nL own ret) (hro : X.ro = rmk F L) (hty : X.ty = tyK K) {v : Value} (hd : decode cc pc = .ok (.invokevirtual idx, 3)) {ci i N : Nat} {T : u_T} {fs : List (Option Unit ⊕ Nat)} (hc : vwCl[ci]? = some (y.cls, T, N)) (hsh : shape[i]? = some (.inr (ci, fs))) (hy : Yk y code maxL rt na) (hi : Cond.instanceMethod y ∈ TT) (hsel : Cond.selects y.cls y y ∈ TT) (hlk : Cond.methodLink own idx y ∈ TT) (hM : Ct X.la X.dd K y code maxL rt fr lo (.ref i :: av) G (some v) g) (hst : st0 = av.reverse ++ .ref i :: rest) (hna : av.length = na) (hf : fr + 1 ≤ F ∧ 8 + (maxL + 11) + lo ≤ L) (hcat : (rest.map fun v => v.category).sum ≤ 8)
    (kk : AW X nL 0 0 (pc + 3) lv (v :: rest) (hp K g)) : AW X nL 0 0 pc lv st0 (hp K G) := by
  rw [hst]
  exact a_callV (rm := rmk fr lo) hC hd hc (hp_at K G hsh) hy hi hsel hlk (by rw [hty]; exact hM) hna (by rw [hro]; exact ⟨hf, Nat.zero_le _, Nat.zero_le _⟩) hcat (ct_go (v := (some v)) (a := hp K g) (P := fun r ah' => AW X nL (0 + (rmk fr lo).cells) (0 + (rmk fr lo).slots) (pc + 3) lv (r.toList ++ rest) ah') kk)
theorem g_callV0 (hC : Cx X cc nL own ret) (hro : X.ro = rmk F L) (hty : X.ty = tyK K) (hd : decode cc pc = .ok (.invokevirtual idx, 3)) {ci i N : Nat} {T : u_T} {fs : List (Option Unit ⊕ Nat)} (hc : vwCl[ci]? = some (y.cls, T, N)) (hsh : shape[i]? = some (.inr (ci, fs))) (hy : Yk y code maxL rt na) (hi : Cond.instanceMethod y ∈ TT) (hsel : Cond.selects y.cls y y ∈ TT) (hlk : Cond.methodLink own idx y ∈ TT) (hM : Ct X.la X.dd K y code maxL rt fr lo (.ref i :: av) G none g) (hst : st0 = av.reverse ++ .ref i :: rest) (hna : av.length = na) (hf : fr + 1 ≤ F ∧ 8 + (maxL + 11) + lo ≤ L) (hcat : (rest.map fun v => v.category).sum ≤ 8)
    (kk : AW X nL 0 0 (pc + 3) lv rest (hp K g)) : AW X nL 0 0 pc lv st0 (hp K G) := by
  rw [hst]
  exact a_callV (rm := rmk fr lo) hC hd hc (hp_at K G hsh) hy hi hsel hlk (by rw [hty]; exact hM) hna (by rw [hro]; exact ⟨hf, Nat.zero_le _, Nat.zero_le _⟩) hcat (ct_go (v := none) (a := hp K g) (P := fun r ah' => AW X nL (0 + (rmk fr lo).cells) (0 + (rmk fr lo).slots) (pc + 3) lv (r.toList ++ rest) ah') kk)
theorem g_callVN (hC : Cx X cc nL own ret) (hro : X.ro = rmk F L) (hty : X.ty = tyK K) {v : Value} (hd : decode cc pc = .ok (.invokevirtual idx, 3)) {ci i N : Nat} {T : u_T} {fs : List (Option Unit ⊕ Nat)} (hc : vwCl[ci]? = some (y.cls, T, N)) (hsh : shape[i]? = some (.inr (ci, fs))) (hy : Yk y code maxL rt na) (hi : Cond.instanceMethod y ∈ TT) (hsel : Cond.selects y.cls y y ∈ TT) (hlk : Cond.methodLinkNest own idx y host ∈ NN) (hM : Ct X.la X.dd K y code maxL rt fr lo (.ref i :: av) G (some v) g) (hst : st0 = av.reverse ++ .ref i :: rest) (hna : av.length = na) (hf : fr + 1 ≤ F ∧ 8 + (maxL + 11) + lo ≤ L) (hcat : (rest.map fun v => v.category).sum ≤ 8)
    (kk : AW X nL 0 0 (pc + 3) lv (v :: rest) (hp K g)) : AW X nL 0 0 pc lv st0 (hp K G) := by
  rw [hst]
  exact a_callVN (rm := rmk fr lo) hC hd hc (hp_at K G hsh) hy hi hsel hlk (by rw [hty]; exact hM) hna (by rw [hro]; exact ⟨hf, Nat.zero_le _, Nat.zero_le _⟩) hcat (ct_go (v := (some v)) (a := hp K g) (P := fun r ah' => AW X nL (0 + (rmk fr lo).cells) (0 + (rmk fr lo).slots) (pc + 3) lv (r.toList ++ rest) ah') kk)
theorem g_callVN0 (hC : Cx X cc nL own ret) (hro : X.ro = rmk F L) (hty : X.ty = tyK K) (hd : decode cc pc = .ok (.invokevirtual idx, 3)) {ci i N : Nat} {T : u_T} {fs : List (Option Unit ⊕ Nat)} (hc : vwCl[ci]? = some (y.cls, T, N)) (hsh : shape[i]? = some (.inr (ci, fs))) (hy : Yk y code maxL rt na) (hi : Cond.instanceMethod y ∈ TT) (hsel : Cond.selects y.cls y y ∈ TT) (hlk : Cond.methodLinkNest own idx y host ∈ NN) (hM : Ct X.la X.dd K y code maxL rt fr lo (.ref i :: av) G none g) (hst : st0 = av.reverse ++ .ref i :: rest) (hna : av.length = na) (hf : fr + 1 ≤ F ∧ 8 + (maxL + 11) + lo ≤ L) (hcat : (rest.map fun v => v.category).sum ≤ 8)
    (kk : AW X nL 0 0 (pc + 3) lv rest (hp K g)) : AW X nL 0 0 pc lv st0 (hp K G) := by
  rw [hst]
  exact a_callVN (rm := rmk fr lo) hC hd hc (hp_at K G hsh) hy hi hsel hlk (by rw [hty]; exact hM) hna (by rw [hro]; exact ⟨hf, Nat.zero_le _, Nat.zero_le _⟩) hcat (ct_go (v := none) (a := hp K g) (P := fun r ah' => AW X nL (0 + (rmk fr lo).cells) (0 + (rmk fr lo).slots) (pc + 3) lv (r.toList ++ rest) ah') kk)
end GCALL
end GROWS
end
section
/-! the JDK's small methods; Walks -/
def sumZ (f : Nat → Int) : Nat → Int
  | 0 => 0
  | n + 1 => sumZ f n + f n
theorem sh_we {j : Nat} (h : j < 15) : shape[7 + j]? = some (shI 5) := by
  rcases (by omega : j = 0 ∨ j = 1 ∨ j = 2 ∨ j = 3 ∨ j = 4 ∨ j = 5 ∨ j = 6 ∨ j = 7 ∨ j = 8 ∨ j = 9 ∨ j = 10 ∨ j = 11 ∨ j = 12 ∨ j = 13 ∨ j = 14) with rfl | rfl | rfl | rfl | rfl | rfl | rfl | rfl | rfl | rfl | rfl | rfl | rfl | rfl | rfl <;> rfl
theorem sh_e1 {j : Nat} (h : j < 5) : shape[25 + j]? = some (shL 6) := by
  rcases (by omega : j = 0 ∨ j = 1 ∨ j = 2 ∨ j = 3 ∨ j = 4) with rfl | rfl | rfl | rfl | rfl <;> rfl
theorem sh_e2 {j : Nat} (h : j < 5) : shape[35 + j]? = some (shL 6) := by
  rcases (by omega : j = 0 ∨ j = 1 ∨ j = 2 ∨ j = 3 ∨ j = 4) with rfl | rfl | rfl | rfl | rfl <;> rfl
/-- what the Walks hold: N states; share, acts, pays, totals, weights within their ranges -/
def WW (G : GT) (N : Nat) : Prop := G 1 0 = (N : Int) ∧ N ≤ 5 ∧ (0 ≤ G 1 1 ∧ G 1 1 < G 1 2 ∧ G 1 2 ≤ 6) ∧ (∀ s, s < 5 → 0 ≤ G 3 s ∧ G 3 s ≤ 3) ∧ (∀ q, q < 15 → -50 ≤ G 4 q ∧ G 4 q ≤ 50 ∧ 0 ≤ G 5 q ∧ G 5 q ≤ 6) ∧ (∀ q t, q < 15 → t < 5 → 0 ≤ G (7 + q) t ∧ G (7 + q) t ≤ 6) ∧ ∀ s, s < 5 → G 2 s = 0 ∨ G 2 s = 1
theorem WW.keep {G G' : GT} {N : Nat} (h : WW G N) (e : ∀ a, a ≤ 21 → G' a = G a) : WW G' N := by
  obtain ⟨h1, h2, h3, h4, h5, h6, h7⟩ := h
  refine ⟨by rw [e 1 (by omega)]; exact h1, h2, by rw [e 1 (by omega)]; exact h3, fun s hs => by rw [e 3 (by omega)]; exact h4 s hs, fun q hq => by rw [e 4 (by omega), e 5 (by omega)]; exact h5 q hq, fun q t hq ht => by rw [e (7 + q) (by omega)]; exact h6 q t hq ht, fun s hs => by rw [e 2 (by omega)]; exact h7 s hs⟩
def maxZ (x y : Int) : Int := if x ≤ y then y else x
def absZ (x : Int) : Int := if x < 0 then -x else x
def hasS (G : GT) (s : Int) : Int := if 0 ≤ s ∧ s < G 1 0 then 1 else 0
def hasA (G : GT) (s a : Int) : Int := if 0 ≤ s ∧ s < G 1 0 ∧ 0 ≤ a ∧ a < G 3 s.toNat then 1 else 0
def stepZ (G : GT) : Int := 60 * G 1 2
/-- what an ACT comes to by the numbers of cell u -/
def comesZ (G : GT) (N slot u : Nat) : Int := if G 5 slot = 0 then G 4 slot * stepZ G * G u 1 else G 4 slot * stepZ G * G u 1 + G 1 1 * Int.tdiv 60 (G 5 slot) * sumZ (fun z => G (7 + slot) z * G (u + 1) z) N
def clrG (G : GT) (b0 n len : Nat) : GT := fun b => if b0 ≤ b ∧ b < b0 + n then (fun j => if j < len then 0 else G b j) else G b
def fillF (f : Nat → Int) (n : Nat) (x : Int) : Nat → Int := fun j => if j < n then x else f j
theorem uG_uG (G : GT) (a : Nat) (f g : Nat → Int) : uG (uG G a f) a g = uG G a g := by
  funext b; unfold uG; split <;> rfl
theorem uG_self (G : GT) (a : Nat) : uG G a (G a) = G := by
  funext b; unfold uG; split
  · next h => rw [h]
  · rfl
theorem fillF_0 (f : Nat → Int) (x : Int) : fillF f 0 x = f := by funext j; unfold fillF; rw [if_neg (by omega)]
theorem fillF_s (f : Nat → Int) (i : Nat) (x : Int) : up (fillF f i x) i x = fillF f (i + 1) x := by
  funext j; unfold up fillF
  by_cases h : j = i
  · rw [if_pos h, if_pos (by omega)]
  · rw [if_neg h]
    by_cases h2 : j < i
    · rw [if_pos h2, if_pos (by omega)]
    · rw [if_neg h2, if_neg (by omega)]
theorem clrG_0 (G : GT) (b len : Nat) : clrG G b 0 len = G := by funext c; unfold clrG; rw [if_neg (by omega)]
theorem clrG_s (G : GT) (b n len : Nat) : uG (clrG G b n len) (b + n) (fillF (clrG G b n len (b + n)) len 0) = clrG G b (n + 1) len := by
  funext c; unfold uG
  by_cases h : c = b + n
  · subst h
    rw [if_pos rfl]
    unfold clrG
    rw [if_neg (by omega), if_pos (by omega)]
    rfl
  · rw [if_neg h]
    unfold clrG
    by_cases h2 : b ≤ c ∧ c < b + n
    · rw [if_pos h2, if_pos (by omega)]
    · rw [if_neg h2, if_neg (by omega)]
theorem td60 {e : Int} (h1 : 1 ≤ e) (h2 : e ≤ 6) : inI (Int.tdiv 60 e) := by
  rcases (by omega : e = 1 ∨ e = 2 ∨ e = 3 ∨ e = 4 ∨ e = 5 ∨ e = 6) with rfl | rfl | rfl | rfl | rfl | rfl <;> exact ⟨by decide, by decide⟩
theorem g_alenI {X : Xt} {cc : ByteArray} {nL k n pc : Nat} {own : String} {ret : Option FieldType} {lv : List (Nat × Value)} {st : List Value} {K : K5} {G : GT} (hC : Cx X cc nL own ret) (hty : X.ty = tyK K) {a N : Nat} (hd : decode cc pc = .ok (.arraylength, 1)) (hs : shape[a]? = some (shI N)) (kk : AW X nL k n (pc + 1) lv (vi (N : Int) :: st) (hp K G)) : AW X nL k n pc lv (.ref a :: st) (hp K G) := a_alenI hC hd (by rw [hty]; exact tyK_I K) (hp_at K G hs) kk
theorem g_alenL {X : Xt} {cc : ByteArray} {nL k n pc : Nat} {own : String} {ret : Option FieldType} {lv : List (Nat × Value)} {st : List Value} {K : K5} {G : GT} (hC : Cx X cc nL own ret) (hty : X.ty = tyK K) {a N : Nat} (hd : decode cc pc = .ok (.arraylength, 1)) (hs : shape[a]? = some (shL N)) (kk : AW X nL k n (pc + 1) lv (vi (N : Int) :: st) (hp K G)) : AW X nL k n pc lv (.ref a :: st) (hp K G) := a_alenL hC hd (by rw [hty]; exact tyK_L K) (hp_at K G hs) kk
def likesZ (G : GT) (s : Nat) (x y : Int) : Int := if G 2 s = 0 then (if y < x then 1 else 0) else (if x < y then 1 else 0)
/-- the liked act so far, and what it comes to -/
def likS (G : GT) (N s held u : Nat) : Nat → Int × Int
  | 0 => ((held : Int), comesZ G N (s * 3 + held) u)
  | a + 1 => if likesZ G s (comesZ G N (s * 3 + a) u) (likS G N s held u a).2 = 1 then ((a : Int), comesZ G N (s * 3 + a) u) else likS G N s held u a

set_option maxRecDepth 100000 in
set_option maxHeartbeats 4000000 in
theorem ct_JM_max_II (l : Launch) (D : va_G) (K : K5) (G : GT) (x y : Int) (hx : inI x) (hy : inI y) : Ct l D K y_JM_max_II c_JM_max_II 2 (some .int) 0 0 [vi x, vi y] G (some (vi (maxZ x y))) G := by
  refine Ct.intro (by decide +kernel) (Nat.le_of_ble_eq_true rfl) ?_
  intro X hro hty hC hE
  unfold inI at hx hy
  refine a_iload_n (pc := 0) (q := 0) (i := 0) (x := x) hC (by decide +kernel) rfl 0 rfl ?_
  refine a_iload_n (pc := 1) (q := 1) (i := 1) (x := y) hC (by decide +kernel) rfl 1 rfl ?_
  refine a_icmp_lt (pc := 2) (off := 7) hC 9 (by decide +kernel) (by decide) (by unfold inI; omega) (by unfold inI; omega) (fun c2 => ?_) (fun c2 => ?_)
  · skip
    refine a_iload_n (pc := 9) (q := 1) (i := 1) (x := y) hC (by decide +kernel) rfl 1 rfl ?_
    exact g_iret (pc := 10) hC hE (by decide +kernel) (by unfold maxZ; split <;> omega) rfl
  · skip
    refine a_iload_n (pc := 5) (q := 0) (i := 0) (x := x) hC (by decide +kernel) rfl 0 rfl ?_
    refine a_goto (pc := 6) (off := 4) hC 10 (by decide +kernel) (by decide) ?_
    exact g_iret (pc := 10) hC hE (by decide +kernel) (by unfold maxZ; split <;> omega) rfl

set_option maxRecDepth 100000 in
set_option maxHeartbeats 4000000 in
theorem ct_JM_max_JJ (l : Launch) (D : va_G) (K : K5) (G : GT) (x y : Int) (hx : inL x) (hy : inL y) : Ct l D K y_JM_max_JJ c_JM_max_JJ 4 (some .long) 0 0 [vl x, vl y] G (some (vl (maxZ x y))) G := by
  refine Ct.intro (by decide +kernel) (Nat.le_of_ble_eq_true rfl) ?_
  intro X hro hty hC hE
  unfold inL at hx hy
  refine a_lload_n (pc := 0) (q := 0) (i := 0) (x := x) hC (by decide +kernel) rfl 0 rfl ?_
  refine a_lload_n (pc := 1) (q := 2) (i := 2) (x := y) hC (by decide +kernel) rfl 1 rfl ?_
  refine a_lcmp (pc := 2) hC (by decide +kernel) (by unfold inL; omega) (by unfold inL; omega) ?_
  refine a_if_lt (pc := 3) (off := 7) hC 10 (by decide +kernel) (by decide) (cmpZ_in _ _) (fun c3 => ?_) (fun c3 => ?_)
  · skip
    rw [cmpZ_lt] at c3
    refine a_lload_n (pc := 10) (q := 2) (i := 2) (x := y) hC (by decide +kernel) rfl 1 rfl ?_
    exact g_lret (pc := 11) hC hE (by decide +kernel) (by unfold maxZ; split <;> omega) rfl
  · skip
    rw [cmpZ_lt] at c3
    refine a_lload_n (pc := 6) (q := 0) (i := 0) (x := x) hC (by decide +kernel) rfl 0 rfl ?_
    refine a_goto (pc := 7) (off := 4) hC 11 (by decide +kernel) (by decide) ?_
    exact g_lret (pc := 11) hC hE (by decide +kernel) (by unfold maxZ; split <;> omega) rfl

set_option maxRecDepth 100000 in
set_option maxHeartbeats 4000000 in
theorem ct_JM_abs (l : Launch) (D : va_G) (K : K5) (G : GT) (x : Int) (hx : inL x) : Ct l D K y_JM_abs c_JM_abs 2 (some .long) 0 0 [vl x] G (some (vl (absZ x))) G := by
  refine Ct.intro (by decide +kernel) (Nat.le_of_ble_eq_true rfl) ?_
  intro X hro hty hC hE
  unfold inL at hx
  refine a_lload_n (pc := 0) (q := 0) (i := 0) (x := x) hC (by decide +kernel) rfl 0 rfl ?_
  refine a_lconst (pc := 1) (c := 0) (z := 0) hC (by decide +kernel) rfl ?_
  refine a_lcmp (pc := 2) hC (by decide +kernel) (by unfold inL; omega) (by unfold inL; omega) ?_
  refine a_if_ge (pc := 3) (off := 8) hC 11 (by decide +kernel) (by decide) (cmpZ_in _ _) (fun c3 => ?_) (fun c3 => ?_)
  · skip
    rw [cmpZ_ge] at c3
    refine a_lload_n (pc := 11) (q := 0) (i := 0) (x := x) hC (by decide +kernel) rfl 0 rfl ?_
    exact g_lret (pc := 12) hC hE (by decide +kernel) (by unfold absZ; split <;> omega) rfl
  · skip
    rw [cmpZ_ge] at c3
    refine a_lload_n (pc := 6) (q := 0) (i := 0) (x := x) hC (by decide +kernel) rfl 0 rfl ?_
    refine a_lneg (pc := 7) hC (by decide +kernel) ?_
    refine a_goto (pc := 8) (off := 4) hC 12 (by decide +kernel) (by decide) ?_
    exact g_lret (pc := 12) hC hE (by decide +kernel) (by unfold absZ; split <;> omega) rfl

set_option maxRecDepth 100000 in
set_option maxHeartbeats 4000000 in
theorem ct_W_slotOf (l : Launch) (D : va_G) (K : K5) (G : GT) (s a : Int) : Ct l D K y_W_slotOf c_W_slotOf 2 (some .int) 0 0 [vi s, vi a] G (some (vi (s * 3 + a))) G := by
  refine Ct.intro (by decide +kernel) (Nat.le_of_ble_eq_true rfl) ?_
  intro X hro hty hC hE
  refine a_iload_n (pc := 0) (q := 0) (i := 0) (x := s) hC (by decide +kernel) rfl 0 rfl ?_
  refine a_iconst (pc := 1) (c := 3) hC (by decide +kernel) ?_
  refine a_imul (pc := 2) hC (by decide +kernel) ?_
  refine a_iload_n (pc := 3) (q := 1) (i := 1) (x := a) hC (by decide +kernel) rfl 1 rfl ?_
  refine a_iadd (pc := 4) hC (by decide +kernel) ?_
  exact g_iret (pc := 5) hC hE (by decide +kernel) rfl rfl

set_option maxRecDepth 100000 in
set_option maxHeartbeats 4000000 in
theorem ct_W_hasState (l : Launch) (D : va_G) (K : K5) (G : GT) (N : Nat) (s : Int) (hs : inI s) (hw : WW G N) : Ct l D K y_W_hasState c_W_hasState 2 (some .boolean) 0 0 [.ref 1, vi s] G (some (vi (hasS G s))) G := by
  refine Ct.intro (by decide +kernel) (Nat.le_of_ble_eq_true rfl) ?_
  intro X hro hty hC hE
  unfold inI at hs
  obtain ⟨hn, hN5, hsh, hac, hpa, hwe, hth⟩ := id hw
  refine a_iload_n (pc := 0) (q := 1) (i := 1) (x := s) hC (by decide +kernel) rfl 1 rfl ?_
  refine a_if_lt (pc := 1) (off := 15) hC 16 (by decide +kernel) (by decide) (by unfold inI; omega) (fun c1 => ?_) (fun c1 => ?_)
  · skip
    refine a_iconst (pc := 16) (c := 0) hC (by decide +kernel) ?_
    exact g_zret (pc := 17) hC hE (by decide +kernel) (by omega) (by unfold hasS; split <;> omega) rfl
  · skip
    refine a_iload_n (pc := 4) (q := 1) (i := 1) (x := s) hC (by decide +kernel) rfl 1 rfl ?_
    refine a_aload_n (pc := 5) (q := 0) (i := 0) (x := 1) hC (by decide +kernel) rfl 0 rfl ?_
    refine g_get (pc := 6) (idx := 9) (ci := 4) (v := vi (G 1 0)) hC 1 0 (by decide +kernel) rfl rfl rfl rfl wrW (by decide) rfl (by decide +kernel) ?_
    refine a_icmp_ge (pc := 9) (off := 7) hC 16 (by decide +kernel) (by decide) (by unfold inI; omega) (by unfold inI; omega) (fun c9 => ?_) (fun c9 => ?_)
    · skip
      refine a_iconst (pc := 16) (c := 0) hC (by decide +kernel) ?_
      exact g_zret (pc := 17) hC hE (by decide +kernel) (by omega) (by unfold hasS; split <;> omega) rfl
    · skip
      refine a_iconst (pc := 12) (c := 1) hC (by decide +kernel) ?_
      refine a_goto (pc := 13) (off := 4) hC 17 (by decide +kernel) (by decide) ?_
      exact g_zret (pc := 17) hC hE (by decide +kernel) (by omega) (by unfold hasS; split <;> omega) rfl

set_option maxRecDepth 100000 in
set_option maxHeartbeats 4000000 in
theorem ct_W_hasAct (l : Launch) (D : va_G) (K : K5) (G : GT) (N : Nat) (s a : Int) (hs : inI s) (ha : inI a) (hw : WW G N) : Ct l D K y_W_hasAct c_W_hasAct 3 (some .boolean) 1 21 [.ref 1, vi s, vi a] G (some (vi (hasA G s a))) G := by
  refine Ct.intro (by decide +kernel) (Nat.le_of_ble_eq_true rfl) ?_
  intro X hro hty hC hE
  unfold inI at hs ha
  obtain ⟨hn, hN5, hsh, hac, hpa, hwe, hth⟩ := id hw
  refine a_aload_n (pc := 0) (q := 0) (i := 0) (x := 1) hC (by decide +kernel) rfl 0 rfl ?_
  refine a_iload_n (pc := 1) (q := 1) (i := 1) (x := s) hC (by decide +kernel) rfl 1 rfl ?_
  refine g_callV (pc := 2) (idx := 46) (i := 1) (av := [vi s]) (rest := []) (g := G) (v := vi (hasS G s)) hC hro hty (by decide +kernel) rfl rfl k_W_hasState (by decide +kernel) (by decide +kernel) (by decide +kernel) (ct_W_hasState X.la X.dd K G N s (by unfold inI; omega) hw) rfl rfl (by decide) (by first | decide | simp [Value.category]) ?_
  refine a_if_eq (pc := 5) (off := 21) hC 26 (by decide +kernel) (by decide) (by unfold inI hasS; split <;> omega) (fun c5 => ?_) (fun c5 => ?_)
  · skip
    refine a_iconst (pc := 26) (c := 0) hC (by decide +kernel) ?_
    exact g_zret (pc := 27) hC hE (by decide +kernel) (by omega) (by unfold hasA hasS at *; split <;> (try split at *) <;> (try simp only [hq2] at *) <;> omega) rfl
  · skip
    have hs2 : 0 ≤ s ∧ s < N := by
      unfold hasS at c5
      split at c5 <;> omega
    obtain ⟨q, hq⟩ : ∃ q : Nat, s = (q : Int) := ⟨s.toNat, by omega⟩
    have hq2 : s.toNat = q := by omega
    have h3 := hac q (by omega)
    refine a_iload_n (pc := 8) (q := 2) (i := 2) (x := a) hC (by decide +kernel) rfl 2 rfl ?_
    refine a_if_lt (pc := 9) (off := 17) hC 26 (by decide +kernel) (by decide) (by unfold inI; omega) (fun c9 => ?_) (fun c9 => ?_)
    · skip
      refine a_iconst (pc := 26) (c := 0) hC (by decide +kernel) ?_
      exact g_zret (pc := 27) hC hE (by decide +kernel) (by omega) (by unfold hasA hasS at *; split <;> (try split at *) <;> (try simp only [hq2] at *) <;> omega) rfl
    · skip
      refine a_iload_n (pc := 12) (q := 2) (i := 2) (x := a) hC (by decide +kernel) rfl 2 rfl ?_
      refine a_aload_n (pc := 13) (q := 0) (i := 0) (x := 1) hC (by decide +kernel) rfl 0 rfl ?_
      refine g_get (pc := 14) (idx := 25) (ci := 4) (v := .ref 3) hC 1 4 (by decide +kernel) rfl rfl rfl rfl wrW (by decide) rfl (by decide +kernel) ?_
      refine a_iload_n (pc := 17) (q := 1) (i := 1) (x := s) hC (by decide +kernel) rfl 1 rfl ?_
      refine g_top (y := ((q : Nat) : Int)) (by omega) ?_
      refine g_iald (pc := 18) (a := 3) (j := q) hC hty (by decide +kernel) rfl (by omega) (by first | decide | omega) ?_
      refine a_icmp_ge (pc := 19) (off := 7) hC 26 (by decide +kernel) (by decide) (by unfold inI; omega) (by unfold inI; omega) (fun c19 => ?_) (fun c19 => ?_)
      · skip
        refine a_iconst (pc := 26) (c := 0) hC (by decide +kernel) ?_
        exact g_zret (pc := 27) hC hE (by decide +kernel) (by omega) (by unfold hasA hasS at *; split <;> (try split at *) <;> (try simp only [hq2] at *) <;> omega) rfl
      · skip
        refine a_iconst (pc := 22) (c := 1) hC (by decide +kernel) ?_
        refine a_goto (pc := 23) (off := 4) hC 27 (by decide +kernel) (by decide) ?_
        exact g_zret (pc := 27) hC hE (by decide +kernel) (by omega) (by unfold hasA hasS at *; split <;> (try split at *) <;> (try simp only [hq2] at *) <;> omega) rfl

set_option maxRecDepth 100000 in
set_option maxHeartbeats 4000000 in
theorem ct_W_stepScale (l : Launch) (D : va_G) (K : K5) (G : GT) (N : Nat) (hw : WW G N) : Ct l D K y_W_stepScale c_W_stepScale 1 (some .long) 0 0 [.ref 1] G (some (vl (stepZ G))) G := by
  refine Ct.intro (by decide +kernel) (Nat.le_of_ble_eq_true rfl) ?_
  intro X hro hty hC hE
  obtain ⟨hn, hN5, hsh, hac, hpa, hwe, hth⟩ := id hw
  refine a_ldc2 (pc := 0) (idx := 54) (z := 60) (v := 60) hC (by decide +kernel) (by decide +kernel) rfl ?_
  refine a_aload_n (pc := 3) (q := 0) (i := 0) (x := 1) hC (by decide +kernel) rfl 0 rfl ?_
  refine g_get (pc := 4) (idx := 18) (ci := 4) (v := vi (G 1 2)) hC 1 2 (by decide +kernel) rfl rfl rfl rfl wrW (by decide) rfl (by decide +kernel) ?_
  refine a_i2l (pc := 7) hC (by decide +kernel) (by unfold inI; omega) ?_
  refine a_lmul (pc := 8) hC (by decide +kernel) ?_
  exact g_lret (pc := 9) hC hE (by decide +kernel) rfl rfl

set_option maxRecDepth 100000 in
set_option maxHeartbeats 4000000 in
theorem ct_W_comesTo (l : Launch) (D : va_G) (K : K5) (G : GT) (N slot u : Nat) (hsl : slot < 15) (su : shape[u]? = some (.inr (2, [fR (u + 1), fL]))) (su1 : shape[u + 1]? = some (shL 5)) (hw : WW G N) : Ct l D K y_W_comesTo c_W_comesTo 9 (some .long) 1 20 [.ref 1, vi ((slot : Int)), .ref u] G (some (vl (comesZ G N slot u))) G := by
  refine Ct.intro (by decide +kernel) (Nat.le_of_ble_eq_true rfl) ?_
  intro X hro hty hC hE
  obtain ⟨hn, hN5, hsh, hac, hpa, hwe, hth⟩ := id hw
  have hps := hpa slot hsl
  refine a_aload_n (pc := 0) (q := 0) (i := 0) (x := 1) hC (by decide +kernel) rfl 0 rfl ?_
  refine g_get (pc := 1) (idx := 29) (ci := 4) (v := .ref 4) hC 1 5 (by decide +kernel) rfl rfl rfl rfl wrW (by decide) rfl (by decide +kernel) ?_
  refine a_iload_n (pc := 4) (q := 1) (i := 1) (x := (slot : Int)) hC (by decide +kernel) rfl 1 rfl ?_
  refine g_iald (pc := 5) (a := 4) (j := slot) hC hty (by decide +kernel) rfl (by omega) (by first | decide | omega) ?_
  refine a_i2l (pc := 6) hC (by decide +kernel) (by unfold inI; omega) ?_
  refine a_aload_n (pc := 7) (q := 0) (i := 0) (x := 1) hC (by decide +kernel) rfl 0 rfl ?_
  refine g_callV (pc := 8) (idx := 56) (i := 1) (av := []) (rest := [vl (G 4 slot)]) (g := G) (v := vl (stepZ G)) hC hro hty (by decide +kernel) rfl rfl k_W_stepScale (by decide +kernel) (by decide +kernel) (by decide +kernel) (ct_W_stepScale X.la X.dd K G N hw) rfl rfl (by decide) (by first | decide | simp [Value.category]) ?_
  refine a_lmul (pc := 11) hC (by decide +kernel) ?_
  refine a_aload_n (pc := 12) (q := 2) (i := 2) (x := u) hC (by decide +kernel) rfl 2 rfl ?_
  refine g_getN (pc := 13) (idx := 60) (ci := 2) (v := vl (G u 1)) (host := "PlanValues") hC u 1 (by decide +kernel) su rfl rfl rfl wrU (by decide) rfl (by decide +kernel) ?_
  refine a_lmul (pc := 16) hC (by decide +kernel) ?_
  refine a_lstore_n (pc := 17) (q := 3) (i := 3) (lv' := [(3, vl (((G 4 slot) * (stepZ G)) * (G u 1))), (0, .ref 1), (1, vi ((slot : Int))), (2, .ref u)]) hC (by decide +kernel) rfl (by decide) rfl ?_
  refine a_aload_n (pc := 18) (q := 0) (i := 0) (x := 1) hC (by decide +kernel) rfl 1 rfl ?_
  refine g_get (pc := 19) (idx := 32) (ci := 4) (v := .ref 5) hC 1 6 (by decide +kernel) rfl rfl rfl rfl wrW (by decide) rfl (by decide +kernel) ?_
  refine a_iload_n (pc := 22) (q := 1) (i := 1) (x := (slot : Int)) hC (by decide +kernel) rfl 2 rfl ?_
  refine g_iald (pc := 23) (a := 5) (j := slot) hC hty (by decide +kernel) rfl (by omega) (by first | decide | omega) ?_
  refine a_istore (pc := 24) (q := 0) (i := 5) (lv' := [(5, vi (G 5 slot)), (3, vl (((G 4 slot) * (stepZ G)) * (G u 1))), (0, .ref 1), (1, vi ((slot : Int))), (2, .ref u)]) hC (by decide +kernel) (by decide) rfl ?_
  refine a_iload (pc := 26) (i := 5) (x := G 5 slot) hC (by decide +kernel) 0 rfl ?_
  refine a_if_ne (pc := 28) (off := 5) hC 33 (by decide +kernel) (by decide) (by unfold inI; omega) (fun c28 => ?_) (fun c28 => ?_)
  · skip
    refine a_lconst (pc := 33) (c := 0) (z := 0) hC (by decide +kernel) rfl ?_
    refine a_lstore (pc := 34) (q := 0) (i := 6) (lv' := [(6, vl 0), (5, vi (G 5 slot)), (3, vl (((G 4 slot) * (stepZ G)) * (G u 1))), (0, .ref 1), (1, vi ((slot : Int))), (2, .ref u)]) hC (by decide +kernel) (by decide) rfl ?_
    refine a_iconst (pc := 36) (c := 0) hC (by decide +kernel) ?_
    refine a_istore (pc := 37) (q := 0) (i := 8) (lv' := [(8, vi 0), (6, vl 0), (5, vi (G 5 slot)), (3, vl (((G 4 slot) * (stepZ G)) * (G u 1))), (0, .ref 1), (1, vi ((slot : Int))), (2, .ref u)]) hC (by decide +kernel) (by decide) rfl ?_
    have L39 : ∀ (fuel : Nat) (t : Nat), N - t < fuel → t ≤ N → AW X 9 0 0 39 [(8, vi ((t : Int))), (6, vl (sumZ (fun z => G (7 + slot) z * G (u + 1) z) t)), (5, vi (G 5 slot)), (3, vl ((G 4 slot * stepZ G) * G u 1)), (0, .ref 1), (1, vi ((slot : Int))), (2, .ref u)] [] (hp K G) := by
      intro fuel
      induction fuel with
      | zero => intro t h; exact absurd h (Nat.not_lt_zero _)
      | succ fuel ih39 =>
        intro t hm ht
        refine a_iload (pc := 39) (i := 8) (x := (t : Int)) hC (by decide +kernel) 0 rfl ?_
        refine a_aload_n (pc := 41) (q := 0) (i := 0) (x := 1) hC (by decide +kernel) rfl 4 rfl ?_
        refine g_get (pc := 42) (idx := 9) (ci := 4) (v := vi (G 1 0)) hC 1 0 (by decide +kernel) rfl rfl rfl rfl wrW (by decide) rfl (by decide +kernel) ?_
        refine a_icmp_ge (pc := 45) (off := 32) hC 77 (by decide +kernel) (by decide) (by unfold inI; omega) (by unfold inI; omega) (fun c45 => ?_) (fun c45 => ?_)
        · skip
          refine a_lload_n (pc := 77) (q := 3) (i := 3) (x := (G 4 slot * stepZ G) * G u 1) hC (by decide +kernel) rfl 3 rfl ?_
          refine a_aload_n (pc := 78) (q := 0) (i := 0) (x := 1) hC (by decide +kernel) rfl 4 rfl ?_
          refine g_get (pc := 79) (idx := 15) (ci := 4) (v := vi (G 1 1)) hC 1 1 (by decide +kernel) rfl rfl rfl rfl wrW (by decide) rfl (by decide +kernel) ?_
          refine a_i2l (pc := 82) hC (by decide +kernel) (by unfold inI; omega) ?_
          refine a_bipush (pc := 83) (c := 60) hC (by decide +kernel) (by decide +kernel) ?_
          refine a_iload (pc := 85) (i := 5) (x := G 5 slot) hC (by decide +kernel) 2 rfl ?_
          refine a_idiv (pc := 87) hC (by decide +kernel) (by unfold inI; omega) (by unfold inI; omega) (by omega) ?_
          refine a_i2l (pc := 88) hC (by decide +kernel) (td60 (by omega) (by omega)) ?_
          refine a_lmul (pc := 89) hC (by decide +kernel) ?_
          refine a_lload (pc := 90) (i := 6) (x := sumZ (fun z => G (7 + slot) z * G (u + 1) z) t) hC (by decide +kernel) 1 rfl ?_
          refine a_lmul (pc := 92) hC (by decide +kernel) ?_
          refine a_ladd (pc := 93) hC (by decide +kernel) ?_
          exact g_lret (pc := 94) hC hE (by decide +kernel) (by unfold comesZ; rw [if_neg c28]; rw [show t = N by omega]) rfl
        · skip
          have hwt := hwe slot t hsl (by omega)
          refine a_lload (pc := 48) (i := 6) (x := sumZ (fun z => G (7 + slot) z * G (u + 1) z) t) hC (by decide +kernel) 1 rfl ?_
          refine a_aload_n (pc := 50) (q := 0) (i := 0) (x := 1) hC (by decide +kernel) rfl 4 rfl ?_
          refine g_get (pc := 51) (idx := 37) (ci := 4) (v := .ref 6) hC 1 7 (by decide +kernel) rfl rfl rfl rfl wrW (by decide) rfl (by decide +kernel) ?_
          refine a_iload_n (pc := 54) (q := 1) (i := 1) (x := (slot : Int)) hC (by decide +kernel) rfl 5 rfl ?_
          refine g_aaldI (pc := 55) (a := 6) (j := slot) hC hty (by decide +kernel) rfl (by omega) (by first | decide | omega) ?_
          refine a_iload (pc := 56) (i := 8) (x := (t : Int)) hC (by decide +kernel) 0 rfl ?_
          refine g_iald (pc := 58) (a := 7 + slot) (j := t) hC hty (by decide +kernel) (sh_we (by omega : slot < 15)) (by omega) (by first | decide | omega) ?_
          refine a_i2l (pc := 59) hC (by decide +kernel) (by unfold inI; omega) ?_
          refine a_aload_n (pc := 60) (q := 2) (i := 2) (x := u) hC (by decide +kernel) rfl 6 rfl ?_
          refine g_getN (pc := 61) (idx := 66) (ci := 2) (v := .ref (u + 1)) (host := "PlanValues") hC u 0 (by decide +kernel) su rfl rfl rfl wrU (by decide) rfl (by decide +kernel) ?_
          refine a_iload (pc := 64) (i := 8) (x := (t : Int)) hC (by decide +kernel) 0 rfl ?_
          refine g_lald (pc := 66) (a := u + 1) (j := t) hC hty (by decide +kernel) su1 (by omega) (by first | decide | omega) ?_
          refine a_lmul (pc := 67) hC (by decide +kernel) ?_
          refine a_ladd (pc := 68) hC (by decide +kernel) ?_
          refine a_lstore (pc := 69) (q := 0) (i := 6) (lv' := [(6, vl ((sumZ (fun z => G (7 + slot) z * G (u + 1) z) t) + ((G (7 + slot) t) * (G (u + 1) t)))), (8, vi ((t : Int))), (5, vi (G 5 slot)), (3, vl ((G 4 slot * stepZ G) * G u 1)), (0, .ref 1), (1, vi ((slot : Int))), (2, .ref u)]) hC (by decide +kernel) (by decide) rfl ?_
          refine a_iinc (pc := 71) (i := 8) (c := 1) (x := (t : Int)) (lv' := [(8, vi (((t : Int)) + 1)), (6, vl ((sumZ (fun z => G (7 + slot) z * G (u + 1) z) t) + ((G (7 + slot) t) * (G (u + 1) t)))), (5, vi (G 5 slot)), (3, vl ((G 4 slot * stepZ G) * G u 1)), (0, .ref 1), (1, vi ((slot : Int))), (2, .ref u)]) hC (by decide +kernel) 1 rfl (by decide) rfl ?_
          refine a_goto (pc := 74) (off := -35) hC 39 (by decide +kernel) (by decide) ?_
          refine a_sub (lv' := [(8, vi (((t + 1) : Int))), (6, vl (sumZ (fun z => G (7 + slot) z * G (u + 1) z) (t + 1))), (5, vi (G 5 slot)), (3, vl ((G 4 slot * stepZ G) * G u 1)), (0, .ref 1), (1, vi ((slot : Int))), (2, .ref u)]) [0, 1, 2, 3, 4, 5, 6] rfl ?_
          exact ih39 (t + 1) (by omega) (by omega)
    refine a_sub (lv' := [(8, vi ((0 : Int))), (6, vl (sumZ (fun z => G (7 + slot) z * G (u + 1) z) 0)), (5, vi (G 5 slot)), (3, vl ((G 4 slot * stepZ G) * G u 1)), (0, .ref 1), (1, vi ((slot : Int))), (2, .ref u)]) [0, 1, 2, 3, 4, 5, 6] rfl ?_
    exact L39 _ 0 (Nat.lt_succ_self _) (by omega)
  · skip
    refine a_lload_n (pc := 31) (q := 3) (i := 3) (x := ((G 4 slot) * (stepZ G)) * (G u 1)) hC (by decide +kernel) rfl 1 rfl ?_
    exact g_lret (pc := 32) hC hE (by decide +kernel) (by unfold comesZ; rw [if_pos (by omega)]) rfl

set_option maxRecDepth 100000 in
set_option maxHeartbeats 4000000 in
theorem ct_W_likes (l : Launch) (D : va_G) (K : K5) (G : GT) (s N : Nat) (x y : Int) (hs : s < 5) (hw : WW G N) (hx : inL x) (hy : inL y) : Ct l D K y_W_likes c_W_likes 6 (some .boolean) 0 0 [.ref 1, vi ((s : Int)), vl x, vl y] G (some (vi (likesZ G s x y))) G := by
  refine Ct.intro (by decide +kernel) (Nat.le_of_ble_eq_true rfl) ?_
  intro X hro hty hC hE
  obtain ⟨hn, hN5, hsh, hac, hpa, hwe, hth⟩ := id hw
  have h2 := hth s hs
  refine a_aload_n (pc := 0) (q := 0) (i := 0) (x := 1) hC (by decide +kernel) rfl 0 rfl ?_
  refine g_get (pc := 1) (idx := 21) (ci := 4) (v := .ref 2) hC 1 3 (by decide +kernel) rfl rfl rfl rfl wrW (by decide) rfl (by decide +kernel) ?_
  refine a_iload_n (pc := 4) (q := 1) (i := 1) (x := (s : Int)) hC (by decide +kernel) rfl 1 rfl ?_
  refine g_zald (pc := 5) (a := 2) (j := s) hC hty (by decide +kernel) rfl (by omega) (by first | decide | omega) ?_
  refine a_if_eq (pc := 6) (off := 18) hC 24 (by decide +kernel) (by decide) (by unfold inI; omega) (fun c6 => ?_) (fun c6 => ?_)
  · skip
    refine a_lload_n (pc := 24) (q := 2) (i := 2) (x := x) hC (by decide +kernel) rfl 2 rfl ?_
    refine a_lload (pc := 25) (i := 4) (x := y) hC (by decide +kernel) 3 rfl ?_
    refine a_lcmp (pc := 27) hC (by decide +kernel) hx hy ?_
    refine a_if_le (pc := 28) (off := 7) hC 35 (by decide +kernel) (by decide) (cmpZ_in _ _) (fun c28 => ?_) (fun c28 => ?_)
    · skip
      rw [cmpZ_le] at c28
      refine a_iconst (pc := 35) (c := 0) hC (by decide +kernel) ?_
      exact g_zret (pc := 36) hC hE (by decide +kernel) (by omega) (by unfold likesZ; split <;> (try split) <;> omega) rfl
    · skip
      rw [cmpZ_le] at c28
      refine a_iconst (pc := 31) (c := 1) hC (by decide +kernel) ?_
      refine a_goto (pc := 32) (off := 4) hC 36 (by decide +kernel) (by decide) ?_
      exact g_zret (pc := 36) hC hE (by decide +kernel) (by omega) (by unfold likesZ; split <;> (try split) <;> omega) rfl
  · skip
    refine a_lload_n (pc := 9) (q := 2) (i := 2) (x := x) hC (by decide +kernel) rfl 2 rfl ?_
    refine a_lload (pc := 10) (i := 4) (x := y) hC (by decide +kernel) 3 rfl ?_
    refine a_lcmp (pc := 12) hC (by decide +kernel) hx hy ?_
    refine a_if_ge (pc := 13) (off := 7) hC 20 (by decide +kernel) (by decide) (cmpZ_in _ _) (fun c13 => ?_) (fun c13 => ?_)
    · skip
      rw [cmpZ_ge] at c13
      refine a_iconst (pc := 20) (c := 0) hC (by decide +kernel) ?_
      refine a_goto (pc := 21) (off := 15) hC 36 (by decide +kernel) (by decide) ?_
      exact g_zret (pc := 36) hC hE (by decide +kernel) (by omega) (by unfold likesZ; split <;> (try split) <;> omega) rfl
    · skip
      rw [cmpZ_ge] at c13
      refine a_iconst (pc := 16) (c := 1) hC (by decide +kernel) ?_
      refine a_goto (pc := 17) (off := 19) hC 36 (by decide +kernel) (by decide) ?_
      exact g_zret (pc := 36) hC hE (by decide +kernel) (by omega) (by unfold likesZ; split <;> (try split) <;> omega) rfl

theorem likesZ_01 (G : GT) (s : Nat) (x y : Int) : likesZ G s x y = 0 ∨ likesZ G s x y = 1 := by unfold likesZ; split <;> split <;> omega
theorem likS_in {G : GT} {N s held u A : Nat} (hh : held < 3) (hA : A ≤ 3) (hr : ∀ a, a < 3 → inL (comesZ G N (s * 3 + a) u)) : ∀ a, a ≤ A → inL (likS G N s held u a).2 ∧ 0 ≤ (likS G N s held u a).1 ∧ (likS G N s held u a).1 < 3
  | 0, _ => ⟨hr held hh, by show (0 : Int) ≤ (held : Int); omega, by show (held : Int) < 3; omega⟩
  | a + 1, h => by
    have ih := likS_in hh hA hr a (by omega)
    unfold likS
    split
    · exact ⟨hr a (by omega), by show (0 : Int) ≤ (a : Int); omega, by show (a : Int) < 3; omega⟩
    · exact ih

set_option maxRecDepth 100000 in
set_option maxHeartbeats 4000000 in
theorem ct_W_likedAct (l : Launch) (D : va_G) (K : K5) (G : GT) (N s held u A : Nat) (hs : s < 5) (hh : held < 3) (hA : G 3 s = (A : Int)) (su : shape[u]? = some (.inr (2, [fR (u + 1), fL]))) (su1 : shape[u + 1]? = some (shL 5)) (hw : WW G N) (hr : ∀ a, a < 3 → inL (comesZ G N (s * 3 + a) u)) : Ct l D K y_W_likedAct c_W_likedAct 10 (some .int) 2 48 [.ref 1, vi ((s : Int)), vi ((held : Int)), .ref u] G (some (vi ((likS G N s held u A).1))) G := by
  refine Ct.intro (by decide +kernel) (Nat.le_of_ble_eq_true rfl) ?_
  intro X hro hty hC hE
  obtain ⟨hn, hN5, hsh, hac, hpa, hwe, hth⟩ := id hw
  have h3 := hac s hs
  refine a_iload_n (pc := 0) (q := 2) (i := 2) (x := (held : Int)) hC (by decide +kernel) rfl 2 rfl ?_
  refine a_istore (pc := 1) (q := 0) (i := 4) (lv' := [(4, vi ((held : Int))), (0, .ref 1), (1, vi ((s : Int))), (2, vi ((held : Int))), (3, .ref u)]) hC (by decide +kernel) (by decide) rfl ?_
  refine a_aload_n (pc := 3) (q := 0) (i := 0) (x := 1) hC (by decide +kernel) rfl 1 rfl ?_
  refine a_iload_n (pc := 4) (q := 1) (i := 1) (x := (s : Int)) hC (by decide +kernel) rfl 2 rfl ?_
  refine a_iload_n (pc := 5) (q := 2) (i := 2) (x := (held : Int)) hC (by decide +kernel) rfl 3 rfl ?_
  refine g_callS (pc := 6) (idx := 50) (av := [vi ((s : Int)), vi ((held : Int))]) (rest := [.ref 1]) (g := G) (v := vi (((s : Int)) * 3 + ((held : Int)))) hC hro hty (by decide +kernel) k_W_slotOf (by decide +kernel) (by decide +kernel) (ct_W_slotOf X.la X.dd K G ((s : Int)) ((held : Int))) rfl rfl (by decide) (by first | decide | simp [Value.category]) ?_
  refine g_top (y := ((s * 3 + held : Nat) : Int)) (by omega) ?_
  refine a_aload_n (pc := 9) (q := 3) (i := 3) (x := u) hC (by decide +kernel) rfl 4 rfl ?_
  refine g_callV (pc := 10) (idx := 70) (i := 1) (av := [vi (((s * 3 + held : Nat) : Int)), .ref u]) (rest := []) (g := G) (v := vl (comesZ G N (s * 3 + held) u)) hC hro hty (by decide +kernel) rfl rfl k_W_comesTo (by decide +kernel) (by decide +kernel) (by decide +kernel) (ct_W_comesTo X.la X.dd K G N (s * 3 + held) u (by omega) su su1 hw) rfl rfl (by decide) (by first | decide | simp [Value.category]) ?_
  refine a_lstore (pc := 13) (q := 0) (i := 5) (lv' := [(5, vl (comesZ G N (s * 3 + held) u)), (4, vi ((held : Int))), (0, .ref 1), (1, vi ((s : Int))), (2, vi ((held : Int))), (3, .ref u)]) hC (by decide +kernel) (by decide) rfl ?_
  refine a_iconst (pc := 15) (c := 0) hC (by decide +kernel) ?_
  refine a_istore (pc := 16) (q := 0) (i := 7) (lv' := [(7, vi 0), (5, vl (comesZ G N (s * 3 + held) u)), (4, vi ((held : Int))), (0, .ref 1), (1, vi ((s : Int))), (2, vi ((held : Int))), (3, .ref u)]) hC (by decide +kernel) (by decide) rfl ?_
  have L18 : ∀ (fuel : Nat) (a : Nat), A - a < fuel → a ≤ A → AW X 10 0 0 18 [(7, vi ((a : Int))), (5, vl ((likS G N s held u a).2)), (4, vi ((likS G N s held u a).1)), (0, .ref 1), (1, vi ((s : Int))), (2, vi ((held : Int))), (3, .ref u)] [] (hp K G) := by
    intro fuel
    induction fuel with
    | zero => intro a h; exact absurd h (Nat.not_lt_zero _)
    | succ fuel ih18 =>
      intro a hm ha
      have hin := likS_in hh (by omega : A ≤ 3) hr a ha
      refine a_iload (pc := 18) (i := 7) (x := (a : Int)) hC (by decide +kernel) 0 rfl ?_
      refine a_aload_n (pc := 20) (q := 0) (i := 0) (x := 1) hC (by decide +kernel) rfl 3 rfl ?_
      refine g_get (pc := 21) (idx := 25) (ci := 4) (v := .ref 3) hC 1 4 (by decide +kernel) rfl rfl rfl rfl wrW (by decide) rfl (by decide +kernel) ?_
      refine a_iload_n (pc := 24) (q := 1) (i := 1) (x := (s : Int)) hC (by decide +kernel) rfl 4 rfl ?_
      refine g_iald (pc := 25) (a := 3) (j := s) hC hty (by decide +kernel) rfl (by omega) (by first | decide | omega) ?_
      refine a_icmp_ge (pc := 26) (off := 42) hC 68 (by decide +kernel) (by decide) (by unfold inI; omega) (by unfold inI; omega) (fun c26 => ?_) (fun c26 => ?_)
      · skip
        refine a_iload (pc := 68) (i := 4) (x := (likS G N s held u a).1) hC (by decide +kernel) 2 rfl ?_
        exact g_iret (pc := 70) hC hE (by decide +kernel) (by rw [show a = A by omega]) rfl
      · skip
        refine a_aload_n (pc := 29) (q := 0) (i := 0) (x := 1) hC (by decide +kernel) rfl 3 rfl ?_
        refine a_iload_n (pc := 30) (q := 1) (i := 1) (x := (s : Int)) hC (by decide +kernel) rfl 4 rfl ?_
        refine a_iload (pc := 31) (i := 7) (x := (a : Int)) hC (by decide +kernel) 0 rfl ?_
        refine g_callS (pc := 33) (idx := 50) (av := [vi ((s : Int)), vi ((a : Int))]) (rest := [.ref 1]) (g := G) (v := vi (((s : Int)) * 3 + ((a : Int)))) hC hro hty (by decide +kernel) k_W_slotOf (by decide +kernel) (by decide +kernel) (ct_W_slotOf X.la X.dd K G ((s : Int)) ((a : Int))) rfl rfl (by decide) (by first | decide | simp [Value.category]) ?_
        refine g_top (y := ((s * 3 + a : Nat) : Int)) (by omega) ?_
        refine a_aload_n (pc := 36) (q := 3) (i := 3) (x := u) hC (by decide +kernel) rfl 6 rfl ?_
        refine g_callV (pc := 37) (idx := 70) (i := 1) (av := [vi (((s * 3 + a : Nat) : Int)), .ref u]) (rest := []) (g := G) (v := vl (comesZ G N (s * 3 + a) u)) hC hro hty (by decide +kernel) rfl rfl k_W_comesTo (by decide +kernel) (by decide +kernel) (by decide +kernel) (ct_W_comesTo X.la X.dd K G N (s * 3 + a) u (by omega) su su1 hw) rfl rfl (by decide) (by first | decide | simp [Value.category]) ?_
        refine a_lstore (pc := 40) (q := 0) (i := 8) (lv' := [(8, vl (comesZ G N (s * 3 + a) u)), (7, vi ((a : Int))), (5, vl ((likS G N s held u a).2)), (4, vi ((likS G N s held u a).1)), (0, .ref 1), (1, vi ((s : Int))), (2, vi ((held : Int))), (3, .ref u)]) hC (by decide +kernel) (by decide) rfl ?_
        refine a_aload_n (pc := 42) (q := 0) (i := 0) (x := 1) hC (by decide +kernel) rfl 4 rfl ?_
        refine a_iload_n (pc := 43) (q := 1) (i := 1) (x := (s : Int)) hC (by decide +kernel) rfl 5 rfl ?_
        refine a_lload (pc := 44) (i := 8) (x := comesZ G N (s * 3 + a) u) hC (by decide +kernel) 0 rfl ?_
        refine a_lload (pc := 46) (i := 5) (x := (likS G N s held u a).2) hC (by decide +kernel) 2 rfl ?_
        refine g_callV (pc := 48) (idx := 74) (i := 1) (av := [vi ((s : Int)), vl (comesZ G N (s * 3 + a) u), vl ((likS G N s held u a).2)]) (rest := []) (g := G) (v := vi (likesZ G s (comesZ G N (s * 3 + a) u) ((likS G N s held u a).2))) hC hro hty (by decide +kernel) rfl rfl k_W_likes (by decide +kernel) (by decide +kernel) (by decide +kernel) (ct_W_likes X.la X.dd K G s N (comesZ G N (s * 3 + a) u) ((likS G N s held u a).2) (by omega) hw (hr a (by omega)) hin.1) rfl rfl (by decide) (by first | decide | simp [Value.category]) ?_
        refine a_if_eq (pc := 51) (off := 11) hC 62 (by decide +kernel) (by decide) (by unfold inI; have := likesZ_01 G s (comesZ G N (s * 3 + a) u) (likS G N s held u a).2; omega) (fun c51 => ?_) (fun c51 => ?_)
        · skip
          have hl0 : ¬ likesZ G s (comesZ G N (s * 3 + a) u) (likS G N s held u a).2 = 1 := by omega
          have hstep : likS G N s held u (a + 1) = likS G N s held u a := by show (if _ then _ else _) = _; rw [if_neg hl0]
          refine a_iinc (pc := 62) (i := 7) (c := 1) (x := (a : Int)) (lv' := [(7, vi (((a : Int)) + 1)), (8, vl (comesZ G N (s * 3 + a) u)), (5, vl ((likS G N s held u a).2)), (4, vi ((likS G N s held u a).1)), (0, .ref 1), (1, vi ((s : Int))), (2, vi ((held : Int))), (3, .ref u)]) hC (by decide +kernel) 1 rfl (by decide) rfl ?_
          refine a_goto (pc := 65) (off := -47) hC 18 (by decide +kernel) (by decide) ?_
          refine a_sub (lv' := [(7, vi (((a + 1) : Int))), (5, vl ((likS G N s held u (a + 1)).2)), (4, vi ((likS G N s held u (a + 1)).1)), (0, .ref 1), (1, vi ((s : Int))), (2, vi ((held : Int))), (3, .ref u)]) [0, 2, 3, 4, 5, 6, 7] (by rw [hstep]; rfl) ?_
          exact ih18 (a + 1) (by omega) (by omega)
        · skip
          have hl1 : likesZ G s (comesZ G N (s * 3 + a) u) (likS G N s held u a).2 = 1 := by have := likesZ_01 G s (comesZ G N (s * 3 + a) u) (likS G N s held u a).2; omega
          have hstep : likS G N s held u (a + 1) = ((a : Int), comesZ G N (s * 3 + a) u) := by show (if _ then _ else _) = _; rw [if_pos hl1]
          refine a_iload (pc := 54) (i := 7) (x := (a : Int)) hC (by decide +kernel) 1 rfl ?_
          refine a_istore (pc := 56) (q := 0) (i := 4) (lv' := [(4, vi ((a : Int))), (8, vl (comesZ G N (s * 3 + a) u)), (7, vi ((a : Int))), (5, vl ((likS G N s held u a).2)), (0, .ref 1), (1, vi ((s : Int))), (2, vi ((held : Int))), (3, .ref u)]) hC (by decide +kernel) (by decide) rfl ?_
          refine a_lload (pc := 58) (i := 8) (x := comesZ G N (s * 3 + a) u) hC (by decide +kernel) 1 rfl ?_
          refine a_lstore (pc := 60) (q := 0) (i := 5) (lv' := [(5, vl (comesZ G N (s * 3 + a) u)), (4, vi ((a : Int))), (8, vl (comesZ G N (s * 3 + a) u)), (7, vi ((a : Int))), (0, .ref 1), (1, vi ((s : Int))), (2, vi ((held : Int))), (3, .ref u)]) hC (by decide +kernel) (by decide) rfl ?_
          refine a_iinc (pc := 62) (i := 7) (c := 1) (x := (a : Int)) (lv' := [(7, vi (((a : Int)) + 1)), (5, vl (comesZ G N (s * 3 + a) u)), (4, vi ((a : Int))), (8, vl (comesZ G N (s * 3 + a) u)), (0, .ref 1), (1, vi ((s : Int))), (2, vi ((held : Int))), (3, .ref u)]) hC (by decide +kernel) 3 rfl (by decide) rfl ?_
          refine a_goto (pc := 65) (off := -47) hC 18 (by decide +kernel) (by decide) ?_
          refine a_sub (lv' := [(7, vi (((a + 1) : Int))), (5, vl ((likS G N s held u (a + 1)).2)), (4, vi ((likS G N s held u (a + 1)).1)), (0, .ref 1), (1, vi ((s : Int))), (2, vi ((held : Int))), (3, .ref u)]) [0, 1, 2, 4, 5, 6, 7] (by rw [hstep]; rfl) ?_
          exact ih18 (a + 1) (by omega) (by omega)
  refine a_sub (lv' := [(7, vi ((0 : Int))), (5, vl ((likS G N s held u 0).2)), (4, vi ((likS G N s held u 0).1)), (0, .ref 1), (1, vi ((s : Int))), (2, vi ((held : Int))), (3, .ref u)]) [0, 1, 2, 3, 4, 5, 6] rfl ?_
  exact L18 _ 0 (Nat.lt_succ_self _) (by omega)

set_option maxRecDepth 100000 in
set_option maxHeartbeats 4000000 in
theorem ct_W_addState (l : Launch) (D : va_G) (K : K5) (G : GT) (N : Nat) (t : Int) (ht : t = 0 ∨ t = 1) (hw : WW G N) (hlt : N < 5) : Ct l D K y_W_addState c_W_addState 3 (some .int) 0 0 [.ref 1, vi t] G (some (vi ((N : Int)))) (uG (uG G 2 (up (G 2) N t)) 1 (up (G 1) 0 (G 1 0 + 1))) := by
  refine Ct.intro (by decide +kernel) (Nat.le_of_ble_eq_true rfl) ?_
  intro X hro hty hC hE
  obtain ⟨hn, hN5, hsh, hac, hpa, hwe, hth⟩ := id hw
  refine a_aload_n (pc := 0) (q := 0) (i := 0) (x := 1) hC (by decide +kernel) rfl 0 rfl ?_
  refine g_get (pc := 1) (idx := 9) (ci := 4) (v := vi (G 1 0)) hC 1 0 (by decide +kernel) rfl rfl rfl rfl wrW (by decide) rfl (by decide +kernel) ?_
  refine a_istore_n (pc := 4) (q := 2) (i := 2) (lv' := [(2, vi (G 1 0)), (0, .ref 1), (1, vi t)]) hC (by decide +kernel) rfl (by decide) rfl ?_
  refine a_aload_n (pc := 5) (q := 0) (i := 0) (x := 1) hC (by decide +kernel) rfl 1 rfl ?_
  refine g_get (pc := 6) (idx := 21) (ci := 4) (v := .ref 2) hC 1 3 (by decide +kernel) rfl rfl rfl rfl wrW (by decide) rfl (by decide +kernel) ?_
  refine a_iload_n (pc := 9) (q := 2) (i := 2) (x := G 1 0) hC (by decide +kernel) rfl 0 rfl ?_
  refine a_iload_n (pc := 10) (q := 1) (i := 1) (x := t) hC (by decide +kernel) rfl 2 rfl ?_
  refine g_snd (y := ((N : Nat) : Int)) (by omega) ?_
  refine g_zast (pc := 11) (a := 2) (j := N) (x := t) hC hty ht (by decide +kernel) rfl (by omega) (by first | decide | omega) ?_
  refine a_aload_n (pc := 12) (q := 0) (i := 0) (x := 1) hC (by decide +kernel) rfl 1 rfl ?_
  refine a_dup (pc := 13) hC (by decide +kernel) rfl ?_
  refine g_get (pc := 14) (idx := 9) (ci := 4) (v := vi ((uG G 2 (up (G 2) N t)) 1 0)) hC 1 0 (by decide +kernel) rfl rfl rfl rfl wrW (by decide) rfl (by decide +kernel) ?_
  refine a_iconst (pc := 17) (c := 1) hC (by decide +kernel) ?_
  refine a_iadd (pc := 18) hC (by decide +kernel) ?_
  refine g_put (pc := 19) (idx := 9) (ci := 4) (x := ((uG G 2 (up (G 2) N t)) 1 0) + 1) hC 1 0 (by decide +kernel) rfl rfl (congrArg (fun z => vi z) (up_s _ _ _)) rfl wrW (by decide) rfl (by decide +kernel) rfl (ok_int _) ?_
  refine a_iload_n (pc := 22) (q := 2) (i := 2) (x := G 1 0) hC (by decide +kernel) rfl 0 rfl ?_
  exact g_iret (pc := 23) hC hE (by decide +kernel) hn rfl

set_option maxRecDepth 100000 in
set_option maxHeartbeats 4000000 in
theorem ct_W_addAct (l : Launch) (D : va_G) (K : K5) (G : GT) (N s A : Nat) (p : Int) (hs : s < 5) (hA : G 3 s = (A : Int)) (hA3 : A < 3) : Ct l D K y_W_addAct c_W_addAct 4 (some .int) 1 21 [.ref 1, vi ((s : Int)), vi p] G (some (vi ((A : Int)))) (uG (uG G 4 (up (G 4) (s * 3 + A) p)) 3 (up (G 3) s (G 3 s + 1))) := by
  refine Ct.intro (by decide +kernel) (Nat.le_of_ble_eq_true rfl) ?_
  intro X hro hty hC hE
  refine a_aload_n (pc := 0) (q := 0) (i := 0) (x := 1) hC (by decide +kernel) rfl 0 rfl ?_
  refine g_get (pc := 1) (idx := 25) (ci := 4) (v := .ref 3) hC 1 4 (by decide +kernel) rfl rfl rfl rfl wrW (by decide) rfl (by decide +kernel) ?_
  refine a_iload_n (pc := 4) (q := 1) (i := 1) (x := (s : Int)) hC (by decide +kernel) rfl 1 rfl ?_
  refine g_iald (pc := 5) (a := 3) (j := s) hC hty (by decide +kernel) rfl (by omega) (by first | decide | omega) ?_
  refine a_istore_n (pc := 6) (q := 3) (i := 3) (lv' := [(3, vi (G 3 s)), (0, .ref 1), (1, vi ((s : Int))), (2, vi p)]) hC (by decide +kernel) rfl (by decide) rfl ?_
  refine a_aload_n (pc := 7) (q := 0) (i := 0) (x := 1) hC (by decide +kernel) rfl 1 rfl ?_
  refine g_get (pc := 8) (idx := 29) (ci := 4) (v := .ref 4) hC 1 5 (by decide +kernel) rfl rfl rfl rfl wrW (by decide) rfl (by decide +kernel) ?_
  refine a_iload_n (pc := 11) (q := 1) (i := 1) (x := (s : Int)) hC (by decide +kernel) rfl 2 rfl ?_
  refine a_iload_n (pc := 12) (q := 3) (i := 3) (x := G 3 s) hC (by decide +kernel) rfl 0 rfl ?_
  refine g_callS (pc := 13) (idx := 50) (av := [vi ((s : Int)), vi (G 3 s)]) (rest := [.ref 4]) (g := G) (v := vi (((s : Int)) * 3 + (G 3 s))) hC hro hty (by decide +kernel) k_W_slotOf (by decide +kernel) (by decide +kernel) (ct_W_slotOf X.la X.dd K G ((s : Int)) (G 3 s)) rfl rfl (by decide) (by first | decide | simp [Value.category]) ?_
  refine a_iload_n (pc := 16) (q := 2) (i := 2) (x := p) hC (by decide +kernel) rfl 3 rfl ?_
  refine g_snd (y := ((s * 3 + A : Nat) : Int)) (by omega) ?_
  refine g_iast (pc := 17) (a := 4) (j := s * 3 + A) (x := p) hC hty (by decide +kernel) rfl (by omega) (by first | decide | omega) ?_
  refine a_aload_n (pc := 18) (q := 0) (i := 0) (x := 1) hC (by decide +kernel) rfl 1 rfl ?_
  refine g_get (pc := 19) (idx := 25) (ci := 4) (v := .ref 3) hC 1 4 (by decide +kernel) rfl rfl rfl rfl wrW (by decide) rfl (by decide +kernel) ?_
  refine a_iload_n (pc := 22) (q := 1) (i := 1) (x := (s : Int)) hC (by decide +kernel) rfl 2 rfl ?_
  refine a_dup2 (pc := 23) hC (by decide +kernel) rfl rfl ?_
  refine g_iald (pc := 24) (a := 3) (j := s) hC hty (by decide +kernel) rfl (by omega) (by first | decide | omega) ?_
  refine a_iconst (pc := 25) (c := 1) hC (by decide +kernel) ?_
  refine a_iadd (pc := 26) hC (by decide +kernel) ?_
  refine g_iast (pc := 27) (a := 3) (j := s) (x := ((uG G 4 (up (G 4) (s * 3 + A) p)) 3 s) + 1) hC hty (by decide +kernel) rfl (by omega) (by first | decide | omega) ?_
  refine a_iload_n (pc := 28) (q := 3) (i := 3) (x := G 3 s) hC (by decide +kernel) rfl 0 rfl ?_
  exact g_iret (pc := 29) hC hE (by decide +kernel) hA rfl

set_option maxRecDepth 100000 in
set_option maxHeartbeats 4000000 in
theorem ct_JA_fill_AII (l : Launch) (D : va_G) (K : K5) (G : GT) (a M : Nat) (x : Int) (sa : shape[a]? = some (shI M)) (hM : M < 10000) : Ct l D K y_JA_fill_AII c_JA_fill_AII 4 none 0 0 [.ref a, vi x] G none (uG G a (fillF (G a) M x)) := by
  refine Ct.intro (by decide +kernel) (Nat.le_of_ble_eq_true rfl) ?_
  intro X hro hty hC hE
  refine a_iconst (pc := 0) (c := 0) hC (by decide +kernel) ?_
  refine a_istore_n (pc := 1) (q := 2) (i := 2) (lv' := [(2, vi 0), (0, .ref a), (1, vi x)]) hC (by decide +kernel) rfl (by decide) rfl ?_
  refine a_aload_n (pc := 2) (q := 0) (i := 0) (x := a) hC (by decide +kernel) rfl 1 rfl ?_
  refine g_alenI (pc := 3) (a := a) (N := M) hC hty (by decide +kernel) sa ?_
  refine a_istore_n (pc := 4) (q := 3) (i := 3) (lv' := [(3, vi ((M : Int))), (2, vi 0), (0, .ref a), (1, vi x)]) hC (by decide +kernel) rfl (by decide) rfl ?_
  have L5 : ∀ (fuel : Nat) (i : Nat), M - i < fuel → i ≤ M → AW X 4 0 0 5 [(3, vi ((M : Int))), (2, vi ((i : Int))), (0, .ref a), (1, vi x)] [] (hp K (uG G a (fillF (G a) i x))) := by
    intro fuel
    induction fuel with
    | zero => intro i h; exact absurd h (Nat.not_lt_zero _)
    | succ fuel ih5 =>
      intro i hm hi
      refine a_iload_n (pc := 5) (q := 2) (i := 2) (x := (i : Int)) hC (by decide +kernel) rfl 1 rfl ?_
      refine a_iload_n (pc := 6) (q := 3) (i := 3) (x := (M : Int)) hC (by decide +kernel) rfl 0 rfl ?_
      refine a_icmp_ge (pc := 7) (off := 13) hC 20 (by decide +kernel) (by decide) (by unfold inI; omega) (by unfold inI; omega) (fun c7 => ?_) (fun c7 => ?_)
      · skip
        exact g_vret (pc := 20) hC hE (by decide +kernel) (by rw [show i = M by omega])
      · skip
        refine a_aload_n (pc := 10) (q := 0) (i := 0) (x := a) hC (by decide +kernel) rfl 2 rfl ?_
        refine a_iload_n (pc := 11) (q := 2) (i := 2) (x := (i : Int)) hC (by decide +kernel) rfl 1 rfl ?_
        refine a_iload_n (pc := 12) (q := 1) (i := 1) (x := x) hC (by decide +kernel) rfl 3 rfl ?_
        refine g_iast (pc := 13) (a := a) (j := i) (x := x) hC hty (by decide +kernel) sa (by omega) (by first | decide | omega) ?_
        refine a_iinc (pc := 14) (i := 2) (c := 1) (x := (i : Int)) (lv' := [(2, vi (((i : Int)) + 1)), (3, vi ((M : Int))), (0, .ref a), (1, vi x)]) hC (by decide +kernel) 1 rfl (by decide) rfl ?_
        refine a_goto (pc := 17) (off := -12) hC 5 (by decide +kernel) (by decide) ?_
        refine a_sub (lv' := [(3, vi ((M : Int))), (2, vi (((i + 1) : Int))), (0, .ref a), (1, vi x)]) [1, 0, 2, 3] rfl ?_
        refine g_G (G' := uG G a (fillF (G a) (i + 1) x)) (by rw [uG_s, uG_uG, fillF_s]) ?_
        exact ih5 (i + 1) (by omega) (by omega)
  refine a_sub (lv' := [(3, vi ((M : Int))), (2, vi ((0 : Int))), (0, .ref a), (1, vi x)]) [0, 1, 2, 3] rfl ?_
  refine g_G (G' := uG G a (fillF (G a) 0 x)) (by rw [fillF_0, uG_self]) ?_
  exact L5 _ 0 (Nat.lt_succ_self _) (by omega)

set_option maxRecDepth 100000 in
set_option maxHeartbeats 4000000 in
theorem ct_JA_fill_AJJ (l : Launch) (D : va_G) (K : K5) (G : GT) (a M : Nat) (x : Int) (sa : shape[a]? = some (shL M)) (hM : M < 10000) : Ct l D K y_JA_fill_AJJ c_JA_fill_AJJ 5 none 0 0 [.ref a, vl x] G none (uG G a (fillF (G a) M x)) := by
  refine Ct.intro (by decide +kernel) (Nat.le_of_ble_eq_true rfl) ?_
  intro X hro hty hC hE
  refine a_iconst (pc := 0) (c := 0) hC (by decide +kernel) ?_
  refine a_istore_n (pc := 1) (q := 3) (i := 3) (lv' := [(3, vi 0), (0, .ref a), (1, vl x)]) hC (by decide +kernel) rfl (by decide) rfl ?_
  refine a_aload_n (pc := 2) (q := 0) (i := 0) (x := a) hC (by decide +kernel) rfl 1 rfl ?_
  refine g_alenL (pc := 3) (a := a) (N := M) hC hty (by decide +kernel) sa ?_
  refine a_istore (pc := 4) (q := 0) (i := 4) (lv' := [(4, vi ((M : Int))), (3, vi 0), (0, .ref a), (1, vl x)]) hC (by decide +kernel) (by decide) rfl ?_
  have L6 : ∀ (fuel : Nat) (i : Nat), M - i < fuel → i ≤ M → AW X 5 0 0 6 [(4, vi ((M : Int))), (3, vi ((i : Int))), (0, .ref a), (1, vl x)] [] (hp K (uG G a (fillF (G a) i x))) := by
    intro fuel
    induction fuel with
    | zero => intro i h; exact absurd h (Nat.not_lt_zero _)
    | succ fuel ih6 =>
      intro i hm hi
      refine a_iload_n (pc := 6) (q := 3) (i := 3) (x := (i : Int)) hC (by decide +kernel) rfl 1 rfl ?_
      refine a_iload (pc := 7) (i := 4) (x := (M : Int)) hC (by decide +kernel) 0 rfl ?_
      refine a_icmp_ge (pc := 9) (off := 13) hC 22 (by decide +kernel) (by decide) (by unfold inI; omega) (by unfold inI; omega) (fun c9 => ?_) (fun c9 => ?_)
      · skip
        exact g_vret (pc := 22) hC hE (by decide +kernel) (by rw [show i = M by omega])
      · skip
        refine a_aload_n (pc := 12) (q := 0) (i := 0) (x := a) hC (by decide +kernel) rfl 2 rfl ?_
        refine a_iload_n (pc := 13) (q := 3) (i := 3) (x := (i : Int)) hC (by decide +kernel) rfl 1 rfl ?_
        refine a_lload_n (pc := 14) (q := 1) (i := 1) (x := x) hC (by decide +kernel) rfl 3 rfl ?_
        refine g_last (pc := 15) (a := a) (j := i) (x := x) hC hty (by decide +kernel) sa (by omega) (by first | decide | omega) ?_
        refine a_iinc (pc := 16) (i := 3) (c := 1) (x := (i : Int)) (lv' := [(3, vi (((i : Int)) + 1)), (4, vi ((M : Int))), (0, .ref a), (1, vl x)]) hC (by decide +kernel) 1 rfl (by decide) rfl ?_
        refine a_goto (pc := 19) (off := -13) hC 6 (by decide +kernel) (by decide) ?_
        refine a_sub (lv' := [(4, vi ((M : Int))), (3, vi (((i + 1) : Int))), (0, .ref a), (1, vl x)]) [1, 0, 2, 3] rfl ?_
        refine g_G (G' := uG G a (fillF (G a) (i + 1) x)) (by rw [uG_s, uG_uG, fillF_s]) ?_
        exact ih6 (i + 1) (by omega) (by omega)
  refine a_sub (lv' := [(4, vi ((M : Int))), (3, vi ((0 : Int))), (0, .ref a), (1, vl x)]) [0, 1, 2, 3] rfl ?_
  refine g_G (G' := uG G a (fillF (G a) 0 x)) (by rw [fillF_0, uG_self]) ?_
  exact L6 _ 0 (Nat.lt_succ_self _) (by omega)

def forgG (G : GT) : GT := uG (uG (uG (uG (uG (uG G 1 (up (G 1) 0 0)) 1 (up (uG G 1 (up (G 1) 0 0) 1) 1 1)) 1 (up (uG (uG G 1 (up (G 1) 0 0)) 1 (up (uG G 1 (up (G 1) 0 0) 1) 1 1) 1) 2 2)) 3 (fillF (G 3) 5 0)) 4 (fillF (G 4) 15 0)) 5 (fillF (G 5) 15 0)
set_option maxRecDepth 100000 in
set_option maxHeartbeats 4000000 in
theorem ct_W_forget (l : Launch) (D : va_G) (K : K5) (G : GT)  : Ct l D K y_W_forget c_W_forget 2 none 1 23 [.ref 1] G none (clrG (forgG G) 7 15 5) := by
  refine Ct.intro (by decide +kernel) (Nat.le_of_ble_eq_true rfl) ?_
  intro X hro hty hC hE
  refine a_aload_n (pc := 0) (q := 0) (i := 0) (x := 1) hC (by decide +kernel) rfl 0 rfl ?_
  refine a_iconst (pc := 1) (c := 0) hC (by decide +kernel) ?_
  refine g_put (pc := 2) (idx := 9) (ci := 4) (x := 0) hC 1 0 (by decide +kernel) rfl rfl (congrArg (fun z => vi z) (up_s _ _ _)) rfl wrW (by decide) rfl (by decide +kernel) rfl (ok_int _) ?_
  refine a_aload_n (pc := 5) (q := 0) (i := 0) (x := 1) hC (by decide +kernel) rfl 0 rfl ?_
  refine a_iconst (pc := 6) (c := 1) hC (by decide +kernel) ?_
  refine g_put (pc := 7) (idx := 15) (ci := 4) (x := 1) hC 1 1 (by decide +kernel) rfl rfl (congrArg (fun z => vi z) (up_s _ _ _)) rfl wrW (by decide) rfl (by decide +kernel) rfl (ok_int _) ?_
  refine a_aload_n (pc := 10) (q := 0) (i := 0) (x := 1) hC (by decide +kernel) rfl 0 rfl ?_
  refine a_iconst (pc := 11) (c := 2) hC (by decide +kernel) ?_
  refine g_put (pc := 12) (idx := 18) (ci := 4) (x := 2) hC 1 2 (by decide +kernel) rfl rfl (congrArg (fun z => vi z) (up_s _ _ _)) rfl wrW (by decide) rfl (by decide +kernel) rfl (ok_int _) ?_
  refine a_aload_n (pc := 15) (q := 0) (i := 0) (x := 1) hC (by decide +kernel) rfl 0 rfl ?_
  refine g_get (pc := 16) (idx := 25) (ci := 4) (v := .ref 3) hC 1 4 (by decide +kernel) rfl rfl rfl rfl wrW (by decide) rfl (by decide +kernel) ?_
  refine a_iconst (pc := 19) (c := 0) hC (by decide +kernel) ?_
  refine g_callS0 (pc := 20) (idx := 40) (av := [.ref 3, vi 0]) (rest := []) (g := uG (uG (uG (uG G 1 (up (G 1) 0 0)) 1 (up ((uG G 1 (up (G 1) 0 0)) 1) 1 1)) 1 (up ((uG (uG G 1 (up (G 1) 0 0)) 1 (up ((uG G 1 (up (G 1) 0 0)) 1) 1 1)) 1) 2 2)) 3 (fillF ((uG (uG (uG G 1 (up (G 1) 0 0)) 1 (up ((uG G 1 (up (G 1) 0 0)) 1) 1 1)) 1 (up ((uG (uG G 1 (up (G 1) 0 0)) 1 (up ((uG G 1 (up (G 1) 0 0)) 1) 1 1)) 1) 2 2)) 3) 5 0)) hC hro hty (by decide +kernel) k_JA_fill_AII (by decide +kernel) (by decide +kernel) (ct_JA_fill_AII X.la X.dd K (uG (uG (uG G 1 (up (G 1) 0 0)) 1 (up ((uG G 1 (up (G 1) 0 0)) 1) 1 1)) 1 (up ((uG (uG G 1 (up (G 1) 0 0)) 1 (up ((uG G 1 (up (G 1) 0 0)) 1) 1 1)) 1) 2 2)) 3 5 0 rfl (by decide)) rfl rfl (by decide) (by first | decide | simp [Value.category]) ?_
  refine a_aload_n (pc := 23) (q := 0) (i := 0) (x := 1) hC (by decide +kernel) rfl 0 rfl ?_
  refine g_get (pc := 24) (idx := 29) (ci := 4) (v := .ref 4) hC 1 5 (by decide +kernel) rfl rfl rfl rfl wrW (by decide) rfl (by decide +kernel) ?_
  refine a_iconst (pc := 27) (c := 0) hC (by decide +kernel) ?_
  refine g_callS0 (pc := 28) (idx := 40) (av := [.ref 4, vi 0]) (rest := []) (g := uG (uG (uG (uG (uG G 1 (up (G 1) 0 0)) 1 (up ((uG G 1 (up (G 1) 0 0)) 1) 1 1)) 1 (up ((uG (uG G 1 (up (G 1) 0 0)) 1 (up ((uG G 1 (up (G 1) 0 0)) 1) 1 1)) 1) 2 2)) 3 (fillF ((uG (uG (uG G 1 (up (G 1) 0 0)) 1 (up ((uG G 1 (up (G 1) 0 0)) 1) 1 1)) 1 (up ((uG (uG G 1 (up (G 1) 0 0)) 1 (up ((uG G 1 (up (G 1) 0 0)) 1) 1 1)) 1) 2 2)) 3) 5 0)) 4 (fillF ((uG (uG (uG (uG G 1 (up (G 1) 0 0)) 1 (up ((uG G 1 (up (G 1) 0 0)) 1) 1 1)) 1 (up ((uG (uG G 1 (up (G 1) 0 0)) 1 (up ((uG G 1 (up (G 1) 0 0)) 1) 1 1)) 1) 2 2)) 3 (fillF ((uG (uG (uG G 1 (up (G 1) 0 0)) 1 (up ((uG G 1 (up (G 1) 0 0)) 1) 1 1)) 1 (up ((uG (uG G 1 (up (G 1) 0 0)) 1 (up ((uG G 1 (up (G 1) 0 0)) 1) 1 1)) 1) 2 2)) 3) 5 0)) 4) 15 0)) hC hro hty (by decide +kernel) k_JA_fill_AII (by decide +kernel) (by decide +kernel) (ct_JA_fill_AII X.la X.dd K (uG (uG (uG (uG G 1 (up (G 1) 0 0)) 1 (up ((uG G 1 (up (G 1) 0 0)) 1) 1 1)) 1 (up ((uG (uG G 1 (up (G 1) 0 0)) 1 (up ((uG G 1 (up (G 1) 0 0)) 1) 1 1)) 1) 2 2)) 3 (fillF ((uG (uG (uG G 1 (up (G 1) 0 0)) 1 (up ((uG G 1 (up (G 1) 0 0)) 1) 1 1)) 1 (up ((uG (uG G 1 (up (G 1) 0 0)) 1 (up ((uG G 1 (up (G 1) 0 0)) 1) 1 1)) 1) 2 2)) 3) 5 0)) 4 15 0 rfl (by decide)) rfl rfl (by decide) (by first | decide | simp [Value.category]) ?_
  refine a_aload_n (pc := 31) (q := 0) (i := 0) (x := 1) hC (by decide +kernel) rfl 0 rfl ?_
  refine g_get (pc := 32) (idx := 32) (ci := 4) (v := .ref 5) hC 1 6 (by decide +kernel) rfl rfl rfl rfl wrW (by decide) rfl (by decide +kernel) ?_
  refine a_iconst (pc := 35) (c := 0) hC (by decide +kernel) ?_
  refine g_callS0 (pc := 36) (idx := 40) (av := [.ref 5, vi 0]) (rest := []) (g := uG (uG (uG (uG (uG (uG G 1 (up (G 1) 0 0)) 1 (up ((uG G 1 (up (G 1) 0 0)) 1) 1 1)) 1 (up ((uG (uG G 1 (up (G 1) 0 0)) 1 (up ((uG G 1 (up (G 1) 0 0)) 1) 1 1)) 1) 2 2)) 3 (fillF ((uG (uG (uG G 1 (up (G 1) 0 0)) 1 (up ((uG G 1 (up (G 1) 0 0)) 1) 1 1)) 1 (up ((uG (uG G 1 (up (G 1) 0 0)) 1 (up ((uG G 1 (up (G 1) 0 0)) 1) 1 1)) 1) 2 2)) 3) 5 0)) 4 (fillF ((uG (uG (uG (uG G 1 (up (G 1) 0 0)) 1 (up ((uG G 1 (up (G 1) 0 0)) 1) 1 1)) 1 (up ((uG (uG G 1 (up (G 1) 0 0)) 1 (up ((uG G 1 (up (G 1) 0 0)) 1) 1 1)) 1) 2 2)) 3 (fillF ((uG (uG (uG G 1 (up (G 1) 0 0)) 1 (up ((uG G 1 (up (G 1) 0 0)) 1) 1 1)) 1 (up ((uG (uG G 1 (up (G 1) 0 0)) 1 (up ((uG G 1 (up (G 1) 0 0)) 1) 1 1)) 1) 2 2)) 3) 5 0)) 4) 15 0)) 5 (fillF ((uG (uG (uG (uG (uG G 1 (up (G 1) 0 0)) 1 (up ((uG G 1 (up (G 1) 0 0)) 1) 1 1)) 1 (up ((uG (uG G 1 (up (G 1) 0 0)) 1 (up ((uG G 1 (up (G 1) 0 0)) 1) 1 1)) 1) 2 2)) 3 (fillF ((uG (uG (uG G 1 (up (G 1) 0 0)) 1 (up ((uG G 1 (up (G 1) 0 0)) 1) 1 1)) 1 (up ((uG (uG G 1 (up (G 1) 0 0)) 1 (up ((uG G 1 (up (G 1) 0 0)) 1) 1 1)) 1) 2 2)) 3) 5 0)) 4 (fillF ((uG (uG (uG (uG G 1 (up (G 1) 0 0)) 1 (up ((uG G 1 (up (G 1) 0 0)) 1) 1 1)) 1 (up ((uG (uG G 1 (up (G 1) 0 0)) 1 (up ((uG G 1 (up (G 1) 0 0)) 1) 1 1)) 1) 2 2)) 3 (fillF ((uG (uG (uG G 1 (up (G 1) 0 0)) 1 (up ((uG G 1 (up (G 1) 0 0)) 1) 1 1)) 1 (up ((uG (uG G 1 (up (G 1) 0 0)) 1 (up ((uG G 1 (up (G 1) 0 0)) 1) 1 1)) 1) 2 2)) 3) 5 0)) 4) 15 0)) 5) 15 0)) hC hro hty (by decide +kernel) k_JA_fill_AII (by decide +kernel) (by decide +kernel) (ct_JA_fill_AII X.la X.dd K (uG (uG (uG (uG (uG G 1 (up (G 1) 0 0)) 1 (up ((uG G 1 (up (G 1) 0 0)) 1) 1 1)) 1 (up ((uG (uG G 1 (up (G 1) 0 0)) 1 (up ((uG G 1 (up (G 1) 0 0)) 1) 1 1)) 1) 2 2)) 3 (fillF ((uG (uG (uG G 1 (up (G 1) 0 0)) 1 (up ((uG G 1 (up (G 1) 0 0)) 1) 1 1)) 1 (up ((uG (uG G 1 (up (G 1) 0 0)) 1 (up ((uG G 1 (up (G 1) 0 0)) 1) 1 1)) 1) 2 2)) 3) 5 0)) 4 (fillF ((uG (uG (uG (uG G 1 (up (G 1) 0 0)) 1 (up ((uG G 1 (up (G 1) 0 0)) 1) 1 1)) 1 (up ((uG (uG G 1 (up (G 1) 0 0)) 1 (up ((uG G 1 (up (G 1) 0 0)) 1) 1 1)) 1) 2 2)) 3 (fillF ((uG (uG (uG G 1 (up (G 1) 0 0)) 1 (up ((uG G 1 (up (G 1) 0 0)) 1) 1 1)) 1 (up ((uG (uG G 1 (up (G 1) 0 0)) 1 (up ((uG G 1 (up (G 1) 0 0)) 1) 1 1)) 1) 2 2)) 3) 5 0)) 4) 15 0)) 5 15 0 rfl (by decide)) rfl rfl (by decide) (by first | decide | simp [Value.category]) ?_
  refine a_iconst (pc := 39) (c := 0) hC (by decide +kernel) ?_
  refine a_istore_n (pc := 40) (q := 1) (i := 1) (lv' := [(1, vi 0), (0, .ref 1)]) hC (by decide +kernel) rfl (by decide) rfl ?_
  have L41 : ∀ (fuel : Nat) (q : Nat), 15 - q < fuel → q ≤ 15 → AW X 2 0 0 41 [(1, vi ((q : Int))), (0, .ref 1)] [] (hp K (clrG (forgG G) 7 q 5)) := by
    intro fuel
    induction fuel with
    | zero => intro q h; exact absurd h (Nat.not_lt_zero _)
    | succ fuel ih41 =>
      intro q hm hq
      refine a_iload_n (pc := 41) (q := 1) (i := 1) (x := (q : Int)) hC (by decide +kernel) rfl 0 rfl ?_
      refine a_bipush (pc := 42) (c := 15) hC (by decide +kernel) (by decide +kernel) ?_
      refine a_icmp_ge (pc := 44) (off := 19) hC 63 (by decide +kernel) (by decide) (by unfold inI; omega) (by unfold inI; omega) (fun c44 => ?_) (fun c44 => ?_)
      · skip
        exact g_vret (pc := 63) hC hE (by decide +kernel) (by rw [show q = 15 by omega])
      · skip
        refine a_aload_n (pc := 47) (q := 0) (i := 0) (x := 1) hC (by decide +kernel) rfl 1 rfl ?_
        refine g_get (pc := 48) (idx := 37) (ci := 4) (v := .ref 6) hC 1 7 (by decide +kernel) rfl rfl rfl rfl wrW (by decide) rfl (by decide +kernel) ?_
        refine a_iload_n (pc := 51) (q := 1) (i := 1) (x := (q : Int)) hC (by decide +kernel) rfl 0 rfl ?_
        refine g_aaldI (pc := 52) (a := 6) (j := q) hC hty (by decide +kernel) rfl (by omega) (by first | decide | omega) ?_
        refine a_iconst (pc := 53) (c := 0) hC (by decide +kernel) ?_
        refine g_callS0 (pc := 54) (idx := 40) (av := [.ref (7 + q), vi 0]) (rest := []) (g := uG (clrG (forgG G) 7 q 5) (7 + q) (fillF ((clrG (forgG G) 7 q 5) (7 + q)) 5 0)) hC hro hty (by decide +kernel) k_JA_fill_AII (by decide +kernel) (by decide +kernel) (ct_JA_fill_AII X.la X.dd K (clrG (forgG G) 7 q 5) (7 + q) 5 0 (sh_we (by omega : q < 15)) (by decide)) rfl rfl (by decide) (by first | decide | simp [Value.category]) ?_
        refine a_iinc (pc := 57) (i := 1) (c := 1) (x := (q : Int)) (lv' := [(1, vi (((q : Int)) + 1)), (0, .ref 1)]) hC (by decide +kernel) 0 rfl (by decide) rfl ?_
        refine a_goto (pc := 60) (off := -19) hC 41 (by decide +kernel) (by decide) ?_
        refine a_sub (lv' := [(1, vi (((q + 1) : Int))), (0, .ref 1)]) [0, 1] rfl ?_
        refine g_G (G' := clrG (forgG G) 7 (q + 1) 5) (clrG_s _ _ _ _) ?_
        exact ih41 (q + 1) (by omega) (by omega)
  refine a_sub (lv' := [(1, vi ((0 : Int))), (0, .ref 1)]) [0, 1] rfl ?_
  refine g_G (G' := clrG (forgG G) 7 0 5) (by rw [clrG_0]; rfl) ?_
  exact L41 _ 0 (Nat.lt_succ_self _) (by omega)
end
section
/-! Equations -/
def elimF (r p : Nat → Int) (pv : Nat) (bf : Int) (c : Nat) : Nat → Int := fun z => if pv < z ∧ z < c then Int.tdiv ((p pv) * (r z) - (r pv) * (p z)) bf else r z
theorem elimF_hi {r p : Nat → Int} {pv : Nat} {bf : Int} {c z : Nat} (h : c ≤ z) : elimF r p pv bf c z = r z := if_neg (by omega)
theorem elimF_0 (r p : Nat → Int) (pv : Nat) (bf : Int) : elimF r p pv bf (pv + 1) = r := by funext z; exact if_neg (by omega)
theorem elimF_s {r p : Nat → Int} {pv : Nat} {bf : Int} {c : Nat} (h : pv < c) : up (elimF r p pv bf c) c (Int.tdiv ((p pv) * (r c) - (r pv) * (p c)) bf) = elimF r p pv bf (c + 1) := by
  funext z
  by_cases hz : z = c
  · subst hz; rw [up_s]; unfold elimF; rw [if_pos (by omega)]
  · rw [up_n _ _ hz]; unfold elimF
    by_cases h2 : pv < z ∧ z < c
    · rw [if_pos h2, if_pos (by omega)]
    · rw [if_neg h2, if_neg (by omega)]
/-- the rows below i but pv are eliminated -/
def elG (G : GT) (eo pv : Nat) (bf : Int) (i : Nat) : GT := fun b => if eo + 2 ≤ b ∧ b < eo + 2 + i ∧ b ≠ eo + 2 + pv then elimF (G b) (G (eo + 2 + pv)) pv bf 6 else G b
theorem elG_0 (G : GT) (eo pv : Nat) (bf : Int) : elG G eo pv bf 0 = G := by funext b; exact if_neg (by omega)
theorem elG_p (G : GT) (eo pv : Nat) (bf : Int) (i : Nat) : elG G eo pv bf i (eo + 2 + pv) = G (eo + 2 + pv) := if_neg (by omega)
theorem elG_hi {G : GT} {eo pv : Nat} {bf : Int} {i j : Nat} (h : i ≤ j) : elG G eo pv bf i (eo + 2 + j) = G (eo + 2 + j) := if_neg (by omega)
theorem elG_off {G : GT} {eo pv : Nat} {bf : Int} {i b : Nat} (h : b < eo + 2 ∨ eo + 2 + i ≤ b) : elG G eo pv bf i b = G b := if_neg (by omega)
theorem elG_skip {G : GT} {eo pv : Nat} {bf : Int} : elG G eo pv bf (pv + 1) = elG G eo pv bf pv := by
  funext b; unfold elG
  by_cases h : eo + 2 ≤ b ∧ b < eo + 2 + pv ∧ b ≠ eo + 2 + pv
  · rw [if_pos h, if_pos (by omega)]
  · rw [if_neg h, if_neg (by omega)]
theorem elG_s {G : GT} {eo pv : Nat} {bf : Int} {i : Nat} (h : i ≠ pv) : uG (elG G eo pv bf i) (eo + 2 + i) (elimF (elG G eo pv bf i (eo + 2 + i)) (elG G eo pv bf i (eo + 2 + pv)) pv bf 6) = elG G eo pv bf (i + 1) := by
  funext b
  by_cases hb : b = eo + 2 + i
  · subst hb
    rw [uG_s, elG_p, elG_hi (Nat.le_refl _)]
    unfold elG; rw [if_pos (by omega)]
  · rw [uG_n _ _ hb]; unfold elG
    by_cases h2 : eo + 2 ≤ b ∧ b < eo + 2 + i ∧ b ≠ eo + 2 + pv
    · rw [if_pos h2, if_pos (by omega)]
    · rw [if_neg h2, if_neg (by omega)]
/-- the elimination's rounds: the rows, and the pivot before -/
def solS (G : GT) (eo n : Nat) : Nat → GT × Int
  | 0 => (G, 1)
  | p + 1 => (elG (solS G eo n p).1 eo p (solS G eo n p).2 n, maxZ 1 ((solS G eo n p).1 (eo + 2 + p) p))
theorem solS_off {G : GT} {eo n b : Nat} (h : b < eo + 2 ∨ eo + 2 + n ≤ b) : ∀ p, (solS G eo n p).1 b = G b
  | 0 => rfl
  | p + 1 => by show elG _ _ _ _ _ b = G b; rw [elG_off h]; exact solS_off h p
theorem solS_bf (G : GT) (eo n : Nat) : ∀ p, (solS G eo n p).2 ≠ 0
  | 0 => by show (1 : Int) ≠ 0; decide
  | p + 1 => by show maxZ 1 _ ≠ 0; unfold maxZ; split <;> omega
def cpF (G : GT) (eo u i : Nat) : Nat → Int := fun j => if j < i then G (eo + 2 + j) 5 else G (u + 1) j
theorem cpF_0 (G : GT) (eo u : Nat) : cpF G eo u 0 = G (u + 1) := by funext j; exact if_neg (by omega)
theorem cpF_s (G : GT) (eo u i : Nat) : up (cpF G eo u i) i (G (eo + 2 + i) 5) = cpF G eo u (i + 1) := by
  funext j; unfold up cpF
  by_cases h : j = i
  · subst h; rw [if_pos rfl, if_pos (by omega)]
  · rw [if_neg h]
    by_cases h2 : j < i
    · rw [if_pos h2, if_pos (by omega)]
    · rw [if_neg h2, if_neg (by omega)]
/-- behind solve: the numbers of cell u hold the solution -/
def solG (G : GT) (eo u n : Nat) : GT := uG (uG (solS G eo n n).1 (u + 1) (cpF (solS G eo n n).1 eo u n)) u (up ((solS G eo n n).1 u) 1 (solS G eo n n).2)
/-- nothing outgrows a long -/
def SolOk (G : GT) (eo n : Nat) : Prop := ∀ p, p < n → inL (solS G eo n p).2 ∧ inL ((solS G eo n p).1 (eo + 2 + p) p) ∧ ∀ r c, r < n → r ≠ p → p < c → c ≤ 5 → inL (((solS G eo n p).1 (eo + 2 + p) p) * ((solS G eo n p).1 (eo + 2 + r) c) - ((solS G eo n p).1 (eo + 2 + r) p) * ((solS G eo n p).1 (eo + 2 + p) c))
def ShE (eo : Nat) : Prop := shape[eo]? = some (.inr (0, [fR (eo + 1)])) ∧ shape[eo + 1]? = some (shLL 5 (eo + 2)) ∧ ∀ j, j < 5 → shape[eo + 2 + j]? = some (shL 6)
def ShU (u : Nat) : Prop := shape[u]? = some (.inr (2, [fR (u + 1), fL])) ∧ shape[u + 1]? = some (shL 5)
theorem she23 : ShE 23 := ⟨rfl, rfl, fun j h => sh_e1 h⟩
theorem she33 : ShE 33 := ⟨rfl, rfl, fun j h => sh_e2 h⟩
theorem shu30 : ShU 30 := ⟨rfl, rfl⟩
theorem shu40 : ShU 40 := ⟨rfl, rfl⟩
theorem shu44 : ShU 44 := ⟨rfl, rfl⟩

set_option maxRecDepth 100000 in
set_option maxHeartbeats 4000000 in
theorem ct_E_begin (l : Launch) (D : va_G) (K : K5) (G : GT) (eo : Nat) (so : ShE eo) : Ct l D K y_E_begin c_E_begin 2 none 1 24 [.ref eo] G none (clrG G (eo + 2) 5 6) := by
  refine Ct.intro (by decide +kernel) (Nat.le_of_ble_eq_true rfl) ?_
  intro X hro hty hC hE
  refine a_iconst (pc := 0) (c := 0) hC (by decide +kernel) ?_
  refine a_istore_n (pc := 1) (q := 1) (i := 1) (lv' := [(1, vi 0), (0, .ref eo)]) hC (by decide +kernel) rfl (by decide) rfl ?_
  have L2 : ∀ (fuel : Nat) (i : Nat), 5 - i < fuel → i ≤ 5 → AW X 2 0 0 2 [(1, vi ((i : Int))), (0, .ref eo)] [] (hp K (clrG G (eo + 2) i 6)) := by
    intro fuel
    induction fuel with
    | zero => intro i h; exact absurd h (Nat.not_lt_zero _)
    | succ fuel ih2 =>
      intro i hm hi
      refine a_iload_n (pc := 2) (q := 1) (i := 1) (x := (i : Int)) hC (by decide +kernel) rfl 0 rfl ?_
      refine a_iconst (pc := 3) (c := 5) hC (by decide +kernel) ?_
      refine a_icmp_ge (pc := 4) (off := 19) hC 23 (by decide +kernel) (by decide) (by unfold inI; omega) (by unfold inI; omega) (fun c4 => ?_) (fun c4 => ?_)
      · skip
        exact g_vret (pc := 23) hC hE (by decide +kernel) (by rw [show i = 5 by omega])
      · skip
        refine a_aload_n (pc := 7) (q := 0) (i := 0) (x := eo) hC (by decide +kernel) rfl 1 rfl ?_
        refine g_get (pc := 8) (idx := 11) (ci := 0) (v := .ref (eo + 1)) hC eo 0 (by decide +kernel) so.1 rfl rfl rfl wrE (by decide) rfl (by decide +kernel) ?_
        refine a_iload_n (pc := 11) (q := 1) (i := 1) (x := (i : Int)) hC (by decide +kernel) rfl 0 rfl ?_
        refine g_aaldL (pc := 12) (a := eo + 1) (j := i) hC hty (by decide +kernel) so.2.1 (by omega) (by first | decide | omega) ?_
        refine a_lconst (pc := 13) (c := 0) (z := 0) hC (by decide +kernel) rfl ?_
        refine g_callS0 (pc := 14) (idx := 16) (av := [.ref (eo + 2 + i), vl 0]) (rest := []) (g := uG (clrG G (eo + 2) i 6) (eo + 2 + i) (fillF ((clrG G (eo + 2) i 6) (eo + 2 + i)) 6 0)) hC hro hty (by decide +kernel) k_JA_fill_AJJ (by decide +kernel) (by decide +kernel) (ct_JA_fill_AJJ X.la X.dd K (clrG G (eo + 2) i 6) (eo + 2 + i) 6 0 (so.2.2 i (by omega)) (by decide)) rfl rfl (by decide) (by first | decide | simp [Value.category]) ?_
        refine a_iinc (pc := 17) (i := 1) (c := 1) (x := (i : Int)) (lv' := [(1, vi (((i : Int)) + 1)), (0, .ref eo)]) hC (by decide +kernel) 0 rfl (by decide) rfl ?_
        refine a_goto (pc := 20) (off := -18) hC 2 (by decide +kernel) (by decide) ?_
        refine a_sub (lv' := [(1, vi (((i + 1) : Int))), (0, .ref eo)]) [0, 1] rfl ?_
        refine g_G (G' := clrG G (eo + 2) (i + 1) 6) (clrG_s _ _ _ _) ?_
        exact ih2 (i + 1) (by omega) (by omega)
  refine a_sub (lv' := [(1, vi ((0 : Int))), (0, .ref eo)]) [0, 1] rfl ?_
  refine g_G (G' := clrG G (eo + 2) 0 6) (clrG_0 _ _ _).symm ?_
  exact L2 _ 0 (Nat.lt_succ_self _) (by omega)

set_option maxRecDepth 100000 in
set_option maxHeartbeats 4000000 in
theorem ct_E_eliminate (l : Launch) (D : va_G) (K : K5) (G : GT) (eo row pv : Nat) (bf : Int) (so : ShE eo) (hrow : row < 5) (hpv : pv < 5) (hne : row ≠ pv) (hbi : inL bf) (hb : bf ≠ 0) (hr : ∀ c, pv < c → c ≤ 5 → inL ((G (eo + 2 + pv) pv) * (G (eo + 2 + row) c) - (G (eo + 2 + row) pv) * (G (eo + 2 + pv) c))) : Ct l D K y_E_eliminate c_E_eliminate 12 none 0 0 [.ref eo, vi ((row : Int)), vi ((pv : Int)), vl bf] G none (uG G (eo + 2 + row) (elimF (G (eo + 2 + row)) (G (eo + 2 + pv)) pv bf 6)) := by
  refine Ct.intro (by decide +kernel) (Nat.le_of_ble_eq_true rfl) ?_
  intro X hro hty hC hE
  refine a_lload_n (pc := 0) (q := 3) (i := 3) (x := bf) hC (by decide +kernel) rfl 3 rfl ?_
  refine a_lconst (pc := 1) (c := 0) (z := 0) hC (by decide +kernel) rfl ?_
  refine a_lcmp (pc := 2) hC (by decide +kernel) hbi inL_0 ?_
  refine a_if_ne (pc := 3) (off := 4) hC 7 (by decide +kernel) (by decide) (cmpZ_in _ _) (fun c3 => ?_) (fun c3 => ?_)
  · skip
    rw [cmpZ_eq] at c3
    refine a_aload_n (pc := 7) (q := 0) (i := 0) (x := eo) hC (by decide +kernel) rfl 0 rfl ?_
    refine g_get (pc := 8) (idx := 11) (ci := 0) (v := .ref (eo + 1)) hC eo 0 (by decide +kernel) so.1 rfl rfl rfl wrE (by decide) rfl (by decide +kernel) ?_
    refine a_iload_n (pc := 11) (q := 2) (i := 2) (x := (pv : Int)) hC (by decide +kernel) rfl 2 rfl ?_
    refine g_aaldL (pc := 12) (a := eo + 1) (j := pv) hC hty (by decide +kernel) so.2.1 (by omega) (by first | decide | omega) ?_
    refine a_iload_n (pc := 13) (q := 2) (i := 2) (x := (pv : Int)) hC (by decide +kernel) rfl 2 rfl ?_
    refine g_lald (pc := 14) (a := eo + 2 + pv) (j := pv) hC hty (by decide +kernel) (so.2.2 pv (by omega)) (by omega) (by first | decide | omega) ?_
    refine a_lstore (pc := 15) (q := 0) (i := 5) (lv' := [(5, vl (G (eo + 2 + pv) pv)), (0, .ref eo), (1, vi ((row : Int))), (2, vi ((pv : Int))), (3, vl bf)]) hC (by decide +kernel) (by decide) rfl ?_
    refine a_aload_n (pc := 17) (q := 0) (i := 0) (x := eo) hC (by decide +kernel) rfl 1 rfl ?_
    refine g_get (pc := 18) (idx := 11) (ci := 0) (v := .ref (eo + 1)) hC eo 0 (by decide +kernel) so.1 rfl rfl rfl wrE (by decide) rfl (by decide +kernel) ?_
    refine a_iload_n (pc := 21) (q := 1) (i := 1) (x := (row : Int)) hC (by decide +kernel) rfl 2 rfl ?_
    refine g_aaldL (pc := 22) (a := eo + 1) (j := row) hC hty (by decide +kernel) so.2.1 (by omega) (by first | decide | omega) ?_
    refine a_iload_n (pc := 23) (q := 2) (i := 2) (x := (pv : Int)) hC (by decide +kernel) rfl 3 rfl ?_
    refine g_lald (pc := 24) (a := eo + 2 + row) (j := pv) hC hty (by decide +kernel) (so.2.2 row (by omega)) (by omega) (by first | decide | omega) ?_
    refine a_lstore (pc := 25) (q := 0) (i := 7) (lv' := [(7, vl (G (eo + 2 + row) pv)), (5, vl (G (eo + 2 + pv) pv)), (0, .ref eo), (1, vi ((row : Int))), (2, vi ((pv : Int))), (3, vl bf)]) hC (by decide +kernel) (by decide) rfl ?_
    refine a_iload_n (pc := 27) (q := 2) (i := 2) (x := (pv : Int)) hC (by decide +kernel) rfl 4 rfl ?_
    refine a_iconst (pc := 28) (c := 1) hC (by decide +kernel) ?_
    refine a_iadd (pc := 29) hC (by decide +kernel) ?_
    refine a_istore (pc := 30) (q := 0) (i := 9) (lv' := [(9, vi (((pv : Int)) + 1)), (7, vl (G (eo + 2 + row) pv)), (5, vl (G (eo + 2 + pv) pv)), (0, .ref eo), (1, vi ((row : Int))), (2, vi ((pv : Int))), (3, vl bf)]) hC (by decide +kernel) (by decide) rfl ?_
    have L32 : ∀ (fuel : Nat) (c : Nat), 6 - c < fuel → pv < c → c ≤ 6 → AW X 12 0 0 32 [(9, vi ((c : Int))), (7, vl (G (eo + 2 + row) pv)), (5, vl (G (eo + 2 + pv) pv)), (0, .ref eo), (1, vi ((row : Int))), (2, vi ((pv : Int))), (3, vl bf)] [] (hp K (uG G (eo + 2 + row) (elimF (G (eo + 2 + row)) (G (eo + 2 + pv)) pv bf c))) := by
      intro fuel
      induction fuel with
      | zero => intro c h; exact absurd h (Nat.not_lt_zero _)
      | succ fuel ih32 =>
        intro c hm hc hc6
        refine a_iload (pc := 32) (i := 9) (x := (c : Int)) hC (by decide +kernel) 0 rfl ?_
        refine a_iconst (pc := 34) (c := 5) hC (by decide +kernel) ?_
        refine a_icmp_gt (pc := 35) (off := 49) hC 84 (by decide +kernel) (by decide) (by unfold inI; omega) (by unfold inI; omega) (fun c35 => ?_) (fun c35 => ?_)
        · skip
          exact g_vret (pc := 84) hC hE (by decide +kernel) (by rw [show c = 6 by omega])
        · skip
          refine a_lload (pc := 38) (i := 5) (x := G (eo + 2 + pv) pv) hC (by decide +kernel) 2 rfl ?_
          refine a_aload_n (pc := 40) (q := 0) (i := 0) (x := eo) hC (by decide +kernel) rfl 3 rfl ?_
          refine g_get (pc := 41) (idx := 11) (ci := 0) (v := .ref (eo + 1)) hC eo 0 (by decide +kernel) so.1 rfl rfl rfl wrE (by decide) rfl (by decide +kernel) ?_
          refine a_iload_n (pc := 44) (q := 1) (i := 1) (x := (row : Int)) hC (by decide +kernel) rfl 4 rfl ?_
          refine g_aaldL (pc := 45) (a := eo + 1) (j := row) hC hty (by decide +kernel) so.2.1 (by omega) (by first | decide | omega) ?_
          refine a_iload (pc := 46) (i := 9) (x := (c : Int)) hC (by decide +kernel) 0 rfl ?_
          refine g_lald (pc := 48) (a := eo + 2 + row) (j := c) hC hty (by decide +kernel) (so.2.2 row (by omega)) (by omega) (by first | decide | omega) ?_
          refine g_topl (y := G (eo + 2 + row) c) (by rw [uG_s]; exact elimF_hi (Nat.le_refl _)) ?_
          refine a_lmul (pc := 49) hC (by decide +kernel) ?_
          refine a_lload (pc := 50) (i := 7) (x := G (eo + 2 + row) pv) hC (by decide +kernel) 1 rfl ?_
          refine a_aload_n (pc := 52) (q := 0) (i := 0) (x := eo) hC (by decide +kernel) rfl 3 rfl ?_
          refine g_get (pc := 53) (idx := 11) (ci := 0) (v := .ref (eo + 1)) hC eo 0 (by decide +kernel) so.1 rfl rfl rfl wrE (by decide) rfl (by decide +kernel) ?_
          refine a_iload_n (pc := 56) (q := 2) (i := 2) (x := (pv : Int)) hC (by decide +kernel) rfl 5 rfl ?_
          refine g_aaldL (pc := 57) (a := eo + 1) (j := pv) hC hty (by decide +kernel) so.2.1 (by omega) (by first | decide | omega) ?_
          refine a_iload (pc := 58) (i := 9) (x := (c : Int)) hC (by decide +kernel) 0 rfl ?_
          refine g_lald (pc := 60) (a := eo + 2 + pv) (j := c) hC hty (by decide +kernel) (so.2.2 pv (by omega)) (by omega) (by first | decide | omega) ?_
          refine g_topl (y := G (eo + 2 + pv) c) (by rw [uG_n _ _ (by omega)]) ?_
          refine a_lmul (pc := 61) hC (by decide +kernel) ?_
          refine a_lsub (pc := 62) hC (by decide +kernel) ?_
          refine a_lstore (pc := 63) (q := 0) (i := 10) (lv' := [(10, vl (((G (eo + 2 + pv) pv) * (G (eo + 2 + row) c)) - ((G (eo + 2 + row) pv) * (G (eo + 2 + pv) c)))), (9, vi ((c : Int))), (7, vl (G (eo + 2 + row) pv)), (5, vl (G (eo + 2 + pv) pv)), (0, .ref eo), (1, vi ((row : Int))), (2, vi ((pv : Int))), (3, vl bf)]) hC (by decide +kernel) (by decide) rfl ?_
          refine a_aload_n (pc := 65) (q := 0) (i := 0) (x := eo) hC (by decide +kernel) rfl 4 rfl ?_
          refine g_get (pc := 66) (idx := 11) (ci := 0) (v := .ref (eo + 1)) hC eo 0 (by decide +kernel) so.1 rfl rfl rfl wrE (by decide) rfl (by decide +kernel) ?_
          refine a_iload_n (pc := 69) (q := 1) (i := 1) (x := (row : Int)) hC (by decide +kernel) rfl 5 rfl ?_
          refine g_aaldL (pc := 70) (a := eo + 1) (j := row) hC hty (by decide +kernel) so.2.1 (by omega) (by first | decide | omega) ?_
          refine a_iload (pc := 71) (i := 9) (x := (c : Int)) hC (by decide +kernel) 1 rfl ?_
          refine a_lload (pc := 73) (i := 10) (x := ((G (eo + 2 + pv) pv) * (G (eo + 2 + row) c)) - ((G (eo + 2 + row) pv) * (G (eo + 2 + pv) c))) hC (by decide +kernel) 0 rfl ?_
          refine a_lload_n (pc := 75) (q := 3) (i := 3) (x := bf) hC (by decide +kernel) rfl 7 rfl ?_
          refine a_ldiv (pc := 76) hC (by decide +kernel) (hr c (by omega) (by omega)) hbi hb ?_
          refine g_last (pc := 77) (a := eo + 2 + row) (j := c) (x := Int.tdiv (((G (eo + 2 + pv) pv) * (G (eo + 2 + row) c)) - ((G (eo + 2 + row) pv) * (G (eo + 2 + pv) c))) bf) hC hty (by decide +kernel) (so.2.2 row (by omega)) (by omega) (by first | decide | omega) ?_
          refine a_iinc (pc := 78) (i := 9) (c := 1) (x := (c : Int)) (lv' := [(9, vi (((c : Int)) + 1)), (10, vl (((G (eo + 2 + pv) pv) * (G (eo + 2 + row) c)) - ((G (eo + 2 + row) pv) * (G (eo + 2 + pv) c)))), (7, vl (G (eo + 2 + row) pv)), (5, vl (G (eo + 2 + pv) pv)), (0, .ref eo), (1, vi ((row : Int))), (2, vi ((pv : Int))), (3, vl bf)]) hC (by decide +kernel) 1 rfl (by decide) rfl ?_
          refine a_goto (pc := 81) (off := -49) hC 32 (by decide +kernel) (by decide) ?_
          refine a_sub (lv' := [(9, vi (((c + 1) : Int))), (7, vl (G (eo + 2 + row) pv)), (5, vl (G (eo + 2 + pv) pv)), (0, .ref eo), (1, vi ((row : Int))), (2, vi ((pv : Int))), (3, vl bf)]) [0, 2, 3, 4, 5, 6, 7] rfl ?_
          refine g_G (G' := uG G (eo + 2 + row) (elimF (G (eo + 2 + row)) (G (eo + 2 + pv)) pv bf (c + 1))) (by rw [uG_s, uG_uG, elimF_s hc]) ?_
          exact ih32 (c + 1) (by omega) (by omega) (by omega)
    refine a_sub (lv' := [(9, vi (((pv + 1) : Int))), (7, vl (G (eo + 2 + row) pv)), (5, vl (G (eo + 2 + pv) pv)), (0, .ref eo), (1, vi ((row : Int))), (2, vi ((pv : Int))), (3, vl bf)]) [0, 1, 2, 3, 4, 5, 6] rfl ?_
    refine g_G (G' := uG G (eo + 2 + row) (elimF (G (eo + 2 + row)) (G (eo + 2 + pv)) pv bf (pv + 1))) (by rw [elimF_0, uG_self]) ?_
    exact L32 _ (pv + 1) (Nat.lt_succ_self _) (by omega) (by omega)
  · skip
    rw [cmpZ_eq] at c3
    exact absurd c3 hb

set_option maxRecDepth 100000 in
set_option maxHeartbeats 4000000 in
theorem ct_E_solve (l : Launch) (D : va_G) (K : K5) (G : GT) (eo n u : Nat) (so : ShE eo) (su : ShU u) (hn5 : n ≤ 5) (hu : eo + 2 + 5 ≤ u ∨ u + 2 ≤ eo) (hok : SolOk G eo n) : Ct l D K y_E_solve c_E_solve 7 none 1 31 [.ref eo, vi ((n : Int)), .ref u] G none (solG G eo u n) := by
  refine Ct.intro (by decide +kernel) (Nat.le_of_ble_eq_true rfl) ?_
  intro X hro hty hC hE
  refine a_lconst (pc := 0) (c := 1) (z := 1) hC (by decide +kernel) rfl ?_
  refine a_lstore_n (pc := 1) (q := 3) (i := 3) (lv' := [(3, vl 1), (0, .ref eo), (1, vi ((n : Int))), (2, .ref u)]) hC (by decide +kernel) rfl (by decide) rfl ?_
  refine a_iconst (pc := 2) (c := 0) hC (by decide +kernel) ?_
  refine a_istore (pc := 3) (q := 0) (i := 5) (lv' := [(5, vi 0), (3, vl 1), (0, .ref eo), (1, vi ((n : Int))), (2, .ref u)]) hC (by decide +kernel) (by decide) rfl ?_
  have L5 : ∀ (fuel : Nat) (p : Nat), n - p < fuel → p ≤ n → AW X 7 0 0 5 [(5, vi ((p : Int))), (3, vl ((solS G eo n p).2)), (0, .ref eo), (1, vi ((n : Int))), (2, .ref u)] [] (hp K ((solS G eo n p).1)) := by
    intro fuel
    induction fuel with
    | zero => intro p h; exact absurd h (Nat.not_lt_zero _)
    | succ fuel ih5 =>
      intro p hm hp5
      refine a_iload (pc := 5) (i := 5) (x := (p : Int)) hC (by decide +kernel) 0 rfl ?_
      refine a_iload_n (pc := 7) (q := 1) (i := 1) (x := (n : Int)) hC (by decide +kernel) rfl 3 rfl ?_
      refine a_icmp_ge (pc := 8) (off := 55) hC 63 (by decide +kernel) (by decide) (by unfold inI; omega) (by unfold inI; omega) (fun c8 => ?_) (fun c8 => ?_)
      · skip
        refine a_iconst (pc := 63) (c := 0) hC (by decide +kernel) ?_
        refine a_istore (pc := 64) (q := 0) (i := 5) (lv' := [(5, vi 0), (3, vl ((solS G eo n p).2)), (0, .ref eo), (1, vi ((n : Int))), (2, .ref u)]) hC (by decide +kernel) (by decide) rfl ?_
        have L66 : ∀ (fuel : Nat) (r : Nat), n - r < fuel → r ≤ n → AW X 7 0 0 66 [(5, vi ((r : Int))), (3, vl ((solS G eo n n).2)), (0, .ref eo), (1, vi ((n : Int))), (2, .ref u)] [] (hp K (uG (solS G eo n n).1 (u + 1) (cpF (solS G eo n n).1 eo u r))) := by
          intro fuel
          induction fuel with
          | zero => intro r h; exact absurd h (Nat.not_lt_zero _)
          | succ fuel ih66 =>
            intro r hm hr
            refine a_iload (pc := 66) (i := 5) (x := (r : Int)) hC (by decide +kernel) 0 rfl ?_
            refine a_iload_n (pc := 68) (q := 1) (i := 1) (x := (n : Int)) hC (by decide +kernel) rfl 3 rfl ?_
            refine a_icmp_ge (pc := 69) (off := 25) hC 94 (by decide +kernel) (by decide) (by unfold inI; omega) (by unfold inI; omega) (fun c69 => ?_) (fun c69 => ?_)
            · skip
              refine a_aload_n (pc := 94) (q := 2) (i := 2) (x := u) hC (by decide +kernel) rfl 4 rfl ?_
              refine a_lload_n (pc := 95) (q := 3) (i := 3) (x := (solS G eo n n).2) hC (by decide +kernel) rfl 1 rfl ?_
              refine g_putN (pc := 96) (idx := 38) (ci := 2) (x := (solS G eo n n).2) (host := "PlanValues") hC u 1 (by decide +kernel) su.1 rfl (congrArg (fun z => vl z) (up_s _ _ _)) rfl wrU (by decide) rfl (by decide +kernel) rfl (ok_long _) ?_
              exact g_vret (pc := 99) hC hE (by decide +kernel) (by rw [show r = n by omega]; unfold solG; rw [uG_n _ _ (by omega)])
            · skip
              refine a_aload_n (pc := 72) (q := 2) (i := 2) (x := u) hC (by decide +kernel) rfl 4 rfl ?_
              refine g_getN (pc := 73) (idx := 32) (ci := 2) (v := .ref (u + 1)) (host := "PlanValues") hC u 0 (by decide +kernel) su.1 rfl rfl rfl wrU (by decide) rfl (by decide +kernel) ?_
              refine a_iload (pc := 76) (i := 5) (x := (r : Int)) hC (by decide +kernel) 0 rfl ?_
              refine a_aload_n (pc := 78) (q := 0) (i := 0) (x := eo) hC (by decide +kernel) rfl 2 rfl ?_
              refine g_get (pc := 79) (idx := 11) (ci := 0) (v := .ref (eo + 1)) hC eo 0 (by decide +kernel) so.1 rfl rfl rfl wrE (by decide) rfl (by decide +kernel) ?_
              refine a_iload (pc := 82) (i := 5) (x := (r : Int)) hC (by decide +kernel) 0 rfl ?_
              refine g_aaldL (pc := 84) (a := eo + 1) (j := r) hC hty (by decide +kernel) so.2.1 (by omega) (by first | decide | omega) ?_
              refine a_iconst (pc := 85) (c := 5) hC (by decide +kernel) ?_
              refine g_top (y := ((5 : Nat) : Int)) (by omega) ?_
              refine g_lald (pc := 86) (a := eo + 2 + r) (j := 5) hC hty (by decide +kernel) (so.2.2 r (by omega)) (by omega) (by first | decide | omega) ?_
              refine g_topl (y := (solS G eo n n).1 (eo + 2 + r) 5) (by rw [uG_n _ _ (by omega)]) ?_
              refine g_last (pc := 87) (a := u + 1) (j := r) (x := (solS G eo n n).1 (eo + 2 + r) 5) hC hty (by decide +kernel) su.2 (by omega) (by first | decide | omega) ?_
              refine a_iinc (pc := 88) (i := 5) (c := 1) (x := (r : Int)) (lv' := [(5, vi (((r : Int)) + 1)), (3, vl ((solS G eo n n).2)), (0, .ref eo), (1, vi ((n : Int))), (2, .ref u)]) hC (by decide +kernel) 0 rfl (by decide) rfl ?_
              refine a_goto (pc := 91) (off := -25) hC 66 (by decide +kernel) (by decide) ?_
              refine a_sub (lv' := [(5, vi (((r + 1) : Int))), (3, vl ((solS G eo n n).2)), (0, .ref eo), (1, vi ((n : Int))), (2, .ref u)]) [0, 1, 2, 3, 4] rfl ?_
              refine g_G (G' := uG (solS G eo n n).1 (u + 1) (cpF (solS G eo n n).1 eo u (r + 1))) (by rw [uG_s, uG_uG, cpF_s]) ?_
              exact ih66 (r + 1) (by omega) (by omega)
        refine a_sub (lv' := [(5, vi ((0 : Int))), (3, vl ((solS G eo n n).2)), (0, .ref eo), (1, vi ((n : Int))), (2, .ref u)]) [0, 1, 2, 3, 4] (by rw [show p = n by omega]; rfl) ?_
        refine g_G (G' := uG (solS G eo n n).1 (u + 1) (cpF (solS G eo n n).1 eo u 0)) (by rw [show p = n by omega, cpF_0, uG_self]) ?_
        exact L66 _ 0 (Nat.lt_succ_self _) (by omega)
      · skip
        refine a_iconst (pc := 11) (c := 0) hC (by decide +kernel) ?_
        refine a_istore (pc := 12) (q := 0) (i := 6) (lv' := [(6, vi 0), (5, vi ((p : Int))), (3, vl ((solS G eo n p).2)), (0, .ref eo), (1, vi ((n : Int))), (2, .ref u)]) hC (by decide +kernel) (by decide) rfl ?_
        have L14 : ∀ (fuel : Nat) (i : Nat), n - i < fuel → i ≤ n → AW X 7 0 0 14 [(6, vi ((i : Int))), (5, vi ((p : Int))), (3, vl ((solS G eo n p).2)), (0, .ref eo), (1, vi ((n : Int))), (2, .ref u)] [] (hp K (elG (solS G eo n p).1 eo p (solS G eo n p).2 i)) := by
          intro fuel
          induction fuel with
          | zero => intro i h; exact absurd h (Nat.not_lt_zero _)
          | succ fuel ih14 =>
            intro i hm hi
            have hok2 := hok p (by omega)
            refine a_iload (pc := 14) (i := 6) (x := (i : Int)) hC (by decide +kernel) 0 rfl ?_
            refine a_iload_n (pc := 16) (q := 1) (i := 1) (x := (n : Int)) hC (by decide +kernel) rfl 4 rfl ?_
            refine a_icmp_ge (pc := 17) (off := 25) hC 42 (by decide +kernel) (by decide) (by unfold inI; omega) (by unfold inI; omega) (fun c17 => ?_) (fun c17 => ?_)
            · skip
              refine a_lconst (pc := 42) (c := 1) (z := 1) hC (by decide +kernel) rfl ?_
              refine a_aload_n (pc := 43) (q := 0) (i := 0) (x := eo) hC (by decide +kernel) rfl 3 rfl ?_
              refine g_get (pc := 44) (idx := 11) (ci := 0) (v := .ref (eo + 1)) hC eo 0 (by decide +kernel) so.1 rfl rfl rfl wrE (by decide) rfl (by decide +kernel) ?_
              refine a_iload (pc := 47) (i := 5) (x := (p : Int)) hC (by decide +kernel) 1 rfl ?_
              refine g_aaldL (pc := 49) (a := eo + 1) (j := p) hC hty (by decide +kernel) so.2.1 (by omega) (by first | decide | omega) ?_
              refine a_iload (pc := 50) (i := 5) (x := (p : Int)) hC (by decide +kernel) 1 rfl ?_
              refine g_lald (pc := 52) (a := eo + 2 + p) (j := p) hC hty (by decide +kernel) (so.2.2 p (by omega)) (by omega) (by first | decide | omega) ?_
              refine g_topl (y := (solS G eo n p).1 (eo + 2 + p) p) (by rw [elG_p]) ?_
              refine g_callS (pc := 53) (idx := 26) (av := [vl 1, vl ((solS G eo n p).1 (eo + 2 + p) p)]) (rest := []) (g := elG (solS G eo n p).1 eo p (solS G eo n p).2 i) (v := vl (maxZ 1 ((solS G eo n p).1 (eo + 2 + p) p))) hC hro hty (by decide +kernel) k_JM_max_JJ (by decide +kernel) (by decide +kernel) (ct_JM_max_JJ X.la X.dd K (elG (solS G eo n p).1 eo p (solS G eo n p).2 i) 1 ((solS G eo n p).1 (eo + 2 + p) p) ⟨by decide, by decide⟩ (hok p (by omega)).2.1) rfl rfl (by decide) (by first | decide | simp [Value.category]) ?_
              refine a_lstore_n (pc := 56) (q := 3) (i := 3) (lv' := [(3, vl (maxZ 1 ((solS G eo n p).1 (eo + 2 + p) p))), (6, vi ((i : Int))), (5, vi ((p : Int))), (0, .ref eo), (1, vi ((n : Int))), (2, .ref u)]) hC (by decide +kernel) rfl (by decide) rfl ?_
              refine a_iinc (pc := 57) (i := 5) (c := 1) (x := (p : Int)) (lv' := [(5, vi (((p : Int)) + 1)), (3, vl (maxZ 1 ((solS G eo n p).1 (eo + 2 + p) p))), (6, vi ((i : Int))), (0, .ref eo), (1, vi ((n : Int))), (2, .ref u)]) hC (by decide +kernel) 2 rfl (by decide) rfl ?_
              refine a_goto (pc := 60) (off := -55) hC 5 (by decide +kernel) (by decide) ?_
              refine a_sub (lv' := [(5, vi (((p + 1) : Int))), (3, vl ((solS G eo n (p + 1)).2)), (0, .ref eo), (1, vi ((n : Int))), (2, .ref u)]) [0, 1, 3, 4, 5] rfl ?_
              refine g_G (G' := (solS G eo n (p + 1)).1) (by rw [show i = n by omega]; rfl) ?_
              exact ih5 (p + 1) (by omega) (by omega)
            · skip
              refine a_iload (pc := 20) (i := 6) (x := (i : Int)) hC (by decide +kernel) 0 rfl ?_
              refine a_iload (pc := 22) (i := 5) (x := (p : Int)) hC (by decide +kernel) 1 rfl ?_
              refine a_icmp_eq (pc := 24) (off := 12) hC 36 (by decide +kernel) (by decide) (by unfold inI; omega) (by unfold inI; omega) (fun c24 => ?_) (fun c24 => ?_)
              · skip
                have hip : i = p := by omega
                refine a_iinc (pc := 36) (i := 6) (c := 1) (x := (i : Int)) (lv' := [(6, vi (((i : Int)) + 1)), (5, vi ((p : Int))), (3, vl ((solS G eo n p).2)), (0, .ref eo), (1, vi ((n : Int))), (2, .ref u)]) hC (by decide +kernel) 0 rfl (by decide) rfl ?_
                refine a_goto (pc := 39) (off := -25) hC 14 (by decide +kernel) (by decide) ?_
                refine a_sub (lv' := [(6, vi (((i + 1) : Int))), (5, vi ((p : Int))), (3, vl ((solS G eo n p).2)), (0, .ref eo), (1, vi ((n : Int))), (2, .ref u)]) [0, 1, 2, 3, 4, 5] rfl ?_
                refine g_G (G' := elG (solS G eo n p).1 eo p (solS G eo n p).2 (i + 1)) (by first | exact elG_s (fun e => c24 (by omega)) | (rw [hip]; exact elG_skip.symm)) ?_
                exact ih14 (i + 1) (by omega) (by omega)
              · skip
                refine a_aload_n (pc := 27) (q := 0) (i := 0) (x := eo) hC (by decide +kernel) rfl 3 rfl ?_
                refine a_iload (pc := 28) (i := 6) (x := (i : Int)) hC (by decide +kernel) 0 rfl ?_
                refine a_iload (pc := 30) (i := 5) (x := (p : Int)) hC (by decide +kernel) 1 rfl ?_
                refine a_lload_n (pc := 32) (q := 3) (i := 3) (x := (solS G eo n p).2) hC (by decide +kernel) rfl 2 rfl ?_
                refine g_callV0 (pc := 33) (idx := 22) (i := eo) (av := [vi ((i : Int)), vi ((p : Int)), vl ((solS G eo n p).2)]) (rest := []) (g := uG (elG (solS G eo n p).1 eo p (solS G eo n p).2 i) (eo + 2 + i) (elimF ((elG (solS G eo n p).1 eo p (solS G eo n p).2 i) (eo + 2 + i)) ((elG (solS G eo n p).1 eo p (solS G eo n p).2 i) (eo + 2 + p)) p (solS G eo n p).2 6)) hC hro hty (by decide +kernel) rfl so.1 k_E_eliminate (by decide +kernel) (by decide +kernel) (by decide +kernel) (ct_E_eliminate X.la X.dd K (elG (solS G eo n p).1 eo p (solS G eo n p).2 i) eo i p (solS G eo n p).2 so (by omega) (by omega) (fun e => c24 (by omega)) (hok p (by omega)).1 (solS_bf _ _ _ _) (fun c h1 h2 => by rw [elG_p, elG_hi (Nat.le_refl _)]; exact (hok p (by omega)).2.2 i c (by omega) (fun e => c24 (by omega)) h1 h2)) rfl rfl (by decide) (by first | decide | simp [Value.category]) ?_
                refine a_iinc (pc := 36) (i := 6) (c := 1) (x := (i : Int)) (lv' := [(6, vi (((i : Int)) + 1)), (5, vi ((p : Int))), (3, vl ((solS G eo n p).2)), (0, .ref eo), (1, vi ((n : Int))), (2, .ref u)]) hC (by decide +kernel) 0 rfl (by decide) rfl ?_
                refine a_goto (pc := 39) (off := -25) hC 14 (by decide +kernel) (by decide) ?_
                refine a_sub (lv' := [(6, vi (((i + 1) : Int))), (5, vi ((p : Int))), (3, vl ((solS G eo n p).2)), (0, .ref eo), (1, vi ((n : Int))), (2, .ref u)]) [0, 1, 2, 3, 4, 5] rfl ?_
                refine g_G (G' := elG (solS G eo n p).1 eo p (solS G eo n p).2 (i + 1)) (by first | exact elG_s (fun e => c24 (by omega)) | (rw [hip]; exact elG_skip.symm)) ?_
                exact ih14 (i + 1) (by omega) (by omega)
        refine a_sub (lv' := [(6, vi ((0 : Int))), (5, vi ((p : Int))), (3, vl ((solS G eo n p).2)), (0, .ref eo), (1, vi ((n : Int))), (2, .ref u)]) [0, 1, 2, 3, 4, 5] rfl ?_
        refine g_G (G' := elG (solS G eo n p).1 eo p (solS G eo n p).2 0) (elG_0 _ _ _ _).symm ?_
        exact L14 _ 0 (Nat.lt_succ_self _) (by omega)
  refine a_sub (lv' := [(5, vi ((0 : Int))), (3, vl ((solS G eo n 0).2)), (0, .ref eo), (1, vi ((n : Int))), (2, .ref u)]) [0, 1, 2, 3, 4] rfl ?_
  refine g_G (G' := (solS G eo n 0).1) rfl ?_
  exact L5 _ 0 (Nat.lt_succ_self _) (by omega)
end
section
/-! PlanWorths -/
def scaleZ (G : GT) (q : Nat) : Int := G 1 2 * maxZ 1 (G 5 q)
def slotN (G : GT) (pl s : Nat) : Nat := s * 3 + (G pl s).toNat
/-- the row of a state whose act is in slot q: t weights written -/
def rowW (G : GT) (q t : Nat) (old : Nat → Int) : Nat → Int := fun c => if c < t then (-(G 1 1)) * (G (7 + q) c) else old c
def rowF (G : GT) (N q s : Nat) (old : Nat → Int) : Nat → Int := up (up (rowW G q N old) s (rowW G q N old s + scaleZ G q)) 5 (scaleZ G q * G 4 q)
def folG (G : GT) (pl N i : Nat) : GT := fun b => if 25 ≤ b ∧ b < 25 + i then rowF G N (slotN G pl (b - 25)) (b - 25) (clrG G 25 5 6 b) else clrG G 25 5 6 b
theorem clr_off {G : GT} {b0 n len b : Nat} (h : b < b0 ∨ b0 + n ≤ b) : clrG G b0 n len b = G b := if_neg (by omega)
theorem folG_0 (G : GT) (pl N : Nat) : folG G pl N 0 = clrG G 25 5 6 := by funext b; exact if_neg (by omega)
theorem folG_off {G : GT} {pl N i b : Nat} (hi : i ≤ 5) (h : b < 25 ∨ 30 ≤ b) : folG G pl N i b = G b := by
  unfold folG; rw [if_neg (by omega), clr_off (by omega)]
theorem folG_at (G : GT) (pl N i : Nat) : folG G pl N i (25 + i) = clrG G 25 5 6 (25 + i) := if_neg (by omega)
def inG (G : GT) (pl N s q t : Nat) : GT := uG (folG G pl N s) (25 + s) (rowW G q t (clrG G 25 5 6 (25 + s)))
theorem rowW_0 (G : GT) (q : Nat) (old : Nat → Int) : rowW G q 0 old = old := by funext c; exact if_neg (by omega)
theorem rowW_s (G : GT) (q t : Nat) (old : Nat → Int) : up (rowW G q t old) t ((-(G 1 1)) * (G (7 + q) t)) = rowW G q (t + 1) old := by
  funext c; unfold up rowW
  by_cases h : c = t
  · subst h; rw [if_pos rfl, if_pos (by omega)]
  · rw [if_neg h]
    by_cases h2 : c < t
    · rw [if_pos h2, if_pos (by omega)]
    · rw [if_neg h2, if_neg (by omega)]
theorem inG_0 (G : GT) (pl N s q : Nat) : inG G pl N s q 0 = folG G pl N s := by
  unfold inG; rw [rowW_0, ← folG_at, uG_self]
theorem inG_s (G : GT) (pl N s q t : Nat) : uG (inG G pl N s q t) (25 + s) (up (inG G pl N s q t (25 + s)) t ((-(G 1 1)) * (G (7 + q) t))) = inG G pl N s q (t + 1) := by
  unfold inG; rw [uG_s, uG_uG, rowW_s]
theorem inG_off {G : GT} {pl N s q t b : Nat} (hs : s < 5) (h : b < 25 ∨ 30 ≤ b) : inG G pl N s q t b = G b := by
  unfold inG; rw [uG_n _ _ (by omega), folG_off (by omega) h]
theorem inG_r (G : GT) (pl N s q t : Nat) : inG G pl N s q t (25 + s) = rowW G q t (clrG G 25 5 6 (25 + s)) := uG_s _ _ _
theorem folG_s {G : GT} {pl N s : Nat} : uG (folG G pl N s) (25 + s) (rowF G N (slotN G pl s) s (clrG G 25 5 6 (25 + s))) = folG G pl N (s + 1) := by
  funext b
  by_cases hb : b = 25 + s
  · subst hb
    rw [uG_s]; unfold folG
    rw [if_pos (by omega), show 25 + s - 25 = s by omega]
  · rw [uG_n _ _ hb]; unfold folG
    by_cases h2 : 25 ≤ b ∧ b < 25 + s
    · rw [if_pos h2, if_pos (by omega)]
    · rw [if_neg h2, if_neg (by omega)]
/-- behind follow -/
def folR (G : GT) (pl N : Nat) : GT := solG (folG G pl N N) 23 30 N
/-- a plan: an act's number for each state -/
def PlOk (G : GT) (pl N : Nat) : Prop := (pl = 47 ∨ pl = 48 ∨ pl = 49) ∧ ∀ s, s < N → 0 ≤ G pl s ∧ G pl s ≤ 2
theorem PlOk.sh {G : GT} {pl N : Nat} (h : PlOk G pl N) : shape[pl]? = some (shI 5) := by rcases h.1 with rfl | rfl | rfl <;> rfl
theorem WW.fol {G : GT} {pl N i : Nat} (h : WW G N) (hi : i ≤ 5) : WW (folG G pl N i) N := h.keep (fun a ha => folG_off hi (by omega))

set_option maxRecDepth 100000 in
set_option maxHeartbeats 4000000 in
theorem ct_P_follow (l : Launch) (D : va_G) (K : K5) (G : GT) (pl N : Nat) (hw : WW G N) (hpl : PlOk G pl N) (hok : SolOk (folG G pl N N) 23 N) : Ct l D K y_P_follow c_P_follow 8 none 2 57 [.ref 22, .ref 1, .ref pl] G none (folR G pl N) := by
  refine Ct.intro (by decide +kernel) (Nat.le_of_ble_eq_true rfl) ?_
  intro X hro hty hC hE
  obtain ⟨hn, hN5, hsh, hac, hpa, hwe, hth⟩ := id hw
  have hplr := hpl.1
  refine a_aload_n (pc := 0) (q := 0) (i := 0) (x := 22) hC (by decide +kernel) rfl 0 rfl ?_
  refine g_get (pc := 1) (idx := 12) (ci := 3) (v := .ref 23) hC 22 0 (by decide +kernel) rfl rfl rfl rfl wrP (by decide) rfl (by decide +kernel) ?_
  refine g_callVN0 (pc := 4) (idx := 25) (i := 23) (av := []) (rest := []) (g := clrG G 25 5 6) (host := "PlanValues") hC hro hty (by decide +kernel) rfl rfl k_E_begin (by decide +kernel) (by decide +kernel) (by decide +kernel) (ct_E_begin X.la X.dd K G 23 she23) rfl rfl (by decide) (by first | decide | simp [Value.category]) ?_
  refine a_iconst (pc := 7) (c := 0) hC (by decide +kernel) ?_
  refine a_istore_n (pc := 8) (q := 3) (i := 3) (lv' := [(3, vi 0), (0, .ref 22), (1, .ref 1), (2, .ref pl)]) hC (by decide +kernel) rfl (by decide) rfl ?_
  have L9 : ∀ (fuel : Nat) (s : Nat), N - s < fuel → s ≤ N → AW X 8 0 0 9 [(3, vi ((s : Int))), (0, .ref 22), (1, .ref 1), (2, .ref pl)] [] (hp K (folG G pl N s)) := by
    intro fuel
    induction fuel with
    | zero => intro s h; exact absurd h (Nat.not_lt_zero _)
    | succ fuel ih9 =>
      intro s hm hs
      refine a_iload_n (pc := 9) (q := 3) (i := 3) (x := (s : Int)) hC (by decide +kernel) rfl 0 rfl ?_
      refine a_aload_n (pc := 10) (q := 1) (i := 1) (x := 1) hC (by decide +kernel) rfl 2 rfl ?_
      refine g_getN (pc := 11) (idx := 28) (ci := 4) (v := vi ((folG G pl N s) 1 0)) (host := "PlanValues") hC 1 0 (by decide +kernel) rfl rfl rfl rfl wrW (by decide) rfl (by decide +kernel) ?_
      refine g_top (y := (N : Int)) (by rw [folG_off (by omega) (by omega)]; exact hn) ?_
      refine a_icmp_ge (pc := 14) (off := 114) hC 128 (by decide +kernel) (by decide) (by unfold inI; omega) (by unfold inI; omega) (fun c14 => ?_) (fun c14 => ?_)
      · skip
        refine a_aload_n (pc := 128) (q := 0) (i := 0) (x := 22) hC (by decide +kernel) rfl 1 rfl ?_
        refine g_get (pc := 129) (idx := 12) (ci := 3) (v := .ref 23) hC 22 0 (by decide +kernel) rfl rfl rfl rfl wrP (by decide) rfl (by decide +kernel) ?_
        refine a_aload_n (pc := 132) (q := 1) (i := 1) (x := 1) hC (by decide +kernel) rfl 2 rfl ?_
        refine g_getN (pc := 133) (idx := 28) (ci := 4) (v := vi ((folG G pl N s) 1 0)) (host := "PlanValues") hC 1 0 (by decide +kernel) rfl rfl rfl rfl wrW (by decide) rfl (by decide +kernel) ?_
        refine g_top (y := (N : Int)) (by rw [folG_off (by omega) (by omega)]; exact hn) ?_
        refine a_aload_n (pc := 136) (q := 0) (i := 0) (x := 22) hC (by decide +kernel) rfl 1 rfl ?_
        refine g_get (pc := 137) (idx := 21) (ci := 3) (v := .ref 30) hC 22 1 (by decide +kernel) rfl rfl rfl rfl wrP (by decide) rfl (by decide +kernel) ?_
        rw [show s = N by omega]
        refine g_callVN0 (pc := 140) (idx := 64) (i := 23) (av := [vi ((N : Int)), .ref 30]) (rest := []) (g := solG (folG G pl N N) 23 30 N) (host := "PlanValues") hC hro hty (by decide +kernel) rfl rfl k_E_solve (by decide +kernel) (by decide +kernel) (by decide +kernel) (ct_E_solve X.la X.dd K (folG G pl N N) 23 N 30 she23 shu30 (by omega) (by omega) hok) rfl rfl (by decide) (by first | decide | simp [Value.category]) ?_
        exact g_vret (pc := 143) hC hE (by decide +kernel) rfl
      · skip
        obtain ⟨q, hq, hq3⟩ : ∃ q : Nat, G pl s = (q : Int) ∧ q < 3 := ⟨(G pl s).toNat, by have := hpl.2 s (by omega); omega, by have := hpl.2 s (by omega); omega⟩
        have hsl : slotN G pl s = s * 3 + q := by unfold slotN; omega
        have hps := hpa (s * 3 + q) (by omega)
        refine a_iload_n (pc := 17) (q := 3) (i := 3) (x := (s : Int)) hC (by decide +kernel) rfl 0 rfl ?_
        refine a_aload_n (pc := 18) (q := 2) (i := 2) (x := pl) hC (by decide +kernel) rfl 3 rfl ?_
        refine a_iload_n (pc := 19) (q := 3) (i := 3) (x := (s : Int)) hC (by decide +kernel) rfl 0 rfl ?_
        refine g_iald (pc := 20) (a := pl) (j := s) hC hty (by decide +kernel) hpl.sh (by omega) (by first | decide | omega) ?_
        refine g_top (y := (q : Int)) (by rw [folG_off (by omega) (by omega)]; exact hq) ?_
        refine g_callSN (pc := 21) (idx := 34) (av := [vi ((s : Int)), vi ((q : Int))]) (rest := []) (g := folG G pl N s) (v := vi (((s : Int)) * 3 + ((q : Int)))) (host := "PlanValues") hC hro hty (by decide +kernel) k_W_slotOf (by decide +kernel) (by decide +kernel) (ct_W_slotOf X.la X.dd K (folG G pl N s) ((s : Int)) ((q : Int))) rfl rfl (by decide) (by first | decide | simp [Value.category]) ?_
        refine g_top (y := ((s * 3 + q : Nat) : Int)) (by omega) ?_
        refine a_istore (pc := 24) (q := 0) (i := 4) (lv' := [(4, vi (((s * 3 + q : Nat) : Int))), (3, vi ((s : Int))), (0, .ref 22), (1, .ref 1), (2, .ref pl)]) hC (by decide +kernel) (by decide) rfl ?_
        refine a_aload_n (pc := 26) (q := 0) (i := 0) (x := 22) hC (by decide +kernel) rfl 2 rfl ?_
        refine g_get (pc := 27) (idx := 12) (ci := 3) (v := .ref 23) hC 22 0 (by decide +kernel) rfl rfl rfl rfl wrP (by decide) rfl (by decide +kernel) ?_
        refine g_getN (pc := 30) (idx := 38) (ci := 0) (v := .ref 24) (host := "PlanValues") hC 23 0 (by decide +kernel) rfl rfl rfl rfl wrE (by decide) rfl (by decide +kernel) ?_
        refine a_iload_n (pc := 33) (q := 3) (i := 3) (x := (s : Int)) hC (by decide +kernel) rfl 1 rfl ?_
        refine g_aaldL (pc := 34) (a := 24) (j := s) hC hty (by decide +kernel) rfl (by omega) (by first | decide | omega) ?_
        refine a_astore (pc := 35) (q := 0) (i := 5) (lv' := [(5, .ref (25 + s)), (4, vi (((s * 3 + q : Nat) : Int))), (3, vi ((s : Int))), (0, .ref 22), (1, .ref 1), (2, .ref pl)]) hC (by decide +kernel) (by decide) rfl ?_
        refine a_iconst (pc := 37) (c := 0) hC (by decide +kernel) ?_
        refine a_istore (pc := 38) (q := 0) (i := 6) (lv' := [(6, vi 0), (5, .ref (25 + s)), (4, vi (((s * 3 + q : Nat) : Int))), (3, vi ((s : Int))), (0, .ref 22), (1, .ref 1), (2, .ref pl)]) hC (by decide +kernel) (by decide) rfl ?_
        have L40 : ∀ (fuel : Nat) (t : Nat), N - t < fuel → t ≤ N → AW X 8 0 0 40 [(6, vi ((t : Int))), (5, .ref (25 + s)), (4, vi (((s * 3 + q : Nat) : Int))), (3, vi ((s : Int))), (0, .ref 22), (1, .ref 1), (2, .ref pl)] [] (hp K (inG G pl N s (s * 3 + q) t)) := by
          intro fuel
          induction fuel with
          | zero => intro t h; exact absurd h (Nat.not_lt_zero _)
          | succ fuel ih40 =>
            intro t hm ht
            refine a_iload (pc := 40) (i := 6) (x := (t : Int)) hC (by decide +kernel) 0 rfl ?_
            refine a_aload_n (pc := 42) (q := 1) (i := 1) (x := 1) hC (by decide +kernel) rfl 5 rfl ?_
            refine g_getN (pc := 43) (idx := 28) (ci := 4) (v := vi ((inG G pl N s (s * 3 + q) t) 1 0)) (host := "PlanValues") hC 1 0 (by decide +kernel) rfl rfl rfl rfl wrW (by decide) rfl (by decide +kernel) ?_
            refine g_top (y := (N : Int)) (by rw [inG_off (by omega) (by omega)]; exact hn) ?_
            refine a_icmp_ge (pc := 46) (off := 32) hC 78 (by decide +kernel) (by decide) (by unfold inI; omega) (by unfold inI; omega) (fun c46 => ?_) (fun c46 => ?_)
            · skip
              refine a_aload_n (pc := 78) (q := 1) (i := 1) (x := 1) hC (by decide +kernel) rfl 5 rfl ?_
              refine g_getN (pc := 79) (idx := 49) (ci := 4) (v := vi ((inG G pl N s (s * 3 + q) t) 1 2)) (host := "PlanValues") hC 1 2 (by decide +kernel) rfl rfl rfl rfl wrW (by decide) rfl (by decide +kernel) ?_
              refine g_top (y := G 1 2) (by rw [inG_off (by omega) (by omega)]) ?_
              refine a_i2l (pc := 82) hC (by decide +kernel) (by unfold inI; omega) ?_
              refine a_iconst (pc := 83) (c := 1) hC (by decide +kernel) ?_
              refine a_aload_n (pc := 84) (q := 1) (i := 1) (x := 1) hC (by decide +kernel) rfl 5 rfl ?_
              refine g_getN (pc := 85) (idx := 52) (ci := 4) (v := .ref 5) (host := "PlanValues") hC 1 6 (by decide +kernel) rfl rfl rfl rfl wrW (by decide) rfl (by decide +kernel) ?_
              refine a_iload (pc := 88) (i := 4) (x := ((s * 3 + q : Nat) : Int)) hC (by decide +kernel) 2 rfl ?_
              refine g_iald (pc := 90) (a := 5) (j := s * 3 + q) hC hty (by decide +kernel) rfl (by omega) (by first | decide | omega) ?_
              refine g_top (y := G 5 (s * 3 + q)) (by rw [inG_off (by omega) (by omega)]) ?_
              refine g_callS (pc := 91) (idx := 56) (av := [vi 1, vi (G 5 (s * 3 + q))]) (rest := [vl (G 1 2)]) (g := inG G pl N s (s * 3 + q) t) (v := vi (maxZ 1 (G 5 (s * 3 + q)))) hC hro hty (by decide +kernel) k_JM_max_II (by decide +kernel) (by decide +kernel) (ct_JM_max_II X.la X.dd K (inG G pl N s (s * 3 + q) t) 1 (G 5 (s * 3 + q)) (by unfold inI; omega) (by unfold inI; omega)) rfl rfl (by decide) (by first | decide | simp [Value.category]) ?_
              refine a_i2l (pc := 94) hC (by decide +kernel) (by unfold inI maxZ; split <;> omega) ?_
              refine a_lmul (pc := 95) hC (by decide +kernel) ?_
              refine g_topl (y := scaleZ G (s * 3 + q)) rfl ?_
              refine a_lstore (pc := 96) (q := 0) (i := 6) (lv' := [(6, vl (scaleZ G (s * 3 + q))), (5, .ref (25 + s)), (4, vi (((s * 3 + q : Nat) : Int))), (3, vi ((s : Int))), (0, .ref 22), (1, .ref 1), (2, .ref pl)]) hC (by decide +kernel) (by decide) rfl ?_
              refine a_aload (pc := 98) (i := 5) (x := 25 + s) hC (by decide +kernel) 1 rfl ?_
              refine a_iload_n (pc := 100) (q := 3) (i := 3) (x := (s : Int)) hC (by decide +kernel) rfl 3 rfl ?_
              refine a_dup2 (pc := 101) hC (by decide +kernel) rfl rfl ?_
              refine g_lald (pc := 102) (a := 25 + s) (j := s) hC hty (by decide +kernel) (sh_e1 (by omega : s < 5)) (by omega) (by first | decide | omega) ?_
              refine g_topl (y := rowW G (s * 3 + q) N (clrG G 25 5 6 (25 + s)) s) (by rw [inG_r, show t = N by omega]) ?_
              refine a_lload (pc := 103) (i := 6) (x := scaleZ G (s * 3 + q)) hC (by decide +kernel) 0 rfl ?_
              refine a_ladd (pc := 105) hC (by decide +kernel) ?_
              refine g_last (pc := 106) (a := 25 + s) (j := s) (x := (rowW G (s * 3 + q) N (clrG G 25 5 6 (25 + s)) s) + (scaleZ G (s * 3 + q))) hC hty (by decide +kernel) (sh_e1 (by omega : s < 5)) (by omega) (by first | decide | omega) ?_
              refine a_aload (pc := 107) (i := 5) (x := 25 + s) hC (by decide +kernel) 1 rfl ?_
              refine a_iconst (pc := 109) (c := 5) hC (by decide +kernel) ?_
              refine a_lload (pc := 110) (i := 6) (x := scaleZ G (s * 3 + q)) hC (by decide +kernel) 0 rfl ?_
              refine a_aload_n (pc := 112) (q := 1) (i := 1) (x := 1) hC (by decide +kernel) rfl 5 rfl ?_
              refine g_getN (pc := 113) (idx := 61) (ci := 4) (v := .ref 4) (host := "PlanValues") hC 1 5 (by decide +kernel) rfl rfl rfl rfl wrW (by decide) rfl (by decide +kernel) ?_
              refine a_iload (pc := 116) (i := 4) (x := ((s * 3 + q : Nat) : Int)) hC (by decide +kernel) 2 rfl ?_
              refine g_iald (pc := 118) (a := 4) (j := s * 3 + q) hC hty (by decide +kernel) rfl (by omega) (by first | decide | omega) ?_
              refine g_top (y := G 4 (s * 3 + q)) (by rw [uG_n _ _ (by omega), inG_off (by omega) (by omega)]) ?_
              refine a_i2l (pc := 119) hC (by decide +kernel) (by unfold inI; omega) ?_
              refine a_lmul (pc := 120) hC (by decide +kernel) ?_
              refine g_snd (y := ((5 : Nat) : Int)) (by omega) ?_
              refine g_last (pc := 121) (a := 25 + s) (j := 5) (x := (scaleZ G (s * 3 + q)) * (G 4 (s * 3 + q))) hC hty (by decide +kernel) (sh_e1 (by omega : s < 5)) (by omega) (by first | decide | omega) ?_
              refine a_iinc (pc := 122) (i := 3) (c := 1) (x := (s : Int)) (lv' := [(3, vi (((s : Int)) + 1)), (6, vl (scaleZ G (s * 3 + q))), (5, .ref (25 + s)), (4, vi (((s * 3 + q : Nat) : Int))), (0, .ref 22), (1, .ref 1), (2, .ref pl)]) hC (by decide +kernel) 3 rfl (by decide) rfl ?_
              refine a_goto (pc := 125) (off := -116) hC 9 (by decide +kernel) (by decide) ?_
              refine a_sub (lv' := [(3, vi (((s + 1) : Int))), (0, .ref 22), (1, .ref 1), (2, .ref pl)]) [0, 4, 5, 6] rfl ?_
              refine g_G (G' := folG G pl N (s + 1)) (by rw [uG_s, uG_uG, show t = N by omega, inG_r]; unfold inG; rw [uG_uG, ← folG_s, hsl]; rfl) ?_
              exact ih9 (s + 1) (by omega) (by omega)
            · skip
              have hwt := hwe (s * 3 + q) t (by omega) (by omega)
              refine a_aload (pc := 49) (i := 5) (x := 25 + s) hC (by decide +kernel) 1 rfl ?_
              refine a_iload (pc := 51) (i := 6) (x := (t : Int)) hC (by decide +kernel) 0 rfl ?_
              refine a_aload_n (pc := 53) (q := 1) (i := 1) (x := 1) hC (by decide +kernel) rfl 5 rfl ?_
              refine g_getN (pc := 54) (idx := 42) (ci := 4) (v := vi ((inG G pl N s (s * 3 + q) t) 1 1)) (host := "PlanValues") hC 1 1 (by decide +kernel) rfl rfl rfl rfl wrW (by decide) rfl (by decide +kernel) ?_
              refine g_top (y := G 1 1) (by rw [inG_off (by omega) (by omega)]) ?_
              refine a_i2l (pc := 57) hC (by decide +kernel) (by unfold inI; omega) ?_
              refine a_lneg (pc := 58) hC (by decide +kernel) ?_
              refine a_aload_n (pc := 59) (q := 1) (i := 1) (x := 1) hC (by decide +kernel) rfl 5 rfl ?_
              refine g_getN (pc := 60) (idx := 45) (ci := 4) (v := .ref 6) (host := "PlanValues") hC 1 7 (by decide +kernel) rfl rfl rfl rfl wrW (by decide) rfl (by decide +kernel) ?_
              refine a_iload (pc := 63) (i := 4) (x := ((s * 3 + q : Nat) : Int)) hC (by decide +kernel) 2 rfl ?_
              refine g_aaldI (pc := 65) (a := 6) (j := s * 3 + q) hC hty (by decide +kernel) rfl (by omega) (by first | decide | omega) ?_
              refine a_iload (pc := 66) (i := 6) (x := (t : Int)) hC (by decide +kernel) 0 rfl ?_
              refine g_iald (pc := 68) (a := 7 + (s * 3 + q)) (j := t) hC hty (by decide +kernel) (sh_we (by omega : (s * 3 + q) < 15)) (by omega) (by first | decide | omega) ?_
              refine g_top (y := G (7 + (s * 3 + q)) t) (by rw [inG_off (by omega) (by omega)]) ?_
              refine a_i2l (pc := 69) hC (by decide +kernel) (by unfold inI; omega) ?_
              refine a_lmul (pc := 70) hC (by decide +kernel) ?_
              refine g_last (pc := 71) (a := 25 + s) (j := t) (x := (-(G 1 1)) * (G (7 + (s * 3 + q)) t)) hC hty (by decide +kernel) (sh_e1 (by omega : s < 5)) (by omega) (by first | decide | omega) ?_
              refine a_iinc (pc := 72) (i := 6) (c := 1) (x := (t : Int)) (lv' := [(6, vi (((t : Int)) + 1)), (5, .ref (25 + s)), (4, vi (((s * 3 + q : Nat) : Int))), (3, vi ((s : Int))), (0, .ref 22), (1, .ref 1), (2, .ref pl)]) hC (by decide +kernel) 0 rfl (by decide) rfl ?_
              refine a_goto (pc := 75) (off := -35) hC 40 (by decide +kernel) (by decide) ?_
              refine a_sub (lv' := [(6, vi (((t + 1) : Int))), (5, .ref (25 + s)), (4, vi (((s * 3 + q : Nat) : Int))), (3, vi ((s : Int))), (0, .ref 22), (1, .ref 1), (2, .ref pl)]) [0, 1, 2, 3, 4, 5, 6] rfl ?_
              refine g_G (G' := inG G pl N s (s * 3 + q) (t + 1)) (inG_s _ _ _ _ _ _) ?_
              exact ih40 (t + 1) (by omega) (by omega)
        refine a_sub (lv' := [(6, vi ((0 : Int))), (5, .ref (25 + s)), (4, vi (((s * 3 + q : Nat) : Int))), (3, vi ((s : Int))), (0, .ref 22), (1, .ref 1), (2, .ref pl)]) [0, 1, 2, 3, 4, 5, 6] rfl ?_
        refine g_G (G' := inG G pl N s (s * 3 + q) 0) (inG_0 _ _ _ _ _).symm ?_
        exact L40 _ 0 (Nat.lt_succ_self _) (by omega)
  refine a_sub (lv' := [(3, vi ((0 : Int))), (0, .ref 22), (1, .ref 1), (2, .ref pl)]) [0, 1, 2, 3] rfl ?_
  refine g_G (G' := folG G pl N 0) (folG_0 _ _ _).symm ?_
  exact L9 _ 0 (Nat.lt_succ_self _) (by omega)
end
section
/-! PlanWorths: plans made better -/
theorem comesZ_congr {G G' : GT} {N sl u : Nat} (h : ∀ b, b ≤ 21 → G' b = G b) (hu : G' u = G u) (hu1 : G' (u + 1) = G (u + 1)) (hs : sl < 15) : comesZ G' N sl u = comesZ G N sl u := by
  unfold comesZ stepZ
  rw [h 5 (by omega), h 4 (by omega), h 1 (by omega), h (7 + sl) (by omega), hu, hu1]
theorem likS_congr {G G' : GT} {N s held u : Nat} (h : ∀ b, b ≤ 21 → G' b = G b) (hu : G' u = G u) (hu1 : G' (u + 1) = G (u + 1)) (hs : s < 5) (hh : held < 3) : ∀ a, a ≤ 3 → likS G' N s held u a = likS G N s held u a
  | 0, _ => by unfold likS; rw [comesZ_congr h hu hu1 (by omega)]
  | a + 1, ha => by
    unfold likS
    rw [likS_congr h hu hu1 hs hh a (by omega), comesZ_congr h hu hu1 (by omega)]
    unfold likesZ
    rw [h 2 (by omega)]
/-- the act that a state's side likes best by the worths' numbers, beside the plan's own -/
def likP (G : GT) (pl N s : Nat) : Int := (likS G N s (G pl s).toNat 30 (G 3 s).toNat).1
def impP (G : GT) (pl N : Nat) (b : Int) (i : Nat) : Nat → Int := fun s => if s < i ∧ G 2 s = b then likP G pl N s else G pl s
def impG (G : GT) (pl N : Nat) (b : Int) (i : Nat) : GT := uG G pl (impP G pl N b i)
def betS (G : GT) (pl N : Nat) (b : Int) : Nat → Int
  | 0 => 0
  | s + 1 => if G 2 s = b ∧ likP G pl N s ≠ G pl s then 1 else betS G pl N b s
theorem betS_01 (G : GT) (pl N : Nat) (b : Int) : ∀ s, betS G pl N b s = 0 ∨ betS G pl N b s = 1
  | 0 => Or.inl rfl
  | s + 1 => by unfold betS; split; exact Or.inr rfl; exact betS_01 G pl N b s
theorem impG_0 (G : GT) (pl N : Nat) (b : Int) : impG G pl N b 0 = G := by
  unfold impG
  have : impP G pl N b 0 = G pl := by funext s; exact if_neg (by omega)
  rw [this, uG_self]
theorem impG_off {G : GT} {pl N : Nat} {b : Int} {i c : Nat} (h : c ≠ pl) : impG G pl N b i c = G c := uG_n _ _ h
theorem impG_at (G : GT) (pl N : Nat) (b : Int) (i s : Nat) (h : i ≤ s) : impG G pl N b i pl s = G pl s := by
  unfold impG; rw [uG_s]; exact if_neg (by omega)
theorem impG_skip {G : GT} {pl N : Nat} {b : Int} {s : Nat} (h : ¬ G 2 s = b) : impG G pl N b s = impG G pl N b (s + 1) := by
  unfold impG; congr 1; funext z; unfold impP
  by_cases hz : z < s ∧ G 2 z = b
  · rw [if_pos hz, if_pos (by omega)]
  · rw [if_neg hz]
    by_cases h2 : z = s
    · subst h2; rw [if_neg (fun q => h q.2)]
    · rw [if_neg (fun q => hz ⟨by omega, q.2⟩)]
theorem impG_s {G : GT} {pl N : Nat} {b : Int} {s : Nat} (h : G 2 s = b) : uG (impG G pl N b s) pl (up (impG G pl N b s pl) s (likP G pl N s)) = impG G pl N b (s + 1) := by
  unfold impG; rw [uG_s, uG_uG]; congr 1; funext z
  by_cases hz : z = s
  · subst hz; rw [up_s]; unfold impP; rw [if_pos ⟨by omega, h⟩]
  · rw [up_n _ _ hz]; unfold impP
    by_cases h2 : z < s ∧ G 2 z = b
    · rw [if_pos h2, if_pos ⟨by omega, h2.2⟩]
    · rw [if_neg h2, if_neg (fun q => h2 ⟨by omega, q.2⟩)]
theorem or1 {x : Int} (h : x = 0 ∨ x = 1) : iZ x ||| iZ 1 = iZ 1 := by rcases h with rfl | rfl <;> decide
theorem or0 {x : Int} (h : x = 0 ∨ x = 1) : iZ x ||| iZ 0 = iZ x := by rcases h with rfl | rfl <;> decide
/-- what all acts come to fits a long -/
def ComOk (G : GT) (N u : Nat) : Prop := ∀ q, q < 15 → inL (comesZ G N q u)
theorem likP_in {G : GT} {pl N s : Nat} (hw : WW G N) (hpl : PlOk G pl N) (hs : s < N) (hc : ComOk G N 30) : 0 ≤ likP G pl N s ∧ likP G pl N s < 3 := by
  obtain ⟨hn, hN5, hsh, hac, hpa, hwe, hth⟩ := hw
  have h1 := hac s (by omega)
  have h2 := hpl.2 s hs
  exact (likS_in (A := (G 3 s).toNat) (by omega) (by omega) (fun a ha => hc (s * 3 + a) (by omega)) _ (Nat.le_refl _)).2

set_option maxRecDepth 100000 in
set_option maxHeartbeats 4000000 in
theorem ct_P_improve (l : Launch) (D : va_G) (K : K5) (G : GT) (pl N : Nat) (b : Int) (hb : b = 0 ∨ b = 1) (hw : WW G N) (hpl : PlOk G pl N) (hco : ComOk G N 30) : Ct l D K y_P_improve c_P_improve 7 (some .boolean) 3 77 [.ref 22, vi b, .ref 1, .ref pl] G (some (vi (betS G pl N b N))) (impG G pl N b N) := by
  refine Ct.intro (by decide +kernel) (Nat.le_of_ble_eq_true rfl) ?_
  intro X hro hty hC hE
  obtain ⟨hn, hN5, hsh, hac, hpa, hwe, hth⟩ := id hw
  have hplr := hpl.1
  refine a_iconst (pc := 0) (c := 0) hC (by decide +kernel) ?_
  refine a_istore (pc := 1) (q := 0) (i := 4) (lv' := [(4, vi 0), (0, .ref 22), (1, vi b), (2, .ref 1), (3, .ref pl)]) hC (by decide +kernel) (by decide) rfl ?_
  refine a_iconst (pc := 3) (c := 0) hC (by decide +kernel) ?_
  refine a_istore (pc := 4) (q := 0) (i := 5) (lv' := [(5, vi 0), (4, vi 0), (0, .ref 22), (1, vi b), (2, .ref 1), (3, .ref pl)]) hC (by decide +kernel) (by decide) rfl ?_
  have L6 : ∀ (fuel : Nat) (s : Nat), N - s < fuel → s ≤ N → AW X 7 0 0 6 [(5, vi ((s : Int))), (4, vi (betS G pl N b s)), (0, .ref 22), (1, vi b), (2, .ref 1), (3, .ref pl)] [] (hp K (impG G pl N b s)) := by
    intro fuel
    induction fuel with
    | zero => intro s h; exact absurd h (Nat.not_lt_zero _)
    | succ fuel ih6 =>
      intro s hm hs
      have hbe := betS_01 G pl N b s
      refine a_iload (pc := 6) (i := 5) (x := (s : Int)) hC (by decide +kernel) 0 rfl ?_
      refine a_aload_n (pc := 8) (q := 2) (i := 2) (x := 1) hC (by decide +kernel) rfl 4 rfl ?_
      refine g_getN (pc := 9) (idx := 28) (ci := 4) (v := vi ((impG G pl N b s) 1 0)) (host := "PlanValues") hC 1 0 (by decide +kernel) rfl rfl rfl rfl wrW (by decide) rfl (by decide +kernel) ?_
      refine g_top (y := (N : Int)) (by rw [impG_off (by omega)]; exact hn) ?_
      refine a_icmp_ge (pc := 12) (off := 61) hC 73 (by decide +kernel) (by decide) (by unfold inI; omega) (by unfold inI; omega) (fun c12 => ?_) (fun c12 => ?_)
      · skip
        refine a_iload (pc := 73) (i := 4) (x := betS G pl N b s) hC (by decide +kernel) 1 rfl ?_
        exact g_zret (pc := 75) hC hE (by decide +kernel) (by omega) (by rw [show s = N by omega]) (by rw [show s = N by omega])
      · skip
        have hts := hth s (by omega)
        refine a_aload_n (pc := 15) (q := 2) (i := 2) (x := 1) hC (by decide +kernel) rfl 4 rfl ?_
        refine g_getN (pc := 16) (idx := 68) (ci := 4) (v := .ref 2) (host := "PlanValues") hC 1 3 (by decide +kernel) rfl rfl rfl rfl wrW (by decide) rfl (by decide +kernel) ?_
        refine a_iload (pc := 19) (i := 5) (x := (s : Int)) hC (by decide +kernel) 0 rfl ?_
        refine g_zald (pc := 21) (a := 2) (j := s) hC hty (by decide +kernel) rfl (by omega) (by first | decide | omega) ?_
        refine g_top (y := G 2 s) (by rw [impG_off (by omega)]) ?_
        refine a_iload_n (pc := 22) (q := 1) (i := 1) (x := b) hC (by decide +kernel) rfl 3 rfl ?_
        refine a_icmp_ne (pc := 23) (off := 44) hC 67 (by decide +kernel) (by decide) (by unfold inI; omega) (by unfold inI; omega) (fun c23 => ?_) (fun c23 => ?_)
        · skip
          have hbs : betS G pl N b s = betS G pl N b (s + 1) := by show _ = (if _ then _ else _); rw [if_neg (fun q => c23 q.1)]
          refine a_iinc (pc := 67) (i := 5) (c := 1) (x := (s : Int)) (lv' := [(5, vi (((s : Int)) + 1)), (4, vi (betS G pl N b s)), (0, .ref 22), (1, vi b), (2, .ref 1), (3, .ref pl)]) hC (by decide +kernel) 0 rfl (by decide) rfl ?_
          refine a_goto (pc := 70) (off := -64) hC 6 (by decide +kernel) (by decide) ?_
          refine a_sub (lv' := [(5, vi (((s + 1) : Int))), (4, vi (betS G pl N b (s + 1))), (0, .ref 22), (1, vi b), (2, .ref 1), (3, .ref pl)]) [0, 1, 2, 3, 4, 5] (by rw [← hbs]; rfl) ?_
          refine g_G (G' := impG G pl N b (s + 1)) (by first | exact impG_skip c23 | exact impG_s c23) ?_
          exact ih6 (s + 1) (by omega) (by omega)
        · skip
          obtain ⟨h, hh, hh3⟩ : ∃ h : Nat, G pl s = (h : Int) ∧ h < 3 := ⟨(G pl s).toNat, by have := hpl.2 s (by omega); omega, by have := hpl.2 s (by omega); omega⟩
          obtain ⟨A, hA⟩ : ∃ A : Nat, G 3 s = (A : Int) := ⟨(G 3 s).toNat, by have := hac s (by omega); omega⟩
          have hA3 := hac s (by omega)
          have hlp : likP G pl N s = (likS G N s h 30 A).1 := by unfold likP; rw [hh, hA]; rfl
          have hli := likP_in hw hpl (by omega : s < N) hco
          refine a_aload_n (pc := 26) (q := 2) (i := 2) (x := 1) hC (by decide +kernel) rfl 4 rfl ?_
          refine a_iload (pc := 27) (i := 5) (x := (s : Int)) hC (by decide +kernel) 0 rfl ?_
          refine a_aload_n (pc := 29) (q := 3) (i := 3) (x := pl) hC (by decide +kernel) rfl 5 rfl ?_
          refine a_iload (pc := 30) (i := 5) (x := (s : Int)) hC (by decide +kernel) 0 rfl ?_
          refine g_iald (pc := 32) (a := pl) (j := s) hC hty (by decide +kernel) hpl.sh (by omega) (by first | decide | omega) ?_
          refine g_top (y := (h : Int)) (by rw [impG_at _ _ _ _ _ _ (Nat.le_refl _)]; exact hh) ?_
          refine a_aload_n (pc := 33) (q := 0) (i := 0) (x := 22) hC (by decide +kernel) rfl 2 rfl ?_
          refine g_get (pc := 34) (idx := 21) (ci := 3) (v := .ref 30) hC 22 1 (by decide +kernel) rfl rfl rfl rfl wrP (by decide) rfl (by decide +kernel) ?_
          have hcg : ∀ c, c ≤ 45 → impG G pl N b s c = G c := fun c hc => impG_off (by omega)
          have hlk := likS_congr (N := N) (s := s) (held := h) (u := 30) (fun c hc => hcg c (by omega)) (hcg 30 (by omega)) (hcg 31 (by omega)) (by omega) (by omega) A (by omega)
          refine g_callVN (pc := 37) (idx := 72) (i := 1) (av := [vi ((s : Int)), vi ((h : Int)), .ref 30]) (rest := []) (g := impG G pl N b s) (v := vi ((likS (impG G pl N b s) N s h 30 A).1)) (host := "PlanValues") hC hro hty (by decide +kernel) rfl rfl k_W_likedAct (by decide +kernel) (by decide +kernel) (by decide +kernel) (ct_W_likedAct X.la X.dd K (impG G pl N b s) N s h 30 A (by omega) (by omega) (by rw [hcg 3 (by omega)]; exact hA) rfl rfl (hw.keep (fun c hc => hcg c (by omega))) (fun a ha => by rw [comesZ_congr (fun c hc => hcg c (by omega)) (hcg 30 (by omega)) (hcg 31 (by omega)) (by omega)]; exact hco (s * 3 + a) (by omega))) rfl rfl (by decide) (by first | decide | simp [Value.category]) ?_
          refine g_top (y := likP G pl N s) (by rw [hlk, hlp]) ?_
          refine a_istore (pc := 40) (q := 0) (i := 6) (lv' := [(6, vi (likP G pl N s)), (5, vi ((s : Int))), (4, vi (betS G pl N b s)), (0, .ref 22), (1, vi b), (2, .ref 1), (3, .ref pl)]) hC (by decide +kernel) (by decide) rfl ?_
          refine a_iload (pc := 42) (i := 4) (x := betS G pl N b s) hC (by decide +kernel) 2 rfl ?_
          refine a_iload (pc := 44) (i := 6) (x := likP G pl N s) hC (by decide +kernel) 0 rfl ?_
          refine a_aload_n (pc := 46) (q := 3) (i := 3) (x := pl) hC (by decide +kernel) rfl 6 rfl ?_
          refine a_iload (pc := 47) (i := 5) (x := (s : Int)) hC (by decide +kernel) 1 rfl ?_
          refine g_iald (pc := 49) (a := pl) (j := s) hC hty (by decide +kernel) hpl.sh (by omega) (by first | decide | omega) ?_
          refine g_top (y := G pl s) (by rw [impG_at _ _ _ _ _ _ (Nat.le_refl _)]) ?_
          refine a_icmp_eq (pc := 50) (off := 7) hC 57 (by decide +kernel) (by decide) (by unfold inI; omega) (by have := hpl.2 s (by omega); unfold inI; omega) (fun c50 => ?_) (fun c50 => ?_)
          · skip
            have hbs : betS G pl N b s = betS G pl N b (s + 1) := by show _ = (if _ then _ else _); rw [if_neg (fun q => q.2 c50)]
            refine a_iconst (pc := 57) (c := 0) hC (by decide +kernel) ?_
            refine a_ior (pc := 58) (z := betS G pl N b s) hC (by decide +kernel) (or0 hbe) ?_
            refine a_istore (pc := 59) (q := 0) (i := 4) (lv' := [(4, vi (betS G pl N b s)), (6, vi (likP G pl N s)), (5, vi ((s : Int))), (0, .ref 22), (1, vi b), (2, .ref 1), (3, .ref pl)]) hC (by decide +kernel) (by decide) rfl ?_
            refine a_aload_n (pc := 61) (q := 3) (i := 3) (x := pl) hC (by decide +kernel) rfl 6 rfl ?_
            refine a_iload (pc := 62) (i := 5) (x := (s : Int)) hC (by decide +kernel) 2 rfl ?_
            refine a_iload (pc := 64) (i := 6) (x := likP G pl N s) hC (by decide +kernel) 1 rfl ?_
            refine g_iast (pc := 66) (a := pl) (j := s) (x := likP G pl N s) hC hty (by decide +kernel) hpl.sh (by omega) (by first | decide | omega) ?_
            refine a_iinc (pc := 67) (i := 5) (c := 1) (x := (s : Int)) (lv' := [(5, vi (((s : Int)) + 1)), (4, vi (betS G pl N b s)), (6, vi (likP G pl N s)), (0, .ref 22), (1, vi b), (2, .ref 1), (3, .ref pl)]) hC (by decide +kernel) 2 rfl (by decide) rfl ?_
            refine a_goto (pc := 70) (off := -64) hC 6 (by decide +kernel) (by decide) ?_
            refine a_sub (lv' := [(5, vi (((s + 1) : Int))), (4, vi (betS G pl N b (s + 1))), (0, .ref 22), (1, vi b), (2, .ref 1), (3, .ref pl)]) [0, 1, 3, 4, 5, 6] (by rw [← hbs]; rfl) ?_
            refine g_G (G' := impG G pl N b (s + 1)) (by first | exact impG_skip c23 | exact impG_s c23) ?_
            exact ih6 (s + 1) (by omega) (by omega)
          · skip
            have hbs : (1 : Int) = betS G pl N b (s + 1) := by show _ = (if _ then _ else _); rw [if_pos ⟨c23, c50⟩]
            refine a_iconst (pc := 53) (c := 1) hC (by decide +kernel) ?_
            refine a_goto (pc := 54) (off := 4) hC 58 (by decide +kernel) (by decide) ?_
            refine a_ior (pc := 58) (z := 1) hC (by decide +kernel) (or1 hbe) ?_
            refine a_istore (pc := 59) (q := 0) (i := 4) (lv' := [(4, vi 1), (6, vi (likP G pl N s)), (5, vi ((s : Int))), (0, .ref 22), (1, vi b), (2, .ref 1), (3, .ref pl)]) hC (by decide +kernel) (by decide) rfl ?_
            refine a_aload_n (pc := 61) (q := 3) (i := 3) (x := pl) hC (by decide +kernel) rfl 6 rfl ?_
            refine a_iload (pc := 62) (i := 5) (x := (s : Int)) hC (by decide +kernel) 2 rfl ?_
            refine a_iload (pc := 64) (i := 6) (x := likP G pl N s) hC (by decide +kernel) 1 rfl ?_
            refine g_iast (pc := 66) (a := pl) (j := s) (x := likP G pl N s) hC hty (by decide +kernel) hpl.sh (by omega) (by first | decide | omega) ?_
            refine a_iinc (pc := 67) (i := 5) (c := 1) (x := (s : Int)) (lv' := [(5, vi (((s : Int)) + 1)), (4, vi 1), (6, vi (likP G pl N s)), (0, .ref 22), (1, vi b), (2, .ref 1), (3, .ref pl)]) hC (by decide +kernel) 2 rfl (by decide) rfl ?_
            refine a_goto (pc := 70) (off := -64) hC 6 (by decide +kernel) (by decide) ?_
            refine a_sub (lv' := [(5, vi (((s + 1) : Int))), (4, vi (betS G pl N b (s + 1))), (0, .ref 22), (1, vi b), (2, .ref 1), (3, .ref pl)]) [0, 1, 3, 4, 5, 6] (by rw [← hbs]; rfl) ?_
            refine g_G (G' := impG G pl N b (s + 1)) (by first | exact impG_skip c23 | exact impG_s c23) ?_
            exact ih6 (s + 1) (by omega) (by omega)
  refine a_sub (lv' := [(5, vi ((0 : Int))), (4, vi (betS G pl N b 0)), (0, .ref 22), (1, vi b), (2, .ref 1), (3, .ref pl)]) [0, 1, 2, 3, 4, 5] rfl ?_
  refine g_G (G' := impG G pl N b 0) (impG_0 _ _ _ _).symm ?_
  exact L6 _ 0 (Nat.lt_succ_self _) (by omega)

/-- the rounds of replyBy: at most k -/
def repL (pl N : Nat) (b : Int) : Nat → GT → GT
  | 0, G => G
  | k + 1, G => if betS G pl N b N = 0 then impG G pl N b N else repL pl N b k (folR (impG G pl N b N) pl N)
def repG (G : GT) (pl N : Nat) (b : Int) : GT := repL pl N b 243 (folR G pl N)
def fvL (pl N : Nat) : Nat → GT → GT
  | 0, G => G
  | k + 1, G => if betS G pl N 0 N = 0 then impG G pl N 0 N else fvL pl N k (repG (impG G pl N 0 N) pl N 1)
def fvG (G : GT) (pl N : Nat) : GT := fvL pl N 243 (repG G pl N 1)
/-- what the arithmetic must give: by every plan nothing outgrows a long -/
def NumOk (G : GT) (N : Nat) : Prop := 1 ≤ G 30 1 ∧ G 30 1 ≤ 60466176 ∧ ∀ s, s < N → -18139852800 ≤ G 31 s ∧ G 31 s ≤ 18139852800
def MathOk : Prop := ∀ (G : GT) (pl N : Nat), WW G N → PlOk G pl N → SolOk (folG G pl N N) 23 N ∧ ComOk (folR G pl N) N 30 ∧ NumOk (folR G pl N) N
theorem solG_off {G : GT} {eo u n b : Nat} (h : b < eo + 2 ∨ eo + 2 + n ≤ b) (h2 : b ≠ u) (h3 : b ≠ u + 1) : solG G eo u n b = G b := by
  unfold solG; rw [uG_n _ _ h2, uG_n _ _ h3, solS_off h]
theorem folR_off {G : GT} {pl N b : Nat} (hN : N ≤ 5) (h : b < 25 ∨ 32 ≤ b) : folR G pl N b = G b := by
  unfold folR; rw [solG_off (by omega) (by omega) (by omega), folG_off (by omega) (by omega)]
theorem WW.folR {G : GT} {pl N : Nat} (h : WW G N) : WW (folR G pl N) N := h.keep (fun a ha => folR_off h.2.1 (by omega))
theorem PlOk.folR {G : GT} {pl N p2 : Nat} (hw : WW G N) (h : PlOk G pl N) : PlOk (folR G p2 N) pl N := ⟨h.1, fun s hs => by rw [folR_off hw.2.1 (by have := h.1; omega)]; exact h.2 s hs⟩
theorem WW.imp {G : GT} {pl N i : Nat} {b : Int} (h : WW G N) (hp : PlOk G pl N) : WW (impG G pl N b i) N := h.keep (fun a ha => impG_off (by have := hp.1; omega))
theorem PlOk.imp {G : GT} {pl N i : Nat} {b : Int} (hw : WW G N) (hp : PlOk G pl N) (hc : ComOk G N 30) : PlOk (impG G pl N b i) pl N := ⟨hp.1, fun s hs => by
  unfold impG; rw [uG_s]; unfold impP
  split
  · have := likP_in hw hp hs hc; omega
  · exact hp.2 s hs⟩
/-- behind a follow -/
def FolSt (G : GT) (pl N : Nat) : Prop := WW G N ∧ PlOk G pl N ∧ ComOk G N 30 ∧ NumOk G N
theorem FolSt.fol {G : GT} {pl N : Nat} (hm : MathOk) (hw : WW G N) (hp : PlOk G pl N) : FolSt (folR G pl N) pl N := ⟨hw.folR, hp.folR hw, (hm G pl N hw hp).2.1, (hm G pl N hw hp).2.2⟩
theorem FolSt.imp {G : GT} {pl N i : Nat} {b : Int} (h : FolSt G pl N) : FolSt (impG G pl N b i) pl N := ⟨h.1.imp h.2.1, h.2.1.imp h.1 h.2.2.1, fun q hq => by
  have hpl := h.2.1.1
  rw [comesZ_congr (fun c hc => impG_off (by omega)) (impG_off (by omega)) (impG_off (by omega)) hq]; exact h.2.2.1 q hq, by
  have hpl := h.2.1.1
  unfold NumOk; rw [impG_off (by omega), impG_off (by omega)]; exact h.2.2.2⟩
theorem FolSt.next {G : GT} {pl N i : Nat} {b : Int} (hm : MathOk) (h : FolSt G pl N) : FolSt (folR (impG G pl N b i) pl N) pl N := FolSt.fol hm (h.imp (i := i) (b := b)).1 (h.imp (i := i) (b := b)).2.1
theorem FolSt.rep (hm : MathOk) {pl N : Nat} {b : Int} : ∀ (k : Nat) (G : GT), FolSt G pl N → FolSt (repL pl N b k G) pl N
  | 0, _, h => h
  | k + 1, G, h => by
    unfold repL
    split
    · exact h.imp
    · exact FolSt.rep hm k _ (h.next hm)
theorem FolSt.repG {G : GT} {pl N : Nat} {b : Int} (hm : MathOk) (hw : WW G N) (hp : PlOk G pl N) : FolSt (repG G pl N b) pl N := FolSt.rep hm 243 _ (FolSt.fol hm hw hp)
theorem FolSt.fv (hm : MathOk) {pl N : Nat} : ∀ (k : Nat) (G : GT), FolSt G pl N → FolSt (fvL pl N k G) pl N
  | 0, _, h => h
  | k + 1, G, h => by
    unfold fvL
    split
    · exact h.imp
    · exact FolSt.fv hm k _ (FolSt.repG hm h.imp.1 h.imp.2.1)
theorem FolSt.fvG {G : GT} {pl N : Nat} (hm : MathOk) (hw : WW G N) (hp : PlOk G pl N) : FolSt (fvG G pl N) pl N := FolSt.fv hm 243 _ (FolSt.repG hm hw hp)

set_option maxRecDepth 100000 in
set_option maxHeartbeats 4000000 in
theorem ct_P_replyBy (l : Launch) (D : va_G) (K : K5) (G : GT) (pl N : Nat) (b : Int) (hb : b = 0 ∨ b = 1) (hm0 : MathOk) (hw : WW G N) (hpl : PlOk G pl N) : Ct l D K y_P_replyBy c_P_replyBy 5 none 4 103 [.ref 22, vi b, .ref 1, .ref pl] G none (repG G pl N b) := by
  refine Ct.intro (by decide +kernel) (Nat.le_of_ble_eq_true rfl) ?_
  intro X hro hty hC hE
  refine a_aload_n (pc := 0) (q := 0) (i := 0) (x := 22) hC (by decide +kernel) rfl 0 rfl ?_
  refine a_aload_n (pc := 1) (q := 2) (i := 2) (x := 1) hC (by decide +kernel) rfl 2 rfl ?_
  refine a_aload_n (pc := 2) (q := 3) (i := 3) (x := pl) hC (by decide +kernel) rfl 3 rfl ?_
  refine g_callV0 (pc := 3) (idx := 76) (i := 22) (av := [.ref 1, .ref pl]) (rest := []) (g := folR G pl N) hC hro hty (by decide +kernel) rfl rfl k_P_follow (by decide +kernel) (by decide +kernel) (by decide +kernel) (ct_P_follow X.la X.dd K G pl N hw hpl (hm0 G pl N hw hpl).1) rfl rfl (by decide) (by first | decide | simp [Value.category]) ?_
  refine a_iconst (pc := 6) (c := 0) hC (by decide +kernel) ?_
  refine a_istore (pc := 7) (q := 0) (i := 4) (lv' := [(4, vi 0), (0, .ref 22), (1, vi b), (2, .ref 1), (3, .ref pl)]) hC (by decide +kernel) (by decide) rfl ?_
  have L9 : ∀ (fuel : Nat) (k : Nat) (H : GT), 243 - k < fuel → k ≤ 243 → FolSt H pl N → repL pl N b (243 - k) H = repG G pl N b → AW X 5 0 0 9 [(4, vi ((k : Int))), (0, .ref 22), (1, vi b), (2, .ref 1), (3, .ref pl)] [] (hp K H) := by
    intro fuel
    induction fuel with
    | zero => intro k H h; exact absurd h (Nat.not_lt_zero _)
    | succ fuel ih9 =>
      intro k H hm hk0 hf hH
      refine a_iload (pc := 9) (i := 4) (x := (k : Int)) hC (by decide +kernel) 0 rfl ?_
      refine a_sipush (pc := 11) (c := 243) hC (by decide +kernel) (by decide +kernel) ?_
      refine a_icmp_ge (pc := 14) (off := 25) hC 39 (by decide +kernel) (by decide) (by unfold inI; omega) (by unfold inI; omega) (fun c14 => ?_) (fun c14 => ?_)
      · skip
        have hk : k = 243 := by omega
        exact g_vret (pc := 39) hC hE (by decide +kernel) (by rw [← hH]; first | exact hst.symm | (rw [hk]; rfl))
      · skip
        have hf2 := hf.imp (i := N) (b := b)
        have hbe := betS_01 H pl N b N
        have hlt : k < 243 := by omega
        refine a_aload_n (pc := 17) (q := 0) (i := 0) (x := 22) hC (by decide +kernel) rfl 1 rfl ?_
        refine a_iload_n (pc := 18) (q := 1) (i := 1) (x := b) hC (by decide +kernel) rfl 2 rfl ?_
        refine a_aload_n (pc := 19) (q := 2) (i := 2) (x := 1) hC (by decide +kernel) rfl 3 rfl ?_
        refine a_aload_n (pc := 20) (q := 3) (i := 3) (x := pl) hC (by decide +kernel) rfl 4 rfl ?_
        refine g_callV (pc := 21) (idx := 80) (i := 22) (av := [vi b, .ref 1, .ref pl]) (rest := []) (g := impG H pl N b N) (v := vi (betS H pl N b N)) hC hro hty (by decide +kernel) rfl rfl k_P_improve (by decide +kernel) (by decide +kernel) (by decide +kernel) (ct_P_improve X.la X.dd K H pl N b hb hf.1 hf.2.1 hf.2.2.1) rfl rfl (by decide) (by first | decide | simp [Value.category]) ?_
        refine a_if_eq (pc := 24) (off := 15) hC 39 (by decide +kernel) (by decide) (by unfold inI; omega) (fun c24 => ?_) (fun c24 => ?_)
        · skip
          have hst : repL pl N b (243 - k) H = impG H pl N b N := by
            rw [show 243 - k = (242 - k) + 1 by omega]; show (if _ then _ else _) = _; rw [if_pos c24]
          exact g_vret (pc := 39) hC hE (by decide +kernel) (by rw [← hH]; first | exact hst.symm | (rw [hk]; rfl))
        · skip
          have hst : repL pl N b (243 - k) H = repL pl N b (243 - (k + 1)) (folR (impG H pl N b N) pl N) := by
            rw [show 243 - k = (242 - k) + 1 by omega, show 243 - (k + 1) = 242 - k by omega]; show (if _ then _ else _) = _; rw [if_neg c24]
          refine a_aload_n (pc := 27) (q := 0) (i := 0) (x := 22) hC (by decide +kernel) rfl 1 rfl ?_
          refine a_aload_n (pc := 28) (q := 2) (i := 2) (x := 1) hC (by decide +kernel) rfl 3 rfl ?_
          refine a_aload_n (pc := 29) (q := 3) (i := 3) (x := pl) hC (by decide +kernel) rfl 4 rfl ?_
          refine g_callV0 (pc := 30) (idx := 76) (i := 22) (av := [.ref 1, .ref pl]) (rest := []) (g := folR (impG H pl N b N) pl N) hC hro hty (by decide +kernel) rfl rfl k_P_follow (by decide +kernel) (by decide +kernel) (by decide +kernel) (ct_P_follow X.la X.dd K (impG H pl N b N) pl N hf2.1 hf2.2.1 (hm0 _ pl N hf2.1 hf2.2.1).1) rfl rfl (by decide) (by first | decide | simp [Value.category]) ?_
          refine a_iinc (pc := 33) (i := 4) (c := 1) (x := (k : Int)) (lv' := [(4, vi (((k : Int)) + 1)), (0, .ref 22), (1, vi b), (2, .ref 1), (3, .ref pl)]) hC (by decide +kernel) 0 rfl (by decide) rfl ?_
          refine a_goto (pc := 36) (off := -27) hC 9 (by decide +kernel) (by decide) ?_
          refine a_sub (lv' := [(4, vi (((k + 1) : Int))), (0, .ref 22), (1, vi b), (2, .ref 1), (3, .ref pl)]) [0, 1, 2, 3, 4] rfl ?_
          refine g_G (G' := (folR (impG H pl N b N) pl N)) rfl ?_
          exact ih9 (k + 1) (folR (impG H pl N b N) pl N) (by omega) (by omega) (hf.next hm0) (by rw [← hst]; exact hH)
  refine a_sub (lv' := [(4, vi ((0 : Int))), (0, .ref 22), (1, vi b), (2, .ref 1), (3, .ref pl)]) [0, 1, 2, 3, 4] rfl ?_
  refine g_G (G' := (folR G pl N)) rfl ?_
  exact L9 _ 0 (folR G pl N) (Nat.lt_succ_self _) (by omega) (FolSt.fol hm0 hw hpl) rfl

set_option maxRecDepth 100000 in
set_option maxHeartbeats 4000000 in
theorem ct_P_findValues (l : Launch) (D : va_G) (K : K5) (G : GT) (pl N : Nat) (hm0 : MathOk) (hw : WW G N) (hpl : PlOk G pl N) : Ct l D K y_P_findValues c_P_findValues 4 none 5 127 [.ref 22, .ref 1, .ref pl] G none (fvG G pl N) := by
  refine Ct.intro (by decide +kernel) (Nat.le_of_ble_eq_true rfl) ?_
  intro X hro hty hC hE
  refine a_aload_n (pc := 0) (q := 0) (i := 0) (x := 22) hC (by decide +kernel) rfl 0 rfl ?_
  refine a_iconst (pc := 1) (c := 1) hC (by decide +kernel) ?_
  refine a_aload_n (pc := 2) (q := 1) (i := 1) (x := 1) hC (by decide +kernel) rfl 1 rfl ?_
  refine a_aload_n (pc := 3) (q := 2) (i := 2) (x := pl) hC (by decide +kernel) rfl 2 rfl ?_
  refine g_callV0 (pc := 4) (idx := 84) (i := 22) (av := [vi 1, .ref 1, .ref pl]) (rest := []) (g := repG G pl N 1) hC hro hty (by decide +kernel) rfl rfl k_P_replyBy (by decide +kernel) (by decide +kernel) (by decide +kernel) (ct_P_replyBy X.la X.dd K G pl N 1 (Or.inr rfl) hm0 hw hpl) rfl rfl (by decide) (by first | decide | simp [Value.category]) ?_
  refine a_iconst (pc := 7) (c := 0) hC (by decide +kernel) ?_
  refine a_istore_n (pc := 8) (q := 3) (i := 3) (lv' := [(3, vi 0), (0, .ref 22), (1, .ref 1), (2, .ref pl)]) hC (by decide +kernel) rfl (by decide) rfl ?_
  have L9 : ∀ (fuel : Nat) (k : Nat) (H : GT), 243 - k < fuel → k ≤ 243 → FolSt H pl N → fvL pl N (243 - k) H = fvG G pl N → AW X 4 0 0 9 [(3, vi ((k : Int))), (0, .ref 22), (1, .ref 1), (2, .ref pl)] [] (hp K H) := by
    intro fuel
    induction fuel with
    | zero => intro k H h; exact absurd h (Nat.not_lt_zero _)
    | succ fuel ih9 =>
      intro k H hm hk0 hf hH
      refine a_iload_n (pc := 9) (q := 3) (i := 3) (x := (k : Int)) hC (by decide +kernel) rfl 0 rfl ?_
      refine a_sipush (pc := 10) (c := 243) hC (by decide +kernel) (by decide +kernel) ?_
      refine a_icmp_ge (pc := 13) (off := 26) hC 39 (by decide +kernel) (by decide) (by unfold inI; omega) (by unfold inI; omega) (fun c13 => ?_) (fun c13 => ?_)
      · skip
        have hk : k = 243 := by omega
        exact g_vret (pc := 39) hC hE (by decide +kernel) (by rw [← hH]; first | exact hst.symm | (rw [hk]; rfl))
      · skip
        have hf2 := hf.imp (i := N) (b := 0)
        have hbe := betS_01 H pl N 0 N
        have hlt : k < 243 := by omega
        refine a_aload_n (pc := 16) (q := 0) (i := 0) (x := 22) hC (by decide +kernel) rfl 1 rfl ?_
        refine a_iconst (pc := 17) (c := 0) hC (by decide +kernel) ?_
        refine a_aload_n (pc := 18) (q := 1) (i := 1) (x := 1) hC (by decide +kernel) rfl 2 rfl ?_
        refine a_aload_n (pc := 19) (q := 2) (i := 2) (x := pl) hC (by decide +kernel) rfl 3 rfl ?_
        refine g_callV (pc := 20) (idx := 80) (i := 22) (av := [vi 0, .ref 1, .ref pl]) (rest := []) (g := impG H pl N 0 N) (v := vi (betS H pl N 0 N)) hC hro hty (by decide +kernel) rfl rfl k_P_improve (by decide +kernel) (by decide +kernel) (by decide +kernel) (ct_P_improve X.la X.dd K H pl N 0 (Or.inl rfl) hf.1 hf.2.1 hf.2.2.1) rfl rfl (by decide) (by first | decide | simp [Value.category]) ?_
        refine a_if_eq (pc := 23) (off := 16) hC 39 (by decide +kernel) (by decide) (by unfold inI; omega) (fun c23 => ?_) (fun c23 => ?_)
        · skip
          have hst : fvL pl N (243 - k) H = impG H pl N 0 N := by
            rw [show 243 - k = (242 - k) + 1 by omega]; show (if _ then _ else _) = _; rw [if_pos c23]
          exact g_vret (pc := 39) hC hE (by decide +kernel) (by rw [← hH]; first | exact hst.symm | (rw [hk]; rfl))
        · skip
          have hst : fvL pl N (243 - k) H = fvL pl N (243 - (k + 1)) (repG (impG H pl N 0 N) pl N 1) := by
            rw [show 243 - k = (242 - k) + 1 by omega, show 243 - (k + 1) = 242 - k by omega]; show (if _ then _ else _) = _; rw [if_neg c23]
          refine a_aload_n (pc := 26) (q := 0) (i := 0) (x := 22) hC (by decide +kernel) rfl 1 rfl ?_
          refine a_iconst (pc := 27) (c := 1) hC (by decide +kernel) ?_
          refine a_aload_n (pc := 28) (q := 1) (i := 1) (x := 1) hC (by decide +kernel) rfl 2 rfl ?_
          refine a_aload_n (pc := 29) (q := 2) (i := 2) (x := pl) hC (by decide +kernel) rfl 3 rfl ?_
          refine g_callV0 (pc := 30) (idx := 84) (i := 22) (av := [vi 1, .ref 1, .ref pl]) (rest := []) (g := repG (impG H pl N 0 N) pl N 1) hC hro hty (by decide +kernel) rfl rfl k_P_replyBy (by decide +kernel) (by decide +kernel) (by decide +kernel) (ct_P_replyBy X.la X.dd K (impG H pl N 0 N) pl N 1 (Or.inr rfl) hm0 hf2.1 hf2.2.1) rfl rfl (by decide) (by first | decide | simp [Value.category]) ?_
          refine a_iinc (pc := 33) (i := 3) (c := 1) (x := (k : Int)) (lv' := [(3, vi (((k : Int)) + 1)), (0, .ref 22), (1, .ref 1), (2, .ref pl)]) hC (by decide +kernel) 0 rfl (by decide) rfl ?_
          refine a_goto (pc := 36) (off := -27) hC 9 (by decide +kernel) (by decide) ?_
          refine a_sub (lv' := [(3, vi (((k + 1) : Int))), (0, .ref 22), (1, .ref 1), (2, .ref pl)]) [0, 1, 2, 3] rfl ?_
          refine g_G (G' := (repG (impG H pl N 0 N) pl N 1)) rfl ?_
          exact ih9 (k + 1) (repG (impG H pl N 0 N) pl N 1) (by omega) (by omega) (FolSt.repG hm0 hf2.1 hf2.2.1) (by rw [← hst]; exact hH)
  refine a_sub (lv' := [(3, vi ((0 : Int))), (0, .ref 22), (1, .ref 1), (2, .ref pl)]) [0, 1, 2, 3] rfl ?_
  refine g_G (G' := (repG G pl N 1)) rfl ?_
  exact L9 _ 0 (repG G pl N 1) (Nat.lt_succ_self _) (by omega) (FolSt.repG hm0 hw hpl) rfl
end
section
/-! LongRun -/
def orZ (x y : Int) : Int := ((x.toNat ||| y.toNat : Nat) : Int)
def andZ (x y : Int) : Int := ((x.toNat &&& y.toNat : Nat) : Int)
theorem iZ_nat (a : Nat) : iZ (a : Int) = Int32.ofNat a := Int32.ofInt_eq_ofNat
theorem iZ_or {x y : Int} (hx : 0 ≤ x) (hy : 0 ≤ y) : iZ x ||| iZ y = iZ (orZ x y) := by
  obtain ⟨a, rfl⟩ : ∃ a : Nat, x = (a : Int) := ⟨x.toNat, by omega⟩
  obtain ⟨b, rfl⟩ : ∃ b : Nat, y = (b : Int) := ⟨y.toNat, by omega⟩
  unfold orZ
  rw [Int.toNat_natCast, Int.toNat_natCast, iZ_nat, iZ_nat, iZ_nat]
  apply Int32.toBitVec.inj
  show BitVec.ofNat 32 a ||| BitVec.ofNat 32 b = BitVec.ofNat 32 (a ||| b)
  apply BitVec.eq_of_getLsbD_eq
  intro i hi
  simp [BitVec.getLsbD_ofNat, Nat.testBit_or, hi]
theorem iZ_and {x y : Int} (hx : 0 ≤ x) (hy : 0 ≤ y) : iZ x &&& iZ y = iZ (andZ x y) := by
  obtain ⟨a, rfl⟩ : ∃ a : Nat, x = (a : Int) := ⟨x.toNat, by omega⟩
  obtain ⟨b, rfl⟩ : ∃ b : Nat, y = (b : Int) := ⟨y.toNat, by omega⟩
  unfold andZ
  rw [Int.toNat_natCast, Int.toNat_natCast, iZ_nat, iZ_nat, iZ_nat]
  apply Int32.toBitVec.inj
  show BitVec.ofNat 32 a &&& BitVec.ofNat 32 b = BitVec.ofNat 32 (a &&& b)
  apply BitVec.eq_of_getLsbD_eq
  intro i hi
  simp [BitVec.getLsbD_ofNat, Nat.testBit_and, hi]
def pw (k : Nat) : Nat := 2 ^ k
theorem iZ_shl {k : Nat} (h : k < 6) : iZ 1 <<< (iZ (k : Int) &&& 31) = iZ ((pw k : Nat) : Int) := by
  rcases (by omega : k = 0 ∨ k = 1 ∨ k = 2 ∨ k = 3 ∨ k = 4 ∨ k = 5) with rfl | rfl | rfl | rfl | rfl | rfl <;> decide
theorem pw_in {k : Nat} (h : k < 6) : pw k ≤ 32 := by
  rcases (by omega : k = 0 ∨ k = 1 ∨ k = 2 ∨ k = 3 ∨ k = 4 ∨ k = 5) with rfl | rfl | rfl | rfl | rfl | rfl <;> decide
theorem orZ_in {x y : Int} (hx : 0 ≤ x ∧ x ≤ 63) (hy : 0 ≤ y ∧ y ≤ 63) : 0 ≤ orZ x y ∧ orZ x y ≤ 63 := by
  unfold orZ
  have : x.toNat ||| y.toNat < 2 ^ 6 := Nat.or_lt_two_pow (by omega) (by omega)
  omega
theorem and_pw0 : ∀ a, a < 64 → ∀ t, t < 6 → (a &&& 2 ^ t = 0 ↔ a.testBit t = false) := by decide +kernel
theorem and_pw {a t : Nat} (ha : a ≤ 63) (ht : t < 6) : (a &&& pw t = 0 ↔ a.testBit t = false) ∧ a &&& pw t ≤ 63 :=
  ⟨and_pw0 a (by omega) t ht, Nat.le_trans Nat.and_le_left ha⟩
def tb (G : GT) (s t : Nat) : Bool := (G 42 s).toNat.testBit t
def bZ (b : Bool) : Int := if b then 1 else 0
theorem bZ_01 (b : Bool) : bZ b = 0 ∨ bZ b = 1 := by cases b; exact Or.inl rfl; exact Or.inr rfl
def RcOk (G : GT) (N : Nat) : Prop := ∀ s, s < N → 0 ≤ G 42 s ∧ G 42 s ≤ 63
theorem andZ_pw {x : Int} {t : Nat} (hx : 0 ≤ x ∧ x ≤ 63) (ht : t < 6) : (andZ x ((pw t : Nat) : Int) = 0 ↔ x.toNat.testBit t = false) ∧ inI (andZ x ((pw t : Nat) : Int)) := by
  unfold andZ inI
  rw [Int.toNat_natCast]
  have := and_pw (a := x.toNat) (t := t) (by omega) ht
  constructor
  · rw [← this.1]; omega
  · omega
def cirL (G : GT) (s : Nat) : Nat → Bool
  | 0 => true
  | t + 1 => cirL G s t && (!(tb G s t) || tb G t s)
def inCir (G : GT) (s n : Nat) : Bool := !(tb G s 5) && cirL G s n
theorem cirL_down {G : GT} {s : Nat} : ∀ {n t : Nat}, t ≤ n → cirL G s n = true → cirL G s t = true
  | 0, t, h, hc => by rw [show t = 0 by omega]; rfl
  | n + 1, t, h, hc => by
    by_cases e : t = n + 1
    · rw [e]; exact hc
    · have : cirL G s n = true := by unfold cirL at hc; simp at hc; exact hc.1
      exact cirL_down (by omega) this

set_option maxRecDepth 100000 in
set_option maxHeartbeats 4000000 in
theorem ct_L_reaches (l : Launch) (D : va_G) (K : K5) (G : GT) (N s t : Nat) (hs : s < N) (hN : N ≤ 5) (ht : t < 5) (hrc : RcOk G N) : Ct l D K y_L_reaches c_L_reaches 3 (some .boolean) 0 0 [.ref 32, vi ((s : Int)), vi ((t : Int))] G (some (vi (bZ (tb G s t)))) G := by
  refine Ct.intro (by decide +kernel) (Nat.le_of_ble_eq_true rfl) ?_
  intro X hro hty hC hE
  have h1 := hrc s hs
  have h2 := andZ_pw (t := t) h1 (by omega)
  refine a_aload_n (pc := 0) (q := 0) (i := 0) (x := 32) hC (by decide +kernel) rfl 0 rfl ?_
  refine g_get (pc := 1) (idx := 25) (ci := 1) (v := .ref 42) hC 32 2 (by decide +kernel) rfl rfl rfl rfl wrL (by decide) rfl (by decide +kernel) ?_
  refine a_iload_n (pc := 4) (q := 1) (i := 1) (x := (s : Int)) hC (by decide +kernel) rfl 1 rfl ?_
  refine g_iald (pc := 5) (a := 42) (j := s) hC hty (by decide +kernel) rfl (by omega) (by first | decide | omega) ?_
  refine a_iconst (pc := 6) (c := 1) hC (by decide +kernel) ?_
  refine a_iload_n (pc := 7) (q := 2) (i := 2) (x := (t : Int)) hC (by decide +kernel) rfl 2 rfl ?_
  refine a_ishl (pc := 8) (z := ((pw t : Nat) : Int)) hC (by decide +kernel) (iZ_shl (by omega)) ?_
  refine a_iand (pc := 9) (z := andZ (G 42 s) ((pw t : Nat) : Int)) hC (by decide +kernel) (iZ_and (by omega) (by omega)) ?_
  refine a_if_eq (pc := 10) (off := 7) hC 17 (by decide +kernel) (by decide) h2.2 (fun c10 => ?_) (fun c10 => ?_)
  · skip
    refine a_iconst (pc := 17) (c := 0) hC (by decide +kernel) ?_
    exact g_zret (pc := 18) hC hE (by decide +kernel) (by omega) (by unfold bZ tb; first | rw [if_neg (by rw [h2.1.mp c10]; decide)] | rw [if_pos (by cases hh : (G 42 s).toNat.testBit t; exact absurd (h2.1.mpr hh) c10; rfl)]) rfl
  · skip
    refine a_iconst (pc := 13) (c := 1) hC (by decide +kernel) ?_
    refine a_goto (pc := 14) (off := 4) hC 18 (by decide +kernel) (by decide) ?_
    exact g_zret (pc := 18) hC hE (by decide +kernel) (by omega) (by unfold bZ tb; first | rw [if_neg (by rw [h2.1.mp c10]; decide)] | rw [if_pos (by cases hh : (G 42 s).toNat.testBit t; exact absurd (h2.1.mpr hh) c10; rfl)]) rfl

set_option maxRecDepth 100000 in
set_option maxHeartbeats 4000000 in
theorem ct_L_isInCircle (l : Launch) (D : va_G) (K : K5) (G : GT) (N s : Nat) (hs : s < N) (hN : N ≤ 5) (hrc : RcOk G N) : Ct l D K y_L_isInCircle c_L_isInCircle 4 (some .boolean) 1 22 [.ref 32, vi ((s : Int)), vi ((N : Int))] G (some (vi (bZ (inCir G s N)))) G := by
  refine Ct.intro (by decide +kernel) (Nat.le_of_ble_eq_true rfl) ?_
  intro X hro hty hC hE
  have h1 := hrc s hs
  have h5 := andZ_pw (t := 5) h1 (by omega)
  refine a_aload_n (pc := 0) (q := 0) (i := 0) (x := 32) hC (by decide +kernel) rfl 0 rfl ?_
  refine g_get (pc := 1) (idx := 25) (ci := 1) (v := .ref 42) hC 32 2 (by decide +kernel) rfl rfl rfl rfl wrL (by decide) rfl (by decide +kernel) ?_
  refine a_iload_n (pc := 4) (q := 1) (i := 1) (x := (s : Int)) hC (by decide +kernel) rfl 1 rfl ?_
  refine g_iald (pc := 5) (a := 42) (j := s) hC hty (by decide +kernel) rfl (by omega) (by first | decide | omega) ?_
  refine a_bipush (pc := 6) (c := 32) hC (by decide +kernel) (by decide +kernel) ?_
  refine a_iand (pc := 8) (z := andZ (G 42 s) ((pw 5 : Nat) : Int)) hC (by decide +kernel) (iZ_and (y := 32) (by omega) (by omega)) ?_
  refine a_if_eq (pc := 9) (off := 5) hC 14 (by decide +kernel) (by decide) h5.2 (fun c9 => ?_) (fun c9 => ?_)
  · skip
    have hb5 : tb G s 5 = false := h5.1.mp c9
    refine a_iconst (pc := 14) (c := 0) hC (by decide +kernel) ?_
    refine a_istore_n (pc := 15) (q := 3) (i := 3) (lv' := [(3, vi 0), (0, .ref 32), (1, vi ((s : Int))), (2, vi ((N : Int)))]) hC (by decide +kernel) rfl (by decide) rfl ?_
    have L16 : ∀ (fuel : Nat) (t : Nat), N - t < fuel → t ≤ N → cirL G s t = true → AW X 4 0 0 16 [(3, vi ((t : Int))), (0, .ref 32), (1, vi ((s : Int))), (2, vi ((N : Int)))] [] (hp K G) := by
      intro fuel
      induction fuel with
      | zero => intro t h; exact absurd h (Nat.not_lt_zero _)
      | succ fuel ih16 =>
        intro t hm ht hcl
        refine a_iload_n (pc := 16) (q := 3) (i := 3) (x := (t : Int)) hC (by decide +kernel) rfl 0 rfl ?_
        refine a_iload_n (pc := 17) (q := 2) (i := 2) (x := (N : Int)) hC (by decide +kernel) rfl 3 rfl ?_
        refine a_icmp_ge (pc := 18) (off := 29) hC 47 (by decide +kernel) (by decide) (by unfold inI; omega) (by unfold inI; omega) (fun c18 => ?_) (fun c18 => ?_)
        · skip
          refine a_iconst (pc := 47) (c := 1) hC (by decide +kernel) ?_
          exact g_zret (pc := 48) hC hE (by decide +kernel) (by omega) (by unfold inCir; rw [hb5, ← show t = N by omega, hcl]; rfl) rfl
        · skip
          refine a_aload_n (pc := 21) (q := 0) (i := 0) (x := 32) hC (by decide +kernel) rfl 1 rfl ?_
          refine a_iload_n (pc := 22) (q := 1) (i := 1) (x := (s : Int)) hC (by decide +kernel) rfl 2 rfl ?_
          refine a_iload_n (pc := 23) (q := 3) (i := 3) (x := (t : Int)) hC (by decide +kernel) rfl 0 rfl ?_
          refine g_callV (pc := 24) (idx := 75) (i := 32) (av := [vi ((s : Int)), vi ((t : Int))]) (rest := []) (g := G) (v := vi (bZ (tb G s t))) hC hro hty (by decide +kernel) rfl rfl k_L_reaches (by decide +kernel) (by decide +kernel) (by decide +kernel) (ct_L_reaches X.la X.dd K G N s t (by omega) (by omega) (by omega) hrc) rfl rfl (by decide) (by first | decide | simp [Value.category]) ?_
          refine a_if_eq (pc := 27) (off := 14) hC 41 (by decide +kernel) (by decide) (by unfold inI; have := bZ_01 (tb G s t); omega) (fun c27 => ?_) (fun c27 => ?_)
          · skip
            have hb1 : tb G s t = false := by
              cases hh : tb G s t
              · rfl
              · rw [hh] at c27; exact absurd c27 (by decide)
            refine a_iinc (pc := 41) (i := 3) (c := 1) (x := (t : Int)) (lv' := [(3, vi (((t : Int)) + 1)), (0, .ref 32), (1, vi ((s : Int))), (2, vi ((N : Int)))]) hC (by decide +kernel) 0 rfl (by decide) rfl ?_
            refine a_goto (pc := 44) (off := -28) hC 16 (by decide +kernel) (by decide) ?_
            refine a_sub (lv' := [(3, vi (((t + 1) : Int))), (0, .ref 32), (1, vi ((s : Int))), (2, vi ((N : Int)))]) [0, 1, 2, 3] rfl ?_
            exact ih16 (t + 1) (by omega) (by omega) (by unfold cirL; rw [hcl, hb1]; first | rfl | (rw [hb2]; rfl))
          · skip
            have hb1 : tb G s t = true := by
              cases hh : tb G s t
              · rw [hh] at c27; exact absurd rfl c27
              · rfl
            refine a_aload_n (pc := 30) (q := 0) (i := 0) (x := 32) hC (by decide +kernel) rfl 1 rfl ?_
            refine a_iload_n (pc := 31) (q := 3) (i := 3) (x := (t : Int)) hC (by decide +kernel) rfl 0 rfl ?_
            refine a_iload_n (pc := 32) (q := 1) (i := 1) (x := (s : Int)) hC (by decide +kernel) rfl 2 rfl ?_
            refine g_callV (pc := 33) (idx := 75) (i := 32) (av := [vi ((t : Int)), vi ((s : Int))]) (rest := []) (g := G) (v := vi (bZ (tb G t s))) hC hro hty (by decide +kernel) rfl rfl k_L_reaches (by decide +kernel) (by decide +kernel) (by decide +kernel) (ct_L_reaches X.la X.dd K G N t s (by omega) (by omega) (by omega) hrc) rfl rfl (by decide) (by first | decide | simp [Value.category]) ?_
            refine a_if_ne (pc := 36) (off := 5) hC 41 (by decide +kernel) (by decide) (by unfold inI; have := bZ_01 (tb G t s); omega) (fun c36 => ?_) (fun c36 => ?_)
            · skip
              have hb2 : tb G t s = true := by
                cases hh : tb G t s
                · rw [hh] at c36; exact absurd rfl c36
                · rfl
              refine a_iinc (pc := 41) (i := 3) (c := 1) (x := (t : Int)) (lv' := [(3, vi (((t : Int)) + 1)), (0, .ref 32), (1, vi ((s : Int))), (2, vi ((N : Int)))]) hC (by decide +kernel) 0 rfl (by decide) rfl ?_
              refine a_goto (pc := 44) (off := -28) hC 16 (by decide +kernel) (by decide) ?_
              refine a_sub (lv' := [(3, vi (((t + 1) : Int))), (0, .ref 32), (1, vi ((s : Int))), (2, vi ((N : Int)))]) [0, 1, 2, 3] rfl ?_
              exact ih16 (t + 1) (by omega) (by omega) (by unfold cirL; rw [hcl, hb1]; first | rfl | (rw [hb2]; rfl))
            · skip
              have hb2 : tb G t s = false := by
                cases hh : tb G t s
                · rfl
                · rw [hh] at c36; exact absurd c36 (by decide)
              refine a_iconst (pc := 39) (c := 0) hC (by decide +kernel) ?_
              exact g_zret (pc := 40) hC hE (by decide +kernel) (by omega) (by
            have hx : cirL G s N = false := by
              cases hh : cirL G s N
              · rfl
              · have := cirL_down (t := t + 1) (by omega) hh
                unfold cirL at this; rw [hcl, hb1, hb2] at this; exact absurd this (by decide)
            unfold inCir; rw [hx]; cases tb G s 5 <;> rfl) rfl
    refine a_sub (lv' := [(3, vi ((0 : Int))), (0, .ref 32), (1, vi ((s : Int))), (2, vi ((N : Int)))]) [0, 1, 2, 3] rfl ?_
    exact L16 _ 0 (Nat.lt_succ_self _) (by omega) rfl
  · skip
    have hb5 : tb G s 5 = true := by
      cases hh : tb G s 5
      · exact absurd (h5.1.mpr hh) c9
      · rfl
    refine a_iconst (pc := 12) (c := 0) hC (by decide +kernel) ?_
    exact g_zret (pc := 13) hC hE (by decide +kernel) (by omega) (by unfold inCir; rw [hb5]; rfl) rfl

/-- the states that a state's act leads to, the end (bit 5) if none -/
def mkB (G : GT) (q : Nat) : Nat → Int
  | 0 => if G 5 q = 0 then 32 else 0
  | t + 1 => if 0 < G (7 + q) t then orZ (mkB G q t) ((pw t : Nat) : Int) else mkB G q t
theorem mkB_in (G : GT) (q : Nat) : ∀ t, t ≤ 5 → 0 ≤ mkB G q t ∧ mkB G q t ≤ 63
  | 0, _ => by unfold mkB; split <;> omega
  | t + 1, h => by
    unfold mkB
    have := pw_in (k := t) (by omega)
    split
    · exact orZ_in (mkB_in G q t (by omega)) (by omega)
    · exact mkB_in G q t (by omega)
def rc1 (G : GT) (pl N s : Nat) : Int := orZ (mkB G (slotN G pl s) N) ((pw s : Nat) : Int)
def rc1F (G : GT) (pl N i : Nat) : Nat → Int := fun s => if s < i then rc1 G pl N s else G 42 s
theorem rc1F_0 (G : GT) (pl N : Nat) : rc1F G pl N 0 = G 42 := by funext s; exact if_neg (by omega)
theorem rc1F_s (G : GT) (pl N i : Nat) : up (rc1F G pl N i) i (rc1 G pl N i) = rc1F G pl N (i + 1) := by
  funext j; unfold up rc1F
  by_cases h : j = i
  · subst h; rw [if_pos rfl, if_pos (by omega)]
  · rw [if_neg h]
    by_cases h2 : j < i
    · rw [if_pos h2, if_pos (by omega)]
    · rw [if_neg h2, if_neg (by omega)]
/-- Warshall's rounds -/
def wS (f : Nat → Int) (by_ : Nat) : Nat → Nat → Int
  | 0 => f
  | s + 1 => if (wS f by_ s s).toNat.testBit by_ then up (wS f by_ s) s (orZ (wS f by_ s s) (wS f by_ s by_)) else wS f by_ s
def wB (f : Nat → Int) (N : Nat) : Nat → Nat → Int
  | 0 => f
  | b + 1 => wS (wB f N b) b N
theorem wS_in {f : Nat → Int} {N b : Nat} (hb : b < N) (h : ∀ s, s < N → 0 ≤ f s ∧ f s ≤ 63) : ∀ i, i ≤ N → ∀ s, s < N → 0 ≤ wS f b i s ∧ wS f b i s ≤ 63
  | 0, _, s, hs => h s hs
  | i + 1, hi, s, hs => by
    unfold wS
    split
    · by_cases e : s = i
      · subst e; rw [up_s]; exact orZ_in (wS_in hb h s (by omega) s hs) (wS_in hb h s (by omega) b hb)
      · rw [up_n _ _ e]; exact wS_in hb h i (by omega) s hs
    · exact wS_in hb h i (by omega) s hs
theorem wB_in {f : Nat → Int} {N : Nat} (h : ∀ s, s < N → 0 ≤ f s ∧ f s ≤ 63) : ∀ b, b ≤ N → ∀ s, s < N → 0 ≤ wB f N b s ∧ wB f N b s ≤ 63
  | 0, _, s, hs => h s hs
  | b + 1, hb, s, hs => wS_in (by omega) (fun s hs => wB_in h b (by omega) s hs) N (Nat.le_refl _) s hs
theorem rc1F_in {G : GT} {pl N : Nat} (hN : N ≤ 5) : ∀ s, s < N → 0 ≤ rc1F G pl N N s ∧ rc1F G pl N N s ≤ 63 := by
  intro s hs
  unfold rc1F rc1
  rw [if_pos hs]
  have := pw_in (k := s) (by omega)
  exact orZ_in (mkB_in _ _ _ hN) (by omega)
def reaG (G : GT) (pl N : Nat) : GT := uG G 42 (wB (rc1F G pl N N) N N)

set_option maxRecDepth 100000 in
set_option maxHeartbeats 4000000 in
theorem ct_L_findReach (l : Launch) (D : va_G) (K : K5) (G : GT) (pl N : Nat) (hw : WW G N) (hpl : PlOk G pl N) : Ct l D K y_L_findReach c_L_findReach 7 none 1 22 [.ref 32, .ref 1, .ref pl] G none (reaG G pl N) := by
  refine Ct.intro (by decide +kernel) (Nat.le_of_ble_eq_true rfl) ?_
  intro X hro hty hC hE
  obtain ⟨hn, hN5, hsh, hac, hpa, hwe, hth⟩ := id hw
  have hplr := hpl.1
  refine a_iconst (pc := 0) (c := 0) hC (by decide +kernel) ?_
  refine a_istore_n (pc := 1) (q := 3) (i := 3) (lv' := [(3, vi 0), (0, .ref 32), (1, .ref 1), (2, .ref pl)]) hC (by decide +kernel) rfl (by decide) rfl ?_
  have L2 : ∀ (fuel : Nat) (s : Nat), N - s < fuel → s ≤ N → AW X 7 0 0 2 [(3, vi ((s : Int))), (0, .ref 32), (1, .ref 1), (2, .ref pl)] [] (hp K (uG G 42 (rc1F G pl N s))) := by
    intro fuel
    induction fuel with
    | zero => intro s h; exact absurd h (Nat.not_lt_zero _)
    | succ fuel ih2 =>
      intro s hm hs
      refine a_iload_n (pc := 2) (q := 3) (i := 3) (x := (s : Int)) hC (by decide +kernel) rfl 0 rfl ?_
      refine a_aload_n (pc := 3) (q := 1) (i := 1) (x := 1) hC (by decide +kernel) rfl 2 rfl ?_
      refine g_getN (pc := 4) (idx := 36) (ci := 4) (v := vi ((uG G 42 (rc1F G pl N s)) 1 0)) (host := "PlanValues") hC 1 0 (by decide +kernel) rfl rfl rfl rfl wrW (by decide) rfl (by decide +kernel) ?_
      refine g_top (y := (N : Int)) (by rw [uG_n _ _ (by omega)]; exact hn) ?_
      refine a_icmp_ge (pc := 7) (off := 88) hC 95 (by decide +kernel) (by decide) (by unfold inI; omega) (by unfold inI; omega) (fun c7 => ?_) (fun c7 => ?_)
      · skip
        refine a_iconst (pc := 95) (c := 0) hC (by decide +kernel) ?_
        refine a_istore_n (pc := 96) (q := 3) (i := 3) (lv' := [(3, vi 0), (0, .ref 32), (1, .ref 1), (2, .ref pl)]) hC (by decide +kernel) rfl (by decide) rfl ?_
        have L97 : ∀ (fuel : Nat) (b : Nat), N - b < fuel → b ≤ N → AW X 7 0 0 97 [(3, vi ((b : Int))), (0, .ref 32), (1, .ref 1), (2, .ref pl)] [] (hp K (uG G 42 (wB (rc1F G pl N N) N b))) := by
          intro fuel
          induction fuel with
          | zero => intro b h; exact absurd h (Nat.not_lt_zero _)
          | succ fuel ih97 =>
            intro b hm hb
            refine a_iload_n (pc := 97) (q := 3) (i := 3) (x := (b : Int)) hC (by decide +kernel) rfl 0 rfl ?_
            refine a_aload_n (pc := 98) (q := 1) (i := 1) (x := 1) hC (by decide +kernel) rfl 2 rfl ?_
            refine g_getN (pc := 99) (idx := 36) (ci := 4) (v := vi ((uG G 42 (wB (rc1F G pl N N) N b)) 1 0)) (host := "PlanValues") hC 1 0 (by decide +kernel) rfl rfl rfl rfl wrW (by decide) rfl (by decide +kernel) ?_
            refine g_top (y := (N : Int)) (by rw [uG_n _ _ (by omega)]; exact hn) ?_
            refine a_icmp_ge (pc := 102) (off := 53) hC 155 (by decide +kernel) (by decide) (by unfold inI; omega) (by unfold inI; omega) (fun c102 => ?_) (fun c102 => ?_)
            · skip
              exact g_vret (pc := 155) hC hE (by decide +kernel) (by rw [show b = N by omega]; rfl)
            · skip
              refine a_iconst (pc := 105) (c := 0) hC (by decide +kernel) ?_
              refine a_istore (pc := 106) (q := 0) (i := 4) (lv' := [(4, vi 0), (3, vi ((b : Int))), (0, .ref 32), (1, .ref 1), (2, .ref pl)]) hC (by decide +kernel) (by decide) rfl ?_
              have L108 : ∀ (fuel : Nat) (a : Nat), N - a < fuel → a ≤ N → AW X 7 0 0 108 [(4, vi ((a : Int))), (3, vi ((b : Int))), (0, .ref 32), (1, .ref 1), (2, .ref pl)] [] (hp K (uG G 42 (wS (wB (rc1F G pl N N) N b) b a))) := by
                intro fuel
                induction fuel with
                | zero => intro a h; exact absurd h (Nat.not_lt_zero _)
                | succ fuel ih108 =>
                  intro a hm ha
                  refine a_iload (pc := 108) (i := 4) (x := (a : Int)) hC (by decide +kernel) 0 rfl ?_
                  refine a_aload_n (pc := 110) (q := 1) (i := 1) (x := 1) hC (by decide +kernel) rfl 3 rfl ?_
                  refine g_getN (pc := 111) (idx := 36) (ci := 4) (v := vi ((uG G 42 (wS (wB (rc1F G pl N N) N b) b a)) 1 0)) (host := "PlanValues") hC 1 0 (by decide +kernel) rfl rfl rfl rfl wrW (by decide) rfl (by decide +kernel) ?_
                  refine g_top (y := (N : Int)) (by rw [uG_n _ _ (by omega)]; exact hn) ?_
                  refine a_icmp_ge (pc := 114) (off := 35) hC 149 (by decide +kernel) (by decide) (by unfold inI; omega) (by unfold inI; omega) (fun c114 => ?_) (fun c114 => ?_)
                  · skip
                    refine a_iinc (pc := 149) (i := 3) (c := 1) (x := (b : Int)) (lv' := [(3, vi (((b : Int)) + 1)), (4, vi ((a : Int))), (0, .ref 32), (1, .ref 1), (2, .ref pl)]) hC (by decide +kernel) 1 rfl (by decide) rfl ?_
                    refine a_goto (pc := 152) (off := -55) hC 97 (by decide +kernel) (by decide) ?_
                    refine a_sub (lv' := [(3, vi (((b + 1) : Int))), (0, .ref 32), (1, .ref 1), (2, .ref pl)]) [0, 2, 3, 4] rfl ?_
                    refine g_G (G' := uG G 42 (wB (rc1F G pl N N) N (b + 1))) (by rw [show a = N by omega]; rfl) ?_
                    exact ih97 (b + 1) (by omega) (by omega)
                  · skip
                    have hwi := wS_in (by omega : b < N) (fun z hz => wB_in (rc1F_in (G := G) (pl := pl) hN5) b (by omega) z hz) a (by omega)
                    have hwa := hwi a (by omega)
                    have hwb := hwi b (by omega)
                    refine a_aload_n (pc := 117) (q := 0) (i := 0) (x := 32) hC (by decide +kernel) rfl 2 rfl ?_
                    refine a_iload (pc := 118) (i := 4) (x := (a : Int)) hC (by decide +kernel) 0 rfl ?_
                    refine a_iload_n (pc := 120) (q := 3) (i := 3) (x := (b : Int)) hC (by decide +kernel) rfl 1 rfl ?_
                    refine g_callV (pc := 121) (idx := 75) (i := 32) (av := [vi ((a : Int)), vi ((b : Int))]) (rest := []) (g := uG G 42 (wS (wB (rc1F G pl N N) N b) b a)) (v := vi (bZ (tb (uG G 42 (wS (wB (rc1F G pl N N) N b) b a)) a b))) hC hro hty (by decide +kernel) rfl rfl k_L_reaches (by decide +kernel) (by decide +kernel) (by decide +kernel) (ct_L_reaches X.la X.dd K (uG G 42 (wS (wB (rc1F G pl N N) N b) b a)) N a b (by omega) (by omega) (by omega) (fun z hz => by rw [uG_s]; exact hwi z hz)) rfl rfl (by decide) (by first | decide | simp [Value.category]) ?_
                    refine a_if_eq (pc := 124) (off := 19) hC 143 (by decide +kernel) (by decide) (by unfold inI; have := bZ_01 (tb (uG G 42 (wS (wB (rc1F G pl N N) N b) b a)) a b); omega) (fun c124 => ?_) (fun c124 => ?_)
                    · skip
                      have htb : (wS (wB (rc1F G pl N N) N b) b a a).toNat.testBit b = false := by
                        cases hh : (wS (wB (rc1F G pl N N) N b) b a a).toNat.testBit b
                        · rfl
                        · unfold tb bZ at c124; rw [uG_s, hh] at c124; exact absurd c124 (by decide)
                      have hws : wS (wB (rc1F G pl N N) N b) b a = wS (wB (rc1F G pl N N) N b) b (a + 1) := by show _ = (if _ then _ else _); rw [if_neg (by rw [htb]; decide)]
                      refine a_iinc (pc := 143) (i := 4) (c := 1) (x := (a : Int)) (lv' := [(4, vi (((a : Int)) + 1)), (3, vi ((b : Int))), (0, .ref 32), (1, .ref 1), (2, .ref pl)]) hC (by decide +kernel) 0 rfl (by decide) rfl ?_
                      refine a_goto (pc := 146) (off := -38) hC 108 (by decide +kernel) (by decide) ?_
                      refine a_sub (lv' := [(4, vi (((a + 1) : Int))), (3, vi ((b : Int))), (0, .ref 32), (1, .ref 1), (2, .ref pl)]) [0, 1, 2, 3, 4] rfl ?_
                      refine g_G (G' := uG G 42 (wS (wB (rc1F G pl N N) N b) b (a + 1))) (by first | (rw [← hws]; done) | (rw [← hws, uG_s, uG_uG])) ?_
                      exact ih108 (a + 1) (by omega) (by omega)
                    · skip
                      have htb : (wS (wB (rc1F G pl N N) N b) b a a).toNat.testBit b = true := by
                        cases hh : (wS (wB (rc1F G pl N N) N b) b a a).toNat.testBit b
                        · unfold tb bZ at c124; rw [uG_s, hh] at c124; exact absurd rfl c124
                        · rfl
                      have hws : up (wS (wB (rc1F G pl N N) N b) b a) a (orZ (wS (wB (rc1F G pl N N) N b) b a a) (wS (wB (rc1F G pl N N) N b) b a b)) = wS (wB (rc1F G pl N N) N b) b (a + 1) := by show _ = (if _ then _ else _); rw [if_pos htb]
                      refine a_aload_n (pc := 127) (q := 0) (i := 0) (x := 32) hC (by decide +kernel) rfl 2 rfl ?_
                      refine g_get (pc := 128) (idx := 25) (ci := 1) (v := .ref 42) hC 32 2 (by decide +kernel) rfl rfl rfl rfl wrL (by decide) rfl (by decide +kernel) ?_
                      refine a_iload (pc := 131) (i := 4) (x := (a : Int)) hC (by decide +kernel) 0 rfl ?_
                      refine a_dup2 (pc := 133) hC (by decide +kernel) rfl rfl ?_
                      refine g_iald (pc := 134) (a := 42) (j := a) hC hty (by decide +kernel) rfl (by omega) (by first | decide | omega) ?_
                      refine g_top (y := wS (wB (rc1F G pl N N) N b) b a a) (by rw [uG_s]) ?_
                      refine a_aload_n (pc := 135) (q := 0) (i := 0) (x := 32) hC (by decide +kernel) rfl 2 rfl ?_
                      refine g_get (pc := 136) (idx := 25) (ci := 1) (v := .ref 42) hC 32 2 (by decide +kernel) rfl rfl rfl rfl wrL (by decide) rfl (by decide +kernel) ?_
                      refine a_iload_n (pc := 139) (q := 3) (i := 3) (x := (b : Int)) hC (by decide +kernel) rfl 1 rfl ?_
                      refine g_iald (pc := 140) (a := 42) (j := b) hC hty (by decide +kernel) rfl (by omega) (by first | decide | omega) ?_
                      refine g_top (y := wS (wB (rc1F G pl N N) N b) b a b) (by rw [uG_s]) ?_
                      refine a_ior (pc := 141) (z := orZ (wS (wB (rc1F G pl N N) N b) b a a) (wS (wB (rc1F G pl N N) N b) b a b)) hC (by decide +kernel) (iZ_or (by omega) (by omega)) ?_
                      refine g_iast (pc := 142) (a := 42) (j := a) (x := orZ (wS (wB (rc1F G pl N N) N b) b a a) (wS (wB (rc1F G pl N N) N b) b a b)) hC hty (by decide +kernel) rfl (by omega) (by first | decide | omega) ?_
                      refine a_iinc (pc := 143) (i := 4) (c := 1) (x := (a : Int)) (lv' := [(4, vi (((a : Int)) + 1)), (3, vi ((b : Int))), (0, .ref 32), (1, .ref 1), (2, .ref pl)]) hC (by decide +kernel) 0 rfl (by decide) rfl ?_
                      refine a_goto (pc := 146) (off := -38) hC 108 (by decide +kernel) (by decide) ?_
                      refine a_sub (lv' := [(4, vi (((a + 1) : Int))), (3, vi ((b : Int))), (0, .ref 32), (1, .ref 1), (2, .ref pl)]) [0, 1, 2, 3, 4] rfl ?_
                      refine g_G (G' := uG G 42 (wS (wB (rc1F G pl N N) N b) b (a + 1))) (by first | (rw [← hws]; done) | (rw [← hws, uG_s, uG_uG])) ?_
                      exact ih108 (a + 1) (by omega) (by omega)
              refine a_sub (lv' := [(4, vi ((0 : Int))), (3, vi ((b : Int))), (0, .ref 32), (1, .ref 1), (2, .ref pl)]) [0, 1, 2, 3, 4] rfl ?_
              refine g_G (G' := uG G 42 (wS (wB (rc1F G pl N N) N b) b 0)) rfl ?_
              exact L108 _ 0 (Nat.lt_succ_self _) (by omega)
        refine a_sub (lv' := [(3, vi ((0 : Int))), (0, .ref 32), (1, .ref 1), (2, .ref pl)]) [0, 1, 2, 3] rfl ?_
        refine g_G (G' := uG G 42 (wB (rc1F G pl N N) N 0)) (by rw [show s = N by omega]; rfl) ?_
        exact L97 _ 0 (Nat.lt_succ_self _) (by omega)
      · skip
        obtain ⟨q, hq, hq3⟩ : ∃ q : Nat, G pl s = (q : Int) ∧ q < 3 := ⟨(G pl s).toNat, by have := hpl.2 s (by omega); omega, by have := hpl.2 s (by omega); omega⟩
        have hsl : slotN G pl s = s * 3 + q := by unfold slotN; omega
        have hps := hpa (s * 3 + q) (by omega)
        refine a_iload_n (pc := 10) (q := 3) (i := 3) (x := (s : Int)) hC (by decide +kernel) rfl 0 rfl ?_
        refine a_aload_n (pc := 11) (q := 2) (i := 2) (x := pl) hC (by decide +kernel) rfl 3 rfl ?_
        refine a_iload_n (pc := 12) (q := 3) (i := 3) (x := (s : Int)) hC (by decide +kernel) rfl 0 rfl ?_
        refine g_iald (pc := 13) (a := pl) (j := s) hC hty (by decide +kernel) hpl.sh (by omega) (by first | decide | omega) ?_
        refine g_top (y := (q : Int)) (by rw [uG_n _ _ (by omega)]; exact hq) ?_
        refine g_callSN (pc := 14) (idx := 49) (av := [vi ((s : Int)), vi ((q : Int))]) (rest := []) (g := uG G 42 (rc1F G pl N s)) (v := vi (((s : Int)) * 3 + ((q : Int)))) (host := "PlanValues") hC hro hty (by decide +kernel) k_W_slotOf (by decide +kernel) (by decide +kernel) (ct_W_slotOf X.la X.dd K (uG G 42 (rc1F G pl N s)) ((s : Int)) ((q : Int))) rfl rfl (by decide) (by first | decide | simp [Value.category]) ?_
        refine g_top (y := ((s * 3 + q : Nat) : Int)) (by omega) ?_
        refine a_istore (pc := 17) (q := 0) (i := 4) (lv' := [(4, vi (((s * 3 + q : Nat) : Int))), (3, vi ((s : Int))), (0, .ref 32), (1, .ref 1), (2, .ref pl)]) hC (by decide +kernel) (by decide) rfl ?_
        refine a_aload_n (pc := 19) (q := 1) (i := 1) (x := 1) hC (by decide +kernel) rfl 3 rfl ?_
        refine g_getN (pc := 20) (idx := 68) (ci := 4) (v := .ref 5) (host := "PlanValues") hC 1 6 (by decide +kernel) rfl rfl rfl rfl wrW (by decide) rfl (by decide +kernel) ?_
        refine a_iload (pc := 23) (i := 4) (x := ((s * 3 + q : Nat) : Int)) hC (by decide +kernel) 0 rfl ?_
        refine g_iald (pc := 25) (a := 5) (j := s * 3 + q) hC hty (by decide +kernel) rfl (by omega) (by first | decide | omega) ?_
        refine g_top (y := G 5 (s * 3 + q)) (by rw [uG_n _ _ (by omega)]) ?_
        refine a_if_ne (pc := 26) (off := 8) hC 34 (by decide +kernel) (by decide) (by unfold inI; omega) (fun c26 => ?_) (fun c26 => ?_)
        · skip
          have hm0 : (0 : Int) = mkB G (s * 3 + q) 0 := by show _ = (if _ then _ else _); rw [if_neg c26]
          refine a_iconst (pc := 34) (c := 0) hC (by decide +kernel) ?_
          refine a_istore (pc := 35) (q := 0) (i := 5) (lv' := [(5, vi 0), (4, vi (((s * 3 + q : Nat) : Int))), (3, vi ((s : Int))), (0, .ref 32), (1, .ref 1), (2, .ref pl)]) hC (by decide +kernel) (by decide) rfl ?_
          refine a_iconst (pc := 37) (c := 0) hC (by decide +kernel) ?_
          refine a_istore (pc := 38) (q := 0) (i := 6) (lv' := [(6, vi 0), (5, vi 0), (4, vi (((s * 3 + q : Nat) : Int))), (3, vi ((s : Int))), (0, .ref 32), (1, .ref 1), (2, .ref pl)]) hC (by decide +kernel) (by decide) rfl ?_
          have L40 : ∀ (fuel : Nat) (t : Nat), N - t < fuel → t ≤ N → AW X 7 0 0 40 [(6, vi ((t : Int))), (5, vi (mkB G (s * 3 + q) t)), (4, vi (((s * 3 + q : Nat) : Int))), (3, vi ((s : Int))), (0, .ref 32), (1, .ref 1), (2, .ref pl)] [] (hp K (uG G 42 (rc1F G pl N s))) := by
            intro fuel
            induction fuel with
            | zero => intro t h; exact absurd h (Nat.not_lt_zero _)
            | succ fuel ih40 =>
              intro t hm ht
              have hmb := mkB_in G (s * 3 + q) t (by omega)
              refine a_iload (pc := 40) (i := 6) (x := (t : Int)) hC (by decide +kernel) 0 rfl ?_
              refine a_aload_n (pc := 42) (q := 1) (i := 1) (x := 1) hC (by decide +kernel) rfl 5 rfl ?_
              refine g_getN (pc := 43) (idx := 36) (ci := 4) (v := vi ((uG G 42 (rc1F G pl N s)) 1 0)) (host := "PlanValues") hC 1 0 (by decide +kernel) rfl rfl rfl rfl wrW (by decide) rfl (by decide +kernel) ?_
              refine g_top (y := (N : Int)) (by rw [uG_n _ _ (by omega)]; exact hn) ?_
              refine a_icmp_ge (pc := 46) (off := 31) hC 77 (by decide +kernel) (by decide) (by unfold inI; omega) (by unfold inI; omega) (fun c46 => ?_) (fun c46 => ?_)
              · skip
                have hpw := pw_in (k := s) (by omega)
                refine a_aload_n (pc := 77) (q := 0) (i := 0) (x := 32) hC (by decide +kernel) rfl 4 rfl ?_
                refine g_get (pc := 78) (idx := 25) (ci := 1) (v := .ref 42) hC 32 2 (by decide +kernel) rfl rfl rfl rfl wrL (by decide) rfl (by decide +kernel) ?_
                refine a_iload_n (pc := 81) (q := 3) (i := 3) (x := (s : Int)) hC (by decide +kernel) rfl 3 rfl ?_
                refine a_iload (pc := 82) (i := 5) (x := mkB G (s * 3 + q) t) hC (by decide +kernel) 1 rfl ?_
                refine a_iconst (pc := 84) (c := 1) hC (by decide +kernel) ?_
                refine a_iload_n (pc := 85) (q := 3) (i := 3) (x := (s : Int)) hC (by decide +kernel) rfl 3 rfl ?_
                refine a_ishl (pc := 86) (z := ((pw s : Nat) : Int)) hC (by decide +kernel) (iZ_shl (by omega)) ?_
                refine a_ior (pc := 87) (z := orZ (mkB G (s * 3 + q) t) ((pw s : Nat) : Int)) hC (by decide +kernel) (iZ_or (by omega) (by omega)) ?_
                refine g_top (y := rc1 G pl N s) (by unfold rc1; rw [hsl, show t = N by omega]) ?_
                refine g_iast (pc := 88) (a := 42) (j := s) (x := rc1 G pl N s) hC hty (by decide +kernel) rfl (by omega) (by first | decide | omega) ?_
                refine a_iinc (pc := 89) (i := 3) (c := 1) (x := (s : Int)) (lv' := [(3, vi (((s : Int)) + 1)), (6, vi ((t : Int))), (5, vi (mkB G (s * 3 + q) t)), (4, vi (((s * 3 + q : Nat) : Int))), (0, .ref 32), (1, .ref 1), (2, .ref pl)]) hC (by decide +kernel) 3 rfl (by decide) rfl ?_
                refine a_goto (pc := 92) (off := -90) hC 2 (by decide +kernel) (by decide) ?_
                refine a_sub (lv' := [(3, vi (((s + 1) : Int))), (0, .ref 32), (1, .ref 1), (2, .ref pl)]) [0, 4, 5, 6] rfl ?_
                refine g_G (G' := uG G 42 (rc1F G pl N (s + 1))) (by rw [uG_s, uG_uG, rc1F_s]) ?_
                exact ih2 (s + 1) (by omega) (by omega)
              · skip
                have hwt := hwe (s * 3 + q) t (by omega) (by omega)
                have hpw := pw_in (k := t) (by omega)
                refine a_aload_n (pc := 49) (q := 1) (i := 1) (x := 1) hC (by decide +kernel) rfl 5 rfl ?_
                refine g_getN (pc := 50) (idx := 71) (ci := 4) (v := .ref 6) (host := "PlanValues") hC 1 7 (by decide +kernel) rfl rfl rfl rfl wrW (by decide) rfl (by decide +kernel) ?_
                refine a_iload (pc := 53) (i := 4) (x := ((s * 3 + q : Nat) : Int)) hC (by decide +kernel) 2 rfl ?_
                refine g_aaldI (pc := 55) (a := 6) (j := s * 3 + q) hC hty (by decide +kernel) rfl (by omega) (by first | decide | omega) ?_
                refine a_iload (pc := 56) (i := 6) (x := (t : Int)) hC (by decide +kernel) 0 rfl ?_
                refine g_iald (pc := 58) (a := 7 + (s * 3 + q)) (j := t) hC hty (by decide +kernel) (sh_we (by omega : (s * 3 + q) < 15)) (by omega) (by first | decide | omega) ?_
                refine g_top (y := G (7 + (s * 3 + q)) t) (by rw [uG_n _ _ (by omega)]) ?_
                refine a_if_le (pc := 59) (off := 12) hC 71 (by decide +kernel) (by decide) (by unfold inI; omega) (fun c59 => ?_) (fun c59 => ?_)
                · skip
                  have hms : mkB G (s * 3 + q) t = mkB G (s * 3 + q) (t + 1) := by show _ = (if _ then _ else _); rw [if_neg (by omega)]
                  refine a_iinc (pc := 71) (i := 6) (c := 1) (x := (t : Int)) (lv' := [(6, vi (((t : Int)) + 1)), (5, vi (mkB G (s * 3 + q) t)), (4, vi (((s * 3 + q : Nat) : Int))), (3, vi ((s : Int))), (0, .ref 32), (1, .ref 1), (2, .ref pl)]) hC (by decide +kernel) 0 rfl (by decide) rfl ?_
                  refine a_goto (pc := 74) (off := -34) hC 40 (by decide +kernel) (by decide) ?_
                  refine a_sub (lv' := [(6, vi (((t + 1) : Int))), (5, vi (mkB G (s * 3 + q) (t + 1))), (4, vi (((s * 3 + q : Nat) : Int))), (3, vi ((s : Int))), (0, .ref 32), (1, .ref 1), (2, .ref pl)]) [0, 1, 2, 3, 4, 5, 6] (by rw [← hms]; rfl) ?_
                  exact ih40 (t + 1) (by omega) (by omega)
                · skip
                  have hms : orZ (mkB G (s * 3 + q) t) ((pw t : Nat) : Int) = mkB G (s * 3 + q) (t + 1) := by show _ = (if _ then _ else _); rw [if_pos (by omega)]
                  refine a_iload (pc := 62) (i := 5) (x := mkB G (s * 3 + q) t) hC (by decide +kernel) 1 rfl ?_
                  refine a_iconst (pc := 64) (c := 1) hC (by decide +kernel) ?_
                  refine a_iload (pc := 65) (i := 6) (x := (t : Int)) hC (by decide +kernel) 0 rfl ?_
                  refine a_ishl (pc := 67) (z := ((pw t : Nat) : Int)) hC (by decide +kernel) (iZ_shl (by omega)) ?_
                  refine a_ior (pc := 68) (z := orZ (mkB G (s * 3 + q) t) ((pw t : Nat) : Int)) hC (by decide +kernel) (iZ_or (by omega) (by omega)) ?_
                  refine a_istore (pc := 69) (q := 0) (i := 5) (lv' := [(5, vi (orZ (mkB G (s * 3 + q) t) ((pw t : Nat) : Int))), (6, vi ((t : Int))), (4, vi (((s * 3 + q : Nat) : Int))), (3, vi ((s : Int))), (0, .ref 32), (1, .ref 1), (2, .ref pl)]) hC (by decide +kernel) (by decide) rfl ?_
                  refine a_iinc (pc := 71) (i := 6) (c := 1) (x := (t : Int)) (lv' := [(6, vi (((t : Int)) + 1)), (5, vi (orZ (mkB G (s * 3 + q) t) ((pw t : Nat) : Int))), (4, vi (((s * 3 + q : Nat) : Int))), (3, vi ((s : Int))), (0, .ref 32), (1, .ref 1), (2, .ref pl)]) hC (by decide +kernel) 1 rfl (by decide) rfl ?_
                  refine a_goto (pc := 74) (off := -34) hC 40 (by decide +kernel) (by decide) ?_
                  refine a_sub (lv' := [(6, vi (((t + 1) : Int))), (5, vi (mkB G (s * 3 + q) (t + 1))), (4, vi (((s * 3 + q : Nat) : Int))), (3, vi ((s : Int))), (0, .ref 32), (1, .ref 1), (2, .ref pl)]) [0, 1, 2, 3, 4, 5, 6] (by rw [← hms]; rfl) ?_
                  exact ih40 (t + 1) (by omega) (by omega)
          refine a_sub (lv' := [(6, vi ((0 : Int))), (5, vi (mkB G (s * 3 + q) 0)), (4, vi (((s * 3 + q : Nat) : Int))), (3, vi ((s : Int))), (0, .ref 32), (1, .ref 1), (2, .ref pl)]) [0, 1, 2, 3, 4, 5, 6] (by rw [← hm0]; rfl) ?_
          exact L40 _ 0 (Nat.lt_succ_self _) (by omega)
        · skip
          have hm0 : (32 : Int) = mkB G (s * 3 + q) 0 := by show _ = (if _ then _ else _); rw [if_pos c26]
          refine a_bipush (pc := 29) (c := 32) hC (by decide +kernel) (by decide +kernel) ?_
          refine a_goto (pc := 31) (off := 4) hC 35 (by decide +kernel) (by decide) ?_
          refine a_istore (pc := 35) (q := 0) (i := 5) (lv' := [(5, vi 32), (4, vi (((s * 3 + q : Nat) : Int))), (3, vi ((s : Int))), (0, .ref 32), (1, .ref 1), (2, .ref pl)]) hC (by decide +kernel) (by decide) rfl ?_
          refine a_iconst (pc := 37) (c := 0) hC (by decide +kernel) ?_
          refine a_istore (pc := 38) (q := 0) (i := 6) (lv' := [(6, vi 0), (5, vi 32), (4, vi (((s * 3 + q : Nat) : Int))), (3, vi ((s : Int))), (0, .ref 32), (1, .ref 1), (2, .ref pl)]) hC (by decide +kernel) (by decide) rfl ?_
          have L40 : ∀ (fuel : Nat) (t : Nat), N - t < fuel → t ≤ N → AW X 7 0 0 40 [(6, vi ((t : Int))), (5, vi (mkB G (s * 3 + q) t)), (4, vi (((s * 3 + q : Nat) : Int))), (3, vi ((s : Int))), (0, .ref 32), (1, .ref 1), (2, .ref pl)] [] (hp K (uG G 42 (rc1F G pl N s))) := by
            intro fuel
            induction fuel with
            | zero => intro t h; exact absurd h (Nat.not_lt_zero _)
            | succ fuel ih40 =>
              intro t hm ht
              have hmb := mkB_in G (s * 3 + q) t (by omega)
              refine a_iload (pc := 40) (i := 6) (x := (t : Int)) hC (by decide +kernel) 0 rfl ?_
              refine a_aload_n (pc := 42) (q := 1) (i := 1) (x := 1) hC (by decide +kernel) rfl 5 rfl ?_
              refine g_getN (pc := 43) (idx := 36) (ci := 4) (v := vi ((uG G 42 (rc1F G pl N s)) 1 0)) (host := "PlanValues") hC 1 0 (by decide +kernel) rfl rfl rfl rfl wrW (by decide) rfl (by decide +kernel) ?_
              refine g_top (y := (N : Int)) (by rw [uG_n _ _ (by omega)]; exact hn) ?_
              refine a_icmp_ge (pc := 46) (off := 31) hC 77 (by decide +kernel) (by decide) (by unfold inI; omega) (by unfold inI; omega) (fun c46 => ?_) (fun c46 => ?_)
              · skip
                have hpw := pw_in (k := s) (by omega)
                refine a_aload_n (pc := 77) (q := 0) (i := 0) (x := 32) hC (by decide +kernel) rfl 4 rfl ?_
                refine g_get (pc := 78) (idx := 25) (ci := 1) (v := .ref 42) hC 32 2 (by decide +kernel) rfl rfl rfl rfl wrL (by decide) rfl (by decide +kernel) ?_
                refine a_iload_n (pc := 81) (q := 3) (i := 3) (x := (s : Int)) hC (by decide +kernel) rfl 3 rfl ?_
                refine a_iload (pc := 82) (i := 5) (x := mkB G (s * 3 + q) t) hC (by decide +kernel) 1 rfl ?_
                refine a_iconst (pc := 84) (c := 1) hC (by decide +kernel) ?_
                refine a_iload_n (pc := 85) (q := 3) (i := 3) (x := (s : Int)) hC (by decide +kernel) rfl 3 rfl ?_
                refine a_ishl (pc := 86) (z := ((pw s : Nat) : Int)) hC (by decide +kernel) (iZ_shl (by omega)) ?_
                refine a_ior (pc := 87) (z := orZ (mkB G (s * 3 + q) t) ((pw s : Nat) : Int)) hC (by decide +kernel) (iZ_or (by omega) (by omega)) ?_
                refine g_top (y := rc1 G pl N s) (by unfold rc1; rw [hsl, show t = N by omega]) ?_
                refine g_iast (pc := 88) (a := 42) (j := s) (x := rc1 G pl N s) hC hty (by decide +kernel) rfl (by omega) (by first | decide | omega) ?_
                refine a_iinc (pc := 89) (i := 3) (c := 1) (x := (s : Int)) (lv' := [(3, vi (((s : Int)) + 1)), (6, vi ((t : Int))), (5, vi (mkB G (s * 3 + q) t)), (4, vi (((s * 3 + q : Nat) : Int))), (0, .ref 32), (1, .ref 1), (2, .ref pl)]) hC (by decide +kernel) 3 rfl (by decide) rfl ?_
                refine a_goto (pc := 92) (off := -90) hC 2 (by decide +kernel) (by decide) ?_
                refine a_sub (lv' := [(3, vi (((s + 1) : Int))), (0, .ref 32), (1, .ref 1), (2, .ref pl)]) [0, 4, 5, 6] rfl ?_
                refine g_G (G' := uG G 42 (rc1F G pl N (s + 1))) (by rw [uG_s, uG_uG, rc1F_s]) ?_
                exact ih2 (s + 1) (by omega) (by omega)
              · skip
                have hwt := hwe (s * 3 + q) t (by omega) (by omega)
                have hpw := pw_in (k := t) (by omega)
                refine a_aload_n (pc := 49) (q := 1) (i := 1) (x := 1) hC (by decide +kernel) rfl 5 rfl ?_
                refine g_getN (pc := 50) (idx := 71) (ci := 4) (v := .ref 6) (host := "PlanValues") hC 1 7 (by decide +kernel) rfl rfl rfl rfl wrW (by decide) rfl (by decide +kernel) ?_
                refine a_iload (pc := 53) (i := 4) (x := ((s * 3 + q : Nat) : Int)) hC (by decide +kernel) 2 rfl ?_
                refine g_aaldI (pc := 55) (a := 6) (j := s * 3 + q) hC hty (by decide +kernel) rfl (by omega) (by first | decide | omega) ?_
                refine a_iload (pc := 56) (i := 6) (x := (t : Int)) hC (by decide +kernel) 0 rfl ?_
                refine g_iald (pc := 58) (a := 7 + (s * 3 + q)) (j := t) hC hty (by decide +kernel) (sh_we (by omega : (s * 3 + q) < 15)) (by omega) (by first | decide | omega) ?_
                refine g_top (y := G (7 + (s * 3 + q)) t) (by rw [uG_n _ _ (by omega)]) ?_
                refine a_if_le (pc := 59) (off := 12) hC 71 (by decide +kernel) (by decide) (by unfold inI; omega) (fun c59 => ?_) (fun c59 => ?_)
                · skip
                  have hms : mkB G (s * 3 + q) t = mkB G (s * 3 + q) (t + 1) := by show _ = (if _ then _ else _); rw [if_neg (by omega)]
                  refine a_iinc (pc := 71) (i := 6) (c := 1) (x := (t : Int)) (lv' := [(6, vi (((t : Int)) + 1)), (5, vi (mkB G (s * 3 + q) t)), (4, vi (((s * 3 + q : Nat) : Int))), (3, vi ((s : Int))), (0, .ref 32), (1, .ref 1), (2, .ref pl)]) hC (by decide +kernel) 0 rfl (by decide) rfl ?_
                  refine a_goto (pc := 74) (off := -34) hC 40 (by decide +kernel) (by decide) ?_
                  refine a_sub (lv' := [(6, vi (((t + 1) : Int))), (5, vi (mkB G (s * 3 + q) (t + 1))), (4, vi (((s * 3 + q : Nat) : Int))), (3, vi ((s : Int))), (0, .ref 32), (1, .ref 1), (2, .ref pl)]) [0, 1, 2, 3, 4, 5, 6] (by rw [← hms]; rfl) ?_
                  exact ih40 (t + 1) (by omega) (by omega)
                · skip
                  have hms : orZ (mkB G (s * 3 + q) t) ((pw t : Nat) : Int) = mkB G (s * 3 + q) (t + 1) := by show _ = (if _ then _ else _); rw [if_pos (by omega)]
                  refine a_iload (pc := 62) (i := 5) (x := mkB G (s * 3 + q) t) hC (by decide +kernel) 1 rfl ?_
                  refine a_iconst (pc := 64) (c := 1) hC (by decide +kernel) ?_
                  refine a_iload (pc := 65) (i := 6) (x := (t : Int)) hC (by decide +kernel) 0 rfl ?_
                  refine a_ishl (pc := 67) (z := ((pw t : Nat) : Int)) hC (by decide +kernel) (iZ_shl (by omega)) ?_
                  refine a_ior (pc := 68) (z := orZ (mkB G (s * 3 + q) t) ((pw t : Nat) : Int)) hC (by decide +kernel) (iZ_or (by omega) (by omega)) ?_
                  refine a_istore (pc := 69) (q := 0) (i := 5) (lv' := [(5, vi (orZ (mkB G (s * 3 + q) t) ((pw t : Nat) : Int))), (6, vi ((t : Int))), (4, vi (((s * 3 + q : Nat) : Int))), (3, vi ((s : Int))), (0, .ref 32), (1, .ref 1), (2, .ref pl)]) hC (by decide +kernel) (by decide) rfl ?_
                  refine a_iinc (pc := 71) (i := 6) (c := 1) (x := (t : Int)) (lv' := [(6, vi (((t : Int)) + 1)), (5, vi (orZ (mkB G (s * 3 + q) t) ((pw t : Nat) : Int))), (4, vi (((s * 3 + q : Nat) : Int))), (3, vi ((s : Int))), (0, .ref 32), (1, .ref 1), (2, .ref pl)]) hC (by decide +kernel) 1 rfl (by decide) rfl ?_
                  refine a_goto (pc := 74) (off := -34) hC 40 (by decide +kernel) (by decide) ?_
                  refine a_sub (lv' := [(6, vi (((t + 1) : Int))), (5, vi (mkB G (s * 3 + q) (t + 1))), (4, vi (((s * 3 + q : Nat) : Int))), (3, vi ((s : Int))), (0, .ref 32), (1, .ref 1), (2, .ref pl)]) [0, 1, 2, 3, 4, 5, 6] (by rw [← hms]; rfl) ?_
                  exact ih40 (t + 1) (by omega) (by omega)
          refine a_sub (lv' := [(6, vi ((0 : Int))), (5, vi (mkB G (s * 3 + q) 0)), (4, vi (((s * 3 + q : Nat) : Int))), (3, vi ((s : Int))), (0, .ref 32), (1, .ref 1), (2, .ref pl)]) [0, 1, 2, 3, 4, 5, 6] (by rw [← hm0]; rfl) ?_
          exact L40 _ 0 (Nat.lt_succ_self _) (by omega)
  refine a_sub (lv' := [(3, vi ((0 : Int))), (0, .ref 32), (1, .ref 1), (2, .ref pl)]) [0, 1, 2, 3] rfl ?_
  refine g_G (G' := uG G 42 (rc1F G pl N 0)) (by rw [rc1F_0, uG_self]) ?_
  exact L2 _ 0 (Nat.lt_succ_self _) (by omega)
end
section
/-! LongRun: homes, rows, follow -/
theorem tb_congr {G G' : GT} (h : G' 42 = G 42) (s t : Nat) : tb G' s t = tb G s t := by unfold tb; rw [h]
theorem cirL_congr {G G' : GT} (h : G' 42 = G 42) (s : Nat) : ∀ n, cirL G' s n = cirL G s n
  | 0 => rfl
  | n + 1 => by unfold cirL; rw [cirL_congr h s n, tb_congr h, tb_congr h]
theorem inCir_congr {G G' : GT} (h : G' 42 = G 42) (s n : Nat) : inCir G' s n = inCir G s n := by unfold inCir; rw [cirL_congr h, tb_congr h]
def hoS (G : GT) (N s : Nat) : Nat → Int
  | 0 => (s : Int)
  | j + 1 => if inCir G s N = true ∧ tb G s (s + 1 + j) = true then ((s + 1 + j : Nat) : Int) else hoS G N s j
def homZ (G : GT) (N s : Nat) : Int := hoS G N s (N - (s + 1))
theorem hoS_in {G : GT} {N s : Nat} (hs : s < N) : ∀ j, s + 1 + j ≤ N → 0 ≤ hoS G N s j ∧ hoS G N s j < N
  | 0, _ => by unfold hoS; omega
  | j + 1, h => by
    unfold hoS
    split
    · omega
    · exact hoS_in hs j (by omega)
theorem homZ_in {G : GT} {N s : Nat} (hs : s < N) : 0 ≤ homZ G N s ∧ homZ G N s < N := hoS_in hs _ (by omega)
def homF (G : GT) (N i : Nat) : Nat → Int := fun z => if z < i then homZ G N z else G 43 z
theorem homF_0 (G : GT) (N : Nat) : homF G N 0 = G 43 := by funext s; exact if_neg (by omega)
theorem homF_s (G : GT) (N i : Nat) : up (homF G N i) i (homZ G N i) = homF G N (i + 1) := by
  funext j; unfold up homF
  by_cases h : j = i
  · subst h; rw [if_pos rfl, if_pos (by omega)]
  · rw [if_neg h]
    by_cases h2 : j < i
    · rw [if_pos h2, if_pos (by omega)]
    · rw [if_neg h2, if_neg (by omega)]
def homG (G : GT) (N : Nat) : GT := uG G 43 (homF G N N)
theorem up_up (f : Nat → Int) (i : Nat) (x y : Int) : up (up f i x) i y = up f i y := by
  funext j; unfold up; split <;> rfl
/-- a circle's row -/
def wcF (G : GT) (q h t : Nat) (r0 : Nat → Int) : Nat → Int := fun c => if c < t ∧ c ≠ h then r0 c - G (7 + q) c else r0 c
def wcH (G : GT) (N q h : Nat) (r0 : Nat → Int) : Nat → Int := up (wcF G q h N r0) h (wcF G q h N r0 h + G 5 q)
def wcR (G : GT) (N s q h : Nat) (r0 : Nat → Int) : Nat → Int := up (if s = h then wcH G N q h r0 else up (wcH G N q h r0) s (wcH G N q h r0 s + G 5 q)) 5 (G 5 q * G 4 q)
theorem wcF_0 (G : GT) (q h : Nat) (r0 : Nat → Int) : wcF G q h 0 r0 = r0 := by funext c; exact if_neg (by omega)
theorem wcF_hi {G : GT} {q h t c : Nat} {r0 : Nat → Int} (e : t ≤ c) : wcF G q h t r0 c = r0 c := if_neg (by omega)
theorem wcF_k {G : GT} {q h t : Nat} {r0 : Nat → Int} (e : t = h) : wcF G q h t r0 = wcF G q h (t + 1) r0 := by
  funext c; unfold wcF
  by_cases h2 : c < t ∧ c ≠ h
  · rw [if_pos h2, if_pos (by omega)]
  · rw [if_neg h2, if_neg (by omega)]
theorem wcF_s {G : GT} {q h t : Nat} {r0 : Nat → Int} (e : t ≠ h) : up (wcF G q h t r0) t (r0 t - G (7 + q) t) = wcF G q h (t + 1) r0 := by
  funext c
  by_cases hc : c = t
  · subst hc; rw [up_s]; unfold wcF; rw [if_pos (by omega)]
  · rw [up_n _ _ hc]; unfold wcF
    by_cases h2 : c < t ∧ c ≠ h
    · rw [if_pos h2, if_pos (by omega)]
    · rw [if_neg h2, if_neg (by omega)]
/-- a passage's row -/
def wpS (G : GT) (q : Nat) (r0 : Nat → Int) : Nat → Nat → Int
  | 0 => r0
  | t + 1 => up (wpS G q r0 t) (G 43 t).toNat (wpS G q r0 t (G 43 t).toNat - G (7 + q) t)
theorem wpS_s (G : GT) (q : Nat) (r0 : Nat → Int) (t : Nat) : wpS G q r0 (t + 1) = up (wpS G q r0 t) (G 43 t).toNat (wpS G q r0 t (G 43 t).toNat - G (7 + q) t) := rfl
def wpR (G : GT) (N s q : Nat) (r0 : Nat → Int) : Nat → Int := up (wpS G q r0 N) s (wpS G q r0 N s + maxZ 1 (G 5 q))

set_option maxRecDepth 100000 in
set_option maxHeartbeats 4000000 in
theorem ct_L_findHomes (l : Launch) (D : va_G) (K : K5) (G : GT) (N : Nat) (hN : N ≤ 5) (hrc : RcOk G N) : Ct l D K y_L_findHomes c_L_findHomes 5 none 2 45 [.ref 32, vi ((N : Int))] G none (homG G N) := by
  refine Ct.intro (by decide +kernel) (Nat.le_of_ble_eq_true rfl) ?_
  intro X hro hty hC hE
  refine a_iconst (pc := 0) (c := 0) hC (by decide +kernel) ?_
  refine a_istore_n (pc := 1) (q := 2) (i := 2) (lv' := [(2, vi 0), (0, .ref 32), (1, vi ((N : Int)))]) hC (by decide +kernel) rfl (by decide) rfl ?_
  have L2 : ∀ (fuel : Nat) (s : Nat), N - s < fuel → s ≤ N → AW X 5 0 0 2 [(2, vi ((s : Int))), (0, .ref 32), (1, vi ((N : Int)))] [] (hp K (uG G 43 (homF G N s))) := by
    intro fuel
    induction fuel with
    | zero => intro s h; exact absurd h (Nat.not_lt_zero _)
    | succ fuel ih2 =>
      intro s hm hs
      refine a_iload_n (pc := 2) (q := 2) (i := 2) (x := (s : Int)) hC (by decide +kernel) rfl 0 rfl ?_
      refine a_iload_n (pc := 3) (q := 1) (i := 1) (x := (N : Int)) hC (by decide +kernel) rfl 2 rfl ?_
      refine a_icmp_ge (pc := 4) (off := 62) hC 66 (by decide +kernel) (by decide) (by unfold inI; omega) (by unfold inI; omega) (fun c4 => ?_) (fun c4 => ?_)
      · skip
        exact g_vret (pc := 66) hC hE (by decide +kernel) (by rw [show s = N by omega]; rfl)
      · skip
        refine a_aload_n (pc := 7) (q := 0) (i := 0) (x := 32) hC (by decide +kernel) rfl 1 rfl ?_
        refine g_get (pc := 8) (idx := 29) (ci := 1) (v := .ref 43) hC 32 3 (by decide +kernel) rfl rfl rfl rfl wrL (by decide) rfl (by decide +kernel) ?_
        refine a_iload_n (pc := 11) (q := 2) (i := 2) (x := (s : Int)) hC (by decide +kernel) rfl 0 rfl ?_
        refine a_iload_n (pc := 12) (q := 2) (i := 2) (x := (s : Int)) hC (by decide +kernel) rfl 0 rfl ?_
        refine g_iast (pc := 13) (a := 43) (j := s) (x := (s : Int)) hC hty (by decide +kernel) rfl (by omega) (by first | decide | omega) ?_
        refine g_G (G' := uG G 43 (up (homF G N s) s (hoS G N s 0))) (by rw [uG_s, uG_uG]; rfl) ?_
        refine a_aload_n (pc := 14) (q := 0) (i := 0) (x := 32) hC (by decide +kernel) rfl 1 rfl ?_
        refine a_iload_n (pc := 15) (q := 2) (i := 2) (x := (s : Int)) hC (by decide +kernel) rfl 0 rfl ?_
        refine a_iload_n (pc := 16) (q := 1) (i := 1) (x := (N : Int)) hC (by decide +kernel) rfl 2 rfl ?_
        refine g_callV (pc := 17) (idx := 53) (i := 32) (av := [vi ((s : Int)), vi ((N : Int))]) (rest := []) (g := uG G 43 (up (homF G N s) s (hoS G N s 0))) (v := vi (bZ (inCir (uG G 43 (up (homF G N s) s (hoS G N s 0))) s N))) hC hro hty (by decide +kernel) rfl rfl k_L_isInCircle (by decide +kernel) (by decide +kernel) (by decide +kernel) (ct_L_isInCircle X.la X.dd K (uG G 43 (up (homF G N s) s (hoS G N s 0))) N s (by omega) (by omega) (fun z hz => by rw [uG_n _ _ (by decide)]; exact hrc z hz)) rfl rfl (by decide) (by first | decide | simp [Value.category]) ?_
        refine g_top (y := bZ (inCir G s N)) (by rw [inCir_congr (uG_n _ _ (by decide))]) ?_
        refine a_istore_n (pc := 20) (q := 3) (i := 3) (lv' := [(3, vi (bZ (inCir G s N))), (2, vi ((s : Int))), (0, .ref 32), (1, vi ((N : Int)))]) hC (by decide +kernel) rfl (by decide) rfl ?_
        refine a_iload_n (pc := 21) (q := 2) (i := 2) (x := (s : Int)) hC (by decide +kernel) rfl 1 rfl ?_
        refine a_iconst (pc := 22) (c := 1) hC (by decide +kernel) ?_
        refine a_iadd (pc := 23) hC (by decide +kernel) ?_
        refine a_istore (pc := 24) (q := 0) (i := 4) (lv' := [(4, vi (((s : Int)) + 1)), (3, vi (bZ (inCir G s N))), (2, vi ((s : Int))), (0, .ref 32), (1, vi ((N : Int)))]) hC (by decide +kernel) (by decide) rfl ?_
        have L26 : ∀ (fuel : Nat) (j : Nat), N - (s + 1 + j) < fuel → s + 1 + j ≤ N → AW X 5 0 0 26 [(4, vi (((s + 1 + j : Nat) : Int))), (3, vi (bZ (inCir G s N))), (2, vi ((s : Int))), (0, .ref 32), (1, vi ((N : Int)))] [] (hp K (uG G 43 (up (homF G N s) s (hoS G N s j)))) := by
          intro fuel
          induction fuel with
          | zero => intro j h; exact absurd h (Nat.not_lt_zero _)
          | succ fuel ih26 =>
            intro j hm hj
            have hb1 := bZ_01 (inCir G s N)
            refine a_iload (pc := 26) (i := 4) (x := ((s + 1 + j : Nat) : Int)) hC (by decide +kernel) 0 rfl ?_
            refine a_iload_n (pc := 28) (q := 1) (i := 1) (x := (N : Int)) hC (by decide +kernel) rfl 4 rfl ?_
            refine a_icmp_ge (pc := 29) (off := 31) hC 60 (by decide +kernel) (by decide) (by unfold inI; omega) (by unfold inI; omega) (fun c29 => ?_) (fun c29 => ?_)
            · skip
              refine a_iinc (pc := 60) (i := 2) (c := 1) (x := (s : Int)) (lv' := [(2, vi (((s : Int)) + 1)), (4, vi (((s + 1 + j : Nat) : Int))), (3, vi (bZ (inCir G s N))), (0, .ref 32), (1, vi ((N : Int)))]) hC (by decide +kernel) 2 rfl (by decide) rfl ?_
              refine a_goto (pc := 63) (off := -61) hC 2 (by decide +kernel) (by decide) ?_
              refine a_sub (lv' := [(2, vi (((s + 1) : Int))), (0, .ref 32), (1, vi ((N : Int)))]) [0, 3, 4] rfl ?_
              refine g_G (G' := uG G 43 (homF G N (s + 1))) (by rw [← homF_s]; unfold homZ; rw [show N - (s + 1) = j by omega]) ?_
              exact ih2 (s + 1) (by omega) (by omega)
            · skip
              refine a_iload_n (pc := 32) (q := 3) (i := 3) (x := bZ (inCir G s N)) hC (by decide +kernel) rfl 1 rfl ?_
              refine a_if_eq (pc := 33) (off := 21) hC 54 (by decide +kernel) (by decide) (by unfold inI; omega) (fun c33 => ?_) (fun c33 => ?_)
              · skip
                have hic : inCir G s N = false := by
                  cases hh : inCir G s N
                  · rfl
                  · rw [hh] at c33; exact absurd c33 (by decide)
                have hos : hoS G N s j = hoS G N s (j + 1) := by show _ = (if _ then _ else _); rw [if_neg (by rw [hic]; exact fun q => absurd q.1 (by decide))]
                refine a_iinc (pc := 54) (i := 4) (c := 1) (x := ((s + 1 + j : Nat) : Int)) (lv' := [(4, vi ((((s + 1 + j : Nat) : Int)) + 1)), (3, vi (bZ (inCir G s N))), (2, vi ((s : Int))), (0, .ref 32), (1, vi ((N : Int)))]) hC (by decide +kernel) 0 rfl (by decide) rfl ?_
                refine a_goto (pc := 57) (off := -31) hC 26 (by decide +kernel) (by decide) ?_
                refine a_sub (lv' := [(4, vi (((s + 1 + (j + 1) : Nat) : Int))), (3, vi (bZ (inCir G s N))), (2, vi ((s : Int))), (0, .ref 32), (1, vi ((N : Int)))]) [0, 1, 2, 3, 4] rfl ?_
                refine g_G (G' := uG G 43 (up (homF G N s) s (hoS G N s (j + 1)))) (by first | (rw [← hos]; done) | (rw [uG_s, uG_uG, up_up, hos])) ?_
                exact ih26 (j + 1) (by omega) (by omega)
              · skip
                have hic : inCir G s N = true := by
                  cases hh : inCir G s N
                  · rw [hh] at c33; exact absurd rfl c33
                  · rfl
                have hb2 := bZ_01 (tb G s (s + 1 + j))
                refine a_aload_n (pc := 36) (q := 0) (i := 0) (x := 32) hC (by decide +kernel) rfl 3 rfl ?_
                refine a_iload_n (pc := 37) (q := 2) (i := 2) (x := (s : Int)) hC (by decide +kernel) rfl 2 rfl ?_
                refine a_iload (pc := 38) (i := 4) (x := ((s + 1 + j : Nat) : Int)) hC (by decide +kernel) 0 rfl ?_
                refine g_callV (pc := 40) (idx := 75) (i := 32) (av := [vi ((s : Int)), vi (((s + 1 + j : Nat) : Int))]) (rest := []) (g := uG G 43 (up (homF G N s) s (hoS G N s j))) (v := vi (bZ (tb (uG G 43 (up (homF G N s) s (hoS G N s j))) s (s + 1 + j)))) hC hro hty (by decide +kernel) rfl rfl k_L_reaches (by decide +kernel) (by decide +kernel) (by decide +kernel) (ct_L_reaches X.la X.dd K (uG G 43 (up (homF G N s) s (hoS G N s j))) N s (s + 1 + j) (by omega) (by omega) (by omega) (fun z hz => by rw [uG_n _ _ (by decide)]; exact hrc z hz)) rfl rfl (by decide) (by first | decide | simp [Value.category]) ?_
                refine g_top (y := bZ (tb G s (s + 1 + j))) (by rw [tb_congr (uG_n _ _ (by decide))]) ?_
                refine a_if_eq (pc := 43) (off := 11) hC 54 (by decide +kernel) (by decide) (by unfold inI; omega) (fun c43 => ?_) (fun c43 => ?_)
                · skip
                  have htb : tb G s (s + 1 + j) = false := by
                    cases hh : tb G s (s + 1 + j)
                    · rfl
                    · rw [hh] at c43; exact absurd c43 (by decide)
                  have hos : hoS G N s j = hoS G N s (j + 1) := by show _ = (if _ then _ else _); rw [if_neg (by rw [htb]; exact fun q => absurd q.2 (by decide))]
                  refine a_iinc (pc := 54) (i := 4) (c := 1) (x := ((s + 1 + j : Nat) : Int)) (lv' := [(4, vi ((((s + 1 + j : Nat) : Int)) + 1)), (3, vi (bZ (inCir G s N))), (2, vi ((s : Int))), (0, .ref 32), (1, vi ((N : Int)))]) hC (by decide +kernel) 0 rfl (by decide) rfl ?_
                  refine a_goto (pc := 57) (off := -31) hC 26 (by decide +kernel) (by decide) ?_
                  refine a_sub (lv' := [(4, vi (((s + 1 + (j + 1) : Nat) : Int))), (3, vi (bZ (inCir G s N))), (2, vi ((s : Int))), (0, .ref 32), (1, vi ((N : Int)))]) [0, 1, 2, 3, 4] rfl ?_
                  refine g_G (G' := uG G 43 (up (homF G N s) s (hoS G N s (j + 1)))) (by first | (rw [← hos]; done) | (rw [uG_s, uG_uG, up_up, hos])) ?_
                  exact ih26 (j + 1) (by omega) (by omega)
                · skip
                  have htb : tb G s (s + 1 + j) = true := by
                    cases hh : tb G s (s + 1 + j)
                    · rw [hh] at c43; exact absurd rfl c43
                    · rfl
                  have hos : ((s + 1 + j : Nat) : Int) = hoS G N s (j + 1) := by show _ = (if _ then _ else _); rw [if_pos ⟨hic, htb⟩]
                  refine a_aload_n (pc := 46) (q := 0) (i := 0) (x := 32) hC (by decide +kernel) rfl 3 rfl ?_
                  refine g_get (pc := 47) (idx := 29) (ci := 1) (v := .ref 43) hC 32 3 (by decide +kernel) rfl rfl rfl rfl wrL (by decide) rfl (by decide +kernel) ?_
                  refine a_iload_n (pc := 50) (q := 2) (i := 2) (x := (s : Int)) hC (by decide +kernel) rfl 2 rfl ?_
                  refine a_iload (pc := 51) (i := 4) (x := ((s + 1 + j : Nat) : Int)) hC (by decide +kernel) 0 rfl ?_
                  refine g_iast (pc := 53) (a := 43) (j := s) (x := ((s + 1 + j : Nat) : Int)) hC hty (by decide +kernel) rfl (by omega) (by first | decide | omega) ?_
                  refine a_iinc (pc := 54) (i := 4) (c := 1) (x := ((s + 1 + j : Nat) : Int)) (lv' := [(4, vi ((((s + 1 + j : Nat) : Int)) + 1)), (3, vi (bZ (inCir G s N))), (2, vi ((s : Int))), (0, .ref 32), (1, vi ((N : Int)))]) hC (by decide +kernel) 0 rfl (by decide) rfl ?_
                  refine a_goto (pc := 57) (off := -31) hC 26 (by decide +kernel) (by decide) ?_
                  refine a_sub (lv' := [(4, vi (((s + 1 + (j + 1) : Nat) : Int))), (3, vi (bZ (inCir G s N))), (2, vi ((s : Int))), (0, .ref 32), (1, vi ((N : Int)))]) [0, 1, 2, 3, 4] rfl ?_
                  refine g_G (G' := uG G 43 (up (homF G N s) s (hoS G N s (j + 1)))) (by first | (rw [← hos]; done) | (rw [uG_s, uG_uG, up_up, hos])) ?_
                  exact ih26 (j + 1) (by omega) (by omega)
        refine a_sub (lv' := [(4, vi (((s + 1 + 0 : Nat) : Int))), (3, vi (bZ (inCir G s N))), (2, vi ((s : Int))), (0, .ref 32), (1, vi ((N : Int)))]) [0, 1, 2, 3, 4] rfl ?_
        exact L26 _ 0 (Nat.lt_succ_self _) (by omega)
  refine a_sub (lv' := [(2, vi ((0 : Int))), (0, .ref 32), (1, vi ((N : Int)))]) [0, 1, 2] rfl ?_
  refine g_G (G' := uG G 43 (homF G N 0)) (by rw [homF_0, uG_self]) ?_
  exact L2 _ 0 (Nat.lt_succ_self _) (by omega)

set_option maxRecDepth 100000 in
set_option maxHeartbeats 4000000 in
theorem ct_L_writeCircle (l : Launch) (D : va_G) (K : K5) (G : GT) (N s q h : Nat) (hs : s < 5) (hq : q < 15) (hh5 : h < 5) (hh : G 43 s = (h : Int)) (hw : WW G N) : Ct l D K y_L_writeCircle c_L_writeCircle 8 none 0 0 [.ref 32, .ref 1, vi ((s : Int)), vi ((q : Int))] G none (uG G (35 + s) (wcR G N s q h (G (35 + s)))) := by
  refine Ct.intro (by decide +kernel) (Nat.le_of_ble_eq_true rfl) ?_
  intro X hro hty hC hE
  obtain ⟨hn, hN5, hsh, hac, hpa, hwe, hth⟩ := id hw
  have hps := hpa q hq
  refine a_aload_n (pc := 0) (q := 0) (i := 0) (x := 32) hC (by decide +kernel) rfl 0 rfl ?_
  refine g_get (pc := 1) (idx := 12) (ci := 1) (v := .ref 33) hC 32 0 (by decide +kernel) rfl rfl rfl rfl wrL (by decide) rfl (by decide +kernel) ?_
  refine g_getN (pc := 4) (idx := 78) (ci := 0) (v := .ref 34) (host := "PlanValues") hC 33 0 (by decide +kernel) rfl rfl rfl rfl wrE (by decide) rfl (by decide +kernel) ?_
  refine a_iload_n (pc := 7) (q := 2) (i := 2) (x := (s : Int)) hC (by decide +kernel) rfl 2 rfl ?_
  refine g_aaldL (pc := 8) (a := 34) (j := s) hC hty (by decide +kernel) rfl (by omega) (by first | decide | omega) ?_
  refine a_astore (pc := 9) (q := 0) (i := 4) (lv' := [(4, .ref (35 + s)), (0, .ref 32), (1, .ref 1), (2, vi ((s : Int))), (3, vi ((q : Int)))]) hC (by decide +kernel) (by decide) rfl ?_
  refine a_aload_n (pc := 11) (q := 0) (i := 0) (x := 32) hC (by decide +kernel) rfl 1 rfl ?_
  refine g_get (pc := 12) (idx := 29) (ci := 1) (v := .ref 43) hC 32 3 (by decide +kernel) rfl rfl rfl rfl wrL (by decide) rfl (by decide +kernel) ?_
  refine a_iload_n (pc := 15) (q := 2) (i := 2) (x := (s : Int)) hC (by decide +kernel) rfl 3 rfl ?_
  refine g_iald (pc := 16) (a := 43) (j := s) hC hty (by decide +kernel) rfl (by omega) (by first | decide | omega) ?_
  refine g_top (y := (h : Int)) hh ?_
  refine a_istore (pc := 17) (q := 0) (i := 5) (lv' := [(5, vi ((h : Int))), (4, .ref (35 + s)), (0, .ref 32), (1, .ref 1), (2, vi ((s : Int))), (3, vi ((q : Int)))]) hC (by decide +kernel) (by decide) rfl ?_
  refine a_aload_n (pc := 19) (q := 1) (i := 1) (x := 1) hC (by decide +kernel) rfl 3 rfl ?_
  refine g_getN (pc := 20) (idx := 68) (ci := 4) (v := .ref 5) (host := "PlanValues") hC 1 6 (by decide +kernel) rfl rfl rfl rfl wrW (by decide) rfl (by decide +kernel) ?_
  refine a_iload_n (pc := 23) (q := 3) (i := 3) (x := (q : Int)) hC (by decide +kernel) rfl 5 rfl ?_
  refine g_iald (pc := 24) (a := 5) (j := q) hC hty (by decide +kernel) rfl (by omega) (by first | decide | omega) ?_
  refine a_istore (pc := 25) (q := 0) (i := 6) (lv' := [(6, vi (G 5 q)), (5, vi ((h : Int))), (4, .ref (35 + s)), (0, .ref 32), (1, .ref 1), (2, vi ((s : Int))), (3, vi ((q : Int)))]) hC (by decide +kernel) (by decide) rfl ?_
  refine a_iconst (pc := 27) (c := 0) hC (by decide +kernel) ?_
  refine a_istore (pc := 28) (q := 0) (i := 7) (lv' := [(7, vi 0), (6, vi (G 5 q)), (5, vi ((h : Int))), (4, .ref (35 + s)), (0, .ref 32), (1, .ref 1), (2, vi ((s : Int))), (3, vi ((q : Int)))]) hC (by decide +kernel) (by decide) rfl ?_
  have L30 : ∀ (fuel : Nat) (t : Nat), N - t < fuel → t ≤ N → AW X 8 0 0 30 [(7, vi ((t : Int))), (6, vi (G 5 q)), (5, vi ((h : Int))), (4, .ref (35 + s)), (0, .ref 32), (1, .ref 1), (2, vi ((s : Int))), (3, vi ((q : Int)))] [] (hp K (uG G (35 + s) (wcF G q h t (G (35 + s))))) := by
    intro fuel
    induction fuel with
    | zero => intro t h; exact absurd h (Nat.not_lt_zero _)
    | succ fuel ih30 =>
      intro t hm ht
      refine a_iload (pc := 30) (i := 7) (x := (t : Int)) hC (by decide +kernel) 0 rfl ?_
      refine a_aload_n (pc := 32) (q := 1) (i := 1) (x := 1) hC (by decide +kernel) rfl 5 rfl ?_
      refine g_getN (pc := 33) (idx := 36) (ci := 4) (v := vi ((uG G (35 + s) (wcF G q h t (G (35 + s)))) 1 0)) (host := "PlanValues") hC 1 0 (by decide +kernel) rfl rfl rfl rfl wrW (by decide) rfl (by decide +kernel) ?_
      refine g_top (y := (N : Int)) (by rw [uG_n _ _ (by omega)]; exact hn) ?_
      refine a_icmp_ge (pc := 36) (off := 34) hC 70 (by decide +kernel) (by decide) (by unfold inI; omega) (by unfold inI; omega) (fun c36 => ?_) (fun c36 => ?_)
      · skip
        refine a_aload (pc := 70) (i := 4) (x := 35 + s) hC (by decide +kernel) 3 rfl ?_
        refine a_iload (pc := 72) (i := 5) (x := (h : Int)) hC (by decide +kernel) 2 rfl ?_
        refine a_dup2 (pc := 74) hC (by decide +kernel) rfl rfl ?_
        refine g_lald (pc := 75) (a := 35 + s) (j := h) hC hty (by decide +kernel) (sh_e2 (by omega : s < 5)) (by omega) (by first | decide | omega) ?_
        refine g_topl (y := wcF G q h N (G (35 + s)) h) (by rw [uG_s, show t = N by omega]) ?_
        refine a_iload (pc := 76) (i := 6) (x := G 5 q) hC (by decide +kernel) 1 rfl ?_
        refine a_i2l (pc := 78) hC (by decide +kernel) (by unfold inI; omega) ?_
        refine a_ladd (pc := 79) hC (by decide +kernel) ?_
        refine g_last (pc := 80) (a := 35 + s) (j := h) (x := (wcF G q h N (G (35 + s)) h) + (G 5 q)) hC hty (by decide +kernel) (sh_e2 (by omega : s < 5)) (by omega) (by first | decide | omega) ?_
        refine g_G (G' := uG G (35 + s) (wcH G N q h (G (35 + s)))) (by rw [uG_s, uG_uG, show t = N by omega]; rfl) ?_
        refine a_iload_n (pc := 81) (q := 2) (i := 2) (x := (s : Int)) hC (by decide +kernel) rfl 6 rfl ?_
        refine a_iload (pc := 82) (i := 5) (x := (h : Int)) hC (by decide +kernel) 2 rfl ?_
        refine a_icmp_eq (pc := 84) (off := 13) hC 97 (by decide +kernel) (by decide) (by unfold inI; omega) (by unfold inI; omega) (fun c84 => ?_) (fun c84 => ?_)
        · skip
          have hsh2 : s = h := by omega
          refine a_aload (pc := 97) (i := 4) (x := 35 + s) hC (by decide +kernel) 3 rfl ?_
          refine a_iconst (pc := 99) (c := 5) hC (by decide +kernel) ?_
          refine a_iload (pc := 100) (i := 6) (x := G 5 q) hC (by decide +kernel) 1 rfl ?_
          refine a_i2l (pc := 102) hC (by decide +kernel) (by unfold inI; omega) ?_
          refine a_aload_n (pc := 103) (q := 1) (i := 1) (x := 1) hC (by decide +kernel) rfl 5 rfl ?_
          refine g_getN (pc := 104) (idx := 82) (ci := 4) (v := .ref 4) (host := "PlanValues") hC 1 5 (by decide +kernel) rfl rfl rfl rfl wrW (by decide) rfl (by decide +kernel) ?_
          refine a_iload_n (pc := 107) (q := 3) (i := 3) (x := (q : Int)) hC (by decide +kernel) rfl 7 rfl ?_
          refine g_iald (pc := 108) (a := 4) (j := q) hC hty (by decide +kernel) rfl (by omega) (by first | decide | omega) ?_
          refine g_top (y := G 4 q) (by rw [uG_n _ _ (by omega)]) ?_
          refine a_i2l (pc := 109) hC (by decide +kernel) (by unfold inI; omega) ?_
          refine a_lmul (pc := 110) hC (by decide +kernel) ?_
          refine g_snd (y := ((5 : Nat) : Int)) (by omega) ?_
          refine g_last (pc := 111) (a := 35 + s) (j := 5) (x := (G 5 q) * (G 4 q)) hC hty (by decide +kernel) (sh_e2 (by omega : s < 5)) (by omega) (by first | decide | omega) ?_
          exact g_vret (pc := 112) hC hE (by decide +kernel) (by rw [uG_s, uG_uG]; unfold wcR; first | rw [if_pos hsh2] | rw [if_neg hsh2])
        · skip
          have hsh2 : s ≠ h := by omega
          refine a_aload (pc := 87) (i := 4) (x := 35 + s) hC (by decide +kernel) 3 rfl ?_
          refine a_iload_n (pc := 89) (q := 2) (i := 2) (x := (s : Int)) hC (by decide +kernel) rfl 6 rfl ?_
          refine a_dup2 (pc := 90) hC (by decide +kernel) rfl rfl ?_
          refine g_lald (pc := 91) (a := 35 + s) (j := s) hC hty (by decide +kernel) (sh_e2 (by omega : s < 5)) (by omega) (by first | decide | omega) ?_
          refine g_topl (y := wcH G N q h (G (35 + s)) s) (by rw [uG_s]) ?_
          refine a_iload (pc := 92) (i := 6) (x := G 5 q) hC (by decide +kernel) 1 rfl ?_
          refine a_i2l (pc := 94) hC (by decide +kernel) (by unfold inI; omega) ?_
          refine a_ladd (pc := 95) hC (by decide +kernel) ?_
          refine g_last (pc := 96) (a := 35 + s) (j := s) (x := (wcH G N q h (G (35 + s)) s) + (G 5 q)) hC hty (by decide +kernel) (sh_e2 (by omega : s < 5)) (by omega) (by first | decide | omega) ?_
          refine g_G (G' := uG G (35 + s) (up (wcH G N q h (G (35 + s))) s (wcH G N q h (G (35 + s)) s + G 5 q))) (by rw [uG_s, uG_uG]) ?_
          refine a_aload (pc := 97) (i := 4) (x := 35 + s) hC (by decide +kernel) 3 rfl ?_
          refine a_iconst (pc := 99) (c := 5) hC (by decide +kernel) ?_
          refine a_iload (pc := 100) (i := 6) (x := G 5 q) hC (by decide +kernel) 1 rfl ?_
          refine a_i2l (pc := 102) hC (by decide +kernel) (by unfold inI; omega) ?_
          refine a_aload_n (pc := 103) (q := 1) (i := 1) (x := 1) hC (by decide +kernel) rfl 5 rfl ?_
          refine g_getN (pc := 104) (idx := 82) (ci := 4) (v := .ref 4) (host := "PlanValues") hC 1 5 (by decide +kernel) rfl rfl rfl rfl wrW (by decide) rfl (by decide +kernel) ?_
          refine a_iload_n (pc := 107) (q := 3) (i := 3) (x := (q : Int)) hC (by decide +kernel) rfl 7 rfl ?_
          refine g_iald (pc := 108) (a := 4) (j := q) hC hty (by decide +kernel) rfl (by omega) (by first | decide | omega) ?_
          refine g_top (y := G 4 q) (by rw [uG_n _ _ (by omega)]) ?_
          refine a_i2l (pc := 109) hC (by decide +kernel) (by unfold inI; omega) ?_
          refine a_lmul (pc := 110) hC (by decide +kernel) ?_
          refine g_snd (y := ((5 : Nat) : Int)) (by omega) ?_
          refine g_last (pc := 111) (a := 35 + s) (j := 5) (x := (G 5 q) * (G 4 q)) hC hty (by decide +kernel) (sh_e2 (by omega : s < 5)) (by omega) (by first | decide | omega) ?_
          exact g_vret (pc := 112) hC hE (by decide +kernel) (by rw [uG_s, uG_uG]; unfold wcR; first | rw [if_pos hsh2] | rw [if_neg hsh2])
      · skip
        refine a_iload (pc := 39) (i := 7) (x := (t : Int)) hC (by decide +kernel) 0 rfl ?_
        refine a_iload (pc := 41) (i := 5) (x := (h : Int)) hC (by decide +kernel) 2 rfl ?_
        refine a_icmp_eq (pc := 43) (off := 21) hC 64 (by decide +kernel) (by decide) (by unfold inI; omega) (by unfold inI; omega) (fun c43 => ?_) (fun c43 => ?_)
        · skip
          have hth2 : t = h := by omega
          refine a_iinc (pc := 64) (i := 7) (c := 1) (x := (t : Int)) (lv' := [(7, vi (((t : Int)) + 1)), (6, vi (G 5 q)), (5, vi ((h : Int))), (4, .ref (35 + s)), (0, .ref 32), (1, .ref 1), (2, vi ((s : Int))), (3, vi ((q : Int)))]) hC (by decide +kernel) 0 rfl (by decide) rfl ?_
          refine a_goto (pc := 67) (off := -37) hC 30 (by decide +kernel) (by decide) ?_
          refine a_sub (lv' := [(7, vi (((t + 1) : Int))), (6, vi (G 5 q)), (5, vi ((h : Int))), (4, .ref (35 + s)), (0, .ref 32), (1, .ref 1), (2, vi ((s : Int))), (3, vi ((q : Int)))]) [0, 1, 2, 3, 4, 5, 6, 7] rfl ?_
          refine g_G (G' := uG G (35 + s) (wcF G q h (t + 1) (G (35 + s)))) (by first | (rw [wcF_k hth2]; done) | (rw [uG_s, uG_uG, wcF_s hth2])) ?_
          exact ih30 (t + 1) (by omega) (by omega)
        · skip
          have hth2 : t ≠ h := by omega
          have hwt := hwe q t hq (by omega)
          refine a_aload (pc := 46) (i := 4) (x := 35 + s) hC (by decide +kernel) 3 rfl ?_
          refine a_iload (pc := 48) (i := 7) (x := (t : Int)) hC (by decide +kernel) 0 rfl ?_
          refine a_dup2 (pc := 50) hC (by decide +kernel) rfl rfl ?_
          refine g_lald (pc := 51) (a := 35 + s) (j := t) hC hty (by decide +kernel) (sh_e2 (by omega : s < 5)) (by omega) (by first | decide | omega) ?_
          refine g_topl (y := G (35 + s) t) (by rw [uG_s]; exact wcF_hi (Nat.le_refl _)) ?_
          refine a_aload_n (pc := 52) (q := 1) (i := 1) (x := 1) hC (by decide +kernel) rfl 5 rfl ?_
          refine g_getN (pc := 53) (idx := 71) (ci := 4) (v := .ref 6) (host := "PlanValues") hC 1 7 (by decide +kernel) rfl rfl rfl rfl wrW (by decide) rfl (by decide +kernel) ?_
          refine a_iload_n (pc := 56) (q := 3) (i := 3) (x := (q : Int)) hC (by decide +kernel) rfl 7 rfl ?_
          refine g_aaldI (pc := 57) (a := 6) (j := q) hC hty (by decide +kernel) rfl (by omega) (by first | decide | omega) ?_
          refine a_iload (pc := 58) (i := 7) (x := (t : Int)) hC (by decide +kernel) 0 rfl ?_
          refine g_iald (pc := 60) (a := 7 + q) (j := t) hC hty (by decide +kernel) (sh_we (by omega : q < 15)) (by omega) (by first | decide | omega) ?_
          refine g_top (y := G (7 + q) t) (by rw [uG_n _ _ (by omega)]) ?_
          refine a_i2l (pc := 61) hC (by decide +kernel) (by unfold inI; omega) ?_
          refine a_lsub (pc := 62) hC (by decide +kernel) ?_
          refine g_last (pc := 63) (a := 35 + s) (j := t) (x := (G (35 + s) t) - (G (7 + q) t)) hC hty (by decide +kernel) (sh_e2 (by omega : s < 5)) (by omega) (by first | decide | omega) ?_
          refine a_iinc (pc := 64) (i := 7) (c := 1) (x := (t : Int)) (lv' := [(7, vi (((t : Int)) + 1)), (6, vi (G 5 q)), (5, vi ((h : Int))), (4, .ref (35 + s)), (0, .ref 32), (1, .ref 1), (2, vi ((s : Int))), (3, vi ((q : Int)))]) hC (by decide +kernel) 0 rfl (by decide) rfl ?_
          refine a_goto (pc := 67) (off := -37) hC 30 (by decide +kernel) (by decide) ?_
          refine a_sub (lv' := [(7, vi (((t + 1) : Int))), (6, vi (G 5 q)), (5, vi ((h : Int))), (4, .ref (35 + s)), (0, .ref 32), (1, .ref 1), (2, vi ((s : Int))), (3, vi ((q : Int)))]) [0, 1, 2, 3, 4, 5, 6, 7] rfl ?_
          refine g_G (G' := uG G (35 + s) (wcF G q h (t + 1) (G (35 + s)))) (by first | (rw [wcF_k hth2]; done) | (rw [uG_s, uG_uG, wcF_s hth2])) ?_
          exact ih30 (t + 1) (by omega) (by omega)
  refine a_sub (lv' := [(7, vi ((0 : Int))), (6, vi (G 5 q)), (5, vi ((h : Int))), (4, .ref (35 + s)), (0, .ref 32), (1, .ref 1), (2, vi ((s : Int))), (3, vi ((q : Int)))]) [0, 1, 2, 3, 4, 5, 6, 7] rfl ?_
  refine g_G (G' := uG G (35 + s) (wcF G q h 0 (G (35 + s)))) (by rw [wcF_0, uG_self]) ?_
  exact L30 _ 0 (Nat.lt_succ_self _) (by omega)

set_option maxRecDepth 100000 in
set_option maxHeartbeats 4000000 in
theorem ct_L_writePassage (l : Launch) (D : va_G) (K : K5) (G : GT) (N s q : Nat) (hs : s < 5) (hq : q < 15) (hho : ∀ t, t < N → 0 ≤ G 43 t ∧ G 43 t < 5) (hw : WW G N) : Ct l D K y_L_writePassage c_L_writePassage 6 none 1 21 [.ref 32, .ref 1, vi ((s : Int)), vi ((q : Int))] G none (uG G (35 + s) (wpR G N s q (G (35 + s)))) := by
  refine Ct.intro (by decide +kernel) (Nat.le_of_ble_eq_true rfl) ?_
  intro X hro hty hC hE
  obtain ⟨hn, hN5, hsh, hac, hpa, hwe, hth⟩ := id hw
  have hps := hpa q hq
  refine a_aload_n (pc := 0) (q := 0) (i := 0) (x := 32) hC (by decide +kernel) rfl 0 rfl ?_
  refine g_get (pc := 1) (idx := 12) (ci := 1) (v := .ref 33) hC 32 0 (by decide +kernel) rfl rfl rfl rfl wrL (by decide) rfl (by decide +kernel) ?_
  refine g_getN (pc := 4) (idx := 78) (ci := 0) (v := .ref 34) (host := "PlanValues") hC 33 0 (by decide +kernel) rfl rfl rfl rfl wrE (by decide) rfl (by decide +kernel) ?_
  refine a_iload_n (pc := 7) (q := 2) (i := 2) (x := (s : Int)) hC (by decide +kernel) rfl 2 rfl ?_
  refine g_aaldL (pc := 8) (a := 34) (j := s) hC hty (by decide +kernel) rfl (by omega) (by first | decide | omega) ?_
  refine a_astore (pc := 9) (q := 0) (i := 4) (lv' := [(4, .ref (35 + s)), (0, .ref 32), (1, .ref 1), (2, vi ((s : Int))), (3, vi ((q : Int)))]) hC (by decide +kernel) (by decide) rfl ?_
  refine a_iconst (pc := 11) (c := 0) hC (by decide +kernel) ?_
  refine a_istore (pc := 12) (q := 0) (i := 5) (lv' := [(5, vi 0), (4, .ref (35 + s)), (0, .ref 32), (1, .ref 1), (2, vi ((s : Int))), (3, vi ((q : Int)))]) hC (by decide +kernel) (by decide) rfl ?_
  have L14 : ∀ (fuel : Nat) (t : Nat), N - t < fuel → t ≤ N → AW X 6 0 0 14 [(5, vi ((t : Int))), (4, .ref (35 + s)), (0, .ref 32), (1, .ref 1), (2, vi ((s : Int))), (3, vi ((q : Int)))] [] (hp K (uG G (35 + s) (wpS G q (G (35 + s)) t))) := by
    intro fuel
    induction fuel with
    | zero => intro t h; exact absurd h (Nat.not_lt_zero _)
    | succ fuel ih14 =>
      intro t hm ht
      refine a_iload (pc := 14) (i := 5) (x := (t : Int)) hC (by decide +kernel) 0 rfl ?_
      refine a_aload_n (pc := 16) (q := 1) (i := 1) (x := 1) hC (by decide +kernel) rfl 3 rfl ?_
      refine g_getN (pc := 17) (idx := 36) (ci := 4) (v := vi ((uG G (35 + s) (wpS G q (G (35 + s)) t)) 1 0)) (host := "PlanValues") hC 1 0 (by decide +kernel) rfl rfl rfl rfl wrW (by decide) rfl (by decide +kernel) ?_
      refine g_top (y := (N : Int)) (by rw [uG_n _ _ (by omega)]; exact hn) ?_
      refine a_icmp_ge (pc := 20) (off := 32) hC 52 (by decide +kernel) (by decide) (by unfold inI; omega) (by unfold inI; omega) (fun c20 => ?_) (fun c20 => ?_)
      · skip
        refine a_aload (pc := 52) (i := 4) (x := 35 + s) hC (by decide +kernel) 1 rfl ?_
        refine a_iload_n (pc := 54) (q := 2) (i := 2) (x := (s : Int)) hC (by decide +kernel) rfl 4 rfl ?_
        refine a_dup2 (pc := 55) hC (by decide +kernel) rfl rfl ?_
        refine g_lald (pc := 56) (a := 35 + s) (j := s) hC hty (by decide +kernel) (sh_e2 (by omega : s < 5)) (by omega) (by first | decide | omega) ?_
        refine g_topl (y := wpS G q (G (35 + s)) N s) (by rw [uG_s, show t = N by omega]) ?_
        refine a_iconst (pc := 57) (c := 1) hC (by decide +kernel) ?_
        refine a_aload_n (pc := 58) (q := 1) (i := 1) (x := 1) hC (by decide +kernel) rfl 3 rfl ?_
        refine g_getN (pc := 59) (idx := 68) (ci := 4) (v := .ref 5) (host := "PlanValues") hC 1 6 (by decide +kernel) rfl rfl rfl rfl wrW (by decide) rfl (by decide +kernel) ?_
        refine a_iload_n (pc := 62) (q := 3) (i := 3) (x := (q : Int)) hC (by decide +kernel) rfl 5 rfl ?_
        refine g_iald (pc := 63) (a := 5) (j := q) hC hty (by decide +kernel) rfl (by omega) (by first | decide | omega) ?_
        refine g_top (y := G 5 q) (by rw [uG_n _ _ (by omega)]) ?_
        refine g_callS (pc := 64) (idx := 85) (av := [vi 1, vi (G 5 q)]) (rest := [vl (wpS G q (G (35 + s)) N s), vi ((s : Int)), .ref (35 + s)]) (g := uG G (35 + s) (wpS G q (G (35 + s)) t)) (v := vi (maxZ 1 (G 5 q))) hC hro hty (by decide +kernel) k_JM_max_II (by decide +kernel) (by decide +kernel) (ct_JM_max_II X.la X.dd K (uG G (35 + s) (wpS G q (G (35 + s)) t)) 1 (G 5 q) (by unfold inI; omega) (by unfold inI; omega)) rfl rfl (by decide) (by first | decide | simp [Value.category]) ?_
        refine a_i2l (pc := 67) hC (by decide +kernel) (by unfold inI maxZ; split <;> omega) ?_
        refine a_ladd (pc := 68) hC (by decide +kernel) ?_
        refine g_last (pc := 69) (a := 35 + s) (j := s) (x := (wpS G q (G (35 + s)) N s) + (maxZ 1 (G 5 q))) hC hty (by decide +kernel) (sh_e2 (by omega : s < 5)) (by omega) (by first | decide | omega) ?_
        exact g_vret (pc := 70) hC hE (by decide +kernel) (by rw [uG_s, uG_uG, show t = N by omega]; rfl)
      · skip
        have hwt := hwe q t hq (by omega)
        obtain ⟨h, hh, hh5⟩ : ∃ h : Nat, G 43 t = (h : Int) ∧ h < 5 := ⟨(G 43 t).toNat, by have := hho t (by omega); omega, by have := hho t (by omega); omega⟩
        have hhn : (G 43 t).toNat = h := by omega
        refine a_aload (pc := 23) (i := 4) (x := 35 + s) hC (by decide +kernel) 1 rfl ?_
        refine a_aload_n (pc := 25) (q := 0) (i := 0) (x := 32) hC (by decide +kernel) rfl 2 rfl ?_
        refine g_get (pc := 26) (idx := 29) (ci := 1) (v := .ref 43) hC 32 3 (by decide +kernel) rfl rfl rfl rfl wrL (by decide) rfl (by decide +kernel) ?_
        refine a_iload (pc := 29) (i := 5) (x := (t : Int)) hC (by decide +kernel) 0 rfl ?_
        refine g_iald (pc := 31) (a := 43) (j := t) hC hty (by decide +kernel) rfl (by omega) (by first | decide | omega) ?_
        refine g_top (y := (h : Int)) (by rw [uG_n _ _ (by omega)]; exact hh) ?_
        refine a_dup2 (pc := 32) hC (by decide +kernel) rfl rfl ?_
        refine g_lald (pc := 33) (a := 35 + s) (j := h) hC hty (by decide +kernel) (sh_e2 (by omega : s < 5)) (by omega) (by first | decide | omega) ?_
        refine g_topl (y := wpS G q (G (35 + s)) t h) (by rw [uG_s]) ?_
        refine a_aload_n (pc := 34) (q := 1) (i := 1) (x := 1) hC (by decide +kernel) rfl 3 rfl ?_
        refine g_getN (pc := 35) (idx := 71) (ci := 4) (v := .ref 6) (host := "PlanValues") hC 1 7 (by decide +kernel) rfl rfl rfl rfl wrW (by decide) rfl (by decide +kernel) ?_
        refine a_iload_n (pc := 38) (q := 3) (i := 3) (x := (q : Int)) hC (by decide +kernel) rfl 5 rfl ?_
        refine g_aaldI (pc := 39) (a := 6) (j := q) hC hty (by decide +kernel) rfl (by omega) (by first | decide | omega) ?_
        refine a_iload (pc := 40) (i := 5) (x := (t : Int)) hC (by decide +kernel) 0 rfl ?_
        refine g_iald (pc := 42) (a := 7 + q) (j := t) hC hty (by decide +kernel) (sh_we (by omega : q < 15)) (by omega) (by first | decide | omega) ?_
        refine g_top (y := G (7 + q) t) (by rw [uG_n _ _ (by omega)]) ?_
        refine a_i2l (pc := 43) hC (by decide +kernel) (by unfold inI; omega) ?_
        refine a_lsub (pc := 44) hC (by decide +kernel) ?_
        refine g_last (pc := 45) (a := 35 + s) (j := h) (x := (wpS G q (G (35 + s)) t h) - (G (7 + q) t)) hC hty (by decide +kernel) (sh_e2 (by omega : s < 5)) (by omega) (by first | decide | omega) ?_
        refine a_iinc (pc := 46) (i := 5) (c := 1) (x := (t : Int)) (lv' := [(5, vi (((t : Int)) + 1)), (4, .ref (35 + s)), (0, .ref 32), (1, .ref 1), (2, vi ((s : Int))), (3, vi ((q : Int)))]) hC (by decide +kernel) 0 rfl (by decide) rfl ?_
        refine a_goto (pc := 49) (off := -35) hC 14 (by decide +kernel) (by decide) ?_
        refine a_sub (lv' := [(5, vi (((t + 1) : Int))), (4, .ref (35 + s)), (0, .ref 32), (1, .ref 1), (2, vi ((s : Int))), (3, vi ((q : Int)))]) [0, 1, 2, 3, 4, 5] rfl ?_
        refine g_G (G' := uG G (35 + s) (wpS G q (G (35 + s)) (t + 1))) (by rw [uG_s, uG_uG, wpS_s, hhn]) ?_
        exact ih14 (t + 1) (by omega) (by omega)
  refine a_sub (lv' := [(5, vi ((0 : Int))), (4, .ref (35 + s)), (0, .ref 32), (1, .ref 1), (2, vi ((s : Int))), (3, vi ((q : Int)))]) [0, 1, 2, 3, 4, 5] rfl ?_
  refine g_G (G' := uG G (35 + s) (wpS G q (G (35 + s)) 0)) (by show G = uG G (35 + s) (G (35 + s)); rw [uG_self]) ?_
  exact L14 _ 0 (Nat.lt_succ_self _) (by omega)

/-- the state behind findReach and findHomes -/
def lrH (G : GT) (pl N : Nat) : GT := homG (reaG G pl N) N
def rowL (G : GT) (pl N s : Nat) (old : Nat → Int) : Nat → Int := if inCir G s N = true then wcR G N s (slotN G pl s) (G 43 s).toNat old else wpR G N s (slotN G pl s) old
def lrG (G : GT) (pl N i : Nat) : GT := fun b => if 35 ≤ b ∧ b < 35 + i then rowL G pl N (b - 35) (clrG G 35 5 6 b) else clrG G 35 5 6 b
def lrR (G : GT) (pl N : Nat) : GT := solG (lrG (lrH G pl N) pl N N) 33 40 N
theorem lrG_0 (G : GT) (pl N : Nat) : lrG G pl N 0 = clrG G 35 5 6 := by funext b; exact if_neg (by omega)
theorem lrG_off {G : GT} {pl N i b : Nat} (hi : i ≤ 5) (h : b < 35 ∨ 40 ≤ b) : lrG G pl N i b = G b := by
  unfold lrG; rw [if_neg (by omega), clr_off (by omega)]
theorem lrG_at (G : GT) (pl N i : Nat) : lrG G pl N i (35 + i) = clrG G 35 5 6 (35 + i) := if_neg (by omega)
theorem lrG_s {G : GT} {pl N s : Nat} : uG (lrG G pl N s) (35 + s) (rowL G pl N s (clrG G 35 5 6 (35 + s))) = lrG G pl N (s + 1) := by
  funext b
  by_cases hb : b = 35 + s
  · subst hb
    rw [uG_s]; unfold lrG
    rw [if_pos (by omega), show 35 + s - 35 = s by omega]
  · rw [uG_n _ _ hb]; unfold lrG
    by_cases h2 : 35 ≤ b ∧ b < 35 + s
    · rw [if_pos h2, if_pos (by omega)]
    · rw [if_neg h2, if_neg (by omega)]
theorem lrH_off {G : GT} {pl N b : Nat} (h : b ≠ 42) (h2 : b ≠ 43) : lrH G pl N b = G b := by
  unfold lrH homG reaG; rw [uG_n _ _ h2, uG_n _ _ h]
theorem wcF_congr {G G' : GT} {q h : Nat} (e : ∀ b, b ≤ 21 → G' b = G b) (hq : q < 15) (t : Nat) (r : Nat → Int) : wcF G' q h t r = wcF G q h t r := by
  unfold wcF; rw [e (7 + q) (by omega)]
theorem wcR_congr {G G' : GT} {N s q h : Nat} (e : ∀ b, b ≤ 21 → G' b = G b) (hq : q < 15) (r : Nat → Int) : wcR G' N s q h r = wcR G N s q h r := by
  unfold wcR wcH; rw [wcF_congr e hq, e 5 (by omega), e 4 (by omega)]
theorem wpS_congr {G G' : GT} {q : Nat} (e : ∀ b, b ≤ 21 → G' b = G b) (e2 : G' 43 = G 43) (hq : q < 15) (r : Nat → Int) : ∀ t, wpS G' q r t = wpS G q r t
  | 0 => rfl
  | t + 1 => by rw [wpS_s, wpS_s, wpS_congr e e2 hq r t, e2, e (7 + q) (by omega)]
theorem wpR_congr {G G' : GT} {N s q : Nat} (e : ∀ b, b ≤ 21 → G' b = G b) (e2 : G' 43 = G 43) (hq : q < 15) (r : Nat → Int) : wpR G' N s q r = wpR G N s q r := by
  unfold wpR; rw [wpS_congr e e2 hq, e 5 (by omega)]

set_option maxRecDepth 100000 in
set_option maxHeartbeats 4000000 in
theorem ct_L_follow (l : Launch) (D : va_G) (K : K5) (G : GT) (pl N : Nat) (hw : WW G N) (hpl : PlOk G pl N) (hok : SolOk (lrG (lrH G pl N) pl N N) 33 N) : Ct l D K y_L_follow c_L_follow 5 none 3 69 [.ref 32, .ref 1, .ref pl] G none (lrR G pl N) := by
  refine Ct.intro (by decide +kernel) (Nat.le_of_ble_eq_true rfl) ?_
  intro X hro hty hC hE
  obtain ⟨hn, hN5, hsh, hac, hpa, hwe, hth⟩ := id hw
  have hplr := hpl.1
  have hwH : WW (lrH G pl N) N := hw.keep (fun a ha => lrH_off (by omega) (by omega))
  have hrcA : RcOk (reaG G pl N) N := fun z hz => by unfold reaG; rw [uG_s]; exact wB_in (rc1F_in hN5) N (Nat.le_refl _) z hz
  have hrcH : RcOk (lrH G pl N) N := fun z hz => by unfold lrH homG; rw [uG_n _ _ (by decide)]; exact hrcA z hz
  have hho : ∀ t, t < N → 0 ≤ (lrH G pl N) 43 t ∧ (lrH G pl N) 43 t < 5 := fun t ht => by
    unfold lrH homG; rw [uG_s]; unfold homF; rw [if_pos ht]; have := homZ_in (G := reaG G pl N) ht; omega
  refine a_aload_n (pc := 0) (q := 0) (i := 0) (x := 32) hC (by decide +kernel) rfl 0 rfl ?_
  refine a_aload_n (pc := 1) (q := 1) (i := 1) (x := 1) hC (by decide +kernel) rfl 1 rfl ?_
  refine a_aload_n (pc := 2) (q := 2) (i := 2) (x := pl) hC (by decide +kernel) rfl 2 rfl ?_
  refine g_callV0 (pc := 3) (idx := 32) (i := 32) (av := [.ref 1, .ref pl]) (rest := []) (g := reaG G pl N) hC hro hty (by decide +kernel) rfl rfl k_L_findReach (by decide +kernel) (by decide +kernel) (by decide +kernel) (ct_L_findReach X.la X.dd K G pl N hw hpl) rfl rfl (by decide) (by first | decide | simp [Value.category]) ?_
  refine a_aload_n (pc := 6) (q := 0) (i := 0) (x := 32) hC (by decide +kernel) rfl 0 rfl ?_
  refine a_aload_n (pc := 7) (q := 1) (i := 1) (x := 1) hC (by decide +kernel) rfl 1 rfl ?_
  refine g_getN (pc := 8) (idx := 36) (ci := 4) (v := vi ((reaG G pl N) 1 0)) (host := "PlanValues") hC 1 0 (by decide +kernel) rfl rfl rfl rfl wrW (by decide) rfl (by decide +kernel) ?_
  refine g_top (y := (N : Int)) (by unfold reaG; rw [uG_n _ _ (by omega)]; exact hn) ?_
  refine g_callV0 (pc := 11) (idx := 42) (i := 32) (av := [vi ((N : Int))]) (rest := []) (g := homG (reaG G pl N) N) hC hro hty (by decide +kernel) rfl rfl k_L_findHomes (by decide +kernel) (by decide +kernel) (by decide +kernel) (ct_L_findHomes X.la X.dd K (reaG G pl N) N (by omega) hrcA) rfl rfl (by decide) (by first | decide | simp [Value.category]) ?_
  refine g_G (G' := (lrH G pl N)) rfl ?_
  refine a_aload_n (pc := 14) (q := 0) (i := 0) (x := 32) hC (by decide +kernel) rfl 0 rfl ?_
  refine g_get (pc := 15) (idx := 12) (ci := 1) (v := .ref 33) hC 32 0 (by decide +kernel) rfl rfl rfl rfl wrL (by decide) rfl (by decide +kernel) ?_
  refine g_callVN0 (pc := 18) (idx := 46) (i := 33) (av := []) (rest := []) (g := clrG ((lrH G pl N)) 35 5 6) (host := "PlanValues") hC hro hty (by decide +kernel) rfl rfl k_E_begin (by decide +kernel) (by decide +kernel) (by decide +kernel) (ct_E_begin X.la X.dd K ((lrH G pl N)) 33 she33) rfl rfl (by decide) (by first | decide | simp [Value.category]) ?_
  refine a_iconst (pc := 21) (c := 0) hC (by decide +kernel) ?_
  refine a_istore_n (pc := 22) (q := 3) (i := 3) (lv' := [(3, vi 0), (0, .ref 32), (1, .ref 1), (2, .ref pl)]) hC (by decide +kernel) rfl (by decide) rfl ?_
  have L23 : ∀ (fuel : Nat) (s : Nat), N - s < fuel → s ≤ N → AW X 5 0 0 23 [(3, vi ((s : Int))), (0, .ref 32), (1, .ref 1), (2, .ref pl)] [] (hp K (lrG (lrH G pl N) pl N s)) := by
    intro fuel
    induction fuel with
    | zero => intro s h; exact absurd h (Nat.not_lt_zero _)
    | succ fuel ih23 =>
      intro s hm hs
      refine a_iload_n (pc := 23) (q := 3) (i := 3) (x := (s : Int)) hC (by decide +kernel) rfl 0 rfl ?_
      refine a_aload_n (pc := 24) (q := 1) (i := 1) (x := 1) hC (by decide +kernel) rfl 2 rfl ?_
      refine g_getN (pc := 25) (idx := 36) (ci := 4) (v := vi ((lrG (lrH G pl N) pl N s) 1 0)) (host := "PlanValues") hC 1 0 (by decide +kernel) rfl rfl rfl rfl wrW (by decide) rfl (by decide +kernel) ?_
      refine g_top (y := (N : Int)) (by rw [lrG_off (by omega) (by omega), lrH_off (by omega) (by omega)]; exact hn) ?_
      refine a_icmp_ge (pc := 28) (off := 49) hC 77 (by decide +kernel) (by decide) (by unfold inI; omega) (by unfold inI; omega) (fun c28 => ?_) (fun c28 => ?_)
      · skip
        refine a_aload_n (pc := 77) (q := 0) (i := 0) (x := 32) hC (by decide +kernel) rfl 1 rfl ?_
        refine g_get (pc := 78) (idx := 12) (ci := 1) (v := .ref 33) hC 32 0 (by decide +kernel) rfl rfl rfl rfl wrL (by decide) rfl (by decide +kernel) ?_
        refine a_aload_n (pc := 81) (q := 1) (i := 1) (x := 1) hC (by decide +kernel) rfl 2 rfl ?_
        refine g_getN (pc := 82) (idx := 36) (ci := 4) (v := vi ((lrG (lrH G pl N) pl N s) 1 0)) (host := "PlanValues") hC 1 0 (by decide +kernel) rfl rfl rfl rfl wrW (by decide) rfl (by decide +kernel) ?_
        refine g_top (y := (N : Int)) (by rw [lrG_off (by omega) (by omega), lrH_off (by omega) (by omega)]; exact hn) ?_
        refine a_aload_n (pc := 85) (q := 0) (i := 0) (x := 32) hC (by decide +kernel) rfl 1 rfl ?_
        refine g_get (pc := 86) (idx := 21) (ci := 1) (v := .ref 40) hC 32 1 (by decide +kernel) rfl rfl rfl rfl wrL (by decide) rfl (by decide +kernel) ?_
        rw [show s = N by omega]
        refine g_callVN0 (pc := 89) (idx := 64) (i := 33) (av := [vi ((N : Int)), .ref 40]) (rest := []) (g := solG (lrG (lrH G pl N) pl N N) 33 40 N) (host := "PlanValues") hC hro hty (by decide +kernel) rfl rfl k_E_solve (by decide +kernel) (by decide +kernel) (by decide +kernel) (ct_E_solve X.la X.dd K (lrG (lrH G pl N) pl N N) 33 N 40 she33 shu40 (by omega) (by omega) hok) rfl rfl (by decide) (by first | decide | simp [Value.category]) ?_
        exact g_vret (pc := 92) hC hE (by decide +kernel) rfl
      · skip
        obtain ⟨q, hq, hq3⟩ : ∃ q : Nat, G pl s = (q : Int) ∧ q < 3 := ⟨(G pl s).toNat, by have := hpl.2 s (by omega); omega, by have := hpl.2 s (by omega); omega⟩
        have hsl : slotN (lrH G pl N) pl s = s * 3 + q := by unfold slotN; rw [lrH_off (by omega) (by omega)]; omega
        obtain ⟨h, hh, hh5⟩ : ∃ h : Nat, (lrH G pl N) 43 s = (h : Int) ∧ h < 5 := ⟨((lrH G pl N) 43 s).toNat, by have := hho s (by omega); omega, by have := hho s (by omega); omega⟩
        have hhn : ((lrH G pl N) 43 s).toNat = h := by omega
        refine a_iload_n (pc := 31) (q := 3) (i := 3) (x := (s : Int)) hC (by decide +kernel) rfl 0 rfl ?_
        refine a_aload_n (pc := 32) (q := 2) (i := 2) (x := pl) hC (by decide +kernel) rfl 3 rfl ?_
        refine a_iload_n (pc := 33) (q := 3) (i := 3) (x := (s : Int)) hC (by decide +kernel) rfl 0 rfl ?_
        refine g_iald (pc := 34) (a := pl) (j := s) hC hty (by decide +kernel) hpl.sh (by omega) (by first | decide | omega) ?_
        refine g_top (y := (q : Int)) (by rw [lrG_off (by omega) (by omega), lrH_off (by omega) (by omega)]; exact hq) ?_
        refine g_callSN (pc := 35) (idx := 49) (av := [vi ((s : Int)), vi ((q : Int))]) (rest := []) (g := lrG (lrH G pl N) pl N s) (v := vi (((s : Int)) * 3 + ((q : Int)))) (host := "PlanValues") hC hro hty (by decide +kernel) k_W_slotOf (by decide +kernel) (by decide +kernel) (ct_W_slotOf X.la X.dd K (lrG (lrH G pl N) pl N s) ((s : Int)) ((q : Int))) rfl rfl (by decide) (by first | decide | simp [Value.category]) ?_
        refine g_top (y := ((s * 3 + q : Nat) : Int)) (by omega) ?_
        refine a_istore (pc := 38) (q := 0) (i := 4) (lv' := [(4, vi (((s * 3 + q : Nat) : Int))), (3, vi ((s : Int))), (0, .ref 32), (1, .ref 1), (2, .ref pl)]) hC (by decide +kernel) (by decide) rfl ?_
        refine a_aload_n (pc := 40) (q := 0) (i := 0) (x := 32) hC (by decide +kernel) rfl 2 rfl ?_
        refine a_iload_n (pc := 41) (q := 3) (i := 3) (x := (s : Int)) hC (by decide +kernel) rfl 1 rfl ?_
        refine a_aload_n (pc := 42) (q := 1) (i := 1) (x := 1) hC (by decide +kernel) rfl 3 rfl ?_
        refine g_getN (pc := 43) (idx := 36) (ci := 4) (v := vi ((lrG (lrH G pl N) pl N s) 1 0)) (host := "PlanValues") hC 1 0 (by decide +kernel) rfl rfl rfl rfl wrW (by decide) rfl (by decide +kernel) ?_
        refine g_top (y := (N : Int)) (by rw [lrG_off (by omega) (by omega), lrH_off (by omega) (by omega)]; exact hn) ?_
        refine g_callV (pc := 46) (idx := 53) (i := 32) (av := [vi ((s : Int)), vi ((N : Int))]) (rest := []) (g := lrG (lrH G pl N) pl N s) (v := vi (bZ (inCir (lrG (lrH G pl N) pl N s) s N))) hC hro hty (by decide +kernel) rfl rfl k_L_isInCircle (by decide +kernel) (by decide +kernel) (by decide +kernel) (ct_L_isInCircle X.la X.dd K (lrG (lrH G pl N) pl N s) N s (by omega) (by omega) (fun z hz => by rw [lrG_off (by omega) (by omega)]; exact hrcH z hz)) rfl rfl (by decide) (by first | decide | simp [Value.category]) ?_
        refine g_top (y := bZ (inCir (lrH G pl N) s N)) (by rw [inCir_congr (lrG_off (by omega) (by omega))]) ?_
        refine a_if_eq (pc := 49) (off := 14) hC 63 (by decide +kernel) (by decide) (by unfold inI; have := bZ_01 (inCir (lrH G pl N) s N); omega) (fun c49 => ?_) (fun c49 => ?_)
        · skip
          have hic : ¬ inCir (lrH G pl N) s N = true := by
            intro hh2; rw [hh2] at c49; exact absurd c49 (by decide)
          refine a_aload_n (pc := 63) (q := 0) (i := 0) (x := 32) hC (by decide +kernel) rfl 2 rfl ?_
          refine a_aload_n (pc := 64) (q := 1) (i := 1) (x := 1) hC (by decide +kernel) rfl 3 rfl ?_
          refine a_iload_n (pc := 65) (q := 3) (i := 3) (x := (s : Int)) hC (by decide +kernel) rfl 1 rfl ?_
          refine a_iload (pc := 66) (i := 4) (x := ((s * 3 + q : Nat) : Int)) hC (by decide +kernel) 0 rfl ?_
          have hcg : ∀ c, c ≤ 21 → lrG (lrH G pl N) pl N s c = (lrH G pl N) c := fun c hc => lrG_off (by omega) (by omega)
          refine g_callV0 (pc := 68) (idx := 61) (i := 32) (av := [.ref 1, vi ((s : Int)), vi (((s * 3 + q : Nat) : Int))]) (rest := []) (g := uG (lrG (lrH G pl N) pl N s) (35 + s) (wpR (lrG (lrH G pl N) pl N s) N s (s * 3 + q) ((lrG (lrH G pl N) pl N s) (35 + s)))) hC hro hty (by decide +kernel) rfl rfl k_L_writePassage (by decide +kernel) (by decide +kernel) (by decide +kernel) (ct_L_writePassage X.la X.dd K (lrG (lrH G pl N) pl N s) N s (s * 3 + q) (by omega) (by omega) (fun t ht => by rw [lrG_off (by omega) (by omega)]; exact hho t ht) (hwH.keep hcg)) rfl rfl (by decide) (by first | decide | simp [Value.category]) ?_
          refine a_iinc (pc := 71) (i := 3) (c := 1) (x := (s : Int)) (lv' := [(3, vi (((s : Int)) + 1)), (4, vi (((s * 3 + q : Nat) : Int))), (0, .ref 32), (1, .ref 1), (2, .ref pl)]) hC (by decide +kernel) 1 rfl (by decide) rfl ?_
          refine a_goto (pc := 74) (off := -51) hC 23 (by decide +kernel) (by decide) ?_
          refine a_sub (lv' := [(3, vi (((s + 1) : Int))), (0, .ref 32), (1, .ref 1), (2, .ref pl)]) [0, 2, 3, 4] rfl ?_
          refine g_G (G' := lrG (lrH G pl N) pl N (s + 1)) (by rw [lrG_at]; first | (rw [wcR_congr hcg (by omega), ← lrG_s]; unfold rowL; rw [if_pos hic, hsl, hhn]) | (rw [wpR_congr hcg (lrG_off (by omega) (by omega)) (by omega), ← lrG_s]; unfold rowL; rw [if_neg hic, hsl])) ?_
          exact ih23 (s + 1) (by omega) (by omega)
        · skip
          have hic : inCir (lrH G pl N) s N = true := by
            cases hh2 : inCir (lrH G pl N) s N
            · rw [hh2] at c49; exact absurd rfl c49
            · rfl
          refine a_aload_n (pc := 52) (q := 0) (i := 0) (x := 32) hC (by decide +kernel) rfl 2 rfl ?_
          refine a_aload_n (pc := 53) (q := 1) (i := 1) (x := 1) hC (by decide +kernel) rfl 3 rfl ?_
          refine a_iload_n (pc := 54) (q := 3) (i := 3) (x := (s : Int)) hC (by decide +kernel) rfl 1 rfl ?_
          refine a_iload (pc := 55) (i := 4) (x := ((s * 3 + q : Nat) : Int)) hC (by decide +kernel) 0 rfl ?_
          have hcg : ∀ c, c ≤ 21 → lrG (lrH G pl N) pl N s c = (lrH G pl N) c := fun c hc => lrG_off (by omega) (by omega)
          refine g_callV0 (pc := 57) (idx := 57) (i := 32) (av := [.ref 1, vi ((s : Int)), vi (((s * 3 + q : Nat) : Int))]) (rest := []) (g := uG (lrG (lrH G pl N) pl N s) (35 + s) (wcR (lrG (lrH G pl N) pl N s) N s (s * 3 + q) h ((lrG (lrH G pl N) pl N s) (35 + s)))) hC hro hty (by decide +kernel) rfl rfl k_L_writeCircle (by decide +kernel) (by decide +kernel) (by decide +kernel) (ct_L_writeCircle X.la X.dd K (lrG (lrH G pl N) pl N s) N s (s * 3 + q) h (by omega) (by omega) (by omega) (by rw [lrG_off (by omega) (by omega)]; exact hh) (hwH.keep hcg)) rfl rfl (by decide) (by first | decide | simp [Value.category]) ?_
          refine a_goto (pc := 60) (off := 11) hC 71 (by decide +kernel) (by decide) ?_
          refine a_iinc (pc := 71) (i := 3) (c := 1) (x := (s : Int)) (lv' := [(3, vi (((s : Int)) + 1)), (4, vi (((s * 3 + q : Nat) : Int))), (0, .ref 32), (1, .ref 1), (2, .ref pl)]) hC (by decide +kernel) 1 rfl (by decide) rfl ?_
          refine a_goto (pc := 74) (off := -51) hC 23 (by decide +kernel) (by decide) ?_
          refine a_sub (lv' := [(3, vi (((s + 1) : Int))), (0, .ref 32), (1, .ref 1), (2, .ref pl)]) [0, 2, 3, 4] rfl ?_
          refine g_G (G' := lrG (lrH G pl N) pl N (s + 1)) (by rw [lrG_at]; first | (rw [wcR_congr hcg (by omega), ← lrG_s]; unfold rowL; rw [if_pos hic, hsl, hhn]) | (rw [wpR_congr hcg (lrG_off (by omega) (by omega)) (by omega), ← lrG_s]; unfold rowL; rw [if_neg hic, hsl])) ?_
          exact ih23 (s + 1) (by omega) (by omega)
  refine a_sub (lv' := [(3, vi ((0 : Int))), (0, .ref 32), (1, .ref 1), (2, .ref pl)]) [0, 1, 2, 3] rfl ?_
  refine g_G (G' := lrG (lrH G pl N) pl N 0) (lrG_0 _ _ _).symm ?_
  exact L23 _ 0 (Nat.lt_succ_self _) (by omega)
end
section
/-! System.arraycopy from the beginning of one array to that of another; Integer.bitCount -/
section COPY
variable {X : Xt} {cc : ByteArray} {nL k n pc : Nat} {own : String} {ret : Option FieldType} {lv : List (Nat × Value)} {st : List Value} {ah : Hp}
def cpy (f g : Nat → Int) (M : Nat) : Nat → Int := fun j => if j < M then f j else g j
theorem cpy_i (f g : Nat → Int) (M : Nat) : (fun j => iZ (cpy f g M j)) = va_cpy (fun j => iZ (f j)) (fun j => iZ (g j)) 0 0 M := by
  funext j; unfold cpy va_cpy
  by_cases h : j < M
  · rw [if_pos h, if_pos ⟨Nat.zero_le _, by omega⟩]; simp
  · rw [if_neg h, if_neg (by omega)]
theorem cpy_l (f g : Nat → Int) (M : Nat) : (fun j => lZ (cpy f g M j)) = va_cpy (fun j => lZ (f j)) (fun j => lZ (g j)) 0 0 M := by
  funext j; unfold cpy va_cpy
  by_cases h : j < M
  · rw [if_pos h, if_pos ⟨Nat.zero_le _, by omega⟩]; simp
  · rw [if_neg h, if_neg (by omega)]
theorem iZ_nn {M : Nat} (h : M < 2147483648) : ¬ iZ (M : Int) < 0 := fun q => by
  have := (iZ_lt (x := (M : Int)) (y := 0) ⟨by omega, by omega⟩ inI_0).mp q; omega
/-- what a copy needs of the two arrays, whatever they hold -/
theorem a_copy (hC : Cx X cc nL own ret) {idx a0 a1 N0 N1 M : Nat} {cA : ClassId} {ty : FieldType} (x0 x1 x2 : vp_A) (hx0 : x0.1 = N0) (hx1 : x1.1 = N1) (mk : Nat → Value) (hd : decode cc pc = .ok (.invokestatic idx, 3)) (hlk : Cond.methodLink own idx arraycopyName ∈ TT) (hnat : Cond.native arraycopyName ∈ TT) (hstat : Cond.static arraycopyName ∈ TT) (hini : Cond.initialized "java/lang/System" ∈ TT) (ht : (cA, ty) ∈ X.ty) (hprim : refKind ty = false) (hm0 : ∀ b, ma b x0 = x0) (hm1 : ∀ b, ma b x1 = x1) (hm2 : ∀ b, ma b x2 = x2)
    (hc0 : ∀ c, (vp_cell c x0).cls = c ∧ (vp_cell c x0).vm = .none ∧ (vp_cell c x0).slots.size = N0) (hc1 : ∀ c, (vp_cell c x1).cls = c ∧ (vp_cell c x1).vm = .none ∧ (vp_cell c x1).slots.size = N1)
    (hval : ∀ c i, i < M → (vp_cell c x0).slots.getD (0 + i) .null = mk i) (hfit : ∀ i, i < M → fits ty (mk i) = true) (href : ∀ i, i < M → ∀ a, mk i ≠ .ref a)
    (hcopy : ∀ c, copied (vp_cell c x0) (vp_cell c x1) 0 0 (iZ (M : Int)) = vp_cell c x2)
    (he0 : ah[a0]? = some (.inl (cA, x0))) (he1 : ah[a1]? = some (.inl (cA, x1))) (hM0 : M ≤ N0) (hM1 : M ≤ N1) (hM : M < 2147483648) (hfr : 1 ≤ X.ro.frames) (hlo : 60 ≤ X.ro.locals) (hcat : (st.map fun v => v.category).sum ≤ 8) {ah' : Hp} (hah : ah.set a1 (.inl (cA, x2)) = ah') {z : Int} (hz : z = (M : Int))
    (kk : AW X nL k n (pc + 3) lv st ah') : AW X nL k n pc lv (vi z :: vi 0 :: .ref a1 :: vi 0 :: .ref a0 :: st) ah := by
  subst hz
  intro H locs ls hR hS hl T hT Xs
  have hts := hC.2.2.2.2.1
  have g0 : H[X.ba + a0]? = some (vp_cell cA x0) := by have := hR.at he0; rw [show me X.ba X.sb (.inl (cA, x0)) = .inl (cA, ma X.ba x0) from rfl, hm0] at this; exact this
  have g1 : H[X.ba + a1]? = some (vp_cell cA x1) := by have := hR.at he1; rw [show me X.ba X.sb (.inl (cA, x1)) = .inl (cA, ma X.ba x1) from rfl, hm1] at this; exact this
  obtain ⟨-, k0, hk0, cm0, hkk0⟩ := (ty_cls hC ht).1 0 (fun _ => .null)
  obtain ⟨vm', X', step⟩ := Xs.arraycopy hC.1 hC.2.2.2.1 (hts _ hlk) (hts _ hnat) (hts _ hstat) (hts _ hini) (src := X.ba + a0) (dst := X.ba + a1) (cs := vp_cell cA x0) (cd := vp_cell cA x1) (srcPos := 0) (destPos := 0) (n := iZ (M : Int)) (by rw [hT]; exact g0) (by rw [hT]; exact g1)
    (fun _ h => by rw [(hc0 cA).2.1] at h; cases h) (fun _ h => by rw [(hc1 cA).2.1] at h; cases h) (fun h => by rw [(hc0 cA).2.1] at h; cases h) (fun h => by rw [(hc1 cA).2.1] at h; cases h) (by rw [(hc0 cA).1]; exact hk0) (by rw [(hc1 cA).1]; exact hk0) hkk0 hkk0 (by simp [hprim]) (by decide) (by decide) (iZ_nn hM)
    (by rw [iZ_toInt ⟨by omega, by omega⟩, (hc0 cA).2.2]; show ¬ (0 : Int) + _ > _; omega)
    (by rw [iZ_toInt ⟨by omega, by omega⟩, (hc1 cA).2.2]; show ¬ (0 : Int) + _ > _; omega)
    (fun vm₁ _ i hi => by
      rw [iZ_clN hM] at hi
      have e := hval cA i hi
      refine ⟨?_, ?_⟩
      · rw [show (0 : Int32).toNatClampNeg + i = 0 + i from rfl, e]; exact hfit i hi
      · rw [show (0 : Int32).toNatClampNeg + i = 0 + i from rfl, e]
        have := href i hi
        cases hv : mk i with
        | ref a => exact absurd hv (this a)
        | _ => exact trivial)
    (g := F0 X.mi pc ls ((vi (M : Int) :: vi 0 :: .ref a1 :: vi 0 :: .ref a0 :: st).map (mv X.ba X.sb))) rfl (by show ls.size = _; rw [hl.1, hC.2.2.1]) (rest := st.map (mv X.ba X.sb)) rfl (by rw [hC.2.1]; exact hd) hfr (by
      have := room_ok (m := X.mi) (pc := pc) (ls := ls) (b := X.ba) (sb := X.sb) (st1 := ((vi (M : Int) :: vi 0 :: .ref a1 :: vi 0 :: .ref a0 :: st).map (mv X.ba X.sb))) hcat
      have h2 : nativeFrameWords "java/lang/System" "arraycopy" 5 + 11 ≤ 52 := by decide +kernel
      omega)
  rw [hcopy] at X' step
  have hlt : X.ba + a1 < H.size := (Array.getElem?_eq_some_iff.mp g1).1
  have hheap : ((T.setVm vm').setCell (X.ba + a1) (vp_cell cA x2)).heap = H.setIfInBounds (X.ba + a1) (vp_cell cA x2) := by rw [← hT]; rfl
  have oq : ∀ q : Nat, q ≠ X.ba + a1 → (H.setIfInBounds (X.ba + a1) (vp_cell cA x2))[q]? = H[q]? := fun q hq => by simp [Array.getElem?_setIfInBounds, Ne.symm hq]
  have hR' : Rl X.dd vwCl X.ba X.sb ah' (H.setIfInBounds (X.ba + a1) (vp_cell cA x2)) := by
    rw [← hah]
    refine hR.set ?_ (by simp) oq
    show (H.setIfInBounds (X.ba + a1) (vp_cell cA x2))[X.ba + a1]? = some (vp_cell cA (ma X.ba x2))
    rw [hm2]
    simp [Array.getElem?_setIfInBounds, hlt]
  obtain ⟨t, b1, b2⟩ := kk _ _ ls hR' ⟨by simp; exact hS.1, fun q h1 h2 => by
      rw [oq q (fun e => h2 (by show X.ba ≤ q; omega))]
      exact hS.2.1 q h1 h2, fun q hq => by
      rcases List.mem_append.mp hq with h | h
      · exact hS.2.2 q h
      · obtain ⟨z, -, hz⟩ := List.mem_map.mp h
        rw [← hz]
        exact Nat.le_add_right _ _⟩ hl _ hheap X'
  exact ⟨t, step t b1, b2⟩
end COPY
end
section
/-! PlanValues: its private methods -/
section GCOPY
variable {X : Xt} {cc : ByteArray} {nL k n pc : Nat} {own : String} {ret : Option FieldType} {lv : List (Nat × Value)} {st : List Value} {K : K5} {G : GT}
theorem copy_facts : Cond.native arraycopyName ∈ TT ∧ Cond.static arraycopyName ∈ TT ∧ Cond.initialized "java/lang/System" ∈ TT := by refine ⟨?_, ?_, ?_⟩ <;> decide +kernel
theorem g_copyI (hC : Cx X cc nL own ret) {F L : Nat} (hro : X.ro = rmk F L) (hty : X.ty = tyK K) {idx a0 a1 N0 N1 M : Nat} (hd : decode cc pc = .ok (.invokestatic idx, 3)) (hlk : Cond.methodLink own idx arraycopyName ∈ TT) (h0 : shape[a0]? = some (shI N0)) (h1 : shape[a1]? = some (shI N1)) (hM0 : M ≤ N0) (hM1 : M ≤ N1) (hN : N0 < 2147483648) (hfl : 1 ≤ F ∧ 60 ≤ L) (hcat : (st.map fun v => v.category).sum ≤ 8) {z : Int} (hz : z = (M : Int))
    (kk : AW X nL k n (pc + 3) lv st (hp K (uG G a1 (cpy (G a0) (G a1) M)))) : AW X nL k n pc lv (vi z :: vi 0 :: .ref a1 :: vi 0 :: .ref a0 :: st) (hp K G) := by
  refine a_copy hC (N0 := N0) (N1 := N1) (M := M) (cA := K.1) (ty := .int) (N0, .inl (fun j => iZ (G a0 j))) (N1, .inl (fun j => iZ (G a1 j))) (N1, .inl (fun j => iZ (cpy (G a0) (G a1) M j))) rfl rfl (fun i => .int (iZ (G a0 i))) hd hlk copy_facts.1 copy_facts.2.1 copy_facts.2.2 (by rw [hty]; exact tyK_I K) rfl (fun _ => rfl) (fun _ => rfl) (fun _ => rfl) (fun c => ⟨rfl, rfl, by rw [vp_cell_i, arrV_size]⟩) (fun c => ⟨rfl, rfl, by rw [vp_cell_i, arrV_size]⟩) (fun c i hi => by rw [vp_cell_i, Array.getD_eq_getD_getElem?, arrV_read _ _ (by omega)]; simp) (fun i _ => rfl) (fun i _ a h => by cases h) (fun c => ?_) (hp_at K G h0) (hp_at K G h1) hM0 hM1 (by omega) (by rw [hro]; exact hfl.1) (by rw [hro]; exact hfl.2) hcat (hp_set K G h1 (cpy (G a0) (G a1) M)) hz kk
  have e : copied (vp_cell c (N0, .inl (fun j => iZ (G a0 j)))) (vp_cell c (N1, .inl (fun j => iZ (G a1 j)))) 0 0 (iZ (M : Int)) = vp_cell c (N1, .inl (va_cpy (fun j => iZ (G a0 j)) (fun j => iZ (G a1 j)) (0 : Int32).toNatClampNeg (0 : Int32).toNatClampNeg (iZ (M : Int)).toNatClampNeg)) := va_copied (fun z => .int z) c c (fun j => iZ (G a0 j)) (fun j => iZ (G a1 j)) (by rw [iZ_clN (by omega)]; show 0 + M ≤ N0; omega)
  rw [iZ_clN (by omega)] at e
  rw [cpy_i]
  exact e
theorem g_copyL (hC : Cx X cc nL own ret) {F L : Nat} (hro : X.ro = rmk F L) (hty : X.ty = tyK K) {idx a0 a1 N0 N1 M : Nat} (hd : decode cc pc = .ok (.invokestatic idx, 3)) (hlk : Cond.methodLink own idx arraycopyName ∈ TT) (h0 : shape[a0]? = some (shL N0)) (h1 : shape[a1]? = some (shL N1)) (hM0 : M ≤ N0) (hM1 : M ≤ N1) (hN : N0 < 2147483648) (hfl : 1 ≤ F ∧ 60 ≤ L) (hcat : (st.map fun v => v.category).sum ≤ 8) {z : Int} (hz : z = (M : Int))
    (kk : AW X nL k n (pc + 3) lv st (hp K (uG G a1 (cpy (G a0) (G a1) M)))) : AW X nL k n pc lv (vi z :: vi 0 :: .ref a1 :: vi 0 :: .ref a0 :: st) (hp K G) := by
  refine a_copy hC (N0 := N0) (N1 := N1) (M := M) (cA := K.2.1) (ty := .long) (N0, .inr (.inl (fun j => lZ (G a0 j)))) (N1, .inr (.inl (fun j => lZ (G a1 j)))) (N1, .inr (.inl (fun j => lZ (cpy (G a0) (G a1) M j)))) rfl rfl (fun i => .long (lZ (G a0 i))) hd hlk copy_facts.1 copy_facts.2.1 copy_facts.2.2 (by rw [hty]; exact tyK_L K) rfl (fun _ => rfl) (fun _ => rfl) (fun _ => rfl) (fun c => ⟨rfl, rfl, by rw [vp_cell_l, arrV_size]⟩) (fun c => ⟨rfl, rfl, by rw [vp_cell_l, arrV_size]⟩) (fun c i hi => by rw [vp_cell_l, Array.getD_eq_getD_getElem?, arrV_read _ _ (by omega)]; simp) (fun i _ => rfl) (fun i _ a h => by cases h) (fun c => ?_) (hp_at K G h0) (hp_at K G h1) hM0 hM1 (by omega) (by rw [hro]; exact hfl.1) (by rw [hro]; exact hfl.2) hcat (hp_set K G h1 (cpy (G a0) (G a1) M)) hz kk
  have e : copied (vp_cell c (N0, .inr (.inl (fun j => lZ (G a0 j))))) (vp_cell c (N1, .inr (.inl (fun j => lZ (G a1 j))))) 0 0 (iZ (M : Int)) = vp_cell c (N1, .inr (.inl (va_cpy (fun j => lZ (G a0 j)) (fun j => lZ (G a1 j)) (0 : Int32).toNatClampNeg (0 : Int32).toNatClampNeg (iZ (M : Int)).toNatClampNeg))) := va_copied (fun z => .long z) c c (fun j => lZ (G a0 j)) (fun j => lZ (G a1 j)) (by rw [iZ_clN (by omega)]; show 0 + M ≤ N0; omega)
  rw [iZ_clN (by omega)] at e
  rw [cpy_l]
  exact e
end GCOPY
def cdL : Nat → Int → Int → Int
  | 0, a, _ => a
  | k + 1, a, b => if b = 0 then a else cdL k b (Int.tmod a b)
theorem tmod_in {a b : Int} (ha : 0 ≤ a) (hb : 0 ≤ b) (h0 : b ≠ 0) : 0 ≤ Int.tmod a b ∧ Int.tmod a b < b := ⟨Int.tmod_nonneg b ha, Int.tmod_lt_of_pos a (by omega)⟩
theorem cdL_in : ∀ (k : Nat) {a b : Int}, (0 ≤ a ∧ inL a) → (0 ≤ b ∧ inL b) → 0 ≤ cdL k a b ∧ inL (cdL k a b)
  | 0, _, _, ha, _ => ha
  | k + 1, a, b, ha, hb => by
    unfold cdL
    split
    · exact ha
    · next h =>
      have := tmod_in ha.1 hb.1 h
      exact cdL_in k hb ⟨this.1, by unfold inL at *; omega⟩
def gdZ (x y : Int) : Int := maxZ 1 (cdL 100 (absZ x) y)
theorem gdZ_1 (x y : Int) : 1 ≤ gdZ x y := by unfold gdZ maxZ; split <;> omega
def ansG (G : GT) (x y : Int) : GT := uG G 0 (up (up (G 0) 8 (Int.tdiv x (gdZ x y))) 9 (Int.tdiv y (gdZ x y)))
def payZ (p : Int) : Int := if -50 ≤ p ∧ p ≤ 50 then 1 else 0
def nxtZ (G : GT) (N s : Nat) : Int := comesZ G N (s * 3 + (likS G N s 0 44 (G 3 s).toNat).1.toNat) 44
def nxF (G : GT) (N i : Nat) : Nat → Int := fun s => if s < i then nxtZ G N s else G 46 s
theorem nxF_0 (G : GT) (N : Nat) : nxF G N 0 = G 46 := by funext s; exact if_neg (by omega)
theorem nxF_s (G : GT) (N i : Nat) : up (nxF G N i) i (nxtZ G N i) = nxF G N (i + 1) := by
  funext j; unfold up nxF
  by_cases h : j = i
  · subst h; rw [if_pos rfl, if_pos (by omega)]
  · rw [if_neg h]
    by_cases h2 : j < i
    · rw [if_pos h2, if_pos (by omega)]
    · rw [if_neg h2, if_neg (by omega)]
def stpG (G : GT) (N : Nat) : GT := uG (uG (uG G 46 (nxF G N N)) 45 (cpy (nxF G N N) (G 45) N)) 44 (up (G 44) 1 (G 44 1 * stepZ G))
def isbZ (G : GT) (N s a : Nat) : Int := if comesZ G N (s * 3 + a) 30 = (G 31 s) * (stepZ G) then 1 else 0
theorem isbZ_01 (G : GT) (N s a : Nat) : isbZ G N s a = 0 ∨ isbZ G N s a = 1 := by unfold isbZ; split <;> omega
def bbS (G : GT) (N s : Nat) : Nat → Int
  | 0 => 0
  | a + 1 => if isbZ G N s a = 1 then orZ (bbS G N s a) ((pw a : Nat) : Int) else bbS G N s a
theorem bbS_in (G : GT) (N s : Nat) : ∀ a, a ≤ 3 → 0 ≤ bbS G N s a ∧ bbS G N s a ≤ 63 ∧ (bbS G N s a).toNat < 2 ^ a
  | 0, _ => by unfold bbS; decide
  | a + 1, h => by
    have ih := bbS_in G N s a (by omega)
    have h1 := pw_in (k := a) (by omega)
    have h2 : (2 : Nat) ^ (a + 1) = 2 * 2 ^ a := by rw [Nat.pow_succ, Nat.mul_comm]
    unfold bbS
    split
    · have h3 := orZ_in ⟨ih.1, ih.2.1⟩ (show 0 ≤ ((pw a : Nat) : Int) ∧ ((pw a : Nat) : Int) ≤ 63 by omega)
      refine ⟨h3.1, h3.2, ?_⟩
      show ((((bbS G N s a).toNat ||| ((pw a : Nat) : Int).toNat : Nat) : Int)).toNat < _
      rw [Int.toNat_natCast, Int.toNat_natCast]
      exact Nat.or_lt_two_pow (by omega) (by show 2 ^ a < _; omega)
    · exact ⟨ih.1, ih.2.1, by omega⟩
/-- what bestBits and isBest need -/
def BstOk (G : GT) (N : Nat) : Prop := ComOk G N 30 ∧ ∀ s, s < N → inL ((G 31 s) * (stepZ G))
theorem mul_in {x y A B : Int} (hx : -A ≤ x ∧ x ≤ A) (hy : 0 ≤ y ∧ y ≤ B) (hA : 0 ≤ A) : -(A * B) ≤ x * y ∧ x * y ≤ A * B := by
  have h1 : x * y ≤ A * y := Int.mul_le_mul_of_nonneg_right hx.2 hy.1
  have h2 : A * y ≤ A * B := Int.mul_le_mul_of_nonneg_left hy.2 hA
  have h3 : -A * y ≤ x * y := Int.mul_le_mul_of_nonneg_right hx.1 hy.1
  rw [Int.neg_mul] at h3
  omega
theorem BstOk.of {G : GT} {N : Nat} (hw : WW G N) (hc : ComOk G N 30) (hn : NumOk G N) : BstOk G N := ⟨hc, fun s hs => by
  have h1 := hn.2.2 s hs
  have h2 := hw.2.2.1
  have := mul_in (A := 18139852800) (B := 360) ⟨h1.1, h1.2⟩ (show 0 ≤ stepZ G ∧ stepZ G ≤ 360 by unfold stepZ; omega) (by decide)
  unfold inL
  omega⟩
def sumA (G : GT) : Nat → Int
  | 0 => 0
  | s + 1 => sumA G s + G 3 s
def prodA (G : GT) : Nat → Int
  | 0 => 1
  | s + 1 => prodA G s * maxZ 1 (G 3 s)
def sumT (G : GT) : Nat → Int
  | 0 => 0
  | s + 1 => if G 2 s = 0 then sumT G s else sumT G s + 1
def bcZ (x : Nat) : Int := ((x % 2 + x / 2 % 2 + x / 4 % 2 : Nat) : Int)

set_option maxRecDepth 100000 in
set_option maxHeartbeats 4000000 in
theorem ct_V_commonDivisor (l : Launch) (D : va_G) (K : K5) (G : GT) (x y : Int) (hx : 0 ≤ x ∧ inL x) (hy : 0 ≤ y ∧ inL y) : Ct l D K y_V_commonDivisor c_V_commonDivisor 11 (some .long) 0 0 [vl x, vl y] G (some (vl (cdL 100 x y))) G := by
  refine Ct.intro (by decide +kernel) (Nat.le_of_ble_eq_true rfl) ?_
  intro X hro hty hC hE
  refine a_lload_n (pc := 0) (q := 0) (i := 0) (x := x) hC (by decide +kernel) rfl 0 rfl ?_
  refine a_lstore (pc := 1) (q := 0) (i := 4) (lv' := [(4, vl x), (0, vl x), (2, vl y)]) hC (by decide +kernel) (by decide) rfl ?_
  refine a_lload_n (pc := 3) (q := 2) (i := 2) (x := y) hC (by decide +kernel) rfl 2 rfl ?_
  refine a_lstore (pc := 4) (q := 0) (i := 6) (lv' := [(6, vl y), (4, vl x), (0, vl x), (2, vl y)]) hC (by decide +kernel) (by decide) rfl ?_
  refine a_iconst (pc := 6) (c := 0) hC (by decide +kernel) ?_
  refine a_istore (pc := 7) (q := 0) (i := 8) (lv' := [(8, vi 0), (6, vl y), (4, vl x), (0, vl x), (2, vl y)]) hC (by decide +kernel) (by decide) rfl ?_
  have L9 : ∀ (fuel : Nat) (k : Nat) (a : Int) (b : Int), 100 - k < fuel → k ≤ 100 → (0 ≤ a ∧ inL a) → (0 ≤ b ∧ inL b) → cdL (100 - k) a b = cdL 100 x y → AW X 11 0 0 9 [(8, vi ((k : Int))), (6, vl b), (4, vl a), (0, vl x), (2, vl y)] [] (hp K G) := by
    intro fuel
    induction fuel with
    | zero => intro k a b h; exact absurd h (Nat.not_lt_zero _)
    | succ fuel ih9 =>
      intro k a b hm hk0 ha hb hH
      refine a_iload (pc := 9) (i := 8) (x := (k : Int)) hC (by decide +kernel) 0 rfl ?_
      refine a_bipush (pc := 11) (c := 100) hC (by decide +kernel) (by decide +kernel) ?_
      refine a_icmp_ge (pc := 13) (off := 31) hC 44 (by decide +kernel) (by decide) (by unfold inI; omega) (by unfold inI; omega) (fun c13 => ?_) (fun c13 => ?_)
      · skip
        have hk : k = 100 := by omega
        refine a_lload (pc := 44) (i := 4) (x := a) hC (by decide +kernel) 2 rfl ?_
        exact g_lret (pc := 46) hC hE (by decide +kernel) (by rw [← hH]; first | exact hst.symm | (rw [hk]; rfl)) rfl
      · skip
        refine a_lload (pc := 16) (i := 6) (x := b) hC (by decide +kernel) 1 rfl ?_
        refine a_lconst (pc := 18) (c := 0) (z := 0) hC (by decide +kernel) rfl ?_
        refine a_lcmp (pc := 19) hC (by decide +kernel) hb.2 inL_0 ?_
        refine a_if_eq (pc := 20) (off := 24) hC 44 (by decide +kernel) (by decide) (cmpZ_in _ _) (fun c20 => ?_) (fun c20 => ?_)
        · skip
          rw [cmpZ_eq] at c20
          have hst : cdL (100 - k) a b = a := by
            rw [show 100 - k = (99 - k) + 1 by omega]; show (if _ then _ else _) = _; rw [if_pos c20]
          refine a_lload (pc := 44) (i := 4) (x := a) hC (by decide +kernel) 2 rfl ?_
          exact g_lret (pc := 46) hC hE (by decide +kernel) (by rw [← hH]; first | exact hst.symm | (rw [hk]; rfl)) rfl
        · skip
          rw [cmpZ_eq] at c20
          have hst : cdL (100 - k) a b = cdL (100 - (k + 1)) b (Int.tmod a b) := by
            rw [show 100 - k = (99 - k) + 1 by omega, show 100 - (k + 1) = 99 - k by omega]; show (if _ then _ else _) = _; rw [if_neg c20]
          have htm := tmod_in ha.1 hb.1 c20
          refine a_lload (pc := 23) (i := 4) (x := a) hC (by decide +kernel) 2 rfl ?_
          refine a_lload (pc := 25) (i := 6) (x := b) hC (by decide +kernel) 1 rfl ?_
          refine a_lrem (pc := 27) hC (by decide +kernel) ha.2 hb.2 c20 ?_
          refine a_lstore (pc := 28) (q := 0) (i := 9) (lv' := [(9, vl (Int.tmod a b)), (8, vi ((k : Int))), (6, vl b), (4, vl a), (0, vl x), (2, vl y)]) hC (by decide +kernel) (by decide) rfl ?_
          refine a_lload (pc := 30) (i := 6) (x := b) hC (by decide +kernel) 2 rfl ?_
          refine a_lstore (pc := 32) (q := 0) (i := 4) (lv' := [(4, vl b), (9, vl (Int.tmod a b)), (8, vi ((k : Int))), (6, vl b), (0, vl x), (2, vl y)]) hC (by decide +kernel) (by decide) rfl ?_
          refine a_lload (pc := 34) (i := 9) (x := Int.tmod a b) hC (by decide +kernel) 1 rfl ?_
          refine a_lstore (pc := 36) (q := 0) (i := 6) (lv' := [(6, vl (Int.tmod a b)), (4, vl b), (9, vl (Int.tmod a b)), (8, vi ((k : Int))), (0, vl x), (2, vl y)]) hC (by decide +kernel) (by decide) rfl ?_
          refine a_iinc (pc := 38) (i := 8) (c := 1) (x := (k : Int)) (lv' := [(8, vi (((k : Int)) + 1)), (6, vl (Int.tmod a b)), (4, vl b), (9, vl (Int.tmod a b)), (0, vl x), (2, vl y)]) hC (by decide +kernel) 3 rfl (by decide) rfl ?_
          refine a_goto (pc := 41) (off := -32) hC 9 (by decide +kernel) (by decide) ?_
          refine a_sub (lv' := [(8, vi (((k + 1) : Int))), (6, vl ((Int.tmod a b))), (4, vl b), (0, vl x), (2, vl y)]) [0, 1, 2, 4, 5] rfl ?_
          exact ih9 (k + 1) b (Int.tmod a b) (by omega) (by omega) hb ⟨htm.1, by have := hb.2; unfold inL at *; omega⟩ (by rw [← hst]; exact hH)
  refine a_sub (lv' := [(8, vi ((0 : Int))), (6, vl y), (4, vl x), (0, vl x), (2, vl y)]) [0, 1, 2, 3, 4] rfl ?_
  exact L9 _ 0 x y (Nat.lt_succ_self _) (by omega) hx hy rfl

set_option maxRecDepth 100000 in
set_option maxHeartbeats 4000000 in
theorem ct_V_giveAnswer (l : Launch) (D : va_G) (K : K5) (G : GT) (x y : Int) (hx : inL x) (hax : inL (absZ x)) (hy : 0 ≤ y ∧ inL y) : Ct l D K y_V_giveAnswer c_V_giveAnswer 7 (some .int) 1 30 [.ref 0, vl x, vl y] G (some (vi 1)) (ansG G x y) := by
  refine Ct.intro (by decide +kernel) (Nat.le_of_ble_eq_true rfl) ?_
  intro X hro hty hC hE
  have hab : 0 ≤ absZ x := by unfold absZ; split <;> omega
  have hcd := cdL_in 100 ⟨hab, hax⟩ hy
  have hg1 := gdZ_1 x y
  have hgi : inL (gdZ x y) := by unfold gdZ maxZ; unfold inL at *; split <;> omega
  refine a_lconst (pc := 0) (c := 1) (z := 1) hC (by decide +kernel) rfl ?_
  refine a_lload_n (pc := 1) (q := 1) (i := 1) (x := x) hC (by decide +kernel) rfl 1 rfl ?_
  refine g_callS (pc := 2) (idx := 182) (av := [vl x]) (rest := [vl 1]) (g := G) (v := vl (absZ x)) hC hro hty (by decide +kernel) k_JM_abs (by decide +kernel) (by decide +kernel) (ct_JM_abs X.la X.dd K G x hx) rfl rfl (by decide) (by first | decide | simp [Value.category]) ?_
  refine a_lload_n (pc := 5) (q := 3) (i := 3) (x := y) hC (by decide +kernel) rfl 2 rfl ?_
  refine g_callS (pc := 6) (idx := 188) (av := [vl (absZ x), vl y]) (rest := [vl 1]) (g := G) (v := vl (cdL 100 (absZ x) y)) hC hro hty (by decide +kernel) k_V_commonDivisor (by decide +kernel) (by decide +kernel) (ct_V_commonDivisor X.la X.dd K G (absZ x) y ⟨hab, hax⟩ hy) rfl rfl (by decide) (by first | decide | simp [Value.category]) ?_
  refine g_callS (pc := 9) (idx := 192) (av := [vl 1, vl (cdL 100 (absZ x) y)]) (rest := []) (g := G) (v := vl (maxZ 1 (cdL 100 (absZ x) y))) hC hro hty (by decide +kernel) k_JM_max_JJ (by decide +kernel) (by decide +kernel) (ct_JM_max_JJ X.la X.dd K G 1 (cdL 100 (absZ x) y) ⟨by decide, by decide⟩ hcd.2) rfl rfl (by decide) (by first | decide | simp [Value.category]) ?_
  refine g_topl (y := gdZ x y) rfl ?_
  refine a_lstore (pc := 12) (q := 0) (i := 5) (lv' := [(5, vl (gdZ x y)), (0, .ref 0), (1, vl x), (3, vl y)]) hC (by decide +kernel) (by decide) rfl ?_
  refine a_aload_n (pc := 14) (q := 0) (i := 0) (x := 0) hC (by decide +kernel) rfl 1 rfl ?_
  refine a_lload_n (pc := 15) (q := 1) (i := 1) (x := x) hC (by decide +kernel) rfl 2 rfl ?_
  refine a_lload (pc := 16) (i := 5) (x := gdZ x y) hC (by decide +kernel) 0 rfl ?_
  refine a_ldiv (pc := 18) hC (by decide +kernel) hx hgi (by omega) ?_
  refine g_put (pc := 19) (idx := 51) (ci := 5) (x := Int.tdiv x (gdZ x y)) hC 0 8 (by decide +kernel) rfl rfl (congrArg (fun z => vl z) (up_s _ _ _)) rfl wrV (by decide) rfl (by decide +kernel) rfl (ok_long _) ?_
  refine a_aload_n (pc := 22) (q := 0) (i := 0) (x := 0) hC (by decide +kernel) rfl 1 rfl ?_
  refine a_lload_n (pc := 23) (q := 3) (i := 3) (x := y) hC (by decide +kernel) rfl 3 rfl ?_
  refine a_lload (pc := 24) (i := 5) (x := gdZ x y) hC (by decide +kernel) 0 rfl ?_
  refine a_ldiv (pc := 26) hC (by decide +kernel) hy.2 hgi (by omega) ?_
  refine g_put (pc := 27) (idx := 55) (ci := 5) (x := Int.tdiv y (gdZ x y)) hC 0 9 (by decide +kernel) rfl rfl (congrArg (fun z => vl z) (up_s _ _ _)) rfl wrV (by decide) rfl (by decide +kernel) rfl (ok_long _) ?_
  refine a_iconst (pc := 30) (c := 1) hC (by decide +kernel) ?_
  exact g_iret (pc := 31) hC hE (by decide +kernel) rfl (by rw [uG_s, uG_uG]; rfl)

set_option maxRecDepth 100000 in
set_option maxHeartbeats 4000000 in
theorem ct_V_isPay (l : Launch) (D : va_G) (K : K5) (G : GT) (p : Int) (hp0 : inI p) : Ct l D K y_V_isPay c_V_isPay 1 (some .boolean) 0 0 [vi p] G (some (vi (payZ p))) G := by
  refine Ct.intro (by decide +kernel) (Nat.le_of_ble_eq_true rfl) ?_
  intro X hro hty hC hE
  unfold inI at hp0
  refine a_iload_n (pc := 0) (q := 0) (i := 0) (x := p) hC (by decide +kernel) rfl 0 rfl ?_
  refine a_bipush (pc := 1) (c := -50) hC (by decide +kernel) (by decide +kernel) ?_
  refine a_icmp_lt (pc := 3) (off := 13) hC 16 (by decide +kernel) (by decide) (by unfold inI; omega) (by unfold inI; omega) (fun c3 => ?_) (fun c3 => ?_)
  · skip
    refine a_iconst (pc := 16) (c := 0) hC (by decide +kernel) ?_
    exact g_zret (pc := 17) hC hE (by decide +kernel) (by omega) (by unfold payZ; split <;> omega) rfl
  · skip
    refine a_iload_n (pc := 6) (q := 0) (i := 0) (x := p) hC (by decide +kernel) rfl 0 rfl ?_
    refine a_bipush (pc := 7) (c := 50) hC (by decide +kernel) (by decide +kernel) ?_
    refine a_icmp_gt (pc := 9) (off := 7) hC 16 (by decide +kernel) (by decide) (by unfold inI; omega) (by unfold inI; omega) (fun c9 => ?_) (fun c9 => ?_)
    · skip
      refine a_iconst (pc := 16) (c := 0) hC (by decide +kernel) ?_
      exact g_zret (pc := 17) hC hE (by decide +kernel) (by omega) (by unfold payZ; split <;> omega) rfl
    · skip
      refine a_iconst (pc := 12) (c := 1) hC (by decide +kernel) ?_
      refine a_goto (pc := 13) (off := 4) hC 17 (by decide +kernel) (by decide) ?_
      exact g_zret (pc := 17) hC hE (by decide +kernel) (by omega) (by unfold payZ; split <;> omega) rfl

set_option maxRecDepth 100000 in
set_option maxHeartbeats 4000000 in
theorem ct_V_tryToldPlan (l : Launch) (D : va_G) (K : K5) (G : GT)  : Ct l D K y_V_tryToldPlan c_V_tryToldPlan 1 none 1 60 [.ref 0] G none (uG G 49 (cpy (G 47) (G 49) 5)) := by
  refine Ct.intro (by decide +kernel) (Nat.le_of_ble_eq_true rfl) ?_
  intro X hro hty hC hE
  refine a_aload_n (pc := 0) (q := 0) (i := 0) (x := 0) hC (by decide +kernel) rfl 0 rfl ?_
  refine g_get (pc := 1) (idx := 41) (ci := 5) (v := .ref 47) hC 0 5 (by decide +kernel) rfl rfl rfl rfl wrV (by decide) rfl (by decide +kernel) ?_
  refine a_iconst (pc := 4) (c := 0) hC (by decide +kernel) ?_
  refine a_aload_n (pc := 5) (q := 0) (i := 0) (x := 0) hC (by decide +kernel) rfl 0 rfl ?_
  refine g_get (pc := 6) (idx := 48) (ci := 5) (v := .ref 49) hC 0 7 (by decide +kernel) rfl rfl rfl rfl wrV (by decide) rfl (by decide +kernel) ?_
  refine a_iconst (pc := 9) (c := 0) hC (by decide +kernel) ?_
  refine a_iconst (pc := 10) (c := 5) hC (by decide +kernel) ?_
  refine g_copyI (pc := 11) (idx := 195) (a0 := 47) (a1 := 49) (M := 5) hC hro hty (by decide +kernel) (by decide +kernel) rfl rfl (by omega) (by omega) (by decide) (by decide) (by first | decide | simp [Value.category]) rfl ?_
  exact g_vret (pc := 14) hC hE (by decide +kernel) rfl

set_option maxRecDepth 100000 in
set_option maxHeartbeats 4000000 in
theorem ct_V_stepBack (l : Launch) (D : va_G) (K : K5) (G : GT) (N : Nat) (hw : WW G N) (hco : ComOk G N 44) : Ct l D K y_V_stepBack c_V_stepBack 3 none 3 77 [.ref 0] G none (stpG G N) := by
  refine Ct.intro (by decide +kernel) (Nat.le_of_ble_eq_true rfl) ?_
  intro X hro hty hC hE
  obtain ⟨hn, hN5, hsh, hac, hpa, hwe, hth⟩ := id hw
  refine a_iconst (pc := 0) (c := 0) hC (by decide +kernel) ?_
  refine a_istore_n (pc := 1) (q := 1) (i := 1) (lv' := [(1, vi 0), (0, .ref 0)]) hC (by decide +kernel) rfl (by decide) rfl ?_
  have L2 : ∀ (fuel : Nat) (s : Nat), N - s < fuel → s ≤ N → AW X 3 0 0 2 [(1, vi ((s : Int))), (0, .ref 0)] [] (hp K (uG G 46 (nxF G N s))) := by
    intro fuel
    induction fuel with
    | zero => intro s h; exact absurd h (Nat.not_lt_zero _)
    | succ fuel ih2 =>
      intro s hm hs
      refine a_iload_n (pc := 2) (q := 1) (i := 1) (x := (s : Int)) hC (by decide +kernel) rfl 0 rfl ?_
      refine a_aload_n (pc := 3) (q := 0) (i := 0) (x := 0) hC (by decide +kernel) rfl 1 rfl ?_
      refine g_get (pc := 4) (idx := 10) (ci := 5) (v := .ref 1) hC 0 0 (by decide +kernel) rfl rfl rfl rfl wrV (by decide) rfl (by decide +kernel) ?_
      refine g_getN (pc := 7) (idx := 67) (ci := 4) (v := vi ((uG G 46 (nxF G N s)) 1 0)) (host := "PlanValues") hC 1 0 (by decide +kernel) rfl rfl rfl rfl wrW (by decide) rfl (by decide +kernel) ?_
      refine g_top (y := (N : Int)) (by rw [uG_n _ _ (by omega)]; exact hn) ?_
      refine a_icmp_ge (pc := 10) (off := 45) hC 55 (by decide +kernel) (by decide) (by unfold inI; omega) (by unfold inI; omega) (fun c10 => ?_) (fun c10 => ?_)
      · skip
        refine a_aload_n (pc := 55) (q := 0) (i := 0) (x := 0) hC (by decide +kernel) rfl 1 rfl ?_
        refine g_get (pc := 56) (idx := 37) (ci := 5) (v := .ref 46) hC 0 4 (by decide +kernel) rfl rfl rfl rfl wrV (by decide) rfl (by decide +kernel) ?_
        refine a_iconst (pc := 59) (c := 0) hC (by decide +kernel) ?_
        refine a_aload_n (pc := 60) (q := 0) (i := 0) (x := 0) hC (by decide +kernel) rfl 1 rfl ?_
        refine g_get (pc := 61) (idx := 33) (ci := 5) (v := .ref 44) hC 0 3 (by decide +kernel) rfl rfl rfl rfl wrV (by decide) rfl (by decide +kernel) ?_
        refine g_getN (pc := 64) (idx := 119) (ci := 2) (v := .ref 45) (host := "PlanValues") hC 44 0 (by decide +kernel) rfl rfl rfl rfl wrU (by decide) rfl (by decide +kernel) ?_
        refine a_iconst (pc := 67) (c := 0) hC (by decide +kernel) ?_
        refine a_aload_n (pc := 68) (q := 0) (i := 0) (x := 0) hC (by decide +kernel) rfl 1 rfl ?_
        refine g_get (pc := 69) (idx := 10) (ci := 5) (v := .ref 1) hC 0 0 (by decide +kernel) rfl rfl rfl rfl wrV (by decide) rfl (by decide +kernel) ?_
        refine g_getN (pc := 72) (idx := 67) (ci := 4) (v := vi ((uG G 46 (nxF G N s)) 1 0)) (host := "PlanValues") hC 1 0 (by decide +kernel) rfl rfl rfl rfl wrW (by decide) rfl (by decide +kernel) ?_
        refine g_top (y := (N : Int)) (by rw [uG_n _ _ (by omega)]; exact hn) ?_
        refine g_copyL (pc := 75) (idx := 195) (a0 := 46) (a1 := 45) (M := N) hC hro hty (by decide +kernel) (by decide +kernel) rfl rfl (by omega) (by omega) (by decide) (by decide) (by first | decide | simp [Value.category]) (by omega) ?_
        refine g_G (G' := uG (uG G 46 (nxF G N N)) 45 (cpy (nxF G N N) (G 45) N)) (by rw [show s = N by omega, uG_s]; rfl) ?_
        refine a_aload_n (pc := 78) (q := 0) (i := 0) (x := 0) hC (by decide +kernel) rfl 1 rfl ?_
        refine g_get (pc := 79) (idx := 33) (ci := 5) (v := .ref 44) hC 0 3 (by decide +kernel) rfl rfl rfl rfl wrV (by decide) rfl (by decide +kernel) ?_
        refine a_dup (pc := 82) hC (by decide +kernel) rfl ?_
        refine g_getN (pc := 83) (idx := 122) (ci := 2) (v := vl ((uG (uG G 46 (nxF G N N)) 45 (cpy (nxF G N N) (G 45) N)) 44 1)) (host := "PlanValues") hC 44 1 (by decide +kernel) rfl rfl rfl rfl wrU (by decide) rfl (by decide +kernel) ?_
        refine g_topl (y := G 44 1) rfl ?_
        refine a_aload_n (pc := 86) (q := 0) (i := 0) (x := 0) hC (by decide +kernel) rfl 1 rfl ?_
        refine g_get (pc := 87) (idx := 10) (ci := 5) (v := .ref 1) hC 0 0 (by decide +kernel) rfl rfl rfl rfl wrV (by decide) rfl (by decide +kernel) ?_
        refine g_callVN (pc := 90) (idx := 133) (i := 1) (av := []) (rest := [vl (G 44 1), .ref 44]) (g := uG (uG G 46 (nxF G N N)) 45 (cpy (nxF G N N) (G 45) N)) (v := vl (stepZ (uG (uG G 46 (nxF G N N)) 45 (cpy (nxF G N N) (G 45) N)))) (host := "PlanValues") hC hro hty (by decide +kernel) rfl rfl k_W_stepScale (by decide +kernel) (by decide +kernel) (by decide +kernel) (ct_W_stepScale X.la X.dd K (uG (uG G 46 (nxF G N N)) 45 (cpy (nxF G N N) (G 45) N)) N (hw.keep (fun c hc => by rw [uG_n _ _ (by omega), uG_n _ _ (by omega)]))) rfl rfl (by decide) (by first | decide | simp [Value.category]) ?_
        refine g_topl (y := stepZ G) rfl ?_
        refine a_lmul (pc := 93) hC (by decide +kernel) ?_
        refine g_putN (pc := 94) (idx := 122) (ci := 2) (x := (G 44 1) * (stepZ G)) (host := "PlanValues") hC 44 1 (by decide +kernel) rfl rfl (congrArg (fun z => vl z) (up_s _ _ _)) rfl wrU (by decide) rfl (by decide +kernel) rfl (ok_long _) ?_
        exact g_vret (pc := 97) hC hE (by decide +kernel) rfl
      · skip
        obtain ⟨A, hA⟩ : ∃ A : Nat, G 3 s = (A : Int) := ⟨(G 3 s).toNat, by have := hac s (by omega); omega⟩
        have hA3 := hac s (by omega)
        have hli := (likS_in (G := G) (N := N) (s := s) (held := 0) (u := 44) (A := A) (by omega) (by omega) (fun a ha => hco (s * 3 + a) (by omega)) A (Nat.le_refl _)).2
        obtain ⟨c, hc, hc3⟩ : ∃ c : Nat, (likS G N s 0 44 A).1 = (c : Int) ∧ c < 3 := ⟨(likS G N s 0 44 A).1.toNat, by omega, by omega⟩
        have hnx : nxtZ G N s = comesZ G N (s * 3 + c) 44 := by unfold nxtZ; rw [hA, Int.toNat_natCast, hc, Int.toNat_natCast]
        refine a_aload_n (pc := 13) (q := 0) (i := 0) (x := 0) hC (by decide +kernel) rfl 1 rfl ?_
        refine g_get (pc := 14) (idx := 10) (ci := 5) (v := .ref 1) hC 0 0 (by decide +kernel) rfl rfl rfl rfl wrV (by decide) rfl (by decide +kernel) ?_
        refine a_iload_n (pc := 17) (q := 1) (i := 1) (x := (s : Int)) hC (by decide +kernel) rfl 0 rfl ?_
        refine a_iconst (pc := 18) (c := 0) hC (by decide +kernel) ?_
        refine a_aload_n (pc := 19) (q := 0) (i := 0) (x := 0) hC (by decide +kernel) rfl 1 rfl ?_
        refine g_get (pc := 20) (idx := 33) (ci := 5) (v := .ref 44) hC 0 3 (by decide +kernel) rfl rfl rfl rfl wrV (by decide) rfl (by decide +kernel) ?_
        have hcg : ∀ c, c ≤ 45 → uG G 46 (nxF G N s) c = G c := fun c hc => uG_n _ _ (by omega)
        have hlk := likS_congr (N := N) (s := s) (held := 0) (u := 44) (fun c hc => hcg c (by omega)) (hcg 44 (by omega)) (hcg 45 (by omega)) (by omega) (by omega) A (by omega)
        refine g_callVN (pc := 23) (idx := 201) (i := 1) (av := [vi ((s : Int)), vi 0, .ref 44]) (rest := []) (g := uG G 46 (nxF G N s)) (v := vi ((likS (uG G 46 (nxF G N s)) N s 0 44 A).1)) (host := "PlanValues") hC hro hty (by decide +kernel) rfl rfl k_W_likedAct (by decide +kernel) (by decide +kernel) (by decide +kernel) (ct_W_likedAct X.la X.dd K (uG G 46 (nxF G N s)) N s 0 44 A (by omega) (by omega) (by rw [hcg 3 (by omega)]; exact hA) rfl rfl (hw.keep (fun c hc => hcg c (by omega))) (fun a ha => by rw [comesZ_congr (fun c hc => hcg c (by omega)) (hcg 44 (by omega)) (hcg 45 (by omega)) (by omega)]; exact hco (s * 3 + a) (by omega))) rfl rfl (by decide) (by first | decide | simp [Value.category]) ?_
        refine g_top (y := (c : Int)) (by rw [hlk, hc]) ?_
        refine a_istore_n (pc := 26) (q := 2) (i := 2) (lv' := [(2, vi ((c : Int))), (1, vi ((s : Int))), (0, .ref 0)]) hC (by decide +kernel) rfl (by decide) rfl ?_
        refine a_aload_n (pc := 27) (q := 0) (i := 0) (x := 0) hC (by decide +kernel) rfl 2 rfl ?_
        refine g_get (pc := 28) (idx := 37) (ci := 5) (v := .ref 46) hC 0 4 (by decide +kernel) rfl rfl rfl rfl wrV (by decide) rfl (by decide +kernel) ?_
        refine a_iload_n (pc := 31) (q := 1) (i := 1) (x := (s : Int)) hC (by decide +kernel) rfl 1 rfl ?_
        refine a_aload_n (pc := 32) (q := 0) (i := 0) (x := 0) hC (by decide +kernel) rfl 2 rfl ?_
        refine g_get (pc := 33) (idx := 10) (ci := 5) (v := .ref 1) hC 0 0 (by decide +kernel) rfl rfl rfl rfl wrV (by decide) rfl (by decide +kernel) ?_
        refine a_iload_n (pc := 36) (q := 1) (i := 1) (x := (s : Int)) hC (by decide +kernel) rfl 1 rfl ?_
        refine a_iload_n (pc := 37) (q := 2) (i := 2) (x := (c : Int)) hC (by decide +kernel) rfl 0 rfl ?_
        refine g_callSN (pc := 38) (idx := 93) (av := [vi ((s : Int)), vi ((c : Int))]) (rest := [.ref 1, vi ((s : Int)), .ref 46]) (g := uG G 46 (nxF G N s)) (v := vi (((s : Int)) * 3 + ((c : Int)))) (host := "PlanValues") hC hro hty (by decide +kernel) k_W_slotOf (by decide +kernel) (by decide +kernel) (ct_W_slotOf X.la X.dd K (uG G 46 (nxF G N s)) ((s : Int)) ((c : Int))) rfl rfl (by decide) (by first | decide | simp [Value.category]) ?_
        refine g_top (y := ((s * 3 + c : Nat) : Int)) (by omega) ?_
        refine a_aload_n (pc := 41) (q := 0) (i := 0) (x := 0) hC (by decide +kernel) rfl 2 rfl ?_
        refine g_get (pc := 42) (idx := 33) (ci := 5) (v := .ref 44) hC 0 3 (by decide +kernel) rfl rfl rfl rfl wrV (by decide) rfl (by decide +kernel) ?_
        refine g_callVN (pc := 45) (idx := 129) (i := 1) (av := [vi (((s * 3 + c : Nat) : Int)), .ref 44]) (rest := [vi ((s : Int)), .ref 46]) (g := uG G 46 (nxF G N s)) (v := vl (comesZ (uG G 46 (nxF G N s)) N (s * 3 + c) 44)) (host := "PlanValues") hC hro hty (by decide +kernel) rfl rfl k_W_comesTo (by decide +kernel) (by decide +kernel) (by decide +kernel) (ct_W_comesTo X.la X.dd K (uG G 46 (nxF G N s)) N (s * 3 + c) 44 (by omega) rfl rfl (hw.keep (fun c hc => hcg c (by omega)))) rfl rfl (by decide) (by first | decide | simp [Value.category]) ?_
        refine g_topl (y := nxtZ G N s) (by rw [comesZ_congr (fun c hc => hcg c (by omega)) (hcg 44 (by omega)) (hcg 45 (by omega)) (by omega), hnx]) ?_
        refine g_last (pc := 48) (a := 46) (j := s) (x := nxtZ G N s) hC hty (by decide +kernel) rfl (by omega) (by first | decide | omega) ?_
        refine a_iinc (pc := 49) (i := 1) (c := 1) (x := (s : Int)) (lv' := [(1, vi (((s : Int)) + 1)), (2, vi ((c : Int))), (0, .ref 0)]) hC (by decide +kernel) 1 rfl (by decide) rfl ?_
        refine a_goto (pc := 52) (off := -50) hC 2 (by decide +kernel) (by decide) ?_
        refine a_sub (lv' := [(1, vi (((s + 1) : Int))), (0, .ref 0)]) [0, 2] rfl ?_
        refine g_G (G' := uG G 46 (nxF G N (s + 1))) (by rw [uG_s, uG_uG, nxF_s]) ?_
        exact ih2 (s + 1) (by omega) (by omega)
  refine a_sub (lv' := [(1, vi ((0 : Int))), (0, .ref 0)]) [0, 1] rfl ?_
  refine g_G (G' := uG G 46 (nxF G N 0)) (by rw [nxF_0, uG_self]) ?_
  exact L2 _ 0 (Nat.lt_succ_self _) (by omega)

set_option maxRecDepth 100000 in
set_option maxHeartbeats 4000000 in
theorem ct_V_isBest (l : Launch) (D : va_G) (K : K5) (G : GT) (N s a : Nat) (hs : s < N) (ha : a < 3) (hw : WW G N) (hbo : BstOk G N) : Ct l D K y_V_isBest c_V_isBest 5 (some .boolean) 2 48 [.ref 0, vi ((s : Int)), vi ((a : Int))] G (some (vi (isbZ G N s a))) G := by
  refine Ct.intro (by decide +kernel) (Nat.le_of_ble_eq_true rfl) ?_
  intro X hro hty hC hE
  obtain ⟨hn, hN5, hsh, hac, hpa, hwe, hth⟩ := id hw
  refine a_aload_n (pc := 0) (q := 0) (i := 0) (x := 0) hC (by decide +kernel) rfl 0 rfl ?_
  refine g_get (pc := 1) (idx := 10) (ci := 5) (v := .ref 1) hC 0 0 (by decide +kernel) rfl rfl rfl rfl wrV (by decide) rfl (by decide +kernel) ?_
  refine a_iload_n (pc := 4) (q := 1) (i := 1) (x := (s : Int)) hC (by decide +kernel) rfl 1 rfl ?_
  refine a_iload_n (pc := 5) (q := 2) (i := 2) (x := (a : Int)) hC (by decide +kernel) rfl 2 rfl ?_
  refine g_callSN (pc := 6) (idx := 93) (av := [vi ((s : Int)), vi ((a : Int))]) (rest := [.ref 1]) (g := G) (v := vi (((s : Int)) * 3 + ((a : Int)))) (host := "PlanValues") hC hro hty (by decide +kernel) k_W_slotOf (by decide +kernel) (by decide +kernel) (ct_W_slotOf X.la X.dd K G ((s : Int)) ((a : Int))) rfl rfl (by decide) (by first | decide | simp [Value.category]) ?_
  refine g_top (y := ((s * 3 + a : Nat) : Int)) (by omega) ?_
  refine a_aload_n (pc := 9) (q := 0) (i := 0) (x := 0) hC (by decide +kernel) rfl 0 rfl ?_
  refine g_get (pc := 10) (idx := 19) (ci := 5) (v := .ref 22) hC 0 1 (by decide +kernel) rfl rfl rfl rfl wrV (by decide) rfl (by decide +kernel) ?_
  refine g_getN (pc := 13) (idx := 116) (ci := 3) (v := .ref 30) (host := "PlanValues") hC 22 1 (by decide +kernel) rfl rfl rfl rfl wrP (by decide) rfl (by decide +kernel) ?_
  refine g_callVN (pc := 16) (idx := 129) (i := 1) (av := [vi (((s * 3 + a : Nat) : Int)), .ref 30]) (rest := []) (g := G) (v := vl (comesZ G N (s * 3 + a) 30)) (host := "PlanValues") hC hro hty (by decide +kernel) rfl rfl k_W_comesTo (by decide +kernel) (by decide +kernel) (by decide +kernel) (ct_W_comesTo X.la X.dd K G N (s * 3 + a) 30 (by omega) rfl rfl hw) rfl rfl (by decide) (by first | decide | simp [Value.category]) ?_
  refine a_lstore_n (pc := 19) (q := 3) (i := 3) (lv' := [(3, vl (comesZ G N (s * 3 + a) 30)), (0, .ref 0), (1, vi ((s : Int))), (2, vi ((a : Int)))]) hC (by decide +kernel) rfl (by decide) rfl ?_
  refine a_lload_n (pc := 20) (q := 3) (i := 3) (x := comesZ G N (s * 3 + a) 30) hC (by decide +kernel) rfl 0 rfl ?_
  refine a_aload_n (pc := 21) (q := 0) (i := 0) (x := 0) hC (by decide +kernel) rfl 1 rfl ?_
  refine g_get (pc := 22) (idx := 19) (ci := 5) (v := .ref 22) hC 0 1 (by decide +kernel) rfl rfl rfl rfl wrV (by decide) rfl (by decide +kernel) ?_
  refine g_getN (pc := 25) (idx := 116) (ci := 3) (v := .ref 30) (host := "PlanValues") hC 22 1 (by decide +kernel) rfl rfl rfl rfl wrP (by decide) rfl (by decide +kernel) ?_
  refine g_getN (pc := 28) (idx := 119) (ci := 2) (v := .ref 31) (host := "PlanValues") hC 30 0 (by decide +kernel) rfl rfl rfl rfl wrU (by decide) rfl (by decide +kernel) ?_
  refine a_iload_n (pc := 31) (q := 1) (i := 1) (x := (s : Int)) hC (by decide +kernel) rfl 2 rfl ?_
  refine g_lald (pc := 32) (a := 31) (j := s) hC hty (by decide +kernel) rfl (by omega) (by first | decide | omega) ?_
  refine a_aload_n (pc := 33) (q := 0) (i := 0) (x := 0) hC (by decide +kernel) rfl 1 rfl ?_
  refine g_get (pc := 34) (idx := 10) (ci := 5) (v := .ref 1) hC 0 0 (by decide +kernel) rfl rfl rfl rfl wrV (by decide) rfl (by decide +kernel) ?_
  refine g_callVN (pc := 37) (idx := 133) (i := 1) (av := []) (rest := [vl (G 31 s), vl (comesZ G N (s * 3 + a) 30)]) (g := G) (v := vl (stepZ G)) (host := "PlanValues") hC hro hty (by decide +kernel) rfl rfl k_W_stepScale (by decide +kernel) (by decide +kernel) (by decide +kernel) (ct_W_stepScale X.la X.dd K G N hw) rfl rfl (by decide) (by first | decide | simp [Value.category]) ?_
  refine a_lmul (pc := 40) hC (by decide +kernel) ?_
  refine a_lcmp (pc := 41) hC (by decide +kernel) (hbo.1 _ (by omega)) (hbo.2 s hs) ?_
  refine a_if_ne (pc := 42) (off := 7) hC 49 (by decide +kernel) (by decide) (cmpZ_in _ _) (fun c42 => ?_) (fun c42 => ?_)
  · skip
    rw [cmpZ_eq] at c42
    refine a_iconst (pc := 49) (c := 0) hC (by decide +kernel) ?_
    exact g_zret (pc := 50) hC hE (by decide +kernel) (by omega) (by unfold isbZ; split <;> omega) rfl
  · skip
    rw [cmpZ_eq] at c42
    refine a_iconst (pc := 45) (c := 1) hC (by decide +kernel) ?_
    refine a_goto (pc := 46) (off := 4) hC 50 (by decide +kernel) (by decide) ?_
    exact g_zret (pc := 50) hC hE (by decide +kernel) (by omega) (by unfold isbZ; split <;> omega) rfl

set_option maxRecDepth 100000 in
set_option maxHeartbeats 4000000 in
theorem ct_V_bestBits (l : Launch) (D : va_G) (K : K5) (G : GT) (N s A : Nat) (hs : s < N) (hA : G 3 s = (A : Int)) (hw : WW G N) (hbo : BstOk G N) : Ct l D K y_V_bestBits c_V_bestBits 4 (some .int) 3 72 [.ref 0, vi ((s : Int))] G (some (vi (bbS G N s A))) G := by
  refine Ct.intro (by decide +kernel) (Nat.le_of_ble_eq_true rfl) ?_
  intro X hro hty hC hE
  obtain ⟨hn, hN5, hsh, hac, hpa, hwe, hth⟩ := id hw
  have h3 := hac s (by omega)
  refine a_iconst (pc := 0) (c := 0) hC (by decide +kernel) ?_
  refine a_istore_n (pc := 1) (q := 2) (i := 2) (lv' := [(2, vi 0), (0, .ref 0), (1, vi ((s : Int)))]) hC (by decide +kernel) rfl (by decide) rfl ?_
  refine a_iconst (pc := 2) (c := 0) hC (by decide +kernel) ?_
  refine a_istore_n (pc := 3) (q := 3) (i := 3) (lv' := [(3, vi 0), (2, vi 0), (0, .ref 0), (1, vi ((s : Int)))]) hC (by decide +kernel) rfl (by decide) rfl ?_
  have L4 : ∀ (fuel : Nat) (a : Nat), A - a < fuel → a ≤ A → AW X 4 0 0 4 [(3, vi ((a : Int))), (2, vi (bbS G N s a)), (0, .ref 0), (1, vi ((s : Int)))] [] (hp K G) := by
    intro fuel
    induction fuel with
    | zero => intro a h; exact absurd h (Nat.not_lt_zero _)
    | succ fuel ih4 =>
      intro a hm ha
      have hbi := bbS_in G N s a (by omega)
      refine a_iload_n (pc := 4) (q := 3) (i := 3) (x := (a : Int)) hC (by decide +kernel) rfl 0 rfl ?_
      refine a_aload_n (pc := 5) (q := 0) (i := 0) (x := 0) hC (by decide +kernel) rfl 2 rfl ?_
      refine g_get (pc := 6) (idx := 10) (ci := 5) (v := .ref 1) hC 0 0 (by decide +kernel) rfl rfl rfl rfl wrV (by decide) rfl (by decide +kernel) ?_
      refine g_getN (pc := 9) (idx := 82) (ci := 4) (v := .ref 3) (host := "PlanValues") hC 1 4 (by decide +kernel) rfl rfl rfl rfl wrW (by decide) rfl (by decide +kernel) ?_
      refine a_iload_n (pc := 12) (q := 1) (i := 1) (x := (s : Int)) hC (by decide +kernel) rfl 3 rfl ?_
      refine g_iald (pc := 13) (a := 3) (j := s) hC hty (by decide +kernel) rfl (by omega) (by first | decide | omega) ?_
      refine a_icmp_ge (pc := 14) (off := 24) hC 38 (by decide +kernel) (by decide) (by unfold inI; omega) (by unfold inI; omega) (fun c14 => ?_) (fun c14 => ?_)
      · skip
        refine a_iload_n (pc := 38) (q := 2) (i := 2) (x := bbS G N s a) hC (by decide +kernel) rfl 1 rfl ?_
        exact g_iret (pc := 39) hC hE (by decide +kernel) (by rw [show a = A by omega]) rfl
      · skip
        have h01 := isbZ_01 G N s a
        have hpw := pw_in (k := a) (by omega)
        refine a_aload_n (pc := 17) (q := 0) (i := 0) (x := 0) hC (by decide +kernel) rfl 2 rfl ?_
        refine a_iload_n (pc := 18) (q := 1) (i := 1) (x := (s : Int)) hC (by decide +kernel) rfl 3 rfl ?_
        refine a_iload_n (pc := 19) (q := 3) (i := 3) (x := (a : Int)) hC (by decide +kernel) rfl 0 rfl ?_
        refine g_callV (pc := 20) (idx := 166) (i := 0) (av := [vi ((s : Int)), vi ((a : Int))]) (rest := []) (g := G) (v := vi (isbZ G N s a)) hC hro hty (by decide +kernel) rfl rfl k_V_isBest (by decide +kernel) (by decide +kernel) (by decide +kernel) (ct_V_isBest X.la X.dd K G N s a (by omega) (by omega) hw hbo) rfl rfl (by decide) (by first | decide | simp [Value.category]) ?_
        refine a_if_eq (pc := 23) (off := 9) hC 32 (by decide +kernel) (by decide) (by unfold inI; omega) (fun c23 => ?_) (fun c23 => ?_)
        · skip
          have hst : bbS G N s a = bbS G N s (a + 1) := by show _ = (if _ then _ else _); rw [if_neg (by omega)]
          refine a_iinc (pc := 32) (i := 3) (c := 1) (x := (a : Int)) (lv' := [(3, vi (((a : Int)) + 1)), (2, vi (bbS G N s a)), (0, .ref 0), (1, vi ((s : Int)))]) hC (by decide +kernel) 0 rfl (by decide) rfl ?_
          refine a_goto (pc := 35) (off := -31) hC 4 (by decide +kernel) (by decide) ?_
          refine a_sub (lv' := [(3, vi (((a + 1) : Int))), (2, vi (bbS G N s (a + 1))), (0, .ref 0), (1, vi ((s : Int)))]) [0, 1, 2, 3] (by rw [← hst]; rfl) ?_
          exact ih4 (a + 1) (by omega) (by omega)
        · skip
          have hst : orZ (bbS G N s a) ((pw a : Nat) : Int) = bbS G N s (a + 1) := by show _ = (if _ then _ else _); rw [if_pos (by omega)]
          refine a_iload_n (pc := 26) (q := 2) (i := 2) (x := bbS G N s a) hC (by decide +kernel) rfl 1 rfl ?_
          refine a_iconst (pc := 27) (c := 1) hC (by decide +kernel) ?_
          refine a_iload_n (pc := 28) (q := 3) (i := 3) (x := (a : Int)) hC (by decide +kernel) rfl 0 rfl ?_
          refine a_ishl (pc := 29) (z := ((pw a : Nat) : Int)) hC (by decide +kernel) (iZ_shl (by omega)) ?_
          refine a_ior (pc := 30) (z := orZ (bbS G N s a) ((pw a : Nat) : Int)) hC (by decide +kernel) (iZ_or (by omega) (by omega)) ?_
          refine a_istore_n (pc := 31) (q := 2) (i := 2) (lv' := [(2, vi (orZ (bbS G N s a) ((pw a : Nat) : Int))), (3, vi ((a : Int))), (0, .ref 0), (1, vi ((s : Int)))]) hC (by decide +kernel) rfl (by decide) rfl ?_
          refine a_iinc (pc := 32) (i := 3) (c := 1) (x := (a : Int)) (lv' := [(3, vi (((a : Int)) + 1)), (2, vi (orZ (bbS G N s a) ((pw a : Nat) : Int))), (0, .ref 0), (1, vi ((s : Int)))]) hC (by decide +kernel) 1 rfl (by decide) rfl ?_
          refine a_goto (pc := 35) (off := -31) hC 4 (by decide +kernel) (by decide) ?_
          refine a_sub (lv' := [(3, vi (((a + 1) : Int))), (2, vi (bbS G N s (a + 1))), (0, .ref 0), (1, vi ((s : Int)))]) [0, 1, 2, 3] (by rw [← hst]; rfl) ?_
          exact ih4 (a + 1) (by omega) (by omega)
  refine a_sub (lv' := [(3, vi ((0 : Int))), (2, vi (bbS G N s 0)), (0, .ref 0), (1, vi ((s : Int)))]) [0, 1, 2, 3] rfl ?_
  exact L4 _ 0 (Nat.lt_succ_self _) (by omega)

set_option maxRecDepth 100000 in
set_option maxHeartbeats 4000000 in
theorem ct_V_countActs (l : Launch) (D : va_G) (K : K5) (G : GT) (N : Nat) (hw : WW G N) : Ct l D K y_V_countActs c_V_countActs 3 (some .int) 0 0 [.ref 0] G (some (vi (sumA G N))) G := by
  refine Ct.intro (by decide +kernel) (Nat.le_of_ble_eq_true rfl) ?_
  intro X hro hty hC hE
  obtain ⟨hn, hN5, hsh, hac, hpa, hwe, hth⟩ := id hw
  refine a_iconst (pc := 0) (c := 0) hC (by decide +kernel) ?_
  refine a_istore_n (pc := 1) (q := 1) (i := 1) (lv' := [(1, vi 0), (0, .ref 0)]) hC (by decide +kernel) rfl (by decide) rfl ?_
  refine a_iconst (pc := 2) (c := 0) hC (by decide +kernel) ?_
  refine a_istore_n (pc := 3) (q := 2) (i := 2) (lv' := [(2, vi 0), (1, vi 0), (0, .ref 0)]) hC (by decide +kernel) rfl (by decide) rfl ?_
  have L4 : ∀ (fuel : Nat) (s : Nat), N - s < fuel → s ≤ N → AW X 3 0 0 4 [(2, vi ((s : Int))), (1, vi (sumA G s)), (0, .ref 0)] [] (hp K G) := by
    intro fuel
    induction fuel with
    | zero => intro s h; exact absurd h (Nat.not_lt_zero _)
    | succ fuel ih4 =>
      intro s hm hs
      refine a_iload_n (pc := 4) (q := 2) (i := 2) (x := (s : Int)) hC (by decide +kernel) rfl 0 rfl ?_
      refine a_aload_n (pc := 5) (q := 0) (i := 0) (x := 0) hC (by decide +kernel) rfl 2 rfl ?_
      refine g_get (pc := 6) (idx := 10) (ci := 5) (v := .ref 1) hC 0 0 (by decide +kernel) rfl rfl rfl rfl wrV (by decide) rfl (by decide +kernel) ?_
      refine g_getN (pc := 9) (idx := 67) (ci := 4) (v := vi (G 1 0)) (host := "PlanValues") hC 1 0 (by decide +kernel) rfl rfl rfl rfl wrW (by decide) rfl (by decide +kernel) ?_
      refine a_icmp_ge (pc := 12) (off := 21) hC 33 (by decide +kernel) (by decide) (by unfold inI; omega) (by unfold inI; omega) (fun c12 => ?_) (fun c12 => ?_)
      · skip
        refine a_iload_n (pc := 33) (q := 1) (i := 1) (x := sumA G s) hC (by decide +kernel) rfl 1 rfl ?_
        exact g_iret (pc := 34) hC hE (by decide +kernel) (by rw [show s = N by omega]) rfl
      · skip
        refine a_iload_n (pc := 15) (q := 1) (i := 1) (x := sumA G s) hC (by decide +kernel) rfl 1 rfl ?_
        refine a_aload_n (pc := 16) (q := 0) (i := 0) (x := 0) hC (by decide +kernel) rfl 2 rfl ?_
        refine g_get (pc := 17) (idx := 10) (ci := 5) (v := .ref 1) hC 0 0 (by decide +kernel) rfl rfl rfl rfl wrV (by decide) rfl (by decide +kernel) ?_
        refine g_getN (pc := 20) (idx := 82) (ci := 4) (v := .ref 3) (host := "PlanValues") hC 1 4 (by decide +kernel) rfl rfl rfl rfl wrW (by decide) rfl (by decide +kernel) ?_
        refine a_iload_n (pc := 23) (q := 2) (i := 2) (x := (s : Int)) hC (by decide +kernel) rfl 0 rfl ?_
        refine g_iald (pc := 24) (a := 3) (j := s) hC hty (by decide +kernel) rfl (by omega) (by first | decide | omega) ?_
        refine a_iadd (pc := 25) hC (by decide +kernel) ?_
        refine a_istore_n (pc := 26) (q := 1) (i := 1) (lv' := [(1, vi ((sumA G s) + (G 3 s))), (2, vi ((s : Int))), (0, .ref 0)]) hC (by decide +kernel) rfl (by decide) rfl ?_
        refine a_iinc (pc := 27) (i := 2) (c := 1) (x := (s : Int)) (lv' := [(2, vi (((s : Int)) + 1)), (1, vi ((sumA G s) + (G 3 s))), (0, .ref 0)]) hC (by decide +kernel) 1 rfl (by decide) rfl ?_
        refine a_goto (pc := 30) (off := -26) hC 4 (by decide +kernel) (by decide) ?_
        refine a_sub (lv' := [(2, vi (((s + 1) : Int))), (1, vi (sumA G (s + 1))), (0, .ref 0)]) [0, 1, 2] rfl ?_
        exact ih4 (s + 1) (by omega) (by omega)
  refine a_sub (lv' := [(2, vi ((0 : Int))), (1, vi (sumA G 0)), (0, .ref 0)]) [0, 1, 2] rfl ?_
  exact L4 _ 0 (Nat.lt_succ_self _) (by omega)

set_option maxRecDepth 100000 in
set_option maxHeartbeats 4000000 in
theorem ct_V_countPlans (l : Launch) (D : va_G) (K : K5) (G : GT) (N : Nat) (hw : WW G N) : Ct l D K y_V_countPlans c_V_countPlans 3 (some .int) 1 21 [.ref 0] G (some (vi (prodA G N))) G := by
  refine Ct.intro (by decide +kernel) (Nat.le_of_ble_eq_true rfl) ?_
  intro X hro hty hC hE
  obtain ⟨hn, hN5, hsh, hac, hpa, hwe, hth⟩ := id hw
  refine a_iconst (pc := 0) (c := 1) hC (by decide +kernel) ?_
  refine a_istore_n (pc := 1) (q := 1) (i := 1) (lv' := [(1, vi 1), (0, .ref 0)]) hC (by decide +kernel) rfl (by decide) rfl ?_
  refine a_iconst (pc := 2) (c := 0) hC (by decide +kernel) ?_
  refine a_istore_n (pc := 3) (q := 2) (i := 2) (lv' := [(2, vi 0), (1, vi 1), (0, .ref 0)]) hC (by decide +kernel) rfl (by decide) rfl ?_
  have L4 : ∀ (fuel : Nat) (s : Nat), N - s < fuel → s ≤ N → AW X 3 0 0 4 [(2, vi ((s : Int))), (1, vi (prodA G s)), (0, .ref 0)] [] (hp K G) := by
    intro fuel
    induction fuel with
    | zero => intro s h; exact absurd h (Nat.not_lt_zero _)
    | succ fuel ih4 =>
      intro s hm hs
      refine a_iload_n (pc := 4) (q := 2) (i := 2) (x := (s : Int)) hC (by decide +kernel) rfl 0 rfl ?_
      refine a_aload_n (pc := 5) (q := 0) (i := 0) (x := 0) hC (by decide +kernel) rfl 2 rfl ?_
      refine g_get (pc := 6) (idx := 10) (ci := 5) (v := .ref 1) hC 0 0 (by decide +kernel) rfl rfl rfl rfl wrV (by decide) rfl (by decide +kernel) ?_
      refine g_getN (pc := 9) (idx := 67) (ci := 4) (v := vi (G 1 0)) (host := "PlanValues") hC 1 0 (by decide +kernel) rfl rfl rfl rfl wrW (by decide) rfl (by decide +kernel) ?_
      refine a_icmp_ge (pc := 12) (off := 25) hC 37 (by decide +kernel) (by decide) (by unfold inI; omega) (by unfold inI; omega) (fun c12 => ?_) (fun c12 => ?_)
      · skip
        refine a_iload_n (pc := 37) (q := 1) (i := 1) (x := prodA G s) hC (by decide +kernel) rfl 1 rfl ?_
        exact g_iret (pc := 38) hC hE (by decide +kernel) (by rw [show s = N by omega]) rfl
      · skip
        have h3 := hac s (by omega)
        refine a_iload_n (pc := 15) (q := 1) (i := 1) (x := prodA G s) hC (by decide +kernel) rfl 1 rfl ?_
        refine a_iconst (pc := 16) (c := 1) hC (by decide +kernel) ?_
        refine a_aload_n (pc := 17) (q := 0) (i := 0) (x := 0) hC (by decide +kernel) rfl 2 rfl ?_
        refine g_get (pc := 18) (idx := 10) (ci := 5) (v := .ref 1) hC 0 0 (by decide +kernel) rfl rfl rfl rfl wrV (by decide) rfl (by decide +kernel) ?_
        refine g_getN (pc := 21) (idx := 82) (ci := 4) (v := .ref 3) (host := "PlanValues") hC 1 4 (by decide +kernel) rfl rfl rfl rfl wrW (by decide) rfl (by decide +kernel) ?_
        refine a_iload_n (pc := 24) (q := 2) (i := 2) (x := (s : Int)) hC (by decide +kernel) rfl 0 rfl ?_
        refine g_iald (pc := 25) (a := 3) (j := s) hC hty (by decide +kernel) rfl (by omega) (by first | decide | omega) ?_
        refine g_callS (pc := 26) (idx := 205) (av := [vi 1, vi (G 3 s)]) (rest := [vi (prodA G s)]) (g := G) (v := vi (maxZ 1 (G 3 s))) hC hro hty (by decide +kernel) k_JM_max_II (by decide +kernel) (by decide +kernel) (ct_JM_max_II X.la X.dd K G 1 (G 3 s) (by unfold inI; omega) (by unfold inI; omega)) rfl rfl (by decide) (by first | decide | simp [Value.category]) ?_
        refine a_imul (pc := 29) hC (by decide +kernel) ?_
        refine a_istore_n (pc := 30) (q := 1) (i := 1) (lv' := [(1, vi ((prodA G s) * (maxZ 1 (G 3 s)))), (2, vi ((s : Int))), (0, .ref 0)]) hC (by decide +kernel) rfl (by decide) rfl ?_
        refine a_iinc (pc := 31) (i := 2) (c := 1) (x := (s : Int)) (lv' := [(2, vi (((s : Int)) + 1)), (1, vi ((prodA G s) * (maxZ 1 (G 3 s)))), (0, .ref 0)]) hC (by decide +kernel) 1 rfl (by decide) rfl ?_
        refine a_goto (pc := 34) (off := -30) hC 4 (by decide +kernel) (by decide) ?_
        refine a_sub (lv' := [(2, vi (((s + 1) : Int))), (1, vi (prodA G (s + 1))), (0, .ref 0)]) [0, 1, 2] rfl ?_
        exact ih4 (s + 1) (by omega) (by omega)
  refine a_sub (lv' := [(2, vi ((0 : Int))), (1, vi (prodA G 0)), (0, .ref 0)]) [0, 1, 2] rfl ?_
  exact L4 _ 0 (Nat.lt_succ_self _) (by omega)

set_option maxRecDepth 100000 in
set_option maxHeartbeats 4000000 in
theorem ct_V_countTheirs (l : Launch) (D : va_G) (K : K5) (G : GT) (N : Nat) (hw : WW G N) : Ct l D K y_V_countTheirs c_V_countTheirs 3 (some .int) 0 0 [.ref 0] G (some (vi (sumT G N))) G := by
  refine Ct.intro (by decide +kernel) (Nat.le_of_ble_eq_true rfl) ?_
  intro X hro hty hC hE
  obtain ⟨hn, hN5, hsh, hac, hpa, hwe, hth⟩ := id hw
  refine a_iconst (pc := 0) (c := 0) hC (by decide +kernel) ?_
  refine a_istore_n (pc := 1) (q := 1) (i := 1) (lv' := [(1, vi 0), (0, .ref 0)]) hC (by decide +kernel) rfl (by decide) rfl ?_
  refine a_iconst (pc := 2) (c := 0) hC (by decide +kernel) ?_
  refine a_istore_n (pc := 3) (q := 2) (i := 2) (lv' := [(2, vi 0), (1, vi 0), (0, .ref 0)]) hC (by decide +kernel) rfl (by decide) rfl ?_
  have L4 : ∀ (fuel : Nat) (s : Nat), N - s < fuel → s ≤ N → AW X 3 0 0 4 [(2, vi ((s : Int))), (1, vi (sumT G s)), (0, .ref 0)] [] (hp K G) := by
    intro fuel
    induction fuel with
    | zero => intro s h; exact absurd h (Nat.not_lt_zero _)
    | succ fuel ih4 =>
      intro s hm hs
      refine a_iload_n (pc := 4) (q := 2) (i := 2) (x := (s : Int)) hC (by decide +kernel) rfl 0 rfl ?_
      refine a_aload_n (pc := 5) (q := 0) (i := 0) (x := 0) hC (by decide +kernel) rfl 2 rfl ?_
      refine g_get (pc := 6) (idx := 10) (ci := 5) (v := .ref 1) hC 0 0 (by decide +kernel) rfl rfl rfl rfl wrV (by decide) rfl (by decide +kernel) ?_
      refine g_getN (pc := 9) (idx := 67) (ci := 4) (v := vi (G 1 0)) (host := "PlanValues") hC 1 0 (by decide +kernel) rfl rfl rfl rfl wrW (by decide) rfl (by decide +kernel) ?_
      refine a_icmp_ge (pc := 12) (off := 24) hC 36 (by decide +kernel) (by decide) (by unfold inI; omega) (by unfold inI; omega) (fun c12 => ?_) (fun c12 => ?_)
      · skip
        refine a_iload_n (pc := 36) (q := 1) (i := 1) (x := sumT G s) hC (by decide +kernel) rfl 1 rfl ?_
        exact g_iret (pc := 37) hC hE (by decide +kernel) (by rw [show s = N by omega]) rfl
      · skip
        have h2 := hth s (by omega)
        refine a_aload_n (pc := 15) (q := 0) (i := 0) (x := 0) hC (by decide +kernel) rfl 2 rfl ?_
        refine g_get (pc := 16) (idx := 10) (ci := 5) (v := .ref 1) hC 0 0 (by decide +kernel) rfl rfl rfl rfl wrV (by decide) rfl (by decide +kernel) ?_
        refine g_getN (pc := 19) (idx := 212) (ci := 4) (v := .ref 2) (host := "PlanValues") hC 1 3 (by decide +kernel) rfl rfl rfl rfl wrW (by decide) rfl (by decide +kernel) ?_
        refine a_iload_n (pc := 22) (q := 2) (i := 2) (x := (s : Int)) hC (by decide +kernel) rfl 0 rfl ?_
        refine g_zald (pc := 23) (a := 2) (j := s) hC hty (by decide +kernel) rfl (by omega) (by first | decide | omega) ?_
        refine a_if_eq (pc := 24) (off := 6) hC 30 (by decide +kernel) (by decide) (by unfold inI; omega) (fun c24 => ?_) (fun c24 => ?_)
        · skip
          have hst : sumT G s = sumT G (s + 1) := by show _ = (if _ then _ else _); rw [if_pos c24]
          refine a_iinc (pc := 30) (i := 2) (c := 1) (x := (s : Int)) (lv' := [(2, vi (((s : Int)) + 1)), (1, vi (sumT G s)), (0, .ref 0)]) hC (by decide +kernel) 0 rfl (by decide) rfl ?_
          refine a_goto (pc := 33) (off := -29) hC 4 (by decide +kernel) (by decide) ?_
          refine a_sub (lv' := [(2, vi (((s + 1) : Int))), (1, vi (sumT G (s + 1))), (0, .ref 0)]) [0, 1, 2] (by rw [← hst]; rfl) ?_
          exact ih4 (s + 1) (by omega) (by omega)
        · skip
          have hst : sumT G s + 1 = sumT G (s + 1) := by show _ = (if _ then _ else _); rw [if_neg c24]
          refine a_iinc (pc := 27) (i := 1) (c := 1) (x := sumT G s) (lv' := [(1, vi ((sumT G s) + 1)), (2, vi ((s : Int))), (0, .ref 0)]) hC (by decide +kernel) 1 rfl (by decide) rfl ?_
          refine a_iinc (pc := 30) (i := 2) (c := 1) (x := (s : Int)) (lv' := [(2, vi (((s : Int)) + 1)), (1, vi ((sumT G s) + 1)), (0, .ref 0)]) hC (by decide +kernel) 1 rfl (by decide) rfl ?_
          refine a_goto (pc := 33) (off := -29) hC 4 (by decide +kernel) (by decide) ?_
          refine a_sub (lv' := [(2, vi (((s + 1) : Int))), (1, vi (sumT G (s + 1))), (0, .ref 0)]) [0, 1, 2] (by rw [← hst]; rfl) ?_
          exact ih4 (s + 1) (by omega) (by omega)
  refine a_sub (lv' := [(2, vi ((0 : Int))), (1, vi (sumT G 0)), (0, .ref 0)]) [0, 1, 2] rfl ?_
  exact L4 _ 0 (Nat.lt_succ_self _) (by omega)
end
section
set_option maxRecDepth 100000 in
set_option maxHeartbeats 4000000 in
theorem ct_JI_bitCount_0 (l : Launch) (D : va_G) (K : K5) (G : GT)  : Ct l D K y_JI_bitCount c_JI_bitCount 1 (some .int) 0 0 [vi 0] G (some (vi 0)) G := by
  refine Ct.intro (by decide +kernel) (Nat.le_of_ble_eq_true rfl) ?_
  intro X hro hty hC hE
  refine a_iload_n (pc := 0) (q := 0) (i := 0) (x := 0) hC (by decide +kernel) rfl 0 rfl ?_
  refine a_iload_n (pc := 1) (q := 0) (i := 0) (x := 0) hC (by decide +kernel) rfl 0 rfl ?_
  refine a_iconst (pc := 2) (c := 1) hC (by decide +kernel) ?_
  refine a_iushr (pc := 3) (z := 0) hC (by decide +kernel) (by decide +kernel) ?_
  refine a_ldcw (pc := 4) (idx := 265) (z := 1431655765) (v := 1431655765) hC (by decide +kernel) (by decide +kernel) rfl ?_
  refine a_iand (pc := 7) (z := 0) hC (by decide +kernel) (by decide +kernel) ?_
  refine a_isub (pc := 8) hC (by decide +kernel) ?_
  refine g_top (y := 0) rfl ?_
  refine a_istore_n (pc := 9) (q := 0) (i := 0) (lv' := [(0, vi 0)]) hC (by decide +kernel) rfl (by decide) rfl ?_
  refine a_iload_n (pc := 10) (q := 0) (i := 0) (x := 0) hC (by decide +kernel) rfl 0 rfl ?_
  refine a_ldcw (pc := 11) (idx := 266) (z := 858993459) (v := 858993459) hC (by decide +kernel) (by decide +kernel) rfl ?_
  refine a_iand (pc := 14) (z := 0) hC (by decide +kernel) (by decide +kernel) ?_
  refine a_iload_n (pc := 15) (q := 0) (i := 0) (x := 0) hC (by decide +kernel) rfl 0 rfl ?_
  refine a_iconst (pc := 16) (c := 2) hC (by decide +kernel) ?_
  refine a_iushr (pc := 17) (z := 0) hC (by decide +kernel) (by decide +kernel) ?_
  refine a_ldcw (pc := 18) (idx := 266) (z := 858993459) (v := 858993459) hC (by decide +kernel) (by decide +kernel) rfl ?_
  refine a_iand (pc := 21) (z := 0) hC (by decide +kernel) (by decide +kernel) ?_
  refine a_iadd (pc := 22) hC (by decide +kernel) ?_
  refine g_top (y := 0) rfl ?_
  refine a_istore_n (pc := 23) (q := 0) (i := 0) (lv' := [(0, vi 0)]) hC (by decide +kernel) rfl (by decide) rfl ?_
  refine a_iload_n (pc := 24) (q := 0) (i := 0) (x := 0) hC (by decide +kernel) rfl 0 rfl ?_
  refine a_iload_n (pc := 25) (q := 0) (i := 0) (x := 0) hC (by decide +kernel) rfl 0 rfl ?_
  refine a_iconst (pc := 26) (c := 4) hC (by decide +kernel) ?_
  refine a_iushr (pc := 27) (z := 0) hC (by decide +kernel) (by decide +kernel) ?_
  refine a_iadd (pc := 28) hC (by decide +kernel) ?_
  refine g_top (y := 0) rfl ?_
  refine a_ldcw (pc := 29) (idx := 267) (z := 252645135) (v := 252645135) hC (by decide +kernel) (by decide +kernel) rfl ?_
  refine a_iand (pc := 32) (z := 0) hC (by decide +kernel) (by decide +kernel) ?_
  refine a_istore_n (pc := 33) (q := 0) (i := 0) (lv' := [(0, vi 0)]) hC (by decide +kernel) rfl (by decide) rfl ?_
  refine a_iload_n (pc := 34) (q := 0) (i := 0) (x := 0) hC (by decide +kernel) rfl 0 rfl ?_
  refine a_iload_n (pc := 35) (q := 0) (i := 0) (x := 0) hC (by decide +kernel) rfl 0 rfl ?_
  refine a_bipush (pc := 36) (c := 8) hC (by decide +kernel) (by decide +kernel) ?_
  refine a_iushr (pc := 38) (z := 0) hC (by decide +kernel) (by decide +kernel) ?_
  refine a_iadd (pc := 39) hC (by decide +kernel) ?_
  refine g_top (y := 0) rfl ?_
  refine a_istore_n (pc := 40) (q := 0) (i := 0) (lv' := [(0, vi 0)]) hC (by decide +kernel) rfl (by decide) rfl ?_
  refine a_iload_n (pc := 41) (q := 0) (i := 0) (x := 0) hC (by decide +kernel) rfl 0 rfl ?_
  refine a_iload_n (pc := 42) (q := 0) (i := 0) (x := 0) hC (by decide +kernel) rfl 0 rfl ?_
  refine a_bipush (pc := 43) (c := 16) hC (by decide +kernel) (by decide +kernel) ?_
  refine a_iushr (pc := 45) (z := 0) hC (by decide +kernel) (by decide +kernel) ?_
  refine a_iadd (pc := 46) hC (by decide +kernel) ?_
  refine g_top (y := 0) rfl ?_
  refine a_istore_n (pc := 47) (q := 0) (i := 0) (lv' := [(0, vi 0)]) hC (by decide +kernel) rfl (by decide) rfl ?_
  refine a_iload_n (pc := 48) (q := 0) (i := 0) (x := 0) hC (by decide +kernel) rfl 0 rfl ?_
  refine a_bipush (pc := 49) (c := 63) hC (by decide +kernel) (by decide +kernel) ?_
  refine a_iand (pc := 51) (z := 0) hC (by decide +kernel) (by decide +kernel) ?_
  exact g_iret (pc := 52) hC hE (by decide +kernel) rfl rfl

set_option maxRecDepth 100000 in
set_option maxHeartbeats 4000000 in
theorem ct_JI_bitCount_1 (l : Launch) (D : va_G) (K : K5) (G : GT)  : Ct l D K y_JI_bitCount c_JI_bitCount 1 (some .int) 0 0 [vi 1] G (some (vi 1)) G := by
  refine Ct.intro (by decide +kernel) (Nat.le_of_ble_eq_true rfl) ?_
  intro X hro hty hC hE
  refine a_iload_n (pc := 0) (q := 0) (i := 0) (x := 1) hC (by decide +kernel) rfl 0 rfl ?_
  refine a_iload_n (pc := 1) (q := 0) (i := 0) (x := 1) hC (by decide +kernel) rfl 0 rfl ?_
  refine a_iconst (pc := 2) (c := 1) hC (by decide +kernel) ?_
  refine a_iushr (pc := 3) (z := 0) hC (by decide +kernel) (by decide +kernel) ?_
  refine a_ldcw (pc := 4) (idx := 265) (z := 1431655765) (v := 1431655765) hC (by decide +kernel) (by decide +kernel) rfl ?_
  refine a_iand (pc := 7) (z := 0) hC (by decide +kernel) (by decide +kernel) ?_
  refine a_isub (pc := 8) hC (by decide +kernel) ?_
  refine g_top (y := 1) rfl ?_
  refine a_istore_n (pc := 9) (q := 0) (i := 0) (lv' := [(0, vi 1)]) hC (by decide +kernel) rfl (by decide) rfl ?_
  refine a_iload_n (pc := 10) (q := 0) (i := 0) (x := 1) hC (by decide +kernel) rfl 0 rfl ?_
  refine a_ldcw (pc := 11) (idx := 266) (z := 858993459) (v := 858993459) hC (by decide +kernel) (by decide +kernel) rfl ?_
  refine a_iand (pc := 14) (z := 1) hC (by decide +kernel) (by decide +kernel) ?_
  refine a_iload_n (pc := 15) (q := 0) (i := 0) (x := 1) hC (by decide +kernel) rfl 0 rfl ?_
  refine a_iconst (pc := 16) (c := 2) hC (by decide +kernel) ?_
  refine a_iushr (pc := 17) (z := 0) hC (by decide +kernel) (by decide +kernel) ?_
  refine a_ldcw (pc := 18) (idx := 266) (z := 858993459) (v := 858993459) hC (by decide +kernel) (by decide +kernel) rfl ?_
  refine a_iand (pc := 21) (z := 0) hC (by decide +kernel) (by decide +kernel) ?_
  refine a_iadd (pc := 22) hC (by decide +kernel) ?_
  refine g_top (y := 1) rfl ?_
  refine a_istore_n (pc := 23) (q := 0) (i := 0) (lv' := [(0, vi 1)]) hC (by decide +kernel) rfl (by decide) rfl ?_
  refine a_iload_n (pc := 24) (q := 0) (i := 0) (x := 1) hC (by decide +kernel) rfl 0 rfl ?_
  refine a_iload_n (pc := 25) (q := 0) (i := 0) (x := 1) hC (by decide +kernel) rfl 0 rfl ?_
  refine a_iconst (pc := 26) (c := 4) hC (by decide +kernel) ?_
  refine a_iushr (pc := 27) (z := 0) hC (by decide +kernel) (by decide +kernel) ?_
  refine a_iadd (pc := 28) hC (by decide +kernel) ?_
  refine g_top (y := 1) rfl ?_
  refine a_ldcw (pc := 29) (idx := 267) (z := 252645135) (v := 252645135) hC (by decide +kernel) (by decide +kernel) rfl ?_
  refine a_iand (pc := 32) (z := 1) hC (by decide +kernel) (by decide +kernel) ?_
  refine a_istore_n (pc := 33) (q := 0) (i := 0) (lv' := [(0, vi 1)]) hC (by decide +kernel) rfl (by decide) rfl ?_
  refine a_iload_n (pc := 34) (q := 0) (i := 0) (x := 1) hC (by decide +kernel) rfl 0 rfl ?_
  refine a_iload_n (pc := 35) (q := 0) (i := 0) (x := 1) hC (by decide +kernel) rfl 0 rfl ?_
  refine a_bipush (pc := 36) (c := 8) hC (by decide +kernel) (by decide +kernel) ?_
  refine a_iushr (pc := 38) (z := 0) hC (by decide +kernel) (by decide +kernel) ?_
  refine a_iadd (pc := 39) hC (by decide +kernel) ?_
  refine g_top (y := 1) rfl ?_
  refine a_istore_n (pc := 40) (q := 0) (i := 0) (lv' := [(0, vi 1)]) hC (by decide +kernel) rfl (by decide) rfl ?_
  refine a_iload_n (pc := 41) (q := 0) (i := 0) (x := 1) hC (by decide +kernel) rfl 0 rfl ?_
  refine a_iload_n (pc := 42) (q := 0) (i := 0) (x := 1) hC (by decide +kernel) rfl 0 rfl ?_
  refine a_bipush (pc := 43) (c := 16) hC (by decide +kernel) (by decide +kernel) ?_
  refine a_iushr (pc := 45) (z := 0) hC (by decide +kernel) (by decide +kernel) ?_
  refine a_iadd (pc := 46) hC (by decide +kernel) ?_
  refine g_top (y := 1) rfl ?_
  refine a_istore_n (pc := 47) (q := 0) (i := 0) (lv' := [(0, vi 1)]) hC (by decide +kernel) rfl (by decide) rfl ?_
  refine a_iload_n (pc := 48) (q := 0) (i := 0) (x := 1) hC (by decide +kernel) rfl 0 rfl ?_
  refine a_bipush (pc := 49) (c := 63) hC (by decide +kernel) (by decide +kernel) ?_
  refine a_iand (pc := 51) (z := 1) hC (by decide +kernel) (by decide +kernel) ?_
  exact g_iret (pc := 52) hC hE (by decide +kernel) rfl rfl

set_option maxRecDepth 100000 in
set_option maxHeartbeats 4000000 in
theorem ct_JI_bitCount_2 (l : Launch) (D : va_G) (K : K5) (G : GT)  : Ct l D K y_JI_bitCount c_JI_bitCount 1 (some .int) 0 0 [vi 2] G (some (vi 1)) G := by
  refine Ct.intro (by decide +kernel) (Nat.le_of_ble_eq_true rfl) ?_
  intro X hro hty hC hE
  refine a_iload_n (pc := 0) (q := 0) (i := 0) (x := 2) hC (by decide +kernel) rfl 0 rfl ?_
  refine a_iload_n (pc := 1) (q := 0) (i := 0) (x := 2) hC (by decide +kernel) rfl 0 rfl ?_
  refine a_iconst (pc := 2) (c := 1) hC (by decide +kernel) ?_
  refine a_iushr (pc := 3) (z := 1) hC (by decide +kernel) (by decide +kernel) ?_
  refine a_ldcw (pc := 4) (idx := 265) (z := 1431655765) (v := 1431655765) hC (by decide +kernel) (by decide +kernel) rfl ?_
  refine a_iand (pc := 7) (z := 1) hC (by decide +kernel) (by decide +kernel) ?_
  refine a_isub (pc := 8) hC (by decide +kernel) ?_
  refine g_top (y := 1) rfl ?_
  refine a_istore_n (pc := 9) (q := 0) (i := 0) (lv' := [(0, vi 1)]) hC (by decide +kernel) rfl (by decide) rfl ?_
  refine a_iload_n (pc := 10) (q := 0) (i := 0) (x := 1) hC (by decide +kernel) rfl 0 rfl ?_
  refine a_ldcw (pc := 11) (idx := 266) (z := 858993459) (v := 858993459) hC (by decide +kernel) (by decide +kernel) rfl ?_
  refine a_iand (pc := 14) (z := 1) hC (by decide +kernel) (by decide +kernel) ?_
  refine a_iload_n (pc := 15) (q := 0) (i := 0) (x := 1) hC (by decide +kernel) rfl 0 rfl ?_
  refine a_iconst (pc := 16) (c := 2) hC (by decide +kernel) ?_
  refine a_iushr (pc := 17) (z := 0) hC (by decide +kernel) (by decide +kernel) ?_
  refine a_ldcw (pc := 18) (idx := 266) (z := 858993459) (v := 858993459) hC (by decide +kernel) (by decide +kernel) rfl ?_
  refine a_iand (pc := 21) (z := 0) hC (by decide +kernel) (by decide +kernel) ?_
  refine a_iadd (pc := 22) hC (by decide +kernel) ?_
  refine g_top (y := 1) rfl ?_
  refine a_istore_n (pc := 23) (q := 0) (i := 0) (lv' := [(0, vi 1)]) hC (by decide +kernel) rfl (by decide) rfl ?_
  refine a_iload_n (pc := 24) (q := 0) (i := 0) (x := 1) hC (by decide +kernel) rfl 0 rfl ?_
  refine a_iload_n (pc := 25) (q := 0) (i := 0) (x := 1) hC (by decide +kernel) rfl 0 rfl ?_
  refine a_iconst (pc := 26) (c := 4) hC (by decide +kernel) ?_
  refine a_iushr (pc := 27) (z := 0) hC (by decide +kernel) (by decide +kernel) ?_
  refine a_iadd (pc := 28) hC (by decide +kernel) ?_
  refine g_top (y := 1) rfl ?_
  refine a_ldcw (pc := 29) (idx := 267) (z := 252645135) (v := 252645135) hC (by decide +kernel) (by decide +kernel) rfl ?_
  refine a_iand (pc := 32) (z := 1) hC (by decide +kernel) (by decide +kernel) ?_
  refine a_istore_n (pc := 33) (q := 0) (i := 0) (lv' := [(0, vi 1)]) hC (by decide +kernel) rfl (by decide) rfl ?_
  refine a_iload_n (pc := 34) (q := 0) (i := 0) (x := 1) hC (by decide +kernel) rfl 0 rfl ?_
  refine a_iload_n (pc := 35) (q := 0) (i := 0) (x := 1) hC (by decide +kernel) rfl 0 rfl ?_
  refine a_bipush (pc := 36) (c := 8) hC (by decide +kernel) (by decide +kernel) ?_
  refine a_iushr (pc := 38) (z := 0) hC (by decide +kernel) (by decide +kernel) ?_
  refine a_iadd (pc := 39) hC (by decide +kernel) ?_
  refine g_top (y := 1) rfl ?_
  refine a_istore_n (pc := 40) (q := 0) (i := 0) (lv' := [(0, vi 1)]) hC (by decide +kernel) rfl (by decide) rfl ?_
  refine a_iload_n (pc := 41) (q := 0) (i := 0) (x := 1) hC (by decide +kernel) rfl 0 rfl ?_
  refine a_iload_n (pc := 42) (q := 0) (i := 0) (x := 1) hC (by decide +kernel) rfl 0 rfl ?_
  refine a_bipush (pc := 43) (c := 16) hC (by decide +kernel) (by decide +kernel) ?_
  refine a_iushr (pc := 45) (z := 0) hC (by decide +kernel) (by decide +kernel) ?_
  refine a_iadd (pc := 46) hC (by decide +kernel) ?_
  refine g_top (y := 1) rfl ?_
  refine a_istore_n (pc := 47) (q := 0) (i := 0) (lv' := [(0, vi 1)]) hC (by decide +kernel) rfl (by decide) rfl ?_
  refine a_iload_n (pc := 48) (q := 0) (i := 0) (x := 1) hC (by decide +kernel) rfl 0 rfl ?_
  refine a_bipush (pc := 49) (c := 63) hC (by decide +kernel) (by decide +kernel) ?_
  refine a_iand (pc := 51) (z := 1) hC (by decide +kernel) (by decide +kernel) ?_
  exact g_iret (pc := 52) hC hE (by decide +kernel) rfl rfl

set_option maxRecDepth 100000 in
set_option maxHeartbeats 4000000 in
theorem ct_JI_bitCount_3 (l : Launch) (D : va_G) (K : K5) (G : GT)  : Ct l D K y_JI_bitCount c_JI_bitCount 1 (some .int) 0 0 [vi 3] G (some (vi 2)) G := by
  refine Ct.intro (by decide +kernel) (Nat.le_of_ble_eq_true rfl) ?_
  intro X hro hty hC hE
  refine a_iload_n (pc := 0) (q := 0) (i := 0) (x := 3) hC (by decide +kernel) rfl 0 rfl ?_
  refine a_iload_n (pc := 1) (q := 0) (i := 0) (x := 3) hC (by decide +kernel) rfl 0 rfl ?_
  refine a_iconst (pc := 2) (c := 1) hC (by decide +kernel) ?_
  refine a_iushr (pc := 3) (z := 1) hC (by decide +kernel) (by decide +kernel) ?_
  refine a_ldcw (pc := 4) (idx := 265) (z := 1431655765) (v := 1431655765) hC (by decide +kernel) (by decide +kernel) rfl ?_
  refine a_iand (pc := 7) (z := 1) hC (by decide +kernel) (by decide +kernel) ?_
  refine a_isub (pc := 8) hC (by decide +kernel) ?_
  refine g_top (y := 2) rfl ?_
  refine a_istore_n (pc := 9) (q := 0) (i := 0) (lv' := [(0, vi 2)]) hC (by decide +kernel) rfl (by decide) rfl ?_
  refine a_iload_n (pc := 10) (q := 0) (i := 0) (x := 2) hC (by decide +kernel) rfl 0 rfl ?_
  refine a_ldcw (pc := 11) (idx := 266) (z := 858993459) (v := 858993459) hC (by decide +kernel) (by decide +kernel) rfl ?_
  refine a_iand (pc := 14) (z := 2) hC (by decide +kernel) (by decide +kernel) ?_
  refine a_iload_n (pc := 15) (q := 0) (i := 0) (x := 2) hC (by decide +kernel) rfl 0 rfl ?_
  refine a_iconst (pc := 16) (c := 2) hC (by decide +kernel) ?_
  refine a_iushr (pc := 17) (z := 0) hC (by decide +kernel) (by decide +kernel) ?_
  refine a_ldcw (pc := 18) (idx := 266) (z := 858993459) (v := 858993459) hC (by decide +kernel) (by decide +kernel) rfl ?_
  refine a_iand (pc := 21) (z := 0) hC (by decide +kernel) (by decide +kernel) ?_
  refine a_iadd (pc := 22) hC (by decide +kernel) ?_
  refine g_top (y := 2) rfl ?_
  refine a_istore_n (pc := 23) (q := 0) (i := 0) (lv' := [(0, vi 2)]) hC (by decide +kernel) rfl (by decide) rfl ?_
  refine a_iload_n (pc := 24) (q := 0) (i := 0) (x := 2) hC (by decide +kernel) rfl 0 rfl ?_
  refine a_iload_n (pc := 25) (q := 0) (i := 0) (x := 2) hC (by decide +kernel) rfl 0 rfl ?_
  refine a_iconst (pc := 26) (c := 4) hC (by decide +kernel) ?_
  refine a_iushr (pc := 27) (z := 0) hC (by decide +kernel) (by decide +kernel) ?_
  refine a_iadd (pc := 28) hC (by decide +kernel) ?_
  refine g_top (y := 2) rfl ?_
  refine a_ldcw (pc := 29) (idx := 267) (z := 252645135) (v := 252645135) hC (by decide +kernel) (by decide +kernel) rfl ?_
  refine a_iand (pc := 32) (z := 2) hC (by decide +kernel) (by decide +kernel) ?_
  refine a_istore_n (pc := 33) (q := 0) (i := 0) (lv' := [(0, vi 2)]) hC (by decide +kernel) rfl (by decide) rfl ?_
  refine a_iload_n (pc := 34) (q := 0) (i := 0) (x := 2) hC (by decide +kernel) rfl 0 rfl ?_
  refine a_iload_n (pc := 35) (q := 0) (i := 0) (x := 2) hC (by decide +kernel) rfl 0 rfl ?_
  refine a_bipush (pc := 36) (c := 8) hC (by decide +kernel) (by decide +kernel) ?_
  refine a_iushr (pc := 38) (z := 0) hC (by decide +kernel) (by decide +kernel) ?_
  refine a_iadd (pc := 39) hC (by decide +kernel) ?_
  refine g_top (y := 2) rfl ?_
  refine a_istore_n (pc := 40) (q := 0) (i := 0) (lv' := [(0, vi 2)]) hC (by decide +kernel) rfl (by decide) rfl ?_
  refine a_iload_n (pc := 41) (q := 0) (i := 0) (x := 2) hC (by decide +kernel) rfl 0 rfl ?_
  refine a_iload_n (pc := 42) (q := 0) (i := 0) (x := 2) hC (by decide +kernel) rfl 0 rfl ?_
  refine a_bipush (pc := 43) (c := 16) hC (by decide +kernel) (by decide +kernel) ?_
  refine a_iushr (pc := 45) (z := 0) hC (by decide +kernel) (by decide +kernel) ?_
  refine a_iadd (pc := 46) hC (by decide +kernel) ?_
  refine g_top (y := 2) rfl ?_
  refine a_istore_n (pc := 47) (q := 0) (i := 0) (lv' := [(0, vi 2)]) hC (by decide +kernel) rfl (by decide) rfl ?_
  refine a_iload_n (pc := 48) (q := 0) (i := 0) (x := 2) hC (by decide +kernel) rfl 0 rfl ?_
  refine a_bipush (pc := 49) (c := 63) hC (by decide +kernel) (by decide +kernel) ?_
  refine a_iand (pc := 51) (z := 2) hC (by decide +kernel) (by decide +kernel) ?_
  exact g_iret (pc := 52) hC hE (by decide +kernel) rfl rfl

set_option maxRecDepth 100000 in
set_option maxHeartbeats 4000000 in
theorem ct_JI_bitCount_4 (l : Launch) (D : va_G) (K : K5) (G : GT)  : Ct l D K y_JI_bitCount c_JI_bitCount 1 (some .int) 0 0 [vi 4] G (some (vi 1)) G := by
  refine Ct.intro (by decide +kernel) (Nat.le_of_ble_eq_true rfl) ?_
  intro X hro hty hC hE
  refine a_iload_n (pc := 0) (q := 0) (i := 0) (x := 4) hC (by decide +kernel) rfl 0 rfl ?_
  refine a_iload_n (pc := 1) (q := 0) (i := 0) (x := 4) hC (by decide +kernel) rfl 0 rfl ?_
  refine a_iconst (pc := 2) (c := 1) hC (by decide +kernel) ?_
  refine a_iushr (pc := 3) (z := 2) hC (by decide +kernel) (by decide +kernel) ?_
  refine a_ldcw (pc := 4) (idx := 265) (z := 1431655765) (v := 1431655765) hC (by decide +kernel) (by decide +kernel) rfl ?_
  refine a_iand (pc := 7) (z := 0) hC (by decide +kernel) (by decide +kernel) ?_
  refine a_isub (pc := 8) hC (by decide +kernel) ?_
  refine g_top (y := 4) rfl ?_
  refine a_istore_n (pc := 9) (q := 0) (i := 0) (lv' := [(0, vi 4)]) hC (by decide +kernel) rfl (by decide) rfl ?_
  refine a_iload_n (pc := 10) (q := 0) (i := 0) (x := 4) hC (by decide +kernel) rfl 0 rfl ?_
  refine a_ldcw (pc := 11) (idx := 266) (z := 858993459) (v := 858993459) hC (by decide +kernel) (by decide +kernel) rfl ?_
  refine a_iand (pc := 14) (z := 0) hC (by decide +kernel) (by decide +kernel) ?_
  refine a_iload_n (pc := 15) (q := 0) (i := 0) (x := 4) hC (by decide +kernel) rfl 0 rfl ?_
  refine a_iconst (pc := 16) (c := 2) hC (by decide +kernel) ?_
  refine a_iushr (pc := 17) (z := 1) hC (by decide +kernel) (by decide +kernel) ?_
  refine a_ldcw (pc := 18) (idx := 266) (z := 858993459) (v := 858993459) hC (by decide +kernel) (by decide +kernel) rfl ?_
  refine a_iand (pc := 21) (z := 1) hC (by decide +kernel) (by decide +kernel) ?_
  refine a_iadd (pc := 22) hC (by decide +kernel) ?_
  refine g_top (y := 1) rfl ?_
  refine a_istore_n (pc := 23) (q := 0) (i := 0) (lv' := [(0, vi 1)]) hC (by decide +kernel) rfl (by decide) rfl ?_
  refine a_iload_n (pc := 24) (q := 0) (i := 0) (x := 1) hC (by decide +kernel) rfl 0 rfl ?_
  refine a_iload_n (pc := 25) (q := 0) (i := 0) (x := 1) hC (by decide +kernel) rfl 0 rfl ?_
  refine a_iconst (pc := 26) (c := 4) hC (by decide +kernel) ?_
  refine a_iushr (pc := 27) (z := 0) hC (by decide +kernel) (by decide +kernel) ?_
  refine a_iadd (pc := 28) hC (by decide +kernel) ?_
  refine g_top (y := 1) rfl ?_
  refine a_ldcw (pc := 29) (idx := 267) (z := 252645135) (v := 252645135) hC (by decide +kernel) (by decide +kernel) rfl ?_
  refine a_iand (pc := 32) (z := 1) hC (by decide +kernel) (by decide +kernel) ?_
  refine a_istore_n (pc := 33) (q := 0) (i := 0) (lv' := [(0, vi 1)]) hC (by decide +kernel) rfl (by decide) rfl ?_
  refine a_iload_n (pc := 34) (q := 0) (i := 0) (x := 1) hC (by decide +kernel) rfl 0 rfl ?_
  refine a_iload_n (pc := 35) (q := 0) (i := 0) (x := 1) hC (by decide +kernel) rfl 0 rfl ?_
  refine a_bipush (pc := 36) (c := 8) hC (by decide +kernel) (by decide +kernel) ?_
  refine a_iushr (pc := 38) (z := 0) hC (by decide +kernel) (by decide +kernel) ?_
  refine a_iadd (pc := 39) hC (by decide +kernel) ?_
  refine g_top (y := 1) rfl ?_
  refine a_istore_n (pc := 40) (q := 0) (i := 0) (lv' := [(0, vi 1)]) hC (by decide +kernel) rfl (by decide) rfl ?_
  refine a_iload_n (pc := 41) (q := 0) (i := 0) (x := 1) hC (by decide +kernel) rfl 0 rfl ?_
  refine a_iload_n (pc := 42) (q := 0) (i := 0) (x := 1) hC (by decide +kernel) rfl 0 rfl ?_
  refine a_bipush (pc := 43) (c := 16) hC (by decide +kernel) (by decide +kernel) ?_
  refine a_iushr (pc := 45) (z := 0) hC (by decide +kernel) (by decide +kernel) ?_
  refine a_iadd (pc := 46) hC (by decide +kernel) ?_
  refine g_top (y := 1) rfl ?_
  refine a_istore_n (pc := 47) (q := 0) (i := 0) (lv' := [(0, vi 1)]) hC (by decide +kernel) rfl (by decide) rfl ?_
  refine a_iload_n (pc := 48) (q := 0) (i := 0) (x := 1) hC (by decide +kernel) rfl 0 rfl ?_
  refine a_bipush (pc := 49) (c := 63) hC (by decide +kernel) (by decide +kernel) ?_
  refine a_iand (pc := 51) (z := 1) hC (by decide +kernel) (by decide +kernel) ?_
  exact g_iret (pc := 52) hC hE (by decide +kernel) rfl rfl

set_option maxRecDepth 100000 in
set_option maxHeartbeats 4000000 in
theorem ct_JI_bitCount_5 (l : Launch) (D : va_G) (K : K5) (G : GT)  : Ct l D K y_JI_bitCount c_JI_bitCount 1 (some .int) 0 0 [vi 5] G (some (vi 2)) G := by
  refine Ct.intro (by decide +kernel) (Nat.le_of_ble_eq_true rfl) ?_
  intro X hro hty hC hE
  refine a_iload_n (pc := 0) (q := 0) (i := 0) (x := 5) hC (by decide +kernel) rfl 0 rfl ?_
  refine a_iload_n (pc := 1) (q := 0) (i := 0) (x := 5) hC (by decide +kernel) rfl 0 rfl ?_
  refine a_iconst (pc := 2) (c := 1) hC (by decide +kernel) ?_
  refine a_iushr (pc := 3) (z := 2) hC (by decide +kernel) (by decide +kernel) ?_
  refine a_ldcw (pc := 4) (idx := 265) (z := 1431655765) (v := 1431655765) hC (by decide +kernel) (by decide +kernel) rfl ?_
  refine a_iand (pc := 7) (z := 0) hC (by decide +kernel) (by decide +kernel) ?_
  refine a_isub (pc := 8) hC (by decide +kernel) ?_
  refine g_top (y := 5) rfl ?_
  refine a_istore_n (pc := 9) (q := 0) (i := 0) (lv' := [(0, vi 5)]) hC (by decide +kernel) rfl (by decide) rfl ?_
  refine a_iload_n (pc := 10) (q := 0) (i := 0) (x := 5) hC (by decide +kernel) rfl 0 rfl ?_
  refine a_ldcw (pc := 11) (idx := 266) (z := 858993459) (v := 858993459) hC (by decide +kernel) (by decide +kernel) rfl ?_
  refine a_iand (pc := 14) (z := 1) hC (by decide +kernel) (by decide +kernel) ?_
  refine a_iload_n (pc := 15) (q := 0) (i := 0) (x := 5) hC (by decide +kernel) rfl 0 rfl ?_
  refine a_iconst (pc := 16) (c := 2) hC (by decide +kernel) ?_
  refine a_iushr (pc := 17) (z := 1) hC (by decide +kernel) (by decide +kernel) ?_
  refine a_ldcw (pc := 18) (idx := 266) (z := 858993459) (v := 858993459) hC (by decide +kernel) (by decide +kernel) rfl ?_
  refine a_iand (pc := 21) (z := 1) hC (by decide +kernel) (by decide +kernel) ?_
  refine a_iadd (pc := 22) hC (by decide +kernel) ?_
  refine g_top (y := 2) rfl ?_
  refine a_istore_n (pc := 23) (q := 0) (i := 0) (lv' := [(0, vi 2)]) hC (by decide +kernel) rfl (by decide) rfl ?_
  refine a_iload_n (pc := 24) (q := 0) (i := 0) (x := 2) hC (by decide +kernel) rfl 0 rfl ?_
  refine a_iload_n (pc := 25) (q := 0) (i := 0) (x := 2) hC (by decide +kernel) rfl 0 rfl ?_
  refine a_iconst (pc := 26) (c := 4) hC (by decide +kernel) ?_
  refine a_iushr (pc := 27) (z := 0) hC (by decide +kernel) (by decide +kernel) ?_
  refine a_iadd (pc := 28) hC (by decide +kernel) ?_
  refine g_top (y := 2) rfl ?_
  refine a_ldcw (pc := 29) (idx := 267) (z := 252645135) (v := 252645135) hC (by decide +kernel) (by decide +kernel) rfl ?_
  refine a_iand (pc := 32) (z := 2) hC (by decide +kernel) (by decide +kernel) ?_
  refine a_istore_n (pc := 33) (q := 0) (i := 0) (lv' := [(0, vi 2)]) hC (by decide +kernel) rfl (by decide) rfl ?_
  refine a_iload_n (pc := 34) (q := 0) (i := 0) (x := 2) hC (by decide +kernel) rfl 0 rfl ?_
  refine a_iload_n (pc := 35) (q := 0) (i := 0) (x := 2) hC (by decide +kernel) rfl 0 rfl ?_
  refine a_bipush (pc := 36) (c := 8) hC (by decide +kernel) (by decide +kernel) ?_
  refine a_iushr (pc := 38) (z := 0) hC (by decide +kernel) (by decide +kernel) ?_
  refine a_iadd (pc := 39) hC (by decide +kernel) ?_
  refine g_top (y := 2) rfl ?_
  refine a_istore_n (pc := 40) (q := 0) (i := 0) (lv' := [(0, vi 2)]) hC (by decide +kernel) rfl (by decide) rfl ?_
  refine a_iload_n (pc := 41) (q := 0) (i := 0) (x := 2) hC (by decide +kernel) rfl 0 rfl ?_
  refine a_iload_n (pc := 42) (q := 0) (i := 0) (x := 2) hC (by decide +kernel) rfl 0 rfl ?_
  refine a_bipush (pc := 43) (c := 16) hC (by decide +kernel) (by decide +kernel) ?_
  refine a_iushr (pc := 45) (z := 0) hC (by decide +kernel) (by decide +kernel) ?_
  refine a_iadd (pc := 46) hC (by decide +kernel) ?_
  refine g_top (y := 2) rfl ?_
  refine a_istore_n (pc := 47) (q := 0) (i := 0) (lv' := [(0, vi 2)]) hC (by decide +kernel) rfl (by decide) rfl ?_
  refine a_iload_n (pc := 48) (q := 0) (i := 0) (x := 2) hC (by decide +kernel) rfl 0 rfl ?_
  refine a_bipush (pc := 49) (c := 63) hC (by decide +kernel) (by decide +kernel) ?_
  refine a_iand (pc := 51) (z := 2) hC (by decide +kernel) (by decide +kernel) ?_
  exact g_iret (pc := 52) hC hE (by decide +kernel) rfl rfl

set_option maxRecDepth 100000 in
set_option maxHeartbeats 4000000 in
theorem ct_JI_bitCount_6 (l : Launch) (D : va_G) (K : K5) (G : GT)  : Ct l D K y_JI_bitCount c_JI_bitCount 1 (some .int) 0 0 [vi 6] G (some (vi 2)) G := by
  refine Ct.intro (by decide +kernel) (Nat.le_of_ble_eq_true rfl) ?_
  intro X hro hty hC hE
  refine a_iload_n (pc := 0) (q := 0) (i := 0) (x := 6) hC (by decide +kernel) rfl 0 rfl ?_
  refine a_iload_n (pc := 1) (q := 0) (i := 0) (x := 6) hC (by decide +kernel) rfl 0 rfl ?_
  refine a_iconst (pc := 2) (c := 1) hC (by decide +kernel) ?_
  refine a_iushr (pc := 3) (z := 3) hC (by decide +kernel) (by decide +kernel) ?_
  refine a_ldcw (pc := 4) (idx := 265) (z := 1431655765) (v := 1431655765) hC (by decide +kernel) (by decide +kernel) rfl ?_
  refine a_iand (pc := 7) (z := 1) hC (by decide +kernel) (by decide +kernel) ?_
  refine a_isub (pc := 8) hC (by decide +kernel) ?_
  refine g_top (y := 5) rfl ?_
  refine a_istore_n (pc := 9) (q := 0) (i := 0) (lv' := [(0, vi 5)]) hC (by decide +kernel) rfl (by decide) rfl ?_
  refine a_iload_n (pc := 10) (q := 0) (i := 0) (x := 5) hC (by decide +kernel) rfl 0 rfl ?_
  refine a_ldcw (pc := 11) (idx := 266) (z := 858993459) (v := 858993459) hC (by decide +kernel) (by decide +kernel) rfl ?_
  refine a_iand (pc := 14) (z := 1) hC (by decide +kernel) (by decide +kernel) ?_
  refine a_iload_n (pc := 15) (q := 0) (i := 0) (x := 5) hC (by decide +kernel) rfl 0 rfl ?_
  refine a_iconst (pc := 16) (c := 2) hC (by decide +kernel) ?_
  refine a_iushr (pc := 17) (z := 1) hC (by decide +kernel) (by decide +kernel) ?_
  refine a_ldcw (pc := 18) (idx := 266) (z := 858993459) (v := 858993459) hC (by decide +kernel) (by decide +kernel) rfl ?_
  refine a_iand (pc := 21) (z := 1) hC (by decide +kernel) (by decide +kernel) ?_
  refine a_iadd (pc := 22) hC (by decide +kernel) ?_
  refine g_top (y := 2) rfl ?_
  refine a_istore_n (pc := 23) (q := 0) (i := 0) (lv' := [(0, vi 2)]) hC (by decide +kernel) rfl (by decide) rfl ?_
  refine a_iload_n (pc := 24) (q := 0) (i := 0) (x := 2) hC (by decide +kernel) rfl 0 rfl ?_
  refine a_iload_n (pc := 25) (q := 0) (i := 0) (x := 2) hC (by decide +kernel) rfl 0 rfl ?_
  refine a_iconst (pc := 26) (c := 4) hC (by decide +kernel) ?_
  refine a_iushr (pc := 27) (z := 0) hC (by decide +kernel) (by decide +kernel) ?_
  refine a_iadd (pc := 28) hC (by decide +kernel) ?_
  refine g_top (y := 2) rfl ?_
  refine a_ldcw (pc := 29) (idx := 267) (z := 252645135) (v := 252645135) hC (by decide +kernel) (by decide +kernel) rfl ?_
  refine a_iand (pc := 32) (z := 2) hC (by decide +kernel) (by decide +kernel) ?_
  refine a_istore_n (pc := 33) (q := 0) (i := 0) (lv' := [(0, vi 2)]) hC (by decide +kernel) rfl (by decide) rfl ?_
  refine a_iload_n (pc := 34) (q := 0) (i := 0) (x := 2) hC (by decide +kernel) rfl 0 rfl ?_
  refine a_iload_n (pc := 35) (q := 0) (i := 0) (x := 2) hC (by decide +kernel) rfl 0 rfl ?_
  refine a_bipush (pc := 36) (c := 8) hC (by decide +kernel) (by decide +kernel) ?_
  refine a_iushr (pc := 38) (z := 0) hC (by decide +kernel) (by decide +kernel) ?_
  refine a_iadd (pc := 39) hC (by decide +kernel) ?_
  refine g_top (y := 2) rfl ?_
  refine a_istore_n (pc := 40) (q := 0) (i := 0) (lv' := [(0, vi 2)]) hC (by decide +kernel) rfl (by decide) rfl ?_
  refine a_iload_n (pc := 41) (q := 0) (i := 0) (x := 2) hC (by decide +kernel) rfl 0 rfl ?_
  refine a_iload_n (pc := 42) (q := 0) (i := 0) (x := 2) hC (by decide +kernel) rfl 0 rfl ?_
  refine a_bipush (pc := 43) (c := 16) hC (by decide +kernel) (by decide +kernel) ?_
  refine a_iushr (pc := 45) (z := 0) hC (by decide +kernel) (by decide +kernel) ?_
  refine a_iadd (pc := 46) hC (by decide +kernel) ?_
  refine g_top (y := 2) rfl ?_
  refine a_istore_n (pc := 47) (q := 0) (i := 0) (lv' := [(0, vi 2)]) hC (by decide +kernel) rfl (by decide) rfl ?_
  refine a_iload_n (pc := 48) (q := 0) (i := 0) (x := 2) hC (by decide +kernel) rfl 0 rfl ?_
  refine a_bipush (pc := 49) (c := 63) hC (by decide +kernel) (by decide +kernel) ?_
  refine a_iand (pc := 51) (z := 2) hC (by decide +kernel) (by decide +kernel) ?_
  exact g_iret (pc := 52) hC hE (by decide +kernel) rfl rfl

set_option maxRecDepth 100000 in
set_option maxHeartbeats 4000000 in
theorem ct_JI_bitCount_7 (l : Launch) (D : va_G) (K : K5) (G : GT)  : Ct l D K y_JI_bitCount c_JI_bitCount 1 (some .int) 0 0 [vi 7] G (some (vi 3)) G := by
  refine Ct.intro (by decide +kernel) (Nat.le_of_ble_eq_true rfl) ?_
  intro X hro hty hC hE
  refine a_iload_n (pc := 0) (q := 0) (i := 0) (x := 7) hC (by decide +kernel) rfl 0 rfl ?_
  refine a_iload_n (pc := 1) (q := 0) (i := 0) (x := 7) hC (by decide +kernel) rfl 0 rfl ?_
  refine a_iconst (pc := 2) (c := 1) hC (by decide +kernel) ?_
  refine a_iushr (pc := 3) (z := 3) hC (by decide +kernel) (by decide +kernel) ?_
  refine a_ldcw (pc := 4) (idx := 265) (z := 1431655765) (v := 1431655765) hC (by decide +kernel) (by decide +kernel) rfl ?_
  refine a_iand (pc := 7) (z := 1) hC (by decide +kernel) (by decide +kernel) ?_
  refine a_isub (pc := 8) hC (by decide +kernel) ?_
  refine g_top (y := 6) rfl ?_
  refine a_istore_n (pc := 9) (q := 0) (i := 0) (lv' := [(0, vi 6)]) hC (by decide +kernel) rfl (by decide) rfl ?_
  refine a_iload_n (pc := 10) (q := 0) (i := 0) (x := 6) hC (by decide +kernel) rfl 0 rfl ?_
  refine a_ldcw (pc := 11) (idx := 266) (z := 858993459) (v := 858993459) hC (by decide +kernel) (by decide +kernel) rfl ?_
  refine a_iand (pc := 14) (z := 2) hC (by decide +kernel) (by decide +kernel) ?_
  refine a_iload_n (pc := 15) (q := 0) (i := 0) (x := 6) hC (by decide +kernel) rfl 0 rfl ?_
  refine a_iconst (pc := 16) (c := 2) hC (by decide +kernel) ?_
  refine a_iushr (pc := 17) (z := 1) hC (by decide +kernel) (by decide +kernel) ?_
  refine a_ldcw (pc := 18) (idx := 266) (z := 858993459) (v := 858993459) hC (by decide +kernel) (by decide +kernel) rfl ?_
  refine a_iand (pc := 21) (z := 1) hC (by decide +kernel) (by decide +kernel) ?_
  refine a_iadd (pc := 22) hC (by decide +kernel) ?_
  refine g_top (y := 3) rfl ?_
  refine a_istore_n (pc := 23) (q := 0) (i := 0) (lv' := [(0, vi 3)]) hC (by decide +kernel) rfl (by decide) rfl ?_
  refine a_iload_n (pc := 24) (q := 0) (i := 0) (x := 3) hC (by decide +kernel) rfl 0 rfl ?_
  refine a_iload_n (pc := 25) (q := 0) (i := 0) (x := 3) hC (by decide +kernel) rfl 0 rfl ?_
  refine a_iconst (pc := 26) (c := 4) hC (by decide +kernel) ?_
  refine a_iushr (pc := 27) (z := 0) hC (by decide +kernel) (by decide +kernel) ?_
  refine a_iadd (pc := 28) hC (by decide +kernel) ?_
  refine g_top (y := 3) rfl ?_
  refine a_ldcw (pc := 29) (idx := 267) (z := 252645135) (v := 252645135) hC (by decide +kernel) (by decide +kernel) rfl ?_
  refine a_iand (pc := 32) (z := 3) hC (by decide +kernel) (by decide +kernel) ?_
  refine a_istore_n (pc := 33) (q := 0) (i := 0) (lv' := [(0, vi 3)]) hC (by decide +kernel) rfl (by decide) rfl ?_
  refine a_iload_n (pc := 34) (q := 0) (i := 0) (x := 3) hC (by decide +kernel) rfl 0 rfl ?_
  refine a_iload_n (pc := 35) (q := 0) (i := 0) (x := 3) hC (by decide +kernel) rfl 0 rfl ?_
  refine a_bipush (pc := 36) (c := 8) hC (by decide +kernel) (by decide +kernel) ?_
  refine a_iushr (pc := 38) (z := 0) hC (by decide +kernel) (by decide +kernel) ?_
  refine a_iadd (pc := 39) hC (by decide +kernel) ?_
  refine g_top (y := 3) rfl ?_
  refine a_istore_n (pc := 40) (q := 0) (i := 0) (lv' := [(0, vi 3)]) hC (by decide +kernel) rfl (by decide) rfl ?_
  refine a_iload_n (pc := 41) (q := 0) (i := 0) (x := 3) hC (by decide +kernel) rfl 0 rfl ?_
  refine a_iload_n (pc := 42) (q := 0) (i := 0) (x := 3) hC (by decide +kernel) rfl 0 rfl ?_
  refine a_bipush (pc := 43) (c := 16) hC (by decide +kernel) (by decide +kernel) ?_
  refine a_iushr (pc := 45) (z := 0) hC (by decide +kernel) (by decide +kernel) ?_
  refine a_iadd (pc := 46) hC (by decide +kernel) ?_
  refine g_top (y := 3) rfl ?_
  refine a_istore_n (pc := 47) (q := 0) (i := 0) (lv' := [(0, vi 3)]) hC (by decide +kernel) rfl (by decide) rfl ?_
  refine a_iload_n (pc := 48) (q := 0) (i := 0) (x := 3) hC (by decide +kernel) rfl 0 rfl ?_
  refine a_bipush (pc := 49) (c := 63) hC (by decide +kernel) (by decide +kernel) ?_
  refine a_iand (pc := 51) (z := 3) hC (by decide +kernel) (by decide +kernel) ?_
  exact g_iret (pc := 52) hC hE (by decide +kernel) rfl rfl

theorem ct_JI_bitCount (l : Launch) (D : va_G) (K : K5) (G : GT) (x : Nat) (hx : x < 8) : Ct l D K y_JI_bitCount c_JI_bitCount 1 (some .int) 0 0 [vi (x : Int)] G (some (vi (bcZ x))) G := by
  rcases (by omega : x = 0 ∨ x = 1 ∨ x = 2 ∨ x = 3 ∨ x = 4 ∨ x = 5 ∨ x = 6 ∨ x = 7) with rfl | rfl | rfl | rfl | rfl | rfl | rfl | rfl
  · exact ct_JI_bitCount_0 l D K G
  · exact ct_JI_bitCount_1 l D K G
  · exact ct_JI_bitCount_2 l D K G
  · exact ct_JI_bitCount_3 l D K G
  · exact ct_JI_bitCount_4 l D K G
  · exact ct_JI_bitCount_5 l D K G
  · exact ct_JI_bitCount_6 l D K G
  · exact ct_JI_bitCount_7 l D K G
end
section
/-! PlanValues: its public methods -/
def bpS (G : GT) (N : Nat) : Nat → Int
  | 0 => 1
  | s + 1 => bpS G N s * maxZ 1 (bcZ (bbS G N s (G 3 s).toNat).toNat)
theorem bcZ_in (x : Nat) : 0 ≤ bcZ x ∧ bcZ x ≤ 3 := by unfold bcZ; omega
/-- the class's own state: N states, the told and the value plan -/
def VV (G : GT) (N : Nat) : Prop := WW G N ∧ PlOk G 47 N ∧ PlOk G 48 N
theorem abs_in {x A : Int} (h : -A ≤ x ∧ x ≤ A) (hA : A ≤ 9223372036854775807) : inL x ∧ inL (absZ x) := by
  unfold inL absZ
  constructor
  · omega
  · split <;> omega
def stZ (G : GT) (N : Nat) (_ : Int) : Int := if (5 : Int) ≤ N then -4 else (N : Int)

set_option maxRecDepth 100000 in
set_option maxHeartbeats 4000000 in
theorem ct_V_countBestPlans (l : Launch) (D : va_G) (K : K5) (G : GT) (N : Nat) (hm0 : MathOk) (hv : VV G N) : Ct l D K y_V_countBestPlans c_V_countBestPlans 3 (some .int) 6 150 [.ref 0] G (some (vi (bpS (fvG G 48 N) N N))) (fvG G 48 N) := by
  refine Ct.intro (by decide +kernel) (Nat.le_of_ble_eq_true rfl) ?_
  intro X hro hty hC hE
  obtain ⟨hw, hp47, hp48⟩ := id hv
  obtain ⟨hn, hN5, hsh, hac, hpa, hwe, hth⟩ := id hw
  have hf := FolSt.fvG hm0 hw hp48
  have hbo := BstOk.of hf.1 hf.2.2.1 hf.2.2.2
  refine a_aload_n (pc := 0) (q := 0) (i := 0) (x := 0) hC (by decide +kernel) rfl 0 rfl ?_
  refine g_get (pc := 1) (idx := 19) (ci := 5) (v := .ref 22) hC 0 1 (by decide +kernel) rfl rfl rfl rfl wrV (by decide) rfl (by decide +kernel) ?_
  refine a_aload_n (pc := 4) (q := 0) (i := 0) (x := 0) hC (by decide +kernel) rfl 0 rfl ?_
  refine g_get (pc := 5) (idx := 10) (ci := 5) (v := .ref 1) hC 0 0 (by decide +kernel) rfl rfl rfl rfl wrV (by decide) rfl (by decide +kernel) ?_
  refine a_aload_n (pc := 8) (q := 0) (i := 0) (x := 0) hC (by decide +kernel) rfl 0 rfl ?_
  refine g_get (pc := 9) (idx := 45) (ci := 5) (v := .ref 48) hC 0 6 (by decide +kernel) rfl rfl rfl rfl wrV (by decide) rfl (by decide +kernel) ?_
  refine g_callVN0 (pc := 12) (idx := 112) (i := 22) (av := [.ref 1, .ref 48]) (rest := []) (g := fvG G 48 N) (host := "PlanValues") hC hro hty (by decide +kernel) rfl rfl k_P_findValues (by decide +kernel) (by decide +kernel) (by decide +kernel) (ct_P_findValues X.la X.dd K G 48 N hm0 hw hp48) rfl rfl (by decide) (by first | decide | simp [Value.category]) ?_
  refine a_iconst (pc := 15) (c := 1) hC (by decide +kernel) ?_
  refine a_istore_n (pc := 16) (q := 1) (i := 1) (lv' := [(1, vi 1), (0, .ref 0)]) hC (by decide +kernel) rfl (by decide) rfl ?_
  refine a_iconst (pc := 17) (c := 0) hC (by decide +kernel) ?_
  refine a_istore_n (pc := 18) (q := 2) (i := 2) (lv' := [(2, vi 0), (1, vi 1), (0, .ref 0)]) hC (by decide +kernel) rfl (by decide) rfl ?_
  have L19 : ∀ (fuel : Nat) (s : Nat), N - s < fuel → s ≤ N → AW X 3 0 0 19 [(2, vi ((s : Int))), (1, vi (bpS (fvG G 48 N) N s)), (0, .ref 0)] [] (hp K (fvG G 48 N)) := by
    intro fuel
    induction fuel with
    | zero => intro s h; exact absurd h (Nat.not_lt_zero _)
    | succ fuel ih19 =>
      intro s hm hs
      have hfn := hf.1.1
      refine a_iload_n (pc := 19) (q := 2) (i := 2) (x := (s : Int)) hC (by decide +kernel) rfl 0 rfl ?_
      refine a_aload_n (pc := 20) (q := 0) (i := 0) (x := 0) hC (by decide +kernel) rfl 2 rfl ?_
      refine g_get (pc := 21) (idx := 10) (ci := 5) (v := .ref 1) hC 0 0 (by decide +kernel) rfl rfl rfl rfl wrV (by decide) rfl (by decide +kernel) ?_
      refine g_getN (pc := 24) (idx := 67) (ci := 4) (v := vi ((fvG G 48 N) 1 0)) (host := "PlanValues") hC 1 0 (by decide +kernel) rfl rfl rfl rfl wrW (by decide) rfl (by decide +kernel) ?_
      refine a_icmp_ge (pc := 27) (off := 24) hC 51 (by decide +kernel) (by decide) (by unfold inI; omega) (by unfold inI; omega) (fun c27 => ?_) (fun c27 => ?_)
      · skip
        refine a_iload_n (pc := 51) (q := 1) (i := 1) (x := bpS (fvG G 48 N) N s) hC (by decide +kernel) rfl 1 rfl ?_
        exact g_iret (pc := 52) hC hE (by decide +kernel) (by rw [show s = N by omega]) rfl
      · skip
        obtain ⟨A, hA⟩ : ∃ A : Nat, fvG G 48 N 3 s = (A : Int) := ⟨(fvG G 48 N 3 s).toNat, by have := hf.1.2.2.2.1 s (by omega); omega⟩
        have hA3 := hf.1.2.2.2.1 s (by omega)
        have hbi := bbS_in (fvG G 48 N) N s A (by omega)
        obtain ⟨z, hz, hz8⟩ : ∃ z : Nat, bbS (fvG G 48 N) N s A = (z : Int) ∧ z < 8 := ⟨(bbS (fvG G 48 N) N s A).toNat, by omega, by
          have h8 : (2 : Nat) ^ A ≤ 2 ^ 3 := Nat.pow_le_pow_right (by decide) (by omega)
          have : (2 : Nat) ^ 3 = 8 := rfl
          omega⟩
        have hbc := bcZ_in z
        have hst : bpS (fvG G 48 N) N s * maxZ 1 (bcZ z) = bpS (fvG G 48 N) N (s + 1) := by
          show _ = bpS _ _ _ * _; rw [hA, Int.toNat_natCast, hz, Int.toNat_natCast]
        refine a_iload_n (pc := 30) (q := 1) (i := 1) (x := bpS (fvG G 48 N) N s) hC (by decide +kernel) rfl 1 rfl ?_
        refine a_iconst (pc := 31) (c := 1) hC (by decide +kernel) ?_
        refine a_aload_n (pc := 32) (q := 0) (i := 0) (x := 0) hC (by decide +kernel) rfl 2 rfl ?_
        refine a_iload_n (pc := 33) (q := 2) (i := 2) (x := (s : Int)) hC (by decide +kernel) rfl 0 rfl ?_
        refine g_callV (pc := 34) (idx := 137) (i := 0) (av := [vi ((s : Int))]) (rest := [vi 1, vi (bpS (fvG G 48 N) N s)]) (g := fvG G 48 N) (v := vi (bbS (fvG G 48 N) N s A)) hC hro hty (by decide +kernel) rfl rfl k_V_bestBits (by decide +kernel) (by decide +kernel) (by decide +kernel) (ct_V_bestBits X.la X.dd K (fvG G 48 N) N s A (by omega) hA hf.1 hbo) rfl rfl (by decide) (by first | decide | simp [Value.category]) ?_
        refine g_top (y := (z : Int)) hz ?_
        refine g_callS (pc := 37) (idx := 207) (av := [vi ((z : Int))]) (rest := [vi 1, vi (bpS (fvG G 48 N) N s)]) (g := fvG G 48 N) (v := vi (bcZ z)) hC hro hty (by decide +kernel) k_JI_bitCount (by decide +kernel) (by decide +kernel) (ct_JI_bitCount X.la X.dd K (fvG G 48 N) z (by omega)) rfl rfl (by decide) (by first | decide | simp [Value.category]) ?_
        refine g_callS (pc := 40) (idx := 205) (av := [vi 1, vi (bcZ z)]) (rest := [vi (bpS (fvG G 48 N) N s)]) (g := fvG G 48 N) (v := vi (maxZ 1 (bcZ z))) hC hro hty (by decide +kernel) k_JM_max_II (by decide +kernel) (by decide +kernel) (ct_JM_max_II X.la X.dd K (fvG G 48 N) 1 (bcZ z) (by unfold inI; omega) (by unfold inI; omega)) rfl rfl (by decide) (by first | decide | simp [Value.category]) ?_
        refine a_imul (pc := 43) hC (by decide +kernel) ?_
        refine a_istore_n (pc := 44) (q := 1) (i := 1) (lv' := [(1, vi ((bpS (fvG G 48 N) N s) * (maxZ 1 (bcZ z)))), (2, vi ((s : Int))), (0, .ref 0)]) hC (by decide +kernel) rfl (by decide) rfl ?_
        refine a_iinc (pc := 45) (i := 2) (c := 1) (x := (s : Int)) (lv' := [(2, vi (((s : Int)) + 1)), (1, vi ((bpS (fvG G 48 N) N s) * (maxZ 1 (bcZ z)))), (0, .ref 0)]) hC (by decide +kernel) 1 rfl (by decide) rfl ?_
        refine a_goto (pc := 48) (off := -29) hC 19 (by decide +kernel) (by decide) ?_
        refine a_sub (lv' := [(2, vi (((s + 1) : Int))), (1, vi (bpS (fvG G 48 N) N (s + 1))), (0, .ref 0)]) [0, 1, 2] (by rw [← hst]; rfl) ?_
        exact ih19 (s + 1) (by omega) (by omega)
  refine a_sub (lv' := [(2, vi ((0 : Int))), (1, vi (bpS (fvG G 48 N) N 0)), (0, .ref 0)]) [0, 1, 2] rfl ?_
  exact L19 _ 0 (Nat.lt_succ_self _) (by omega)

def clrV (G : GT) : GT := uG (uG (uG (clrG (forgG G) 7 15 5) 47 (fillF (G 47) 5 0)) 48 (fillF (G 48) 5 0)) 0 (up (up (G 0) 8 0) 9 1)
set_option maxRecDepth 100000 in
set_option maxHeartbeats 4000000 in
theorem ct_V_clear (l : Launch) (D : va_G) (K : K5) (G : GT)  : Ct l D K y_V_clear c_V_clear 1 none 2 44 [.ref 0] G none (clrV G) := by
  refine Ct.intro (by decide +kernel) (Nat.le_of_ble_eq_true rfl) ?_
  intro X hro hty hC hE
  refine a_aload_n (pc := 0) (q := 0) (i := 0) (x := 0) hC (by decide +kernel) rfl 0 rfl ?_
  refine g_get (pc := 1) (idx := 10) (ci := 5) (v := .ref 1) hC 0 0 (by decide +kernel) rfl rfl rfl rfl wrV (by decide) rfl (by decide +kernel) ?_
  refine g_callVN0 (pc := 4) (idx := 58) (i := 1) (av := []) (rest := []) (g := clrG (forgG G) 7 15 5) (host := "PlanValues") hC hro hty (by decide +kernel) rfl rfl k_W_forget (by decide +kernel) (by decide +kernel) (by decide +kernel) (ct_W_forget X.la X.dd K G) rfl rfl (by decide) (by first | decide | simp [Value.category]) ?_
  refine a_aload_n (pc := 7) (q := 0) (i := 0) (x := 0) hC (by decide +kernel) rfl 0 rfl ?_
  refine g_get (pc := 8) (idx := 41) (ci := 5) (v := .ref 47) hC 0 5 (by decide +kernel) rfl rfl rfl rfl wrV (by decide) rfl (by decide +kernel) ?_
  refine a_iconst (pc := 11) (c := 0) hC (by decide +kernel) ?_
  refine g_callS0 (pc := 12) (idx := 61) (av := [.ref 47, vi 0]) (rest := []) (g := uG (clrG (forgG G) 7 15 5) 47 (fillF ((clrG (forgG G) 7 15 5) 47) 5 0)) hC hro hty (by decide +kernel) k_JA_fill_AII (by decide +kernel) (by decide +kernel) (ct_JA_fill_AII X.la X.dd K (clrG (forgG G) 7 15 5) 47 5 0 rfl (by decide)) rfl rfl (by decide) (by first | decide | simp [Value.category]) ?_
  refine a_aload_n (pc := 15) (q := 0) (i := 0) (x := 0) hC (by decide +kernel) rfl 0 rfl ?_
  refine g_get (pc := 16) (idx := 45) (ci := 5) (v := .ref 48) hC 0 6 (by decide +kernel) rfl rfl rfl rfl wrV (by decide) rfl (by decide +kernel) ?_
  refine a_iconst (pc := 19) (c := 0) hC (by decide +kernel) ?_
  refine g_callS0 (pc := 20) (idx := 61) (av := [.ref 48, vi 0]) (rest := []) (g := uG (uG (clrG (forgG G) 7 15 5) 47 (fillF ((clrG (forgG G) 7 15 5) 47) 5 0)) 48 (fillF ((uG (clrG (forgG G) 7 15 5) 47 (fillF ((clrG (forgG G) 7 15 5) 47) 5 0)) 48) 5 0)) hC hro hty (by decide +kernel) k_JA_fill_AII (by decide +kernel) (by decide +kernel) (ct_JA_fill_AII X.la X.dd K (uG (clrG (forgG G) 7 15 5) 47 (fillF ((clrG (forgG G) 7 15 5) 47) 5 0)) 48 5 0 rfl (by decide)) rfl rfl (by decide) (by first | decide | simp [Value.category]) ?_
  refine a_aload_n (pc := 23) (q := 0) (i := 0) (x := 0) hC (by decide +kernel) rfl 0 rfl ?_
  refine a_lconst (pc := 24) (c := 0) (z := 0) hC (by decide +kernel) rfl ?_
  refine g_put (pc := 25) (idx := 51) (ci := 5) (x := 0) hC 0 8 (by decide +kernel) rfl rfl (congrArg (fun z => vl z) (up_s _ _ _)) rfl wrV (by decide) rfl (by decide +kernel) rfl (ok_long _) ?_
  refine a_aload_n (pc := 28) (q := 0) (i := 0) (x := 0) hC (by decide +kernel) rfl 0 rfl ?_
  refine a_lconst (pc := 29) (c := 1) (z := 1) hC (by decide +kernel) rfl ?_
  refine g_put (pc := 30) (idx := 55) (ci := 5) (x := 1) hC 0 9 (by decide +kernel) rfl rfl (congrArg (fun z => vl z) (up_s _ _ _)) rfl wrV (by decide) rfl (by decide +kernel) rfl (ok_long _) ?_
  exact g_vret (pc := 33) hC hE (by decide +kernel) (by rw [uG_s, uG_uG]; rfl)

set_option maxRecDepth 100000 in
set_option maxHeartbeats 4000000 in
theorem ct_V_state_full (l : Launch) (D : va_G) (K : K5) (G : GT) (N : Nat) (t : Int) (ht : t = 0 ∨ t = 1) (hv : VV G N) (hfull : N = 5) : Ct l D K y_V_state c_V_state 2 (some .int) 1 22 [.ref 0, vi t] G (some (vi (-4))) G := by
  refine Ct.intro (by decide +kernel) (Nat.le_of_ble_eq_true rfl) ?_
  intro X hro hty hC hE
  obtain ⟨hw, hp47, hp48⟩ := id hv
  obtain ⟨hn, hN5, hsh, hac, hpa, hwe, hth⟩ := id hw
  refine a_aload_n (pc := 0) (q := 0) (i := 0) (x := 0) hC (by decide +kernel) rfl 0 rfl ?_
  refine g_get (pc := 1) (idx := 10) (ci := 5) (v := .ref 1) hC 0 0 (by decide +kernel) rfl rfl rfl rfl wrV (by decide) rfl (by decide +kernel) ?_
  refine g_getN (pc := 4) (idx := 67) (ci := 4) (v := vi (G 1 0)) (host := "PlanValues") hC 1 0 (by decide +kernel) rfl rfl rfl rfl wrW (by decide) rfl (by decide +kernel) ?_
  refine a_iconst (pc := 7) (c := 5) hC (by decide +kernel) ?_
  refine a_icmp_lt (pc := 8) (off := 6) hC 14 (by decide +kernel) (by decide) (by unfold inI; omega) (by unfold inI; omega) (fun c8 => ?_) (fun c8 => ?_)
  · skip
    exact absurd c8 (by omega)
  · skip
    refine a_bipush (pc := 11) (c := -4) hC (by decide +kernel) (by decide +kernel) ?_
    exact g_iret (pc := 13) hC hE (by decide +kernel) rfl rfl

set_option maxRecDepth 100000 in
set_option maxHeartbeats 4000000 in
theorem ct_V_state (l : Launch) (D : va_G) (K : K5) (G : GT) (N : Nat) (t : Int) (ht : t = 0 ∨ t = 1) (hv : VV G N) (hfull : N < 5) : Ct l D K y_V_state c_V_state 2 (some .int) 1 22 [.ref 0, vi t] G (some (vi ((N : Int)))) (uG (uG G 2 (up (G 2) N t)) 1 (up (G 1) 0 (G 1 0 + 1))) := by
  refine Ct.intro (by decide +kernel) (Nat.le_of_ble_eq_true rfl) ?_
  intro X hro hty hC hE
  obtain ⟨hw, hp47, hp48⟩ := id hv
  obtain ⟨hn, hN5, hsh, hac, hpa, hwe, hth⟩ := id hw
  refine a_aload_n (pc := 0) (q := 0) (i := 0) (x := 0) hC (by decide +kernel) rfl 0 rfl ?_
  refine g_get (pc := 1) (idx := 10) (ci := 5) (v := .ref 1) hC 0 0 (by decide +kernel) rfl rfl rfl rfl wrV (by decide) rfl (by decide +kernel) ?_
  refine g_getN (pc := 4) (idx := 67) (ci := 4) (v := vi (G 1 0)) (host := "PlanValues") hC 1 0 (by decide +kernel) rfl rfl rfl rfl wrW (by decide) rfl (by decide +kernel) ?_
  refine a_iconst (pc := 7) (c := 5) hC (by decide +kernel) ?_
  refine a_icmp_lt (pc := 8) (off := 6) hC 14 (by decide +kernel) (by decide) (by unfold inI; omega) (by unfold inI; omega) (fun c8 => ?_) (fun c8 => ?_)
  · skip
    refine a_aload_n (pc := 14) (q := 0) (i := 0) (x := 0) hC (by decide +kernel) rfl 0 rfl ?_
    refine g_get (pc := 15) (idx := 10) (ci := 5) (v := .ref 1) hC 0 0 (by decide +kernel) rfl rfl rfl rfl wrV (by decide) rfl (by decide +kernel) ?_
    refine a_iload_n (pc := 18) (q := 1) (i := 1) (x := t) hC (by decide +kernel) rfl 1 rfl ?_
    refine g_callVN (pc := 19) (idx := 71) (i := 1) (av := [vi t]) (rest := []) (g := uG (uG G 2 (up (G 2) N t)) 1 (up (G 1) 0 (G 1 0 + 1))) (v := vi ((N : Int))) (host := "PlanValues") hC hro hty (by decide +kernel) rfl rfl k_W_addState (by decide +kernel) (by decide +kernel) (by decide +kernel) (ct_W_addState X.la X.dd K G N t ht hw (by omega)) rfl rfl (by decide) (by first | decide | simp [Value.category]) ?_
    exact g_iret (pc := 22) hC hE (by decide +kernel) rfl rfl
  · skip
    exact absurd c8 (by omega)

set_option maxRecDepth 100000 in
set_option maxHeartbeats 4000000 in
theorem ct_V_act_no (l : Launch) (D : va_G) (K : K5) (G : GT) (N : Nat) (s : Int) (p : Int) (hsi : inI s) (hv : VV G N) (hno : hasS G s = 0) : Ct l D K y_V_act c_V_act 3 (some .int) 2 44 [.ref 0, vi s, vi p] G (some (vi (-1))) G := by
  refine Ct.intro (by decide +kernel) (Nat.le_of_ble_eq_true rfl) ?_
  intro X hro hty hC hE
  obtain ⟨hw, hp47, hp48⟩ := id hv
  obtain ⟨hn, hN5, hsh, hac, hpa, hwe, hth⟩ := id hw
  refine a_aload_n (pc := 0) (q := 0) (i := 0) (x := 0) hC (by decide +kernel) rfl 0 rfl ?_
  refine g_get (pc := 1) (idx := 10) (ci := 5) (v := .ref 1) hC 0 0 (by decide +kernel) rfl rfl rfl rfl wrV (by decide) rfl (by decide +kernel) ?_
  refine a_iload_n (pc := 4) (q := 1) (i := 1) (x := s) hC (by decide +kernel) rfl 1 rfl ?_
  refine g_callVN (pc := 5) (idx := 75) (i := 1) (av := [vi s]) (rest := []) (g := G) (v := vi (hasS G s)) (host := "PlanValues") hC hro hty (by decide +kernel) rfl rfl k_W_hasState (by decide +kernel) (by decide +kernel) (by decide +kernel) (ct_W_hasState X.la X.dd K G N s hsi hw) rfl rfl (by decide) (by first | decide | simp [Value.category]) ?_
  refine a_if_ne (pc := 8) (off := 5) hC 13 (by decide +kernel) (by decide) (by unfold inI; omega) (fun c8 => ?_) (fun c8 => ?_)
  · skip
    exact absurd hno c8
  · skip
    refine a_iconst (pc := 11) (c := -1) hC (by decide +kernel) ?_
    exact g_iret (pc := 12) hC hE (by decide +kernel) rfl rfl

set_option maxRecDepth 100000 in
set_option maxHeartbeats 4000000 in
theorem ct_V_act_pay (l : Launch) (D : va_G) (K : K5) (G : GT) (N s : Nat) (p : Int) (hs : s < N) (hpi : inI p) (hv : VV G N) (hbad : payZ p = 0) : Ct l D K y_V_act c_V_act 3 (some .int) 2 44 [.ref 0, vi ((s : Int)), vi p] G (some (vi (-2))) G := by
  refine Ct.intro (by decide +kernel) (Nat.le_of_ble_eq_true rfl) ?_
  intro X hro hty hC hE
  obtain ⟨hw, hp47, hp48⟩ := id hv
  obtain ⟨hn, hN5, hsh, hac, hpa, hwe, hth⟩ := id hw
  refine a_aload_n (pc := 0) (q := 0) (i := 0) (x := 0) hC (by decide +kernel) rfl 0 rfl ?_
  refine g_get (pc := 1) (idx := 10) (ci := 5) (v := .ref 1) hC 0 0 (by decide +kernel) rfl rfl rfl rfl wrV (by decide) rfl (by decide +kernel) ?_
  refine a_iload_n (pc := 4) (q := 1) (i := 1) (x := (s : Int)) hC (by decide +kernel) rfl 1 rfl ?_
  refine g_callVN (pc := 5) (idx := 75) (i := 1) (av := [vi ((s : Int))]) (rest := []) (g := G) (v := vi (hasS G ((s : Int)))) (host := "PlanValues") hC hro hty (by decide +kernel) rfl rfl k_W_hasState (by decide +kernel) (by decide +kernel) (by decide +kernel) (ct_W_hasState X.la X.dd K G N ((s : Int)) (by unfold inI; omega) hw) rfl rfl (by decide) (by first | decide | simp [Value.category]) ?_
  refine a_if_ne (pc := 8) (off := 5) hC 13 (by decide +kernel) (by decide) (by unfold inI hasS; split <;> omega) (fun c8 => ?_) (fun c8 => ?_)
  · skip
    refine a_iload_n (pc := 13) (q := 2) (i := 2) (x := p) hC (by decide +kernel) rfl 2 rfl ?_
    refine g_callS (pc := 14) (idx := 79) (av := [vi p]) (rest := []) (g := G) (v := vi (payZ p)) hC hro hty (by decide +kernel) k_V_isPay (by decide +kernel) (by decide +kernel) (ct_V_isPay X.la X.dd K G p hpi) rfl rfl (by decide) (by first | decide | simp [Value.category]) ?_
    refine a_if_ne (pc := 17) (off := 6) hC 23 (by decide +kernel) (by decide) (by unfold inI payZ; split <;> omega) (fun c17 => ?_) (fun c17 => ?_)
    · skip
      exact absurd hbad c17
    · skip
      refine a_bipush (pc := 20) (c := -2) hC (by decide +kernel) (by decide +kernel) ?_
      exact g_iret (pc := 22) hC hE (by decide +kernel) rfl rfl
  · skip
    exact absurd c8 (by unfold hasS; rw [if_pos (by omega)]; decide)

set_option maxRecDepth 100000 in
set_option maxHeartbeats 4000000 in
theorem ct_V_act_full (l : Launch) (D : va_G) (K : K5) (G : GT) (N s : Nat) (p : Int) (hs : s < N) (hpi : inI p) (hv : VV G N) (hok : ¬ payZ p = 0) (hfull : G 3 s = 3) : Ct l D K y_V_act c_V_act 3 (some .int) 2 44 [.ref 0, vi ((s : Int)), vi p] G (some (vi (-4))) G := by
  refine Ct.intro (by decide +kernel) (Nat.le_of_ble_eq_true rfl) ?_
  intro X hro hty hC hE
  obtain ⟨hw, hp47, hp48⟩ := id hv
  obtain ⟨hn, hN5, hsh, hac, hpa, hwe, hth⟩ := id hw
  refine a_aload_n (pc := 0) (q := 0) (i := 0) (x := 0) hC (by decide +kernel) rfl 0 rfl ?_
  refine g_get (pc := 1) (idx := 10) (ci := 5) (v := .ref 1) hC 0 0 (by decide +kernel) rfl rfl rfl rfl wrV (by decide) rfl (by decide +kernel) ?_
  refine a_iload_n (pc := 4) (q := 1) (i := 1) (x := (s : Int)) hC (by decide +kernel) rfl 1 rfl ?_
  refine g_callVN (pc := 5) (idx := 75) (i := 1) (av := [vi ((s : Int))]) (rest := []) (g := G) (v := vi (hasS G ((s : Int)))) (host := "PlanValues") hC hro hty (by decide +kernel) rfl rfl k_W_hasState (by decide +kernel) (by decide +kernel) (by decide +kernel) (ct_W_hasState X.la X.dd K G N ((s : Int)) (by unfold inI; omega) hw) rfl rfl (by decide) (by first | decide | simp [Value.category]) ?_
  refine a_if_ne (pc := 8) (off := 5) hC 13 (by decide +kernel) (by decide) (by unfold inI hasS; split <;> omega) (fun c8 => ?_) (fun c8 => ?_)
  · skip
    refine a_iload_n (pc := 13) (q := 2) (i := 2) (x := p) hC (by decide +kernel) rfl 2 rfl ?_
    refine g_callS (pc := 14) (idx := 79) (av := [vi p]) (rest := []) (g := G) (v := vi (payZ p)) hC hro hty (by decide +kernel) k_V_isPay (by decide +kernel) (by decide +kernel) (ct_V_isPay X.la X.dd K G p hpi) rfl rfl (by decide) (by first | decide | simp [Value.category]) ?_
    refine a_if_ne (pc := 17) (off := 6) hC 23 (by decide +kernel) (by decide) (by unfold inI payZ; split <;> omega) (fun c17 => ?_) (fun c17 => ?_)
    · skip
      refine a_aload_n (pc := 23) (q := 0) (i := 0) (x := 0) hC (by decide +kernel) rfl 0 rfl ?_
      refine g_get (pc := 24) (idx := 10) (ci := 5) (v := .ref 1) hC 0 0 (by decide +kernel) rfl rfl rfl rfl wrV (by decide) rfl (by decide +kernel) ?_
      refine g_getN (pc := 27) (idx := 82) (ci := 4) (v := .ref 3) (host := "PlanValues") hC 1 4 (by decide +kernel) rfl rfl rfl rfl wrW (by decide) rfl (by decide +kernel) ?_
      refine a_iload_n (pc := 30) (q := 1) (i := 1) (x := (s : Int)) hC (by decide +kernel) rfl 1 rfl ?_
      refine g_iald (pc := 31) (a := 3) (j := s) hC hty (by decide +kernel) rfl (by omega) (by first | decide | omega) ?_
      refine a_iconst (pc := 32) (c := 3) hC (by decide +kernel) ?_
      refine a_icmp_lt (pc := 33) (off := 6) hC 39 (by decide +kernel) (by decide) (by unfold inI; omega) (by unfold inI; omega) (fun c33 => ?_) (fun c33 => ?_)
      · skip
        exact absurd c33 (by omega)
      · skip
        refine a_bipush (pc := 36) (c := -4) hC (by decide +kernel) (by decide +kernel) ?_
        exact g_iret (pc := 38) hC hE (by decide +kernel) rfl rfl
    · skip
      exact absurd c17 hok
  · skip
    exact absurd c8 (by unfold hasS; rw [if_pos (by omega)]; decide)

set_option maxRecDepth 100000 in
set_option maxHeartbeats 4000000 in
theorem ct_V_act (l : Launch) (D : va_G) (K : K5) (G : GT) (N s A : Nat) (p : Int) (hs : s < N) (hpi : inI p) (hv : VV G N) (hok : ¬ payZ p = 0) (hA : G 3 s = (A : Int)) (hA3 : A < 3) : Ct l D K y_V_act c_V_act 3 (some .int) 2 44 [.ref 0, vi ((s : Int)), vi p] G (some (vi ((A : Int)))) (uG (uG G 4 (up (G 4) (s * 3 + A) p)) 3 (up (G 3) s (G 3 s + 1))) := by
  refine Ct.intro (by decide +kernel) (Nat.le_of_ble_eq_true rfl) ?_
  intro X hro hty hC hE
  obtain ⟨hw, hp47, hp48⟩ := id hv
  obtain ⟨hn, hN5, hsh, hac, hpa, hwe, hth⟩ := id hw
  refine a_aload_n (pc := 0) (q := 0) (i := 0) (x := 0) hC (by decide +kernel) rfl 0 rfl ?_
  refine g_get (pc := 1) (idx := 10) (ci := 5) (v := .ref 1) hC 0 0 (by decide +kernel) rfl rfl rfl rfl wrV (by decide) rfl (by decide +kernel) ?_
  refine a_iload_n (pc := 4) (q := 1) (i := 1) (x := (s : Int)) hC (by decide +kernel) rfl 1 rfl ?_
  refine g_callVN (pc := 5) (idx := 75) (i := 1) (av := [vi ((s : Int))]) (rest := []) (g := G) (v := vi (hasS G ((s : Int)))) (host := "PlanValues") hC hro hty (by decide +kernel) rfl rfl k_W_hasState (by decide +kernel) (by decide +kernel) (by decide +kernel) (ct_W_hasState X.la X.dd K G N ((s : Int)) (by unfold inI; omega) hw) rfl rfl (by decide) (by first | decide | simp [Value.category]) ?_
  refine a_if_ne (pc := 8) (off := 5) hC 13 (by decide +kernel) (by decide) (by unfold inI hasS; split <;> omega) (fun c8 => ?_) (fun c8 => ?_)
  · skip
    refine a_iload_n (pc := 13) (q := 2) (i := 2) (x := p) hC (by decide +kernel) rfl 2 rfl ?_
    refine g_callS (pc := 14) (idx := 79) (av := [vi p]) (rest := []) (g := G) (v := vi (payZ p)) hC hro hty (by decide +kernel) k_V_isPay (by decide +kernel) (by decide +kernel) (ct_V_isPay X.la X.dd K G p hpi) rfl rfl (by decide) (by first | decide | simp [Value.category]) ?_
    refine a_if_ne (pc := 17) (off := 6) hC 23 (by decide +kernel) (by decide) (by unfold inI payZ; split <;> omega) (fun c17 => ?_) (fun c17 => ?_)
    · skip
      refine a_aload_n (pc := 23) (q := 0) (i := 0) (x := 0) hC (by decide +kernel) rfl 0 rfl ?_
      refine g_get (pc := 24) (idx := 10) (ci := 5) (v := .ref 1) hC 0 0 (by decide +kernel) rfl rfl rfl rfl wrV (by decide) rfl (by decide +kernel) ?_
      refine g_getN (pc := 27) (idx := 82) (ci := 4) (v := .ref 3) (host := "PlanValues") hC 1 4 (by decide +kernel) rfl rfl rfl rfl wrW (by decide) rfl (by decide +kernel) ?_
      refine a_iload_n (pc := 30) (q := 1) (i := 1) (x := (s : Int)) hC (by decide +kernel) rfl 1 rfl ?_
      refine g_iald (pc := 31) (a := 3) (j := s) hC hty (by decide +kernel) rfl (by omega) (by first | decide | omega) ?_
      refine a_iconst (pc := 32) (c := 3) hC (by decide +kernel) ?_
      refine a_icmp_lt (pc := 33) (off := 6) hC 39 (by decide +kernel) (by decide) (by unfold inI; omega) (by unfold inI; omega) (fun c33 => ?_) (fun c33 => ?_)
      · skip
        refine a_aload_n (pc := 39) (q := 0) (i := 0) (x := 0) hC (by decide +kernel) rfl 0 rfl ?_
        refine g_get (pc := 40) (idx := 10) (ci := 5) (v := .ref 1) hC 0 0 (by decide +kernel) rfl rfl rfl rfl wrV (by decide) rfl (by decide +kernel) ?_
        refine a_iload_n (pc := 43) (q := 1) (i := 1) (x := (s : Int)) hC (by decide +kernel) rfl 1 rfl ?_
        refine a_iload_n (pc := 44) (q := 2) (i := 2) (x := p) hC (by decide +kernel) rfl 2 rfl ?_
        refine g_callVN (pc := 45) (idx := 85) (i := 1) (av := [vi ((s : Int)), vi p]) (rest := []) (g := uG (uG G 4 (up (G 4) (s * 3 + A) p)) 3 (up (G 3) s (G 3 s + 1))) (v := vi ((A : Int))) (host := "PlanValues") hC hro hty (by decide +kernel) rfl rfl k_W_addAct (by decide +kernel) (by decide +kernel) (by decide +kernel) (ct_W_addAct X.la X.dd K G N s A p (by omega) hA (by omega)) rfl rfl (by decide) (by first | decide | simp [Value.category]) ?_
        exact g_iret (pc := 48) hC hE (by decide +kernel) rfl rfl
      · skip
        exact absurd c33 (by omega)
    · skip
      exact absurd c17 hok
  · skip
    exact absurd c8 (by unfold hasS; rw [if_pos (by omega)]; decide)

set_option maxRecDepth 100000 in
set_option maxHeartbeats 4000000 in
theorem ct_V_pay_no (l : Launch) (D : va_G) (K : K5) (G : GT) (N : Nat) (s a : Int) (p : Int) (hsi : inI s) (hai : inI a) (hv : VV G N) (hno : hasA G s a = 0) : Ct l D K y_V_pay c_V_pay 6 (some .int) 2 43 [.ref 0, vi s, vi a, vi p] G (some (vi (-1))) G := by
  refine Ct.intro (by decide +kernel) (Nat.le_of_ble_eq_true rfl) ?_
  intro X hro hty hC hE
  obtain ⟨hw, hp47, hp48⟩ := id hv
  obtain ⟨hn, hN5, hsh, hac, hpa, hwe, hth⟩ := id hw
  refine a_aload_n (pc := 0) (q := 0) (i := 0) (x := 0) hC (by decide +kernel) rfl 0 rfl ?_
  refine g_get (pc := 1) (idx := 10) (ci := 5) (v := .ref 1) hC 0 0 (by decide +kernel) rfl rfl rfl rfl wrV (by decide) rfl (by decide +kernel) ?_
  refine a_iload_n (pc := 4) (q := 1) (i := 1) (x := s) hC (by decide +kernel) rfl 1 rfl ?_
  refine a_iload_n (pc := 5) (q := 2) (i := 2) (x := a) hC (by decide +kernel) rfl 2 rfl ?_
  refine g_callVN (pc := 6) (idx := 89) (i := 1) (av := [vi s, vi a]) (rest := []) (g := G) (v := vi (hasA G s a)) (host := "PlanValues") hC hro hty (by decide +kernel) rfl rfl k_W_hasAct (by decide +kernel) (by decide +kernel) (by decide +kernel) (ct_W_hasAct X.la X.dd K G N s a hsi hai hw) rfl rfl (by decide) (by first | decide | simp [Value.category]) ?_
  refine a_if_ne (pc := 9) (off := 5) hC 14 (by decide +kernel) (by decide) (by unfold inI; omega) (fun c9 => ?_) (fun c9 => ?_)
  · skip
    exact absurd hno c9
  · skip
    refine a_iconst (pc := 12) (c := -1) hC (by decide +kernel) ?_
    exact g_iret (pc := 13) hC hE (by decide +kernel) rfl rfl

set_option maxRecDepth 100000 in
set_option maxHeartbeats 4000000 in
theorem ct_V_pay_bad (l : Launch) (D : va_G) (K : K5) (G : GT) (N s a : Nat) (p : Int) (hs : s < N) (ha : (a : Int) < G 3 s) (hpi : inI p) (hv : VV G N) (hbad : payZ p = 0) : Ct l D K y_V_pay c_V_pay 6 (some .int) 2 43 [.ref 0, vi ((s : Int)), vi ((a : Int)), vi p] G (some (vi (-2))) G := by
  refine Ct.intro (by decide +kernel) (Nat.le_of_ble_eq_true rfl) ?_
  intro X hro hty hC hE
  obtain ⟨hw, hp47, hp48⟩ := id hv
  obtain ⟨hn, hN5, hsh, hac, hpa, hwe, hth⟩ := id hw
  have ha3 := hac s (by omega)
  have ha2 : a < 3 := by omega
  refine a_aload_n (pc := 0) (q := 0) (i := 0) (x := 0) hC (by decide +kernel) rfl 0 rfl ?_
  refine g_get (pc := 1) (idx := 10) (ci := 5) (v := .ref 1) hC 0 0 (by decide +kernel) rfl rfl rfl rfl wrV (by decide) rfl (by decide +kernel) ?_
  refine a_iload_n (pc := 4) (q := 1) (i := 1) (x := (s : Int)) hC (by decide +kernel) rfl 1 rfl ?_
  refine a_iload_n (pc := 5) (q := 2) (i := 2) (x := (a : Int)) hC (by decide +kernel) rfl 2 rfl ?_
  refine g_callVN (pc := 6) (idx := 89) (i := 1) (av := [vi ((s : Int)), vi ((a : Int))]) (rest := []) (g := G) (v := vi (hasA G ((s : Int)) ((a : Int)))) (host := "PlanValues") hC hro hty (by decide +kernel) rfl rfl k_W_hasAct (by decide +kernel) (by decide +kernel) (by decide +kernel) (ct_W_hasAct X.la X.dd K G N ((s : Int)) ((a : Int)) (by unfold inI; omega) (by unfold inI; omega) hw) rfl rfl (by decide) (by first | decide | simp [Value.category]) ?_
  refine a_if_ne (pc := 9) (off := 5) hC 14 (by decide +kernel) (by decide) (by unfold inI hasA; split <;> omega) (fun c9 => ?_) (fun c9 => ?_)
  · skip
    refine a_iload_n (pc := 14) (q := 3) (i := 3) (x := p) hC (by decide +kernel) rfl 3 rfl ?_
    refine g_callS (pc := 15) (idx := 79) (av := [vi p]) (rest := []) (g := G) (v := vi (payZ p)) hC hro hty (by decide +kernel) k_V_isPay (by decide +kernel) (by decide +kernel) (ct_V_isPay X.la X.dd K G p hpi) rfl rfl (by decide) (by first | decide | simp [Value.category]) ?_
    refine a_if_ne (pc := 18) (off := 6) hC 24 (by decide +kernel) (by decide) (by unfold inI payZ; split <;> omega) (fun c18 => ?_) (fun c18 => ?_)
    · skip
      exact absurd hbad c18
    · skip
      refine a_bipush (pc := 21) (c := -2) hC (by decide +kernel) (by decide +kernel) ?_
      exact g_iret (pc := 23) hC hE (by decide +kernel) rfl rfl
  · skip
    exact absurd c9 (by unfold hasA; rw [if_pos (by rw [Int.toNat_natCast]; omega)]; decide)

set_option maxRecDepth 100000 in
set_option maxHeartbeats 4000000 in
theorem ct_V_pay (l : Launch) (D : va_G) (K : K5) (G : GT) (N s a : Nat) (p : Int) (hs : s < N) (ha : (a : Int) < G 3 s) (hpi : inI p) (hv : VV G N) (hok : ¬ payZ p = 0) : Ct l D K y_V_pay c_V_pay 6 (some .int) 2 43 [.ref 0, vi ((s : Int)), vi ((a : Int)), vi p] G (some (vi (G 4 (s * 3 + a) + 50))) (uG G 4 (up (G 4) (s * 3 + a) p)) := by
  refine Ct.intro (by decide +kernel) (Nat.le_of_ble_eq_true rfl) ?_
  intro X hro hty hC hE
  obtain ⟨hw, hp47, hp48⟩ := id hv
  obtain ⟨hn, hN5, hsh, hac, hpa, hwe, hth⟩ := id hw
  have ha3 := hac s (by omega)
  have ha2 : a < 3 := by omega
  refine a_aload_n (pc := 0) (q := 0) (i := 0) (x := 0) hC (by decide +kernel) rfl 0 rfl ?_
  refine g_get (pc := 1) (idx := 10) (ci := 5) (v := .ref 1) hC 0 0 (by decide +kernel) rfl rfl rfl rfl wrV (by decide) rfl (by decide +kernel) ?_
  refine a_iload_n (pc := 4) (q := 1) (i := 1) (x := (s : Int)) hC (by decide +kernel) rfl 1 rfl ?_
  refine a_iload_n (pc := 5) (q := 2) (i := 2) (x := (a : Int)) hC (by decide +kernel) rfl 2 rfl ?_
  refine g_callVN (pc := 6) (idx := 89) (i := 1) (av := [vi ((s : Int)), vi ((a : Int))]) (rest := []) (g := G) (v := vi (hasA G ((s : Int)) ((a : Int)))) (host := "PlanValues") hC hro hty (by decide +kernel) rfl rfl k_W_hasAct (by decide +kernel) (by decide +kernel) (by decide +kernel) (ct_W_hasAct X.la X.dd K G N ((s : Int)) ((a : Int)) (by unfold inI; omega) (by unfold inI; omega) hw) rfl rfl (by decide) (by first | decide | simp [Value.category]) ?_
  refine a_if_ne (pc := 9) (off := 5) hC 14 (by decide +kernel) (by decide) (by unfold inI hasA; split <;> omega) (fun c9 => ?_) (fun c9 => ?_)
  · skip
    refine a_iload_n (pc := 14) (q := 3) (i := 3) (x := p) hC (by decide +kernel) rfl 3 rfl ?_
    refine g_callS (pc := 15) (idx := 79) (av := [vi p]) (rest := []) (g := G) (v := vi (payZ p)) hC hro hty (by decide +kernel) k_V_isPay (by decide +kernel) (by decide +kernel) (ct_V_isPay X.la X.dd K G p hpi) rfl rfl (by decide) (by first | decide | simp [Value.category]) ?_
    refine a_if_ne (pc := 18) (off := 6) hC 24 (by decide +kernel) (by decide) (by unfold inI payZ; split <;> omega) (fun c18 => ?_) (fun c18 => ?_)
    · skip
      refine a_iload_n (pc := 24) (q := 1) (i := 1) (x := (s : Int)) hC (by decide +kernel) rfl 1 rfl ?_
      refine a_iload_n (pc := 25) (q := 2) (i := 2) (x := (a : Int)) hC (by decide +kernel) rfl 2 rfl ?_
      refine g_callSN (pc := 26) (idx := 93) (av := [vi ((s : Int)), vi ((a : Int))]) (rest := []) (g := G) (v := vi (((s : Int)) * 3 + ((a : Int)))) (host := "PlanValues") hC hro hty (by decide +kernel) k_W_slotOf (by decide +kernel) (by decide +kernel) (ct_W_slotOf X.la X.dd K G ((s : Int)) ((a : Int))) rfl rfl (by decide) (by first | decide | simp [Value.category]) ?_
      refine g_top (y := ((s * 3 + a : Nat) : Int)) (by omega) ?_
      refine a_istore (pc := 29) (q := 0) (i := 4) (lv' := [(4, vi (((s * 3 + a : Nat) : Int))), (0, .ref 0), (1, vi ((s : Int))), (2, vi ((a : Int))), (3, vi p)]) hC (by decide +kernel) (by decide) rfl ?_
      refine a_aload_n (pc := 31) (q := 0) (i := 0) (x := 0) hC (by decide +kernel) rfl 1 rfl ?_
      refine g_get (pc := 32) (idx := 10) (ci := 5) (v := .ref 1) hC 0 0 (by decide +kernel) rfl rfl rfl rfl wrV (by decide) rfl (by decide +kernel) ?_
      refine g_getN (pc := 35) (idx := 103) (ci := 4) (v := .ref 4) (host := "PlanValues") hC 1 5 (by decide +kernel) rfl rfl rfl rfl wrW (by decide) rfl (by decide +kernel) ?_
      refine a_iload (pc := 38) (i := 4) (x := ((s * 3 + a : Nat) : Int)) hC (by decide +kernel) 0 rfl ?_
      refine g_iald (pc := 40) (a := 4) (j := s * 3 + a) hC hty (by decide +kernel) rfl (by omega) (by first | decide | omega) ?_
      refine a_istore (pc := 41) (q := 0) (i := 5) (lv' := [(5, vi (G 4 (s * 3 + a))), (4, vi (((s * 3 + a : Nat) : Int))), (0, .ref 0), (1, vi ((s : Int))), (2, vi ((a : Int))), (3, vi p)]) hC (by decide +kernel) (by decide) rfl ?_
      refine a_aload_n (pc := 43) (q := 0) (i := 0) (x := 0) hC (by decide +kernel) rfl 2 rfl ?_
      refine g_get (pc := 44) (idx := 10) (ci := 5) (v := .ref 1) hC 0 0 (by decide +kernel) rfl rfl rfl rfl wrV (by decide) rfl (by decide +kernel) ?_
      refine g_getN (pc := 47) (idx := 103) (ci := 4) (v := .ref 4) (host := "PlanValues") hC 1 5 (by decide +kernel) rfl rfl rfl rfl wrW (by decide) rfl (by decide +kernel) ?_
      refine a_iload (pc := 50) (i := 4) (x := ((s * 3 + a : Nat) : Int)) hC (by decide +kernel) 1 rfl ?_
      refine a_iload_n (pc := 52) (q := 3) (i := 3) (x := p) hC (by decide +kernel) rfl 5 rfl ?_
      refine g_iast (pc := 53) (a := 4) (j := s * 3 + a) (x := p) hC hty (by decide +kernel) rfl (by omega) (by first | decide | omega) ?_
      refine a_iload (pc := 54) (i := 5) (x := G 4 (s * 3 + a)) hC (by decide +kernel) 0 rfl ?_
      refine a_bipush (pc := 56) (c := 50) hC (by decide +kernel) (by decide +kernel) ?_
      refine a_iadd (pc := 58) hC (by decide +kernel) ?_
      exact g_iret (pc := 59) hC hE (by decide +kernel) rfl rfl
    · skip
      exact absurd c18 hok
  · skip
    exact absurd c9 (by unfold hasA; rw [if_pos (by rw [Int.toNat_natCast]; omega)]; decide)

set_option maxRecDepth 100000 in
set_option maxHeartbeats 4000000 in
theorem ct_V_tell_no (l : Launch) (D : va_G) (K : K5) (G : GT) (N : Nat) (s a : Int)  (hsi : inI s) (hai : inI a) (hv : VV G N) (hno : hasA G s a = 0) : Ct l D K y_V_tell c_V_tell 4 (some .int) 2 43 [.ref 0, vi s, vi a] G (some (vi (-1))) G := by
  refine Ct.intro (by decide +kernel) (Nat.le_of_ble_eq_true rfl) ?_
  intro X hro hty hC hE
  obtain ⟨hw, hp47, hp48⟩ := id hv
  obtain ⟨hn, hN5, hsh, hac, hpa, hwe, hth⟩ := id hw
  refine a_aload_n (pc := 0) (q := 0) (i := 0) (x := 0) hC (by decide +kernel) rfl 0 rfl ?_
  refine g_get (pc := 1) (idx := 10) (ci := 5) (v := .ref 1) hC 0 0 (by decide +kernel) rfl rfl rfl rfl wrV (by decide) rfl (by decide +kernel) ?_
  refine a_iload_n (pc := 4) (q := 1) (i := 1) (x := s) hC (by decide +kernel) rfl 1 rfl ?_
  refine a_iload_n (pc := 5) (q := 2) (i := 2) (x := a) hC (by decide +kernel) rfl 2 rfl ?_
  refine g_callVN (pc := 6) (idx := 89) (i := 1) (av := [vi s, vi a]) (rest := []) (g := G) (v := vi (hasA G s a)) (host := "PlanValues") hC hro hty (by decide +kernel) rfl rfl k_W_hasAct (by decide +kernel) (by decide +kernel) (by decide +kernel) (ct_W_hasAct X.la X.dd K G N s a hsi hai hw) rfl rfl (by decide) (by first | decide | simp [Value.category]) ?_
  refine a_if_ne (pc := 9) (off := 5) hC 14 (by decide +kernel) (by decide) (by unfold inI; omega) (fun c9 => ?_) (fun c9 => ?_)
  · skip
    exact absurd hno c9
  · skip
    refine a_iconst (pc := 12) (c := -1) hC (by decide +kernel) ?_
    exact g_iret (pc := 13) hC hE (by decide +kernel) rfl rfl

set_option maxRecDepth 100000 in
set_option maxHeartbeats 4000000 in
theorem ct_V_tell (l : Launch) (D : va_G) (K : K5) (G : GT) (N s a : Nat) (hs : s < N) (ha : (a : Int) < G 3 s) (hv : VV G N) : Ct l D K y_V_tell c_V_tell 4 (some .int) 2 43 [.ref 0, vi ((s : Int)), vi ((a : Int))] G (some (vi (G 47 s))) (uG G 47 (up (G 47) s (a : Int))) := by
  refine Ct.intro (by decide +kernel) (Nat.le_of_ble_eq_true rfl) ?_
  intro X hro hty hC hE
  obtain ⟨hw, hp47, hp48⟩ := id hv
  obtain ⟨hn, hN5, hsh, hac, hpa, hwe, hth⟩ := id hw
  have ha3 := hac s (by omega)
  have ha2 : a < 3 := by omega
  refine a_aload_n (pc := 0) (q := 0) (i := 0) (x := 0) hC (by decide +kernel) rfl 0 rfl ?_
  refine g_get (pc := 1) (idx := 10) (ci := 5) (v := .ref 1) hC 0 0 (by decide +kernel) rfl rfl rfl rfl wrV (by decide) rfl (by decide +kernel) ?_
  refine a_iload_n (pc := 4) (q := 1) (i := 1) (x := (s : Int)) hC (by decide +kernel) rfl 1 rfl ?_
  refine a_iload_n (pc := 5) (q := 2) (i := 2) (x := (a : Int)) hC (by decide +kernel) rfl 2 rfl ?_
  refine g_callVN (pc := 6) (idx := 89) (i := 1) (av := [vi ((s : Int)), vi ((a : Int))]) (rest := []) (g := G) (v := vi (hasA G ((s : Int)) ((a : Int)))) (host := "PlanValues") hC hro hty (by decide +kernel) rfl rfl k_W_hasAct (by decide +kernel) (by decide +kernel) (by decide +kernel) (ct_W_hasAct X.la X.dd K G N ((s : Int)) ((a : Int)) (by unfold inI; omega) (by unfold inI; omega) hw) rfl rfl (by decide) (by first | decide | simp [Value.category]) ?_
  refine a_if_ne (pc := 9) (off := 5) hC 14 (by decide +kernel) (by decide) (by unfold inI hasA; split <;> omega) (fun c9 => ?_) (fun c9 => ?_)
  · skip
    refine a_aload_n (pc := 14) (q := 0) (i := 0) (x := 0) hC (by decide +kernel) rfl 0 rfl ?_
    refine g_get (pc := 15) (idx := 41) (ci := 5) (v := .ref 47) hC 0 5 (by decide +kernel) rfl rfl rfl rfl wrV (by decide) rfl (by decide +kernel) ?_
    refine a_iload_n (pc := 18) (q := 1) (i := 1) (x := (s : Int)) hC (by decide +kernel) rfl 1 rfl ?_
    refine g_iald (pc := 19) (a := 47) (j := s) hC hty (by decide +kernel) rfl (by omega) (by first | decide | omega) ?_
    refine a_istore_n (pc := 20) (q := 3) (i := 3) (lv' := [(3, vi (G 47 s)), (0, .ref 0), (1, vi ((s : Int))), (2, vi ((a : Int)))]) hC (by decide +kernel) rfl (by decide) rfl ?_
    refine a_aload_n (pc := 21) (q := 0) (i := 0) (x := 0) hC (by decide +kernel) rfl 1 rfl ?_
    refine g_get (pc := 22) (idx := 41) (ci := 5) (v := .ref 47) hC 0 5 (by decide +kernel) rfl rfl rfl rfl wrV (by decide) rfl (by decide +kernel) ?_
    refine a_iload_n (pc := 25) (q := 1) (i := 1) (x := (s : Int)) hC (by decide +kernel) rfl 2 rfl ?_
    refine a_iload_n (pc := 26) (q := 2) (i := 2) (x := (a : Int)) hC (by decide +kernel) rfl 3 rfl ?_
    refine g_iast (pc := 27) (a := 47) (j := s) (x := (a : Int)) hC hty (by decide +kernel) rfl (by omega) (by first | decide | omega) ?_
    refine a_iload_n (pc := 28) (q := 3) (i := 3) (x := G 47 s) hC (by decide +kernel) rfl 0 rfl ?_
    exact g_iret (pc := 29) hC hE (by decide +kernel) rfl rfl
  · skip
    exact absurd c9 (by unfold hasA; rw [if_pos (by rw [Int.toNat_natCast]; omega)]; decide)

set_option maxRecDepth 100000 in
set_option maxHeartbeats 4000000 in
theorem ct_V_share_bad (l : Launch) (D : va_G) (K : K5) (G : GT) (u d : Int) (hui : inI u) (hdi : inI d) (hbad : d < 1 ∨ 6 < d ∨ u < 0 ∨ d ≤ u) : Ct l D K y_V_share c_V_share 3 (some .int) 0 0 [.ref 0, vi u, vi d] G (some (vi (-2))) G := by
  refine Ct.intro (by decide +kernel) (Nat.le_of_ble_eq_true rfl) ?_
  intro X hro hty hC hE
  unfold inI at hui hdi
  refine a_iload_n (pc := 0) (q := 2) (i := 2) (x := d) hC (by decide +kernel) rfl 2 rfl ?_
  refine a_iconst (pc := 1) (c := 1) hC (by decide +kernel) ?_
  refine a_icmp_lt (pc := 2) (off := 18) hC 20 (by decide +kernel) (by decide) (by unfold inI; omega) (by unfold inI; omega) (fun c2 => ?_) (fun c2 => ?_)
  · skip
    refine a_bipush (pc := 20) (c := -2) hC (by decide +kernel) (by decide +kernel) ?_
    exact g_iret (pc := 22) hC hE (by decide +kernel) rfl rfl
  · skip
    refine a_iload_n (pc := 5) (q := 2) (i := 2) (x := d) hC (by decide +kernel) rfl 2 rfl ?_
    refine a_bipush (pc := 6) (c := 6) hC (by decide +kernel) (by decide +kernel) ?_
    refine a_icmp_gt (pc := 8) (off := 12) hC 20 (by decide +kernel) (by decide) (by unfold inI; omega) (by unfold inI; omega) (fun c8 => ?_) (fun c8 => ?_)
    · skip
      refine a_bipush (pc := 20) (c := -2) hC (by decide +kernel) (by decide +kernel) ?_
      exact g_iret (pc := 22) hC hE (by decide +kernel) rfl rfl
    · skip
      refine a_iload_n (pc := 11) (q := 1) (i := 1) (x := u) hC (by decide +kernel) rfl 1 rfl ?_
      refine a_if_lt (pc := 12) (off := 8) hC 20 (by decide +kernel) (by decide) (by unfold inI; omega) (fun c12 => ?_) (fun c12 => ?_)
      · skip
        refine a_bipush (pc := 20) (c := -2) hC (by decide +kernel) (by decide +kernel) ?_
        exact g_iret (pc := 22) hC hE (by decide +kernel) rfl rfl
      · skip
        refine a_iload_n (pc := 15) (q := 1) (i := 1) (x := u) hC (by decide +kernel) rfl 1 rfl ?_
        refine a_iload_n (pc := 16) (q := 2) (i := 2) (x := d) hC (by decide +kernel) rfl 2 rfl ?_
        refine a_icmp_lt (pc := 17) (off := 6) hC 23 (by decide +kernel) (by decide) (by unfold inI; omega) (by unfold inI; omega) (fun c17 => ?_) (fun c17 => ?_)
        · skip
          exact absurd c17 (by omega)
        · skip
          refine a_bipush (pc := 20) (c := -2) hC (by decide +kernel) (by decide +kernel) ?_
          exact g_iret (pc := 22) hC hE (by decide +kernel) rfl rfl

set_option maxRecDepth 100000 in
set_option maxHeartbeats 4000000 in
theorem ct_V_share (l : Launch) (D : va_G) (K : K5) (G : GT) (u d : Int) (hui : inI u) (hdi : inI d) (hok : 1 ≤ d ∧ d ≤ 6 ∧ 0 ≤ u ∧ u < d) : Ct l D K y_V_share c_V_share 3 (some .int) 0 0 [.ref 0, vi u, vi d] G (some (vi 1)) (uG G 1 (up (up (G 1) 1 u) 2 d)) := by
  refine Ct.intro (by decide +kernel) (Nat.le_of_ble_eq_true rfl) ?_
  intro X hro hty hC hE
  unfold inI at hui hdi
  refine a_iload_n (pc := 0) (q := 2) (i := 2) (x := d) hC (by decide +kernel) rfl 2 rfl ?_
  refine a_iconst (pc := 1) (c := 1) hC (by decide +kernel) ?_
  refine a_icmp_lt (pc := 2) (off := 18) hC 20 (by decide +kernel) (by decide) (by unfold inI; omega) (by unfold inI; omega) (fun c2 => ?_) (fun c2 => ?_)
  · skip
    exact absurd c2 (by omega)
  · skip
    refine a_iload_n (pc := 5) (q := 2) (i := 2) (x := d) hC (by decide +kernel) rfl 2 rfl ?_
    refine a_bipush (pc := 6) (c := 6) hC (by decide +kernel) (by decide +kernel) ?_
    refine a_icmp_gt (pc := 8) (off := 12) hC 20 (by decide +kernel) (by decide) (by unfold inI; omega) (by unfold inI; omega) (fun c8 => ?_) (fun c8 => ?_)
    · skip
      exact absurd c8 (by omega)
    · skip
      refine a_iload_n (pc := 11) (q := 1) (i := 1) (x := u) hC (by decide +kernel) rfl 1 rfl ?_
      refine a_if_lt (pc := 12) (off := 8) hC 20 (by decide +kernel) (by decide) (by unfold inI; omega) (fun c12 => ?_) (fun c12 => ?_)
      · skip
        exact absurd c12 (by omega)
      · skip
        refine a_iload_n (pc := 15) (q := 1) (i := 1) (x := u) hC (by decide +kernel) rfl 1 rfl ?_
        refine a_iload_n (pc := 16) (q := 2) (i := 2) (x := d) hC (by decide +kernel) rfl 2 rfl ?_
        refine a_icmp_lt (pc := 17) (off := 6) hC 23 (by decide +kernel) (by decide) (by unfold inI; omega) (by unfold inI; omega) (fun c17 => ?_) (fun c17 => ?_)
        · skip
          refine a_aload_n (pc := 23) (q := 0) (i := 0) (x := 0) hC (by decide +kernel) rfl 0 rfl ?_
          refine g_get (pc := 24) (idx := 10) (ci := 5) (v := .ref 1) hC 0 0 (by decide +kernel) rfl rfl rfl rfl wrV (by decide) rfl (by decide +kernel) ?_
          refine a_iload_n (pc := 27) (q := 1) (i := 1) (x := u) hC (by decide +kernel) rfl 1 rfl ?_
          refine g_putN (pc := 28) (idx := 106) (ci := 4) (x := u) (host := "PlanValues") hC 1 1 (by decide +kernel) rfl rfl (congrArg (fun z => vi z) (up_s _ _ _)) rfl wrW (by decide) rfl (by decide +kernel) rfl (ok_int _) ?_
          refine a_aload_n (pc := 31) (q := 0) (i := 0) (x := 0) hC (by decide +kernel) rfl 0 rfl ?_
          refine g_get (pc := 32) (idx := 10) (ci := 5) (v := .ref 1) hC 0 0 (by decide +kernel) rfl rfl rfl rfl wrV (by decide) rfl (by decide +kernel) ?_
          refine a_iload_n (pc := 35) (q := 2) (i := 2) (x := d) hC (by decide +kernel) rfl 2 rfl ?_
          refine g_putN (pc := 36) (idx := 109) (ci := 4) (x := d) (host := "PlanValues") hC 1 2 (by decide +kernel) rfl rfl (congrArg (fun z => vi z) (up_s _ _ _)) rfl wrW (by decide) rfl (by decide +kernel) rfl (ok_int _) ?_
          refine a_iconst (pc := 39) (c := 1) hC (by decide +kernel) ?_
          exact g_iret (pc := 40) hC hE (by decide +kernel) rfl (by rw [uG_s, uG_uG])
        · skip
          exact absurd c17 (by omega)

set_option maxRecDepth 100000 in
set_option maxHeartbeats 4000000 in
theorem ct_V_weight_no (l : Launch) (D : va_G) (K : K5) (G : GT) (N : Nat) (s a t x : Int) (hsi : inI s) (hai : inI a) (hti : inI t) (hxi : inI x) (hv : VV G N) (hno : hasA G s a = 0 ∨ hasS G t = 0) : Ct l D K y_V_weight c_V_weight 8 (some .int) 2 43 [.ref 0, vi s, vi a, vi t, vi x] G (some (vi (-1))) G := by
  refine Ct.intro (by decide +kernel) (Nat.le_of_ble_eq_true rfl) ?_
  intro X hro hty hC hE
  obtain ⟨hw, hp47, hp48⟩ := id hv
  obtain ⟨hn, hN5, hsh, hac, hpa, hwe, hth⟩ := id hw
  refine a_aload_n (pc := 0) (q := 0) (i := 0) (x := 0) hC (by decide +kernel) rfl 0 rfl ?_
  refine g_get (pc := 1) (idx := 10) (ci := 5) (v := .ref 1) hC 0 0 (by decide +kernel) rfl rfl rfl rfl wrV (by decide) rfl (by decide +kernel) ?_
  refine a_iload_n (pc := 4) (q := 1) (i := 1) (x := s) hC (by decide +kernel) rfl 1 rfl ?_
  refine a_iload_n (pc := 5) (q := 2) (i := 2) (x := a) hC (by decide +kernel) rfl 2 rfl ?_
  refine g_callVN (pc := 6) (idx := 89) (i := 1) (av := [vi s, vi a]) (rest := []) (g := G) (v := vi (hasA G s a)) (host := "PlanValues") hC hro hty (by decide +kernel) rfl rfl k_W_hasAct (by decide +kernel) (by decide +kernel) (by decide +kernel) (ct_W_hasAct X.la X.dd K G N s a hsi hai hw) rfl rfl (by decide) (by first | decide | simp [Value.category]) ?_
  refine a_if_eq (pc := 9) (off := 14) hC 23 (by decide +kernel) (by decide) (by unfold inI hasA; split <;> omega) (fun c9 => ?_) (fun c9 => ?_)
  · skip
    refine a_iconst (pc := 23) (c := -1) hC (by decide +kernel) ?_
    exact g_iret (pc := 24) hC hE (by decide +kernel) rfl rfl
  · skip
    refine a_aload_n (pc := 12) (q := 0) (i := 0) (x := 0) hC (by decide +kernel) rfl 0 rfl ?_
    refine g_get (pc := 13) (idx := 10) (ci := 5) (v := .ref 1) hC 0 0 (by decide +kernel) rfl rfl rfl rfl wrV (by decide) rfl (by decide +kernel) ?_
    refine a_iload_n (pc := 16) (q := 3) (i := 3) (x := t) hC (by decide +kernel) rfl 3 rfl ?_
    refine g_callVN (pc := 17) (idx := 75) (i := 1) (av := [vi t]) (rest := []) (g := G) (v := vi (hasS G t)) (host := "PlanValues") hC hro hty (by decide +kernel) rfl rfl k_W_hasState (by decide +kernel) (by decide +kernel) (by decide +kernel) (ct_W_hasState X.la X.dd K G N t hti hw) rfl rfl (by decide) (by first | decide | simp [Value.category]) ?_
    refine a_if_ne (pc := 20) (off := 5) hC 25 (by decide +kernel) (by decide) (by unfold inI hasS; split <;> omega) (fun c20 => ?_) (fun c20 => ?_)
    · skip
      exact hno.elim (fun h => absurd h c9) (fun h => absurd h c20)
    · skip
      refine a_iconst (pc := 23) (c := -1) hC (by decide +kernel) ?_
      exact g_iret (pc := 24) hC hE (by decide +kernel) rfl rfl

set_option maxRecDepth 100000 in
set_option maxHeartbeats 4000000 in
theorem ct_V_weight_bad (l : Launch) (D : va_G) (K : K5) (G : GT) (N s a t : Nat) (x : Int) (hs : s < N) (ha : (a : Int) < G 3 s) (ht : t < N) (hxi : inI x) (hv : VV G N) (hbad : x < 0 ∨ 6 < x ∨ 6 < G 5 (s * 3 + a) - G (7 + (s * 3 + a)) t + x) : Ct l D K y_V_weight c_V_weight 8 (some .int) 2 43 [.ref 0, vi ((s : Int)), vi ((a : Int)), vi ((t : Int)), vi x] G (some (vi (-2))) G := by
  refine Ct.intro (by decide +kernel) (Nat.le_of_ble_eq_true rfl) ?_
  intro X hro hty hC hE
  obtain ⟨hw, hp47, hp48⟩ := id hv
  obtain ⟨hn, hN5, hsh, hac, hpa, hwe, hth⟩ := id hw
  have ha3 := hac s (by omega)
  have ha2 : a < 3 := by omega
  unfold inI at hxi
  have hps := hpa (s * 3 + a) (by omega)
  have hwt := hwe (s * 3 + a) t (by omega) (by omega)
  refine a_aload_n (pc := 0) (q := 0) (i := 0) (x := 0) hC (by decide +kernel) rfl 0 rfl ?_
  refine g_get (pc := 1) (idx := 10) (ci := 5) (v := .ref 1) hC 0 0 (by decide +kernel) rfl rfl rfl rfl wrV (by decide) rfl (by decide +kernel) ?_
  refine a_iload_n (pc := 4) (q := 1) (i := 1) (x := (s : Int)) hC (by decide +kernel) rfl 1 rfl ?_
  refine a_iload_n (pc := 5) (q := 2) (i := 2) (x := (a : Int)) hC (by decide +kernel) rfl 2 rfl ?_
  refine g_callVN (pc := 6) (idx := 89) (i := 1) (av := [vi ((s : Int)), vi ((a : Int))]) (rest := []) (g := G) (v := vi (hasA G ((s : Int)) ((a : Int)))) (host := "PlanValues") hC hro hty (by decide +kernel) rfl rfl k_W_hasAct (by decide +kernel) (by decide +kernel) (by decide +kernel) (ct_W_hasAct X.la X.dd K G N ((s : Int)) ((a : Int)) (by unfold inI; omega) (by unfold inI; omega) hw) rfl rfl (by decide) (by first | decide | simp [Value.category]) ?_
  refine a_if_eq (pc := 9) (off := 14) hC 23 (by decide +kernel) (by decide) (by unfold inI hasA; split <;> omega) (fun c9 => ?_) (fun c9 => ?_)
  · skip
    exact absurd c9 (by unfold hasA; rw [if_pos (by rw [Int.toNat_natCast]; omega)]; decide)
  · skip
    refine a_aload_n (pc := 12) (q := 0) (i := 0) (x := 0) hC (by decide +kernel) rfl 0 rfl ?_
    refine g_get (pc := 13) (idx := 10) (ci := 5) (v := .ref 1) hC 0 0 (by decide +kernel) rfl rfl rfl rfl wrV (by decide) rfl (by decide +kernel) ?_
    refine a_iload_n (pc := 16) (q := 3) (i := 3) (x := (t : Int)) hC (by decide +kernel) rfl 3 rfl ?_
    refine g_callVN (pc := 17) (idx := 75) (i := 1) (av := [vi ((t : Int))]) (rest := []) (g := G) (v := vi (hasS G ((t : Int)))) (host := "PlanValues") hC hro hty (by decide +kernel) rfl rfl k_W_hasState (by decide +kernel) (by decide +kernel) (by decide +kernel) (ct_W_hasState X.la X.dd K G N ((t : Int)) (by unfold inI; omega) hw) rfl rfl (by decide) (by first | decide | simp [Value.category]) ?_
    refine a_if_ne (pc := 20) (off := 5) hC 25 (by decide +kernel) (by decide) (by unfold inI hasS; split <;> omega) (fun c20 => ?_) (fun c20 => ?_)
    · skip
      refine a_iload (pc := 25) (i := 4) (x := x) hC (by decide +kernel) 4 rfl ?_
      refine a_if_lt (pc := 27) (off := 10) hC 37 (by decide +kernel) (by decide) (by unfold inI; omega) (fun c27 => ?_) (fun c27 => ?_)
      · skip
        refine a_bipush (pc := 37) (c := -2) hC (by decide +kernel) (by decide +kernel) ?_
        exact g_iret (pc := 39) hC hE (by decide +kernel) rfl rfl
      · skip
        refine a_iload (pc := 30) (i := 4) (x := x) hC (by decide +kernel) 4 rfl ?_
        refine a_bipush (pc := 32) (c := 6) hC (by decide +kernel) (by decide +kernel) ?_
        refine a_icmp_le (pc := 34) (off := 6) hC 40 (by decide +kernel) (by decide) (by unfold inI; omega) (by unfold inI; omega) (fun c34 => ?_) (fun c34 => ?_)
        · skip
          refine a_iload_n (pc := 40) (q := 1) (i := 1) (x := (s : Int)) hC (by decide +kernel) rfl 1 rfl ?_
          refine a_iload_n (pc := 41) (q := 2) (i := 2) (x := (a : Int)) hC (by decide +kernel) rfl 2 rfl ?_
          refine g_callSN (pc := 42) (idx := 93) (av := [vi ((s : Int)), vi ((a : Int))]) (rest := []) (g := G) (v := vi (((s : Int)) * 3 + ((a : Int)))) (host := "PlanValues") hC hro hty (by decide +kernel) k_W_slotOf (by decide +kernel) (by decide +kernel) (ct_W_slotOf X.la X.dd K G ((s : Int)) ((a : Int))) rfl rfl (by decide) (by first | decide | simp [Value.category]) ?_
          refine g_top (y := ((s * 3 + a : Nat) : Int)) (by omega) ?_
          refine a_istore (pc := 45) (q := 0) (i := 5) (lv' := [(5, vi (((s * 3 + a : Nat) : Int))), (0, .ref 0), (1, vi ((s : Int))), (2, vi ((a : Int))), (3, vi ((t : Int))), (4, vi x)]) hC (by decide +kernel) (by decide) rfl ?_
          refine a_aload_n (pc := 47) (q := 0) (i := 0) (x := 0) hC (by decide +kernel) rfl 1 rfl ?_
          refine g_get (pc := 48) (idx := 10) (ci := 5) (v := .ref 1) hC 0 0 (by decide +kernel) rfl rfl rfl rfl wrV (by decide) rfl (by decide +kernel) ?_
          refine g_getN (pc := 51) (idx := 96) (ci := 4) (v := .ref 6) (host := "PlanValues") hC 1 7 (by decide +kernel) rfl rfl rfl rfl wrW (by decide) rfl (by decide +kernel) ?_
          refine a_iload (pc := 54) (i := 5) (x := ((s * 3 + a : Nat) : Int)) hC (by decide +kernel) 0 rfl ?_
          refine g_aaldI (pc := 56) (a := 6) (j := s * 3 + a) hC hty (by decide +kernel) rfl (by omega) (by first | decide | omega) ?_
          refine a_iload_n (pc := 57) (q := 3) (i := 3) (x := (t : Int)) hC (by decide +kernel) rfl 4 rfl ?_
          refine g_iald (pc := 58) (a := 7 + (s * 3 + a)) (j := t) hC hty (by decide +kernel) (sh_we (by omega : (s * 3 + a) < 15)) (by omega) (by first | decide | omega) ?_
          refine a_istore (pc := 59) (q := 0) (i := 6) (lv' := [(6, vi (G (7 + (s * 3 + a)) t)), (5, vi (((s * 3 + a : Nat) : Int))), (0, .ref 0), (1, vi ((s : Int))), (2, vi ((a : Int))), (3, vi ((t : Int))), (4, vi x)]) hC (by decide +kernel) (by decide) rfl ?_
          refine a_aload_n (pc := 61) (q := 0) (i := 0) (x := 0) hC (by decide +kernel) rfl 2 rfl ?_
          refine g_get (pc := 62) (idx := 10) (ci := 5) (v := .ref 1) hC 0 0 (by decide +kernel) rfl rfl rfl rfl wrV (by decide) rfl (by decide +kernel) ?_
          refine g_getN (pc := 65) (idx := 100) (ci := 4) (v := .ref 5) (host := "PlanValues") hC 1 6 (by decide +kernel) rfl rfl rfl rfl wrW (by decide) rfl (by decide +kernel) ?_
          refine a_iload (pc := 68) (i := 5) (x := ((s * 3 + a : Nat) : Int)) hC (by decide +kernel) 1 rfl ?_
          refine g_iald (pc := 70) (a := 5) (j := s * 3 + a) hC hty (by decide +kernel) rfl (by omega) (by first | decide | omega) ?_
          refine a_iload (pc := 71) (i := 6) (x := G (7 + (s * 3 + a)) t) hC (by decide +kernel) 0 rfl ?_
          refine a_isub (pc := 73) hC (by decide +kernel) ?_
          refine a_iload (pc := 74) (i := 4) (x := x) hC (by decide +kernel) 6 rfl ?_
          refine a_iadd (pc := 76) hC (by decide +kernel) ?_
          refine a_istore (pc := 77) (q := 0) (i := 7) (lv' := [(7, vi (((G 5 (s * 3 + a)) - (G (7 + (s * 3 + a)) t)) + x)), (6, vi (G (7 + (s * 3 + a)) t)), (5, vi (((s * 3 + a : Nat) : Int))), (0, .ref 0), (1, vi ((s : Int))), (2, vi ((a : Int))), (3, vi ((t : Int))), (4, vi x)]) hC (by decide +kernel) (by decide) rfl ?_
          refine a_iload (pc := 79) (i := 7) (x := ((G 5 (s * 3 + a)) - (G (7 + (s * 3 + a)) t)) + x) hC (by decide +kernel) 0 rfl ?_
          refine a_bipush (pc := 81) (c := 6) hC (by decide +kernel) (by decide +kernel) ?_
          refine a_icmp_le (pc := 83) (off := 6) hC 89 (by decide +kernel) (by decide) (by unfold inI; omega) (by unfold inI; omega) (fun c83 => ?_) (fun c83 => ?_)
          · skip
            exact absurd c83 (by omega)
          · skip
            refine a_bipush (pc := 86) (c := -2) hC (by decide +kernel) (by decide +kernel) ?_
            exact g_iret (pc := 88) hC hE (by decide +kernel) rfl rfl
        · skip
          refine a_bipush (pc := 37) (c := -2) hC (by decide +kernel) (by decide +kernel) ?_
          exact g_iret (pc := 39) hC hE (by decide +kernel) rfl rfl
    · skip
      exact absurd c20 (by unfold hasS; rw [if_pos (by omega)]; decide)

set_option maxRecDepth 100000 in
set_option maxHeartbeats 4000000 in
theorem ct_V_weight (l : Launch) (D : va_G) (K : K5) (G : GT) (N s a t : Nat) (x : Int) (hs : s < N) (ha : (a : Int) < G 3 s) (ht : t < N) (hxi : inI x) (hv : VV G N) (hok : 0 ≤ x ∧ x ≤ 6 ∧ G 5 (s * 3 + a) - G (7 + (s * 3 + a)) t + x ≤ 6) : Ct l D K y_V_weight c_V_weight 8 (some .int) 2 43 [.ref 0, vi ((s : Int)), vi ((a : Int)), vi ((t : Int)), vi x] G (some (vi (G (7 + (s * 3 + a)) t))) (uG (uG G (7 + (s * 3 + a)) (up (G (7 + (s * 3 + a))) t x)) 5 (up (G 5) (s * 3 + a) (G 5 (s * 3 + a) - G (7 + (s * 3 + a)) t + x))) := by
  refine Ct.intro (by decide +kernel) (Nat.le_of_ble_eq_true rfl) ?_
  intro X hro hty hC hE
  obtain ⟨hw, hp47, hp48⟩ := id hv
  obtain ⟨hn, hN5, hsh, hac, hpa, hwe, hth⟩ := id hw
  have ha3 := hac s (by omega)
  have ha2 : a < 3 := by omega
  unfold inI at hxi
  have hps := hpa (s * 3 + a) (by omega)
  have hwt := hwe (s * 3 + a) t (by omega) (by omega)
  refine a_aload_n (pc := 0) (q := 0) (i := 0) (x := 0) hC (by decide +kernel) rfl 0 rfl ?_
  refine g_get (pc := 1) (idx := 10) (ci := 5) (v := .ref 1) hC 0 0 (by decide +kernel) rfl rfl rfl rfl wrV (by decide) rfl (by decide +kernel) ?_
  refine a_iload_n (pc := 4) (q := 1) (i := 1) (x := (s : Int)) hC (by decide +kernel) rfl 1 rfl ?_
  refine a_iload_n (pc := 5) (q := 2) (i := 2) (x := (a : Int)) hC (by decide +kernel) rfl 2 rfl ?_
  refine g_callVN (pc := 6) (idx := 89) (i := 1) (av := [vi ((s : Int)), vi ((a : Int))]) (rest := []) (g := G) (v := vi (hasA G ((s : Int)) ((a : Int)))) (host := "PlanValues") hC hro hty (by decide +kernel) rfl rfl k_W_hasAct (by decide +kernel) (by decide +kernel) (by decide +kernel) (ct_W_hasAct X.la X.dd K G N ((s : Int)) ((a : Int)) (by unfold inI; omega) (by unfold inI; omega) hw) rfl rfl (by decide) (by first | decide | simp [Value.category]) ?_
  refine a_if_eq (pc := 9) (off := 14) hC 23 (by decide +kernel) (by decide) (by unfold inI hasA; split <;> omega) (fun c9 => ?_) (fun c9 => ?_)
  · skip
    exact absurd c9 (by unfold hasA; rw [if_pos (by rw [Int.toNat_natCast]; omega)]; decide)
  · skip
    refine a_aload_n (pc := 12) (q := 0) (i := 0) (x := 0) hC (by decide +kernel) rfl 0 rfl ?_
    refine g_get (pc := 13) (idx := 10) (ci := 5) (v := .ref 1) hC 0 0 (by decide +kernel) rfl rfl rfl rfl wrV (by decide) rfl (by decide +kernel) ?_
    refine a_iload_n (pc := 16) (q := 3) (i := 3) (x := (t : Int)) hC (by decide +kernel) rfl 3 rfl ?_
    refine g_callVN (pc := 17) (idx := 75) (i := 1) (av := [vi ((t : Int))]) (rest := []) (g := G) (v := vi (hasS G ((t : Int)))) (host := "PlanValues") hC hro hty (by decide +kernel) rfl rfl k_W_hasState (by decide +kernel) (by decide +kernel) (by decide +kernel) (ct_W_hasState X.la X.dd K G N ((t : Int)) (by unfold inI; omega) hw) rfl rfl (by decide) (by first | decide | simp [Value.category]) ?_
    refine a_if_ne (pc := 20) (off := 5) hC 25 (by decide +kernel) (by decide) (by unfold inI hasS; split <;> omega) (fun c20 => ?_) (fun c20 => ?_)
    · skip
      refine a_iload (pc := 25) (i := 4) (x := x) hC (by decide +kernel) 4 rfl ?_
      refine a_if_lt (pc := 27) (off := 10) hC 37 (by decide +kernel) (by decide) (by unfold inI; omega) (fun c27 => ?_) (fun c27 => ?_)
      · skip
        exact absurd c27 (by omega)
      · skip
        refine a_iload (pc := 30) (i := 4) (x := x) hC (by decide +kernel) 4 rfl ?_
        refine a_bipush (pc := 32) (c := 6) hC (by decide +kernel) (by decide +kernel) ?_
        refine a_icmp_le (pc := 34) (off := 6) hC 40 (by decide +kernel) (by decide) (by unfold inI; omega) (by unfold inI; omega) (fun c34 => ?_) (fun c34 => ?_)
        · skip
          refine a_iload_n (pc := 40) (q := 1) (i := 1) (x := (s : Int)) hC (by decide +kernel) rfl 1 rfl ?_
          refine a_iload_n (pc := 41) (q := 2) (i := 2) (x := (a : Int)) hC (by decide +kernel) rfl 2 rfl ?_
          refine g_callSN (pc := 42) (idx := 93) (av := [vi ((s : Int)), vi ((a : Int))]) (rest := []) (g := G) (v := vi (((s : Int)) * 3 + ((a : Int)))) (host := "PlanValues") hC hro hty (by decide +kernel) k_W_slotOf (by decide +kernel) (by decide +kernel) (ct_W_slotOf X.la X.dd K G ((s : Int)) ((a : Int))) rfl rfl (by decide) (by first | decide | simp [Value.category]) ?_
          refine g_top (y := ((s * 3 + a : Nat) : Int)) (by omega) ?_
          refine a_istore (pc := 45) (q := 0) (i := 5) (lv' := [(5, vi (((s * 3 + a : Nat) : Int))), (0, .ref 0), (1, vi ((s : Int))), (2, vi ((a : Int))), (3, vi ((t : Int))), (4, vi x)]) hC (by decide +kernel) (by decide) rfl ?_
          refine a_aload_n (pc := 47) (q := 0) (i := 0) (x := 0) hC (by decide +kernel) rfl 1 rfl ?_
          refine g_get (pc := 48) (idx := 10) (ci := 5) (v := .ref 1) hC 0 0 (by decide +kernel) rfl rfl rfl rfl wrV (by decide) rfl (by decide +kernel) ?_
          refine g_getN (pc := 51) (idx := 96) (ci := 4) (v := .ref 6) (host := "PlanValues") hC 1 7 (by decide +kernel) rfl rfl rfl rfl wrW (by decide) rfl (by decide +kernel) ?_
          refine a_iload (pc := 54) (i := 5) (x := ((s * 3 + a : Nat) : Int)) hC (by decide +kernel) 0 rfl ?_
          refine g_aaldI (pc := 56) (a := 6) (j := s * 3 + a) hC hty (by decide +kernel) rfl (by omega) (by first | decide | omega) ?_
          refine a_iload_n (pc := 57) (q := 3) (i := 3) (x := (t : Int)) hC (by decide +kernel) rfl 4 rfl ?_
          refine g_iald (pc := 58) (a := 7 + (s * 3 + a)) (j := t) hC hty (by decide +kernel) (sh_we (by omega : (s * 3 + a) < 15)) (by omega) (by first | decide | omega) ?_
          refine a_istore (pc := 59) (q := 0) (i := 6) (lv' := [(6, vi (G (7 + (s * 3 + a)) t)), (5, vi (((s * 3 + a : Nat) : Int))), (0, .ref 0), (1, vi ((s : Int))), (2, vi ((a : Int))), (3, vi ((t : Int))), (4, vi x)]) hC (by decide +kernel) (by decide) rfl ?_
          refine a_aload_n (pc := 61) (q := 0) (i := 0) (x := 0) hC (by decide +kernel) rfl 2 rfl ?_
          refine g_get (pc := 62) (idx := 10) (ci := 5) (v := .ref 1) hC 0 0 (by decide +kernel) rfl rfl rfl rfl wrV (by decide) rfl (by decide +kernel) ?_
          refine g_getN (pc := 65) (idx := 100) (ci := 4) (v := .ref 5) (host := "PlanValues") hC 1 6 (by decide +kernel) rfl rfl rfl rfl wrW (by decide) rfl (by decide +kernel) ?_
          refine a_iload (pc := 68) (i := 5) (x := ((s * 3 + a : Nat) : Int)) hC (by decide +kernel) 1 rfl ?_
          refine g_iald (pc := 70) (a := 5) (j := s * 3 + a) hC hty (by decide +kernel) rfl (by omega) (by first | decide | omega) ?_
          refine a_iload (pc := 71) (i := 6) (x := G (7 + (s * 3 + a)) t) hC (by decide +kernel) 0 rfl ?_
          refine a_isub (pc := 73) hC (by decide +kernel) ?_
          refine a_iload (pc := 74) (i := 4) (x := x) hC (by decide +kernel) 6 rfl ?_
          refine a_iadd (pc := 76) hC (by decide +kernel) ?_
          refine a_istore (pc := 77) (q := 0) (i := 7) (lv' := [(7, vi (((G 5 (s * 3 + a)) - (G (7 + (s * 3 + a)) t)) + x)), (6, vi (G (7 + (s * 3 + a)) t)), (5, vi (((s * 3 + a : Nat) : Int))), (0, .ref 0), (1, vi ((s : Int))), (2, vi ((a : Int))), (3, vi ((t : Int))), (4, vi x)]) hC (by decide +kernel) (by decide) rfl ?_
          refine a_iload (pc := 79) (i := 7) (x := ((G 5 (s * 3 + a)) - (G (7 + (s * 3 + a)) t)) + x) hC (by decide +kernel) 0 rfl ?_
          refine a_bipush (pc := 81) (c := 6) hC (by decide +kernel) (by decide +kernel) ?_
          refine a_icmp_le (pc := 83) (off := 6) hC 89 (by decide +kernel) (by decide) (by unfold inI; omega) (by unfold inI; omega) (fun c83 => ?_) (fun c83 => ?_)
          · skip
            refine a_aload_n (pc := 89) (q := 0) (i := 0) (x := 0) hC (by decide +kernel) rfl 3 rfl ?_
            refine g_get (pc := 90) (idx := 10) (ci := 5) (v := .ref 1) hC 0 0 (by decide +kernel) rfl rfl rfl rfl wrV (by decide) rfl (by decide +kernel) ?_
            refine g_getN (pc := 93) (idx := 96) (ci := 4) (v := .ref 6) (host := "PlanValues") hC 1 7 (by decide +kernel) rfl rfl rfl rfl wrW (by decide) rfl (by decide +kernel) ?_
            refine a_iload (pc := 96) (i := 5) (x := ((s * 3 + a : Nat) : Int)) hC (by decide +kernel) 2 rfl ?_
            refine g_aaldI (pc := 98) (a := 6) (j := s * 3 + a) hC hty (by decide +kernel) rfl (by omega) (by first | decide | omega) ?_
            refine a_iload_n (pc := 99) (q := 3) (i := 3) (x := (t : Int)) hC (by decide +kernel) rfl 6 rfl ?_
            refine a_iload (pc := 100) (i := 4) (x := x) hC (by decide +kernel) 7 rfl ?_
            refine g_iast (pc := 102) (a := 7 + (s * 3 + a)) (j := t) (x := x) hC hty (by decide +kernel) (sh_we (by omega : (s * 3 + a) < 15)) (by omega) (by first | decide | omega) ?_
            refine a_aload_n (pc := 103) (q := 0) (i := 0) (x := 0) hC (by decide +kernel) rfl 3 rfl ?_
            refine g_get (pc := 104) (idx := 10) (ci := 5) (v := .ref 1) hC 0 0 (by decide +kernel) rfl rfl rfl rfl wrV (by decide) rfl (by decide +kernel) ?_
            refine g_getN (pc := 107) (idx := 100) (ci := 4) (v := .ref 5) (host := "PlanValues") hC 1 6 (by decide +kernel) rfl rfl rfl rfl wrW (by decide) rfl (by decide +kernel) ?_
            refine a_iload (pc := 110) (i := 5) (x := ((s * 3 + a : Nat) : Int)) hC (by decide +kernel) 2 rfl ?_
            refine a_iload (pc := 112) (i := 7) (x := ((G 5 (s * 3 + a)) - (G (7 + (s * 3 + a)) t)) + x) hC (by decide +kernel) 0 rfl ?_
            refine g_iast (pc := 114) (a := 5) (j := s * 3 + a) (x := ((G 5 (s * 3 + a)) - (G (7 + (s * 3 + a)) t)) + x) hC hty (by decide +kernel) rfl (by omega) (by first | decide | omega) ?_
            refine a_iload (pc := 115) (i := 6) (x := G (7 + (s * 3 + a)) t) hC (by decide +kernel) 1 rfl ?_
            exact g_iret (pc := 117) hC hE (by decide +kernel) rfl (by rw [uG_n (b := 5) _ _ (by omega)])
          · skip
            exact absurd c83 (by omega)
        · skip
          exact absurd c34 (by omega)
    · skip
      exact absurd c20 (by unfold hasS; rw [if_pos (by omega)]; decide)

set_option maxRecDepth 100000 in
set_option maxHeartbeats 4000000 in
theorem ct_V_upper (l : Launch) (D : va_G) (K : K5) (G : GT)  : Ct l D K y_V_upper c_V_upper 1 (some .long) 0 0 [.ref 0] G (some (vl (G 0 8))) G := by
  refine Ct.intro (by decide +kernel) (Nat.le_of_ble_eq_true rfl) ?_
  intro X hro hty hC hE
  refine a_aload_n (pc := 0) (q := 0) (i := 0) (x := 0) hC (by decide +kernel) rfl 0 rfl ?_
  refine g_get (pc := 1) (idx := 51) (ci := 5) (v := vl (G 0 8)) hC 0 8 (by decide +kernel) rfl rfl rfl rfl wrV (by decide) rfl (by decide +kernel) ?_
  exact g_lret (pc := 4) hC hE (by decide +kernel) rfl rfl

set_option maxRecDepth 100000 in
set_option maxHeartbeats 4000000 in
theorem ct_V_lower (l : Launch) (D : va_G) (K : K5) (G : GT)  : Ct l D K y_V_lower c_V_lower 1 (some .long) 0 0 [.ref 0] G (some (vl (G 0 9))) G := by
  refine Ct.intro (by decide +kernel) (Nat.le_of_ble_eq_true rfl) ?_
  intro X hro hty hC hE
  refine a_aload_n (pc := 0) (q := 0) (i := 0) (x := 0) hC (by decide +kernel) rfl 0 rfl ?_
  refine g_get (pc := 1) (idx := 55) (ci := 5) (v := vl (G 0 9)) hC 0 9 (by decide +kernel) rfl rfl rfl rfl wrV (by decide) rfl (by decide +kernel) ?_
  exact g_lret (pc := 4) hC hE (by decide +kernel) rfl rfl
end
section
/-! PlanValues: its public methods that calculate -/
theorem sumZ_in {f : Nat → Int} {A : Int} {n : Nat} (h : ∀ t, t < n → -A ≤ f t ∧ f t ≤ A) : ∀ k, k ≤ n → -(A * (k : Int)) ≤ sumZ f k ∧ sumZ f k ≤ A * (k : Int)
  | 0, _ => by unfold sumZ; simp
  | k + 1, hk => by
    have ih := sumZ_in h k (by omega)
    have h1 := h k (by omega)
    have e : A * ((k + 1 : Nat) : Int) = A * (k : Int) + A := by rw [Int.natCast_add, Int.mul_add]; simp
    unfold sumZ
    rw [e]
    omega
theorem td60_in {e : Int} (h1 : 1 ≤ e) (h2 : e ≤ 6) : 0 ≤ Int.tdiv 60 e ∧ Int.tdiv 60 e ≤ 60 := by
  rcases (by omega : e = 1 ∨ e = 2 ∨ e = 3 ∨ e = 4 ∨ e = 5 ∨ e = 6) with rfl | rfl | rfl | rfl | rfl | rfl <;> decide
theorem comes_b {G : GT} {N : Nat} (hw : WW G N) (hn : NumOk G N) {q : Nat} (hq : q < 15) : -200000000000000 ≤ comesZ G N q 30 ∧ comesZ G N q 30 ≤ 200000000000000 := by
  obtain ⟨h1, hN5, hsh, hac, hpa, hwe, hth⟩ := id hw
  have hp := hpa q hq
  have hs : 0 ≤ stepZ G ∧ stepZ G ≤ 360 := by unfold stepZ; omega
  have a1 := mul_in (x := G 4 q) (y := stepZ G) (A := 50) (B := 360) ⟨hp.1, hp.2.1⟩ hs (by decide)
  have a2 := mul_in (x := G 4 q * stepZ G) (y := G 30 1) (A := 18000) (B := 60466176) (by omega) ⟨by have := hn.1; omega, hn.2.1⟩ (by decide)
  unfold comesZ
  split
  · omega
  · next h0 =>
    have ht := td60_in (e := G 5 q) (by omega) (by omega)
    have b0 : ∀ t, t < N → -(108839116800 : Int) ≤ G (7 + q) t * G (30 + 1) t ∧ G (7 + q) t * G (30 + 1) t ≤ 108839116800 := fun t htN => by
      have c1 := hwe q t hq (by omega)
      have c2 := hn.2.2 t htN
      have := mul_in (x := G 31 t) (y := G (7 + q) t) (A := 18139852800) (B := 6) ⟨c2.1, c2.2⟩ c1 (by decide)
      have e2 : G (7 + q) t * G (30 + 1) t = G 31 t * G (7 + q) t := Int.mul_comm _ _
      rw [e2]
      omega
    have b1 := sumZ_in b0 N (Nat.le_refl _)
    have b2 : (108839116800 : Int) * (N : Int) ≤ 544195584000 := by omega
    have b3 := mul_in (x := sumZ (fun t => G (7 + q) t * G (30 + 1) t) N) (y := Int.tdiv 60 (G 5 q)) (A := 544195584000) (B := 60) ⟨by omega, by omega⟩ ht (by decide)
    have b4 := mul_in (x := sumZ (fun t => G (7 + q) t * G (30 + 1) t) N * Int.tdiv 60 (G 5 q)) (y := G 1 1) (A := 32651735040000) (B := 5) (by omega) (by omega) (by decide)
    have e : G 1 1 * Int.tdiv 60 (G 5 q) * sumZ (fun t => G (7 + q) t * G (30 + 1) t) N = sumZ (fun t => G (7 + q) t * G (30 + 1) t) N * Int.tdiv 60 (G 5 q) * G 1 1 := by
      rw [Int.mul_assoc, Int.mul_comm, Int.mul_comm (Int.tdiv 60 (G 5 q))]
    rw [e]
    omega
theorem repL_off {pl N : Nat} {b : Int} (hN : N ≤ 5) {c : Nat} (h : c < 25 ∨ 32 ≤ c) (hp : c ≠ pl) : ∀ (k : Nat) (G : GT), repL pl N b k G c = G c
  | 0, _ => rfl
  | k + 1, G => by
    unfold repL
    split
    · exact impG_off hp
    · rw [repL_off hN h hp k, folR_off hN h, impG_off hp]
theorem repG_off {G : GT} {pl N : Nat} {b : Int} (hN : N ≤ 5) {c : Nat} (h : c < 25 ∨ 32 ≤ c) (hp : c ≠ pl) : repG G pl N b c = G c := by
  unfold repG; rw [repL_off hN h hp, folR_off hN h]
theorem fvL_off {pl N : Nat} (hN : N ≤ 5) {c : Nat} (h : c < 25 ∨ 32 ≤ c) (hp : c ≠ pl) : ∀ (k : Nat) (G : GT), fvL pl N k G c = G c
  | 0, _ => rfl
  | k + 1, G => by
    unfold fvL
    split
    · exact impG_off hp
    · rw [fvL_off hN h hp k, repG_off hN h hp, impG_off hp]
theorem fvG_off0 {G : GT} {pl N : Nat} (hN : N ≤ 5) {c : Nat} (h : c < 25 ∨ 32 ≤ c) (hp : c ≠ pl) : fvG G pl N c = G c := by
  unfold fvG; rw [fvL_off hN h hp, repG_off hN h hp]
theorem fvG_off {G : GT} {N : Nat} (hN : N ≤ 5) {c : Nat} (h : (c < 25 ∨ 32 ≤ c) ∧ c ≠ 48) : fvG G 48 N c = G c := fvG_off0 hN h.1 h.2

set_option maxRecDepth 100000 in
set_option maxHeartbeats 4000000 in
theorem ct_V_value_no (l : Launch) (D : va_G) (K : K5) (G : GT) (N : Nat) (s : Int)  (hsi : inI s) (hv : VV G N) (hno : hasS G s = 0) : Ct l D K y_V_value c_V_value 2 (some .int) 6 150 [.ref 0, vi s] G (some (vi (-1))) G := by
  refine Ct.intro (by decide +kernel) (Nat.le_of_ble_eq_true rfl) ?_
  intro X hro hty hC hE
  obtain ⟨hw, hp47, hp48⟩ := id hv
  obtain ⟨hn, hN5, hsh, hac, hpa, hwe, hth⟩ := id hw
  refine a_aload_n (pc := 0) (q := 0) (i := 0) (x := 0) hC (by decide +kernel) rfl 0 rfl ?_
  refine g_get (pc := 1) (idx := 10) (ci := 5) (v := .ref 1) hC 0 0 (by decide +kernel) rfl rfl rfl rfl wrV (by decide) rfl (by decide +kernel) ?_
  refine a_iload_n (pc := 4) (q := 1) (i := 1) (x := s) hC (by decide +kernel) rfl 1 rfl ?_
  refine g_callVN (pc := 5) (idx := 75) (i := 1) (av := [vi s]) (rest := []) (g := G) (v := vi (hasS G s)) (host := "PlanValues") hC hro hty (by decide +kernel) rfl rfl k_W_hasState (by decide +kernel) (by decide +kernel) (by decide +kernel) (ct_W_hasState X.la X.dd K G N s hsi hw) rfl rfl (by decide) (by first | decide | simp [Value.category]) ?_
  refine a_if_ne (pc := 8) (off := 5) hC 13 (by decide +kernel) (by decide) (by unfold inI; omega) (fun c8 => ?_) (fun c8 => ?_)
  · skip
    exact absurd hno c8
  · skip
    refine a_iconst (pc := 11) (c := -1) hC (by decide +kernel) ?_
    exact g_iret (pc := 12) hC hE (by decide +kernel) rfl rfl

set_option maxRecDepth 100000 in
set_option maxHeartbeats 4000000 in
theorem ct_V_value (l : Launch) (D : va_G) (K : K5) (G : GT) (N s : Nat) (hs : s < N) (hm0 : MathOk) (hv : VV G N) : Ct l D K y_V_value c_V_value 2 (some .int) 6 150 [.ref 0, vi ((s : Int))] G (some (vi 1)) (ansG (fvG G 48 N) (fvG G 48 N 31 s) (fvG G 48 N 30 1)) := by
  refine Ct.intro (by decide +kernel) (Nat.le_of_ble_eq_true rfl) ?_
  intro X hro hty hC hE
  obtain ⟨hw, hp47, hp48⟩ := id hv
  obtain ⟨hn, hN5, hsh, hac, hpa, hwe, hth⟩ := id hw
  have hf := FolSt.fvG hm0 hw hp48
  have hnu := hf.2.2.2
  have hra := abs_in (hnu.2.2 s hs) (by decide)
  refine a_aload_n (pc := 0) (q := 0) (i := 0) (x := 0) hC (by decide +kernel) rfl 0 rfl ?_
  refine g_get (pc := 1) (idx := 10) (ci := 5) (v := .ref 1) hC 0 0 (by decide +kernel) rfl rfl rfl rfl wrV (by decide) rfl (by decide +kernel) ?_
  refine a_iload_n (pc := 4) (q := 1) (i := 1) (x := (s : Int)) hC (by decide +kernel) rfl 1 rfl ?_
  refine g_callVN (pc := 5) (idx := 75) (i := 1) (av := [vi ((s : Int))]) (rest := []) (g := G) (v := vi (hasS G ((s : Int)))) (host := "PlanValues") hC hro hty (by decide +kernel) rfl rfl k_W_hasState (by decide +kernel) (by decide +kernel) (by decide +kernel) (ct_W_hasState X.la X.dd K G N ((s : Int)) (by unfold inI; omega) hw) rfl rfl (by decide) (by first | decide | simp [Value.category]) ?_
  refine a_if_ne (pc := 8) (off := 5) hC 13 (by decide +kernel) (by decide) (by unfold inI hasS; split <;> omega) (fun c8 => ?_) (fun c8 => ?_)
  · skip
    refine a_aload_n (pc := 13) (q := 0) (i := 0) (x := 0) hC (by decide +kernel) rfl 0 rfl ?_
    refine g_get (pc := 14) (idx := 19) (ci := 5) (v := .ref 22) hC 0 1 (by decide +kernel) rfl rfl rfl rfl wrV (by decide) rfl (by decide +kernel) ?_
    refine a_aload_n (pc := 17) (q := 0) (i := 0) (x := 0) hC (by decide +kernel) rfl 0 rfl ?_
    refine g_get (pc := 18) (idx := 10) (ci := 5) (v := .ref 1) hC 0 0 (by decide +kernel) rfl rfl rfl rfl wrV (by decide) rfl (by decide +kernel) ?_
    refine a_aload_n (pc := 21) (q := 0) (i := 0) (x := 0) hC (by decide +kernel) rfl 0 rfl ?_
    refine g_get (pc := 22) (idx := 45) (ci := 5) (v := .ref 48) hC 0 6 (by decide +kernel) rfl rfl rfl rfl wrV (by decide) rfl (by decide +kernel) ?_
    refine g_callVN0 (pc := 25) (idx := 112) (i := 22) (av := [.ref 1, .ref 48]) (rest := []) (g := fvG G 48 N) (host := "PlanValues") hC hro hty (by decide +kernel) rfl rfl k_P_findValues (by decide +kernel) (by decide +kernel) (by decide +kernel) (ct_P_findValues X.la X.dd K G 48 N hm0 hw hp48) rfl rfl (by decide) (by first | decide | simp [Value.category]) ?_
    refine a_aload_n (pc := 28) (q := 0) (i := 0) (x := 0) hC (by decide +kernel) rfl 0 rfl ?_
    refine a_aload_n (pc := 29) (q := 0) (i := 0) (x := 0) hC (by decide +kernel) rfl 0 rfl ?_
    refine g_get (pc := 30) (idx := 19) (ci := 5) (v := .ref 22) hC 0 1 (by decide +kernel) rfl rfl rfl rfl wrV (by decide) rfl (by decide +kernel) ?_
    refine g_getN (pc := 33) (idx := 116) (ci := 3) (v := .ref 30) (host := "PlanValues") hC 22 1 (by decide +kernel) rfl rfl rfl rfl wrP (by decide) rfl (by decide +kernel) ?_
    refine g_getN (pc := 36) (idx := 119) (ci := 2) (v := .ref 31) (host := "PlanValues") hC 30 0 (by decide +kernel) rfl rfl rfl rfl wrU (by decide) rfl (by decide +kernel) ?_
    refine a_iload_n (pc := 39) (q := 1) (i := 1) (x := (s : Int)) hC (by decide +kernel) rfl 1 rfl ?_
    refine g_lald (pc := 40) (a := 31) (j := s) hC hty (by decide +kernel) rfl (by omega) (by first | decide | omega) ?_
    refine a_aload_n (pc := 41) (q := 0) (i := 0) (x := 0) hC (by decide +kernel) rfl 0 rfl ?_
    refine g_get (pc := 42) (idx := 19) (ci := 5) (v := .ref 22) hC 0 1 (by decide +kernel) rfl rfl rfl rfl wrV (by decide) rfl (by decide +kernel) ?_
    refine g_getN (pc := 45) (idx := 116) (ci := 3) (v := .ref 30) (host := "PlanValues") hC 22 1 (by decide +kernel) rfl rfl rfl rfl wrP (by decide) rfl (by decide +kernel) ?_
    refine g_getN (pc := 48) (idx := 122) (ci := 2) (v := vl ((fvG G 48 N) 30 1)) (host := "PlanValues") hC 30 1 (by decide +kernel) rfl rfl rfl rfl wrU (by decide) rfl (by decide +kernel) ?_
    refine g_callV (pc := 51) (idx := 125) (i := 0) (av := [vl ((fvG G 48 N) 31 s), vl ((fvG G 48 N) 30 1)]) (rest := []) (g := ansG (fvG G 48 N) ((fvG G 48 N) 31 s) ((fvG G 48 N) 30 1)) (v := vi 1) hC hro hty (by decide +kernel) rfl rfl k_V_giveAnswer (by decide +kernel) (by decide +kernel) (by decide +kernel) (ct_V_giveAnswer X.la X.dd K (fvG G 48 N) ((fvG G 48 N) 31 s) ((fvG G 48 N) 30 1) hra.1 hra.2 ⟨by have := hnu.1; omega, by have := hnu.1; have := hnu.2.1; unfold inL; omega⟩) rfl rfl (by decide) (by first | decide | simp [Value.category]) ?_
    exact g_iret (pc := 54) hC hE (by decide +kernel) rfl rfl
  · skip
    exact absurd c8 (by unfold hasS; rw [if_pos (by omega)]; decide)

set_option maxRecDepth 100000 in
set_option maxHeartbeats 4000000 in
theorem ct_V_comes_no (l : Launch) (D : va_G) (K : K5) (G : GT) (N : Nat) (s a : Int)  (hsi : inI s) (hai : inI a) (hv : VV G N) (hno : hasA G s a = 0) : Ct l D K y_V_comes c_V_comes 5 (some .int) 6 150 [.ref 0, vi s, vi a] G (some (vi (-1))) G := by
  refine Ct.intro (by decide +kernel) (Nat.le_of_ble_eq_true rfl) ?_
  intro X hro hty hC hE
  obtain ⟨hw, hp47, hp48⟩ := id hv
  obtain ⟨hn, hN5, hsh, hac, hpa, hwe, hth⟩ := id hw
  refine a_aload_n (pc := 0) (q := 0) (i := 0) (x := 0) hC (by decide +kernel) rfl 0 rfl ?_
  refine g_get (pc := 1) (idx := 10) (ci := 5) (v := .ref 1) hC 0 0 (by decide +kernel) rfl rfl rfl rfl wrV (by decide) rfl (by decide +kernel) ?_
  refine a_iload_n (pc := 4) (q := 1) (i := 1) (x := s) hC (by decide +kernel) rfl 1 rfl ?_
  refine a_iload_n (pc := 5) (q := 2) (i := 2) (x := a) hC (by decide +kernel) rfl 2 rfl ?_
  refine g_callVN (pc := 6) (idx := 89) (i := 1) (av := [vi s, vi a]) (rest := []) (g := G) (v := vi (hasA G s a)) (host := "PlanValues") hC hro hty (by decide +kernel) rfl rfl k_W_hasAct (by decide +kernel) (by decide +kernel) (by decide +kernel) (ct_W_hasAct X.la X.dd K G N s a hsi hai hw) rfl rfl (by decide) (by first | decide | simp [Value.category]) ?_
  refine a_if_ne (pc := 9) (off := 5) hC 14 (by decide +kernel) (by decide) (by unfold inI; omega) (fun c9 => ?_) (fun c9 => ?_)
  · skip
    exact absurd hno c9
  · skip
    refine a_iconst (pc := 12) (c := -1) hC (by decide +kernel) ?_
    exact g_iret (pc := 13) hC hE (by decide +kernel) rfl rfl

set_option maxRecDepth 100000 in
set_option maxHeartbeats 4000000 in
theorem ct_V_comes (l : Launch) (D : va_G) (K : K5) (G : GT) (N s a : Nat) (hs : s < N) (ha : (a : Int) < G 3 s) (hm0 : MathOk) (hv : VV G N) : Ct l D K y_V_comes c_V_comes 5 (some .int) 6 150 [.ref 0, vi ((s : Int)), vi ((a : Int))] G (some (vi 1)) (ansG (fvG G 48 N) (comesZ (fvG G 48 N) N (s * 3 + a) 30) ((fvG G 48 N 30 1) * (stepZ (fvG G 48 N)))) := by
  refine Ct.intro (by decide +kernel) (Nat.le_of_ble_eq_true rfl) ?_
  intro X hro hty hC hE
  obtain ⟨hw, hp47, hp48⟩ := id hv
  obtain ⟨hn, hN5, hsh, hac, hpa, hwe, hth⟩ := id hw
  have ha3 := hac s (by omega)
  have ha2 : a < 3 := by omega
  have hf := FolSt.fvG hm0 hw hp48
  have hnu := hf.2.2.2
  have hra := abs_in (comes_b hf.1 hnu (by omega : s * 3 + a < 15)) (by decide)
  have hst : 0 ≤ stepZ (fvG G 48 N) ∧ stepZ (fvG G 48 N) ≤ 360 := by have := hf.1.2.2.1; unfold stepZ; omega
  have hmu := mul_in (x := fvG G 48 N 30 1) (y := stepZ (fvG G 48 N)) (A := 60466176) (B := 360) ⟨by have := hnu.1; omega, hnu.2.1⟩ hst (by decide)
  have hmp : 0 ≤ fvG G 48 N 30 1 * stepZ (fvG G 48 N) := Int.mul_nonneg (by have := hnu.1; omega) hst.1
  refine a_aload_n (pc := 0) (q := 0) (i := 0) (x := 0) hC (by decide +kernel) rfl 0 rfl ?_
  refine g_get (pc := 1) (idx := 10) (ci := 5) (v := .ref 1) hC 0 0 (by decide +kernel) rfl rfl rfl rfl wrV (by decide) rfl (by decide +kernel) ?_
  refine a_iload_n (pc := 4) (q := 1) (i := 1) (x := (s : Int)) hC (by decide +kernel) rfl 1 rfl ?_
  refine a_iload_n (pc := 5) (q := 2) (i := 2) (x := (a : Int)) hC (by decide +kernel) rfl 2 rfl ?_
  refine g_callVN (pc := 6) (idx := 89) (i := 1) (av := [vi ((s : Int)), vi ((a : Int))]) (rest := []) (g := G) (v := vi (hasA G ((s : Int)) ((a : Int)))) (host := "PlanValues") hC hro hty (by decide +kernel) rfl rfl k_W_hasAct (by decide +kernel) (by decide +kernel) (by decide +kernel) (ct_W_hasAct X.la X.dd K G N ((s : Int)) ((a : Int)) (by unfold inI; omega) (by unfold inI; omega) hw) rfl rfl (by decide) (by first | decide | simp [Value.category]) ?_
  refine a_if_ne (pc := 9) (off := 5) hC 14 (by decide +kernel) (by decide) (by unfold inI hasA; split <;> omega) (fun c9 => ?_) (fun c9 => ?_)
  · skip
    refine a_aload_n (pc := 14) (q := 0) (i := 0) (x := 0) hC (by decide +kernel) rfl 0 rfl ?_
    refine g_get (pc := 15) (idx := 19) (ci := 5) (v := .ref 22) hC 0 1 (by decide +kernel) rfl rfl rfl rfl wrV (by decide) rfl (by decide +kernel) ?_
    refine a_aload_n (pc := 18) (q := 0) (i := 0) (x := 0) hC (by decide +kernel) rfl 0 rfl ?_
    refine g_get (pc := 19) (idx := 10) (ci := 5) (v := .ref 1) hC 0 0 (by decide +kernel) rfl rfl rfl rfl wrV (by decide) rfl (by decide +kernel) ?_
    refine a_aload_n (pc := 22) (q := 0) (i := 0) (x := 0) hC (by decide +kernel) rfl 0 rfl ?_
    refine g_get (pc := 23) (idx := 45) (ci := 5) (v := .ref 48) hC 0 6 (by decide +kernel) rfl rfl rfl rfl wrV (by decide) rfl (by decide +kernel) ?_
    refine g_callVN0 (pc := 26) (idx := 112) (i := 22) (av := [.ref 1, .ref 48]) (rest := []) (g := fvG G 48 N) (host := "PlanValues") hC hro hty (by decide +kernel) rfl rfl k_P_findValues (by decide +kernel) (by decide +kernel) (by decide +kernel) (ct_P_findValues X.la X.dd K G 48 N hm0 hw hp48) rfl rfl (by decide) (by first | decide | simp [Value.category]) ?_
    refine a_aload_n (pc := 29) (q := 0) (i := 0) (x := 0) hC (by decide +kernel) rfl 0 rfl ?_
    refine g_get (pc := 30) (idx := 10) (ci := 5) (v := .ref 1) hC 0 0 (by decide +kernel) rfl rfl rfl rfl wrV (by decide) rfl (by decide +kernel) ?_
    refine a_iload_n (pc := 33) (q := 1) (i := 1) (x := (s : Int)) hC (by decide +kernel) rfl 1 rfl ?_
    refine a_iload_n (pc := 34) (q := 2) (i := 2) (x := (a : Int)) hC (by decide +kernel) rfl 2 rfl ?_
    refine g_callSN (pc := 35) (idx := 93) (av := [vi ((s : Int)), vi ((a : Int))]) (rest := [.ref 1]) (g := fvG G 48 N) (v := vi (((s : Int)) * 3 + ((a : Int)))) (host := "PlanValues") hC hro hty (by decide +kernel) k_W_slotOf (by decide +kernel) (by decide +kernel) (ct_W_slotOf X.la X.dd K (fvG G 48 N) ((s : Int)) ((a : Int))) rfl rfl (by decide) (by first | decide | simp [Value.category]) ?_
    refine g_top (y := ((s * 3 + a : Nat) : Int)) (by omega) ?_
    refine a_aload_n (pc := 38) (q := 0) (i := 0) (x := 0) hC (by decide +kernel) rfl 0 rfl ?_
    refine g_get (pc := 39) (idx := 19) (ci := 5) (v := .ref 22) hC 0 1 (by decide +kernel) rfl rfl rfl rfl wrV (by decide) rfl (by decide +kernel) ?_
    refine g_getN (pc := 42) (idx := 116) (ci := 3) (v := .ref 30) (host := "PlanValues") hC 22 1 (by decide +kernel) rfl rfl rfl rfl wrP (by decide) rfl (by decide +kernel) ?_
    refine g_callVN (pc := 45) (idx := 129) (i := 1) (av := [vi (((s * 3 + a : Nat) : Int)), .ref 30]) (rest := []) (g := fvG G 48 N) (v := vl (comesZ (fvG G 48 N) N (s * 3 + a) 30)) (host := "PlanValues") hC hro hty (by decide +kernel) rfl rfl k_W_comesTo (by decide +kernel) (by decide +kernel) (by decide +kernel) (ct_W_comesTo X.la X.dd K (fvG G 48 N) N (s * 3 + a) 30 (by omega) rfl rfl hf.1) rfl rfl (by decide) (by first | decide | simp [Value.category]) ?_
    refine a_lstore_n (pc := 48) (q := 3) (i := 3) (lv' := [(3, vl (comesZ (fvG G 48 N) N (s * 3 + a) 30)), (0, .ref 0), (1, vi ((s : Int))), (2, vi ((a : Int)))]) hC (by decide +kernel) rfl (by decide) rfl ?_
    refine a_aload_n (pc := 49) (q := 0) (i := 0) (x := 0) hC (by decide +kernel) rfl 1 rfl ?_
    refine a_lload_n (pc := 50) (q := 3) (i := 3) (x := comesZ (fvG G 48 N) N (s * 3 + a) 30) hC (by decide +kernel) rfl 0 rfl ?_
    refine a_aload_n (pc := 51) (q := 0) (i := 0) (x := 0) hC (by decide +kernel) rfl 1 rfl ?_
    refine g_get (pc := 52) (idx := 19) (ci := 5) (v := .ref 22) hC 0 1 (by decide +kernel) rfl rfl rfl rfl wrV (by decide) rfl (by decide +kernel) ?_
    refine g_getN (pc := 55) (idx := 116) (ci := 3) (v := .ref 30) (host := "PlanValues") hC 22 1 (by decide +kernel) rfl rfl rfl rfl wrP (by decide) rfl (by decide +kernel) ?_
    refine g_getN (pc := 58) (idx := 122) (ci := 2) (v := vl ((fvG G 48 N) 30 1)) (host := "PlanValues") hC 30 1 (by decide +kernel) rfl rfl rfl rfl wrU (by decide) rfl (by decide +kernel) ?_
    refine a_aload_n (pc := 61) (q := 0) (i := 0) (x := 0) hC (by decide +kernel) rfl 1 rfl ?_
    refine g_get (pc := 62) (idx := 10) (ci := 5) (v := .ref 1) hC 0 0 (by decide +kernel) rfl rfl rfl rfl wrV (by decide) rfl (by decide +kernel) ?_
    refine g_callVN (pc := 65) (idx := 133) (i := 1) (av := []) (rest := [vl ((fvG G 48 N) 30 1), vl (comesZ (fvG G 48 N) N (s * 3 + a) 30), .ref 0]) (g := fvG G 48 N) (v := vl (stepZ (fvG G 48 N))) (host := "PlanValues") hC hro hty (by decide +kernel) rfl rfl k_W_stepScale (by decide +kernel) (by decide +kernel) (by decide +kernel) (ct_W_stepScale X.la X.dd K (fvG G 48 N) N hf.1) rfl rfl (by decide) (by first | decide | simp [Value.category]) ?_
    refine a_lmul (pc := 68) hC (by decide +kernel) ?_
    refine g_callV (pc := 69) (idx := 125) (i := 0) (av := [vl (comesZ (fvG G 48 N) N (s * 3 + a) 30), vl (((fvG G 48 N) 30 1) * (stepZ (fvG G 48 N)))]) (rest := []) (g := ansG (fvG G 48 N) (comesZ (fvG G 48 N) N (s * 3 + a) 30) (((fvG G 48 N) 30 1) * (stepZ (fvG G 48 N)))) (v := vi 1) hC hro hty (by decide +kernel) rfl rfl k_V_giveAnswer (by decide +kernel) (by decide +kernel) (by decide +kernel) (ct_V_giveAnswer X.la X.dd K (fvG G 48 N) (comesZ (fvG G 48 N) N (s * 3 + a) 30) (((fvG G 48 N) 30 1) * (stepZ (fvG G 48 N))) hra.1 hra.2 ⟨hmp, by unfold inL; omega⟩) rfl rfl (by decide) (by first | decide | simp [Value.category]) ?_
    exact g_iret (pc := 72) hC hE (by decide +kernel) rfl rfl
  · skip
    exact absurd c9 (by unfold hasA; rw [if_pos (by rw [Int.toNat_natCast]; omega)]; decide)

set_option maxRecDepth 100000 in
set_option maxHeartbeats 4000000 in
theorem ct_V_best_no (l : Launch) (D : va_G) (K : K5) (G : GT) (N : Nat) (s : Int)  (hsi : inI s) (hv : VV G N) (hno : hasS G s = 0) : Ct l D K y_V_best c_V_best 2 (some .int) 6 150 [.ref 0, vi s] G (some (vi (-1))) G := by
  refine Ct.intro (by decide +kernel) (Nat.le_of_ble_eq_true rfl) ?_
  intro X hro hty hC hE
  obtain ⟨hw, hp47, hp48⟩ := id hv
  obtain ⟨hn, hN5, hsh, hac, hpa, hwe, hth⟩ := id hw
  refine a_aload_n (pc := 0) (q := 0) (i := 0) (x := 0) hC (by decide +kernel) rfl 0 rfl ?_
  refine g_get (pc := 1) (idx := 10) (ci := 5) (v := .ref 1) hC 0 0 (by decide +kernel) rfl rfl rfl rfl wrV (by decide) rfl (by decide +kernel) ?_
  refine a_iload_n (pc := 4) (q := 1) (i := 1) (x := s) hC (by decide +kernel) rfl 1 rfl ?_
  refine g_callVN (pc := 5) (idx := 75) (i := 1) (av := [vi s]) (rest := []) (g := G) (v := vi (hasS G s)) (host := "PlanValues") hC hro hty (by decide +kernel) rfl rfl k_W_hasState (by decide +kernel) (by decide +kernel) (by decide +kernel) (ct_W_hasState X.la X.dd K G N s hsi hw) rfl rfl (by decide) (by first | decide | simp [Value.category]) ?_
  refine a_if_ne (pc := 8) (off := 5) hC 13 (by decide +kernel) (by decide) (by unfold inI; omega) (fun c8 => ?_) (fun c8 => ?_)
  · skip
    exact absurd hno c8
  · skip
    refine a_iconst (pc := 11) (c := -1) hC (by decide +kernel) ?_
    exact g_iret (pc := 12) hC hE (by decide +kernel) rfl rfl

set_option maxRecDepth 100000 in
set_option maxHeartbeats 4000000 in
theorem ct_V_best (l : Launch) (D : va_G) (K : K5) (G : GT) (N s A : Nat) (hs : s < N) (hA : G 3 s = (A : Int)) (hm0 : MathOk) (hv : VV G N) : Ct l D K y_V_best c_V_best 2 (some .int) 6 150 [.ref 0, vi ((s : Int))] G (some (vi (bbS (fvG G 48 N) N s A))) (fvG G 48 N) := by
  refine Ct.intro (by decide +kernel) (Nat.le_of_ble_eq_true rfl) ?_
  intro X hro hty hC hE
  obtain ⟨hw, hp47, hp48⟩ := id hv
  obtain ⟨hn, hN5, hsh, hac, hpa, hwe, hth⟩ := id hw
  have hf := FolSt.fvG hm0 hw hp48
  have hnu := hf.2.2.2
  have hbo := BstOk.of hf.1 hf.2.2.1 hf.2.2.2
  have hA2 : fvG G 48 N 3 s = (A : Int) := by rw [fvG_off hN5 (by omega)]; exact hA
  refine a_aload_n (pc := 0) (q := 0) (i := 0) (x := 0) hC (by decide +kernel) rfl 0 rfl ?_
  refine g_get (pc := 1) (idx := 10) (ci := 5) (v := .ref 1) hC 0 0 (by decide +kernel) rfl rfl rfl rfl wrV (by decide) rfl (by decide +kernel) ?_
  refine a_iload_n (pc := 4) (q := 1) (i := 1) (x := (s : Int)) hC (by decide +kernel) rfl 1 rfl ?_
  refine g_callVN (pc := 5) (idx := 75) (i := 1) (av := [vi ((s : Int))]) (rest := []) (g := G) (v := vi (hasS G ((s : Int)))) (host := "PlanValues") hC hro hty (by decide +kernel) rfl rfl k_W_hasState (by decide +kernel) (by decide +kernel) (by decide +kernel) (ct_W_hasState X.la X.dd K G N ((s : Int)) (by unfold inI; omega) hw) rfl rfl (by decide) (by first | decide | simp [Value.category]) ?_
  refine a_if_ne (pc := 8) (off := 5) hC 13 (by decide +kernel) (by decide) (by unfold inI hasS; split <;> omega) (fun c8 => ?_) (fun c8 => ?_)
  · skip
    refine a_aload_n (pc := 13) (q := 0) (i := 0) (x := 0) hC (by decide +kernel) rfl 0 rfl ?_
    refine g_get (pc := 14) (idx := 19) (ci := 5) (v := .ref 22) hC 0 1 (by decide +kernel) rfl rfl rfl rfl wrV (by decide) rfl (by decide +kernel) ?_
    refine a_aload_n (pc := 17) (q := 0) (i := 0) (x := 0) hC (by decide +kernel) rfl 0 rfl ?_
    refine g_get (pc := 18) (idx := 10) (ci := 5) (v := .ref 1) hC 0 0 (by decide +kernel) rfl rfl rfl rfl wrV (by decide) rfl (by decide +kernel) ?_
    refine a_aload_n (pc := 21) (q := 0) (i := 0) (x := 0) hC (by decide +kernel) rfl 0 rfl ?_
    refine g_get (pc := 22) (idx := 45) (ci := 5) (v := .ref 48) hC 0 6 (by decide +kernel) rfl rfl rfl rfl wrV (by decide) rfl (by decide +kernel) ?_
    refine g_callVN0 (pc := 25) (idx := 112) (i := 22) (av := [.ref 1, .ref 48]) (rest := []) (g := fvG G 48 N) (host := "PlanValues") hC hro hty (by decide +kernel) rfl rfl k_P_findValues (by decide +kernel) (by decide +kernel) (by decide +kernel) (ct_P_findValues X.la X.dd K G 48 N hm0 hw hp48) rfl rfl (by decide) (by first | decide | simp [Value.category]) ?_
    refine a_aload_n (pc := 28) (q := 0) (i := 0) (x := 0) hC (by decide +kernel) rfl 0 rfl ?_
    refine a_iload_n (pc := 29) (q := 1) (i := 1) (x := (s : Int)) hC (by decide +kernel) rfl 1 rfl ?_
    refine g_callV (pc := 30) (idx := 137) (i := 0) (av := [vi ((s : Int))]) (rest := []) (g := fvG G 48 N) (v := vi (bbS (fvG G 48 N) N s A)) hC hro hty (by decide +kernel) rfl rfl k_V_bestBits (by decide +kernel) (by decide +kernel) (by decide +kernel) (ct_V_bestBits X.la X.dd K (fvG G 48 N) N s A hs hA2 hf.1 hbo) rfl rfl (by decide) (by first | decide | simp [Value.category]) ?_
    exact g_iret (pc := 33) hC hE (by decide +kernel) rfl rfl
  · skip
    exact absurd c8 (by unfold hasS; rw [if_pos (by omega)]; decide)

set_option maxRecDepth 100000 in
set_option maxHeartbeats 4000000 in
theorem ct_V_worth_no (l : Launch) (D : va_G) (K : K5) (G : GT) (N : Nat) (s : Int)  (hsi : inI s) (hv : VV G N) (hno : hasS G s = 0) : Ct l D K y_V_worth c_V_worth 2 (some .int) 3 84 [.ref 0, vi s] G (some (vi (-1))) G := by
  refine Ct.intro (by decide +kernel) (Nat.le_of_ble_eq_true rfl) ?_
  intro X hro hty hC hE
  obtain ⟨hw, hp47, hp48⟩ := id hv
  obtain ⟨hn, hN5, hsh, hac, hpa, hwe, hth⟩ := id hw
  refine a_aload_n (pc := 0) (q := 0) (i := 0) (x := 0) hC (by decide +kernel) rfl 0 rfl ?_
  refine g_get (pc := 1) (idx := 10) (ci := 5) (v := .ref 1) hC 0 0 (by decide +kernel) rfl rfl rfl rfl wrV (by decide) rfl (by decide +kernel) ?_
  refine a_iload_n (pc := 4) (q := 1) (i := 1) (x := s) hC (by decide +kernel) rfl 1 rfl ?_
  refine g_callVN (pc := 5) (idx := 75) (i := 1) (av := [vi s]) (rest := []) (g := G) (v := vi (hasS G s)) (host := "PlanValues") hC hro hty (by decide +kernel) rfl rfl k_W_hasState (by decide +kernel) (by decide +kernel) (by decide +kernel) (ct_W_hasState X.la X.dd K G N s hsi hw) rfl rfl (by decide) (by first | decide | simp [Value.category]) ?_
  refine a_if_ne (pc := 8) (off := 5) hC 13 (by decide +kernel) (by decide) (by unfold inI; omega) (fun c8 => ?_) (fun c8 => ?_)
  · skip
    exact absurd hno c8
  · skip
    refine a_iconst (pc := 11) (c := -1) hC (by decide +kernel) ?_
    exact g_iret (pc := 12) hC hE (by decide +kernel) rfl rfl

set_option maxRecDepth 100000 in
set_option maxHeartbeats 4000000 in
theorem ct_V_worth (l : Launch) (D : va_G) (K : K5) (G : GT) (N s : Nat) (hs : s < N) (hm0 : MathOk) (hv : VV G N) : Ct l D K y_V_worth c_V_worth 2 (some .int) 3 84 [.ref 0, vi ((s : Int))] G (some (vi 1)) (ansG (folR G 47 N) (folR G 47 N 31 s) (folR G 47 N 30 1)) := by
  refine Ct.intro (by decide +kernel) (Nat.le_of_ble_eq_true rfl) ?_
  intro X hro hty hC hE
  obtain ⟨hw, hp47, hp48⟩ := id hv
  obtain ⟨hn, hN5, hsh, hac, hpa, hwe, hth⟩ := id hw
  have hM := hm0 G 47 N hw hp47
  have hnu := hM.2.2
  have hra := abs_in (hnu.2.2 s hs) (by decide)
  refine a_aload_n (pc := 0) (q := 0) (i := 0) (x := 0) hC (by decide +kernel) rfl 0 rfl ?_
  refine g_get (pc := 1) (idx := 10) (ci := 5) (v := .ref 1) hC 0 0 (by decide +kernel) rfl rfl rfl rfl wrV (by decide) rfl (by decide +kernel) ?_
  refine a_iload_n (pc := 4) (q := 1) (i := 1) (x := (s : Int)) hC (by decide +kernel) rfl 1 rfl ?_
  refine g_callVN (pc := 5) (idx := 75) (i := 1) (av := [vi ((s : Int))]) (rest := []) (g := G) (v := vi (hasS G ((s : Int)))) (host := "PlanValues") hC hro hty (by decide +kernel) rfl rfl k_W_hasState (by decide +kernel) (by decide +kernel) (by decide +kernel) (ct_W_hasState X.la X.dd K G N ((s : Int)) (by unfold inI; omega) hw) rfl rfl (by decide) (by first | decide | simp [Value.category]) ?_
  refine a_if_ne (pc := 8) (off := 5) hC 13 (by decide +kernel) (by decide) (by unfold inI hasS; split <;> omega) (fun c8 => ?_) (fun c8 => ?_)
  · skip
    refine a_aload_n (pc := 13) (q := 0) (i := 0) (x := 0) hC (by decide +kernel) rfl 0 rfl ?_
    refine g_get (pc := 14) (idx := 19) (ci := 5) (v := .ref 22) hC 0 1 (by decide +kernel) rfl rfl rfl rfl wrV (by decide) rfl (by decide +kernel) ?_
    refine a_aload_n (pc := 17) (q := 0) (i := 0) (x := 0) hC (by decide +kernel) rfl 0 rfl ?_
    refine g_get (pc := 18) (idx := 10) (ci := 5) (v := .ref 1) hC 0 0 (by decide +kernel) rfl rfl rfl rfl wrV (by decide) rfl (by decide +kernel) ?_
    refine a_aload_n (pc := 21) (q := 0) (i := 0) (x := 0) hC (by decide +kernel) rfl 0 rfl ?_
    refine g_get (pc := 22) (idx := 41) (ci := 5) (v := .ref 47) hC 0 5 (by decide +kernel) rfl rfl rfl rfl wrV (by decide) rfl (by decide +kernel) ?_
    refine g_callVN0 (pc := 25) (idx := 141) (i := 22) (av := [.ref 1, .ref 47]) (rest := []) (g := folR G 47 N) (host := "PlanValues") hC hro hty (by decide +kernel) rfl rfl k_P_follow (by decide +kernel) (by decide +kernel) (by decide +kernel) (ct_P_follow X.la X.dd K G 47 N hw hp47 hM.1) rfl rfl (by decide) (by first | decide | simp [Value.category]) ?_
    refine a_aload_n (pc := 28) (q := 0) (i := 0) (x := 0) hC (by decide +kernel) rfl 0 rfl ?_
    refine a_aload_n (pc := 29) (q := 0) (i := 0) (x := 0) hC (by decide +kernel) rfl 0 rfl ?_
    refine g_get (pc := 30) (idx := 19) (ci := 5) (v := .ref 22) hC 0 1 (by decide +kernel) rfl rfl rfl rfl wrV (by decide) rfl (by decide +kernel) ?_
    refine g_getN (pc := 33) (idx := 116) (ci := 3) (v := .ref 30) (host := "PlanValues") hC 22 1 (by decide +kernel) rfl rfl rfl rfl wrP (by decide) rfl (by decide +kernel) ?_
    refine g_getN (pc := 36) (idx := 119) (ci := 2) (v := .ref 31) (host := "PlanValues") hC 30 0 (by decide +kernel) rfl rfl rfl rfl wrU (by decide) rfl (by decide +kernel) ?_
    refine a_iload_n (pc := 39) (q := 1) (i := 1) (x := (s : Int)) hC (by decide +kernel) rfl 1 rfl ?_
    refine g_lald (pc := 40) (a := 31) (j := s) hC hty (by decide +kernel) rfl (by omega) (by first | decide | omega) ?_
    refine a_aload_n (pc := 41) (q := 0) (i := 0) (x := 0) hC (by decide +kernel) rfl 0 rfl ?_
    refine g_get (pc := 42) (idx := 19) (ci := 5) (v := .ref 22) hC 0 1 (by decide +kernel) rfl rfl rfl rfl wrV (by decide) rfl (by decide +kernel) ?_
    refine g_getN (pc := 45) (idx := 116) (ci := 3) (v := .ref 30) (host := "PlanValues") hC 22 1 (by decide +kernel) rfl rfl rfl rfl wrP (by decide) rfl (by decide +kernel) ?_
    refine g_getN (pc := 48) (idx := 122) (ci := 2) (v := vl ((folR G 47 N) 30 1)) (host := "PlanValues") hC 30 1 (by decide +kernel) rfl rfl rfl rfl wrU (by decide) rfl (by decide +kernel) ?_
    refine g_callV (pc := 51) (idx := 125) (i := 0) (av := [vl ((folR G 47 N) 31 s), vl ((folR G 47 N) 30 1)]) (rest := []) (g := ansG (folR G 47 N) ((folR G 47 N) 31 s) ((folR G 47 N) 30 1)) (v := vi 1) hC hro hty (by decide +kernel) rfl rfl k_V_giveAnswer (by decide +kernel) (by decide +kernel) (by decide +kernel) (ct_V_giveAnswer X.la X.dd K (folR G 47 N) ((folR G 47 N) 31 s) ((folR G 47 N) 30 1) hra.1 hra.2 ⟨by have := hnu.1; omega, by have := hnu.1; have := hnu.2.1; unfold inL; omega⟩) rfl rfl (by decide) (by first | decide | simp [Value.category]) ?_
    exact g_iret (pc := 54) hC hE (by decide +kernel) rfl rfl
  · skip
    exact absurd c8 (by unfold hasS; rw [if_pos (by omega)]; decide)

set_option maxRecDepth 100000 in
set_option maxHeartbeats 4000000 in
theorem ct_V_reply_no (l : Launch) (D : va_G) (K : K5) (G : GT) (N : Nat) (s : Int) (z : Int) (hsi : inI s) (hv : VV G N) (hno : hasS G s = 0) : Ct l D K y_V_reply c_V_reply 3 (some .int) 5 127 [.ref 0, vi s, vi z] G (some (vi (-1))) G := by
  refine Ct.intro (by decide +kernel) (Nat.le_of_ble_eq_true rfl) ?_
  intro X hro hty hC hE
  obtain ⟨hw, hp47, hp48⟩ := id hv
  obtain ⟨hn, hN5, hsh, hac, hpa, hwe, hth⟩ := id hw
  refine a_aload_n (pc := 0) (q := 0) (i := 0) (x := 0) hC (by decide +kernel) rfl 0 rfl ?_
  refine g_get (pc := 1) (idx := 10) (ci := 5) (v := .ref 1) hC 0 0 (by decide +kernel) rfl rfl rfl rfl wrV (by decide) rfl (by decide +kernel) ?_
  refine a_iload_n (pc := 4) (q := 1) (i := 1) (x := s) hC (by decide +kernel) rfl 1 rfl ?_
  refine g_callVN (pc := 5) (idx := 75) (i := 1) (av := [vi s]) (rest := []) (g := G) (v := vi (hasS G s)) (host := "PlanValues") hC hro hty (by decide +kernel) rfl rfl k_W_hasState (by decide +kernel) (by decide +kernel) (by decide +kernel) (ct_W_hasState X.la X.dd K G N s hsi hw) rfl rfl (by decide) (by first | decide | simp [Value.category]) ?_
  refine a_if_ne (pc := 8) (off := 5) hC 13 (by decide +kernel) (by decide) (by unfold inI; omega) (fun c8 => ?_) (fun c8 => ?_)
  · skip
    exact absurd hno c8
  · skip
    refine a_iconst (pc := 11) (c := -1) hC (by decide +kernel) ?_
    exact g_iret (pc := 12) hC hE (by decide +kernel) rfl rfl

set_option maxRecDepth 100000 in
set_option maxHeartbeats 4000000 in
theorem ct_V_reply_bad (l : Launch) (D : va_G) (K : K5) (G : GT) (N s : Nat) (z : Int) (hs : s < N) (hzi : inI z) (hv : VV G N) (hbad : ¬ (z = 0 ∨ z = 1)) : Ct l D K y_V_reply c_V_reply 3 (some .int) 5 127 [.ref 0, vi ((s : Int)), vi z] G (some (vi (-2))) G := by
  refine Ct.intro (by decide +kernel) (Nat.le_of_ble_eq_true rfl) ?_
  intro X hro hty hC hE
  obtain ⟨hw, hp47, hp48⟩ := id hv
  obtain ⟨hn, hN5, hsh, hac, hpa, hwe, hth⟩ := id hw
  refine a_aload_n (pc := 0) (q := 0) (i := 0) (x := 0) hC (by decide +kernel) rfl 0 rfl ?_
  refine g_get (pc := 1) (idx := 10) (ci := 5) (v := .ref 1) hC 0 0 (by decide +kernel) rfl rfl rfl rfl wrV (by decide) rfl (by decide +kernel) ?_
  refine a_iload_n (pc := 4) (q := 1) (i := 1) (x := (s : Int)) hC (by decide +kernel) rfl 1 rfl ?_
  refine g_callVN (pc := 5) (idx := 75) (i := 1) (av := [vi ((s : Int))]) (rest := []) (g := G) (v := vi (hasS G ((s : Int)))) (host := "PlanValues") hC hro hty (by decide +kernel) rfl rfl k_W_hasState (by decide +kernel) (by decide +kernel) (by decide +kernel) (ct_W_hasState X.la X.dd K G N ((s : Int)) (by unfold inI; omega) hw) rfl rfl (by decide) (by first | decide | simp [Value.category]) ?_
  refine a_if_ne (pc := 8) (off := 5) hC 13 (by decide +kernel) (by decide) (by unfold inI hasS; split <;> omega) (fun c8 => ?_) (fun c8 => ?_)
  · skip
    refine a_iload_n (pc := 13) (q := 2) (i := 2) (x := z) hC (by decide +kernel) rfl 2 rfl ?_
    refine a_if_eq (pc := 14) (off := 11) hC 25 (by decide +kernel) (by decide) hzi (fun c14 => ?_) (fun c14 => ?_)
    · skip
      exact absurd (Or.inl c14) hbad
    · skip
      refine a_iload_n (pc := 17) (q := 2) (i := 2) (x := z) hC (by decide +kernel) rfl 2 rfl ?_
      refine a_iconst (pc := 18) (c := 1) hC (by decide +kernel) ?_
      refine a_icmp_eq (pc := 19) (off := 6) hC 25 (by decide +kernel) (by decide) hzi ⟨by decide, by decide⟩ (fun c19 => ?_) (fun c19 => ?_)
      · skip
        exact absurd (Or.inr c19) hbad
      · skip
        refine a_bipush (pc := 22) (c := -2) hC (by decide +kernel) (by decide +kernel) ?_
        exact g_iret (pc := 24) hC hE (by decide +kernel) rfl rfl
  · skip
    exact absurd c8 (by unfold hasS; rw [if_pos (by omega)]; decide)

def trG (G : GT) : GT := uG G 49 (cpy (G 47) (G 49) 5)
theorem WW.tr {G : GT} {N : Nat} (h : WW G N) : WW (trG G) N := h.keep (fun a ha => uG_n _ _ (by omega))
theorem PlOk.tr {G : GT} {N : Nat} (hN : N ≤ 5) (h : PlOk G 47 N) : PlOk (trG G) 49 N := ⟨Or.inr (Or.inr rfl), fun s hs => by
  unfold trG; rw [uG_s]; unfold cpy; rw [if_pos (by omega)]; exact h.2 s hs⟩
set_option maxRecDepth 100000 in
set_option maxHeartbeats 4000000 in
theorem ct_V_reply (l : Launch) (D : va_G) (K : K5) (G : GT) (N s : Nat) (hs : s < N) (hm0 : MathOk) (hv : VV G N) : Ct l D K y_V_reply c_V_reply 3 (some .int) 5 127 [.ref 0, vi ((s : Int)), vi 0] G (some (vi 1)) (ansG (repG (trG G) 49 N 1) (repG (trG G) 49 N 1 31 s) (repG (trG G) 49 N 1 30 1)) := by
  refine Ct.intro (by decide +kernel) (Nat.le_of_ble_eq_true rfl) ?_
  intro X hro hty hC hE
  obtain ⟨hw, hp47, hp48⟩ := id hv
  obtain ⟨hn, hN5, hsh, hac, hpa, hwe, hth⟩ := id hw
  have hf := FolSt.repG (b := 1) hm0 hw.tr (hp47.tr hN5)
  have hnu := hf.2.2.2
  have hra := abs_in (hnu.2.2 s hs) (by decide)
  refine a_aload_n (pc := 0) (q := 0) (i := 0) (x := 0) hC (by decide +kernel) rfl 0 rfl ?_
  refine g_get (pc := 1) (idx := 10) (ci := 5) (v := .ref 1) hC 0 0 (by decide +kernel) rfl rfl rfl rfl wrV (by decide) rfl (by decide +kernel) ?_
  refine a_iload_n (pc := 4) (q := 1) (i := 1) (x := (s : Int)) hC (by decide +kernel) rfl 1 rfl ?_
  refine g_callVN (pc := 5) (idx := 75) (i := 1) (av := [vi ((s : Int))]) (rest := []) (g := G) (v := vi (hasS G ((s : Int)))) (host := "PlanValues") hC hro hty (by decide +kernel) rfl rfl k_W_hasState (by decide +kernel) (by decide +kernel) (by decide +kernel) (ct_W_hasState X.la X.dd K G N ((s : Int)) (by unfold inI; omega) hw) rfl rfl (by decide) (by first | decide | simp [Value.category]) ?_
  refine a_if_ne (pc := 8) (off := 5) hC 13 (by decide +kernel) (by decide) (by unfold inI hasS; split <;> omega) (fun c8 => ?_) (fun c8 => ?_)
  · skip
    refine a_iload_n (pc := 13) (q := 2) (i := 2) (x := 0) hC (by decide +kernel) rfl 2 rfl ?_
    refine a_if_eq (pc := 14) (off := 11) hC 25 (by decide +kernel) (by decide) (by unfold inI; omega) (fun c14 => ?_) (fun c14 => ?_)
    · skip
      refine a_aload_n (pc := 25) (q := 0) (i := 0) (x := 0) hC (by decide +kernel) rfl 0 rfl ?_
      refine g_callV0 (pc := 26) (idx := 144) (i := 0) (av := []) (rest := []) (g := uG G 49 (cpy (G 47) (G 49) 5)) hC hro hty (by decide +kernel) rfl rfl k_V_tryToldPlan (by decide +kernel) (by decide +kernel) (by decide +kernel) (ct_V_tryToldPlan X.la X.dd K G) rfl rfl (by decide) (by first | decide | simp [Value.category]) ?_
      refine g_G (G' := trG G) rfl ?_
      refine a_aload_n (pc := 29) (q := 0) (i := 0) (x := 0) hC (by decide +kernel) rfl 0 rfl ?_
      refine g_get (pc := 30) (idx := 19) (ci := 5) (v := .ref 22) hC 0 1 (by decide +kernel) rfl rfl rfl rfl wrV (by decide) rfl (by decide +kernel) ?_
      refine a_iload_n (pc := 33) (q := 2) (i := 2) (x := 0) hC (by decide +kernel) rfl 2 rfl ?_
      refine a_if_ne (pc := 34) (off := 7) hC 41 (by decide +kernel) (by decide) (by unfold inI; omega) (fun c34 => ?_) (fun c34 => ?_)
      · skip
        exact absurd c34 (by decide)
      · skip
        refine a_iconst (pc := 37) (c := 1) hC (by decide +kernel) ?_
        refine a_goto (pc := 38) (off := 4) hC 42 (by decide +kernel) (by decide) ?_
        refine a_aload_n (pc := 42) (q := 0) (i := 0) (x := 0) hC (by decide +kernel) rfl 0 rfl ?_
        refine g_get (pc := 43) (idx := 10) (ci := 5) (v := .ref 1) hC 0 0 (by decide +kernel) rfl rfl rfl rfl wrV (by decide) rfl (by decide +kernel) ?_
        refine a_aload_n (pc := 46) (q := 0) (i := 0) (x := 0) hC (by decide +kernel) rfl 0 rfl ?_
        refine g_get (pc := 47) (idx := 48) (ci := 5) (v := .ref 49) hC 0 7 (by decide +kernel) rfl rfl rfl rfl wrV (by decide) rfl (by decide +kernel) ?_
        refine g_callVN0 (pc := 50) (idx := 147) (i := 22) (av := [vi 1, .ref 1, .ref 49]) (rest := []) (g := repG (trG G) 49 N 1) (host := "PlanValues") hC hro hty (by decide +kernel) rfl rfl k_P_replyBy (by decide +kernel) (by decide +kernel) (by decide +kernel) (ct_P_replyBy X.la X.dd K (trG G) 49 N 1 (by decide) hm0 hw.tr (hp47.tr hN5)) rfl rfl (by decide) (by first | decide | simp [Value.category]) ?_
        refine a_aload_n (pc := 53) (q := 0) (i := 0) (x := 0) hC (by decide +kernel) rfl 0 rfl ?_
        refine a_aload_n (pc := 54) (q := 0) (i := 0) (x := 0) hC (by decide +kernel) rfl 0 rfl ?_
        refine g_get (pc := 55) (idx := 19) (ci := 5) (v := .ref 22) hC 0 1 (by decide +kernel) rfl rfl rfl rfl wrV (by decide) rfl (by decide +kernel) ?_
        refine g_getN (pc := 58) (idx := 116) (ci := 3) (v := .ref 30) (host := "PlanValues") hC 22 1 (by decide +kernel) rfl rfl rfl rfl wrP (by decide) rfl (by decide +kernel) ?_
        refine g_getN (pc := 61) (idx := 119) (ci := 2) (v := .ref 31) (host := "PlanValues") hC 30 0 (by decide +kernel) rfl rfl rfl rfl wrU (by decide) rfl (by decide +kernel) ?_
        refine a_iload_n (pc := 64) (q := 1) (i := 1) (x := (s : Int)) hC (by decide +kernel) rfl 1 rfl ?_
        refine g_lald (pc := 65) (a := 31) (j := s) hC hty (by decide +kernel) rfl (by omega) (by first | decide | omega) ?_
        refine a_aload_n (pc := 66) (q := 0) (i := 0) (x := 0) hC (by decide +kernel) rfl 0 rfl ?_
        refine g_get (pc := 67) (idx := 19) (ci := 5) (v := .ref 22) hC 0 1 (by decide +kernel) rfl rfl rfl rfl wrV (by decide) rfl (by decide +kernel) ?_
        refine g_getN (pc := 70) (idx := 116) (ci := 3) (v := .ref 30) (host := "PlanValues") hC 22 1 (by decide +kernel) rfl rfl rfl rfl wrP (by decide) rfl (by decide +kernel) ?_
        refine g_getN (pc := 73) (idx := 122) (ci := 2) (v := vl ((repG (trG G) 49 N 1) 30 1)) (host := "PlanValues") hC 30 1 (by decide +kernel) rfl rfl rfl rfl wrU (by decide) rfl (by decide +kernel) ?_
        refine g_callV (pc := 76) (idx := 125) (i := 0) (av := [vl ((repG (trG G) 49 N 1) 31 s), vl ((repG (trG G) 49 N 1) 30 1)]) (rest := []) (g := ansG (repG (trG G) 49 N 1) ((repG (trG G) 49 N 1) 31 s) ((repG (trG G) 49 N 1) 30 1)) (v := vi 1) hC hro hty (by decide +kernel) rfl rfl k_V_giveAnswer (by decide +kernel) (by decide +kernel) (by decide +kernel) (ct_V_giveAnswer X.la X.dd K (repG (trG G) 49 N 1) ((repG (trG G) 49 N 1) 31 s) ((repG (trG G) 49 N 1) 30 1) hra.1 hra.2 ⟨by have := hnu.1; omega, by have := hnu.1; have := hnu.2.1; unfold inL; omega⟩) rfl rfl (by decide) (by first | decide | simp [Value.category]) ?_
        exact g_iret (pc := 79) hC hE (by decide +kernel) rfl rfl
    · skip
      exact absurd c14 (by decide)
  · skip
    exact absurd c8 (by unfold hasS; rw [if_pos (by omega)]; decide)

set_option maxRecDepth 100000 in
set_option maxHeartbeats 4000000 in
theorem ct_V_reply_1 (l : Launch) (D : va_G) (K : K5) (G : GT) (N s : Nat) (hs : s < N) (hm0 : MathOk) (hv : VV G N) : Ct l D K y_V_reply c_V_reply 3 (some .int) 5 127 [.ref 0, vi ((s : Int)), vi 1] G (some (vi 1)) (ansG (repG (trG G) 49 N 0) (repG (trG G) 49 N 0 31 s) (repG (trG G) 49 N 0 30 1)) := by
  refine Ct.intro (by decide +kernel) (Nat.le_of_ble_eq_true rfl) ?_
  intro X hro hty hC hE
  obtain ⟨hw, hp47, hp48⟩ := id hv
  obtain ⟨hn, hN5, hsh, hac, hpa, hwe, hth⟩ := id hw
  have hf := FolSt.repG (b := 0) hm0 hw.tr (hp47.tr hN5)
  have hnu := hf.2.2.2
  have hra := abs_in (hnu.2.2 s hs) (by decide)
  refine a_aload_n (pc := 0) (q := 0) (i := 0) (x := 0) hC (by decide +kernel) rfl 0 rfl ?_
  refine g_get (pc := 1) (idx := 10) (ci := 5) (v := .ref 1) hC 0 0 (by decide +kernel) rfl rfl rfl rfl wrV (by decide) rfl (by decide +kernel) ?_
  refine a_iload_n (pc := 4) (q := 1) (i := 1) (x := (s : Int)) hC (by decide +kernel) rfl 1 rfl ?_
  refine g_callVN (pc := 5) (idx := 75) (i := 1) (av := [vi ((s : Int))]) (rest := []) (g := G) (v := vi (hasS G ((s : Int)))) (host := "PlanValues") hC hro hty (by decide +kernel) rfl rfl k_W_hasState (by decide +kernel) (by decide +kernel) (by decide +kernel) (ct_W_hasState X.la X.dd K G N ((s : Int)) (by unfold inI; omega) hw) rfl rfl (by decide) (by first | decide | simp [Value.category]) ?_
  refine a_if_ne (pc := 8) (off := 5) hC 13 (by decide +kernel) (by decide) (by unfold inI hasS; split <;> omega) (fun c8 => ?_) (fun c8 => ?_)
  · skip
    refine a_iload_n (pc := 13) (q := 2) (i := 2) (x := 1) hC (by decide +kernel) rfl 2 rfl ?_
    refine a_if_eq (pc := 14) (off := 11) hC 25 (by decide +kernel) (by decide) (by unfold inI; omega) (fun c14 => ?_) (fun c14 => ?_)
    · skip
      exact absurd c14 (by decide)
    · skip
      refine a_iload_n (pc := 17) (q := 2) (i := 2) (x := 1) hC (by decide +kernel) rfl 2 rfl ?_
      refine a_iconst (pc := 18) (c := 1) hC (by decide +kernel) ?_
      refine a_icmp_eq (pc := 19) (off := 6) hC 25 (by decide +kernel) (by decide) (by unfold inI; omega) (by unfold inI; omega) (fun c19 => ?_) (fun c19 => ?_)
      · skip
        refine a_aload_n (pc := 25) (q := 0) (i := 0) (x := 0) hC (by decide +kernel) rfl 0 rfl ?_
        refine g_callV0 (pc := 26) (idx := 144) (i := 0) (av := []) (rest := []) (g := uG G 49 (cpy (G 47) (G 49) 5)) hC hro hty (by decide +kernel) rfl rfl k_V_tryToldPlan (by decide +kernel) (by decide +kernel) (by decide +kernel) (ct_V_tryToldPlan X.la X.dd K G) rfl rfl (by decide) (by first | decide | simp [Value.category]) ?_
        refine g_G (G' := trG G) rfl ?_
        refine a_aload_n (pc := 29) (q := 0) (i := 0) (x := 0) hC (by decide +kernel) rfl 0 rfl ?_
        refine g_get (pc := 30) (idx := 19) (ci := 5) (v := .ref 22) hC 0 1 (by decide +kernel) rfl rfl rfl rfl wrV (by decide) rfl (by decide +kernel) ?_
        refine a_iload_n (pc := 33) (q := 2) (i := 2) (x := 1) hC (by decide +kernel) rfl 2 rfl ?_
        refine a_if_ne (pc := 34) (off := 7) hC 41 (by decide +kernel) (by decide) (by unfold inI; omega) (fun c34 => ?_) (fun c34 => ?_)
        · skip
          refine a_iconst (pc := 41) (c := 0) hC (by decide +kernel) ?_
          refine a_aload_n (pc := 42) (q := 0) (i := 0) (x := 0) hC (by decide +kernel) rfl 0 rfl ?_
          refine g_get (pc := 43) (idx := 10) (ci := 5) (v := .ref 1) hC 0 0 (by decide +kernel) rfl rfl rfl rfl wrV (by decide) rfl (by decide +kernel) ?_
          refine a_aload_n (pc := 46) (q := 0) (i := 0) (x := 0) hC (by decide +kernel) rfl 0 rfl ?_
          refine g_get (pc := 47) (idx := 48) (ci := 5) (v := .ref 49) hC 0 7 (by decide +kernel) rfl rfl rfl rfl wrV (by decide) rfl (by decide +kernel) ?_
          refine g_callVN0 (pc := 50) (idx := 147) (i := 22) (av := [vi 0, .ref 1, .ref 49]) (rest := []) (g := repG (trG G) 49 N 0) (host := "PlanValues") hC hro hty (by decide +kernel) rfl rfl k_P_replyBy (by decide +kernel) (by decide +kernel) (by decide +kernel) (ct_P_replyBy X.la X.dd K (trG G) 49 N 0 (by decide) hm0 hw.tr (hp47.tr hN5)) rfl rfl (by decide) (by first | decide | simp [Value.category]) ?_
          refine a_aload_n (pc := 53) (q := 0) (i := 0) (x := 0) hC (by decide +kernel) rfl 0 rfl ?_
          refine a_aload_n (pc := 54) (q := 0) (i := 0) (x := 0) hC (by decide +kernel) rfl 0 rfl ?_
          refine g_get (pc := 55) (idx := 19) (ci := 5) (v := .ref 22) hC 0 1 (by decide +kernel) rfl rfl rfl rfl wrV (by decide) rfl (by decide +kernel) ?_
          refine g_getN (pc := 58) (idx := 116) (ci := 3) (v := .ref 30) (host := "PlanValues") hC 22 1 (by decide +kernel) rfl rfl rfl rfl wrP (by decide) rfl (by decide +kernel) ?_
          refine g_getN (pc := 61) (idx := 119) (ci := 2) (v := .ref 31) (host := "PlanValues") hC 30 0 (by decide +kernel) rfl rfl rfl rfl wrU (by decide) rfl (by decide +kernel) ?_
          refine a_iload_n (pc := 64) (q := 1) (i := 1) (x := (s : Int)) hC (by decide +kernel) rfl 1 rfl ?_
          refine g_lald (pc := 65) (a := 31) (j := s) hC hty (by decide +kernel) rfl (by omega) (by first | decide | omega) ?_
          refine a_aload_n (pc := 66) (q := 0) (i := 0) (x := 0) hC (by decide +kernel) rfl 0 rfl ?_
          refine g_get (pc := 67) (idx := 19) (ci := 5) (v := .ref 22) hC 0 1 (by decide +kernel) rfl rfl rfl rfl wrV (by decide) rfl (by decide +kernel) ?_
          refine g_getN (pc := 70) (idx := 116) (ci := 3) (v := .ref 30) (host := "PlanValues") hC 22 1 (by decide +kernel) rfl rfl rfl rfl wrP (by decide) rfl (by decide +kernel) ?_
          refine g_getN (pc := 73) (idx := 122) (ci := 2) (v := vl ((repG (trG G) 49 N 0) 30 1)) (host := "PlanValues") hC 30 1 (by decide +kernel) rfl rfl rfl rfl wrU (by decide) rfl (by decide +kernel) ?_
          refine g_callV (pc := 76) (idx := 125) (i := 0) (av := [vl ((repG (trG G) 49 N 0) 31 s), vl ((repG (trG G) 49 N 0) 30 1)]) (rest := []) (g := ansG (repG (trG G) 49 N 0) ((repG (trG G) 49 N 0) 31 s) ((repG (trG G) 49 N 0) 30 1)) (v := vi 1) hC hro hty (by decide +kernel) rfl rfl k_V_giveAnswer (by decide +kernel) (by decide +kernel) (by decide +kernel) (ct_V_giveAnswer X.la X.dd K (repG (trG G) 49 N 0) ((repG (trG G) 49 N 0) 31 s) ((repG (trG G) 49 N 0) 30 1) hra.1 hra.2 ⟨by have := hnu.1; omega, by have := hnu.1; have := hnu.2.1; unfold inL; omega⟩) rfl rfl (by decide) (by first | decide | simp [Value.category]) ?_
          exact g_iret (pc := 79) hC hE (by decide +kernel) rfl rfl
        · skip
          exact absurd c34 (by decide)
      · skip
        exact absurd c19 (by decide)
  · skip
    exact absurd c8 (by unfold hasS; rw [if_pos (by omega)]; decide)

set_option maxRecDepth 100000 in
set_option maxHeartbeats 4000000 in
theorem ct_V_run_no (l : Launch) (D : va_G) (K : K5) (G : GT) (N : Nat) (s : Int)  (hsi : inI s) (hv : VV G N) (hno : hasS G s = 0) : Ct l D K y_V_run c_V_run 2 (some .int) 4 93 [.ref 0, vi s] G (some (vi (-1))) G := by
  refine Ct.intro (by decide +kernel) (Nat.le_of_ble_eq_true rfl) ?_
  intro X hro hty hC hE
  obtain ⟨hw, hp47, hp48⟩ := id hv
  obtain ⟨hn, hN5, hsh, hac, hpa, hwe, hth⟩ := id hw
  refine a_aload_n (pc := 0) (q := 0) (i := 0) (x := 0) hC (by decide +kernel) rfl 0 rfl ?_
  refine g_get (pc := 1) (idx := 10) (ci := 5) (v := .ref 1) hC 0 0 (by decide +kernel) rfl rfl rfl rfl wrV (by decide) rfl (by decide +kernel) ?_
  refine a_iload_n (pc := 4) (q := 1) (i := 1) (x := s) hC (by decide +kernel) rfl 1 rfl ?_
  refine g_callVN (pc := 5) (idx := 75) (i := 1) (av := [vi s]) (rest := []) (g := G) (v := vi (hasS G s)) (host := "PlanValues") hC hro hty (by decide +kernel) rfl rfl k_W_hasState (by decide +kernel) (by decide +kernel) (by decide +kernel) (ct_W_hasState X.la X.dd K G N s hsi hw) rfl rfl (by decide) (by first | decide | simp [Value.category]) ?_
  refine a_if_ne (pc := 8) (off := 5) hC 13 (by decide +kernel) (by decide) (by unfold inI; omega) (fun c8 => ?_) (fun c8 => ?_)
  · skip
    exact absurd hno c8
  · skip
    refine a_iconst (pc := 11) (c := -1) hC (by decide +kernel) ?_
    exact g_iret (pc := 12) hC hE (by decide +kernel) rfl rfl

/-- what run needs of the arithmetic -/
def RunOk (G : GT) (N : Nat) : Prop := SolOk (lrG (lrH G 47 N) 47 N N) 33 N ∧ 1 ≤ lrR G 47 N 40 1 ∧ lrR G 47 N 40 1 ≤ 1000000000000 ∧ ∀ h, h < N → -1000000000000000 ≤ lrR G 47 N 41 h ∧ lrR G 47 N 41 h ≤ 1000000000000000
theorem lrR_43 {G : GT} {pl N : Nat} (hN : N ≤ 5) : lrR G pl N 43 = lrH G pl N 43 := by
  unfold lrR; rw [solG_off (by omega) (by decide) (by decide), lrG_off (by omega) (by omega)]
set_option maxRecDepth 100000 in
set_option maxHeartbeats 4000000 in
theorem ct_V_run (l : Launch) (D : va_G) (K : K5) (G : GT) (N s : Nat) (hs : s < N) (hru : RunOk G N) (hv : VV G N) : Ct l D K y_V_run c_V_run 2 (some .int) 4 93 [.ref 0, vi ((s : Int))] G (some (vi 1)) (ansG (lrR G 47 N) (lrR G 47 N 41 (homZ (reaG G 47 N) N s).toNat) (lrR G 47 N 40 1)) := by
  refine Ct.intro (by decide +kernel) (Nat.le_of_ble_eq_true rfl) ?_
  intro X hro hty hC hE
  obtain ⟨hw, hp47, hp48⟩ := id hv
  obtain ⟨hn, hN5, hsh, hac, hpa, hwe, hth⟩ := id hw
  have hho := homZ_in (G := reaG G 47 N) hs
  obtain ⟨h, hh, hhN⟩ : ∃ h : Nat, homZ (reaG G 47 N) N s = (h : Int) ∧ h < N := ⟨(homZ (reaG G 47 N) N s).toNat, by omega, by omega⟩
  have hhn : (homZ (reaG G 47 N) N s).toNat = h := by omega
  have h43 : lrR G 47 N 43 s = (h : Int) := by
    rw [lrR_43 hN5]; unfold lrH homG; rw [uG_s]; unfold homF; rw [if_pos hs]; exact hh
  have hra := abs_in (hru.2.2.2 h hhN) (by decide)
  refine a_aload_n (pc := 0) (q := 0) (i := 0) (x := 0) hC (by decide +kernel) rfl 0 rfl ?_
  refine g_get (pc := 1) (idx := 10) (ci := 5) (v := .ref 1) hC 0 0 (by decide +kernel) rfl rfl rfl rfl wrV (by decide) rfl (by decide +kernel) ?_
  refine a_iload_n (pc := 4) (q := 1) (i := 1) (x := (s : Int)) hC (by decide +kernel) rfl 1 rfl ?_
  refine g_callVN (pc := 5) (idx := 75) (i := 1) (av := [vi ((s : Int))]) (rest := []) (g := G) (v := vi (hasS G ((s : Int)))) (host := "PlanValues") hC hro hty (by decide +kernel) rfl rfl k_W_hasState (by decide +kernel) (by decide +kernel) (by decide +kernel) (ct_W_hasState X.la X.dd K G N ((s : Int)) (by unfold inI; omega) hw) rfl rfl (by decide) (by first | decide | simp [Value.category]) ?_
  refine a_if_ne (pc := 8) (off := 5) hC 13 (by decide +kernel) (by decide) (by unfold inI hasS; split <;> omega) (fun c8 => ?_) (fun c8 => ?_)
  · skip
    refine a_aload_n (pc := 13) (q := 0) (i := 0) (x := 0) hC (by decide +kernel) rfl 0 rfl ?_
    refine g_get (pc := 14) (idx := 26) (ci := 5) (v := .ref 32) hC 0 2 (by decide +kernel) rfl rfl rfl rfl wrV (by decide) rfl (by decide +kernel) ?_
    refine a_aload_n (pc := 17) (q := 0) (i := 0) (x := 0) hC (by decide +kernel) rfl 0 rfl ?_
    refine g_get (pc := 18) (idx := 10) (ci := 5) (v := .ref 1) hC 0 0 (by decide +kernel) rfl rfl rfl rfl wrV (by decide) rfl (by decide +kernel) ?_
    refine a_aload_n (pc := 21) (q := 0) (i := 0) (x := 0) hC (by decide +kernel) rfl 0 rfl ?_
    refine g_get (pc := 22) (idx := 41) (ci := 5) (v := .ref 47) hC 0 5 (by decide +kernel) rfl rfl rfl rfl wrV (by decide) rfl (by decide +kernel) ?_
    refine g_callVN0 (pc := 25) (idx := 161) (i := 32) (av := [.ref 1, .ref 47]) (rest := []) (g := lrR G 47 N) (host := "PlanValues") hC hro hty (by decide +kernel) rfl rfl k_L_follow (by decide +kernel) (by decide +kernel) (by decide +kernel) (ct_L_follow X.la X.dd K G 47 N hw hp47 hru.1) rfl rfl (by decide) (by first | decide | simp [Value.category]) ?_
    refine a_aload_n (pc := 28) (q := 0) (i := 0) (x := 0) hC (by decide +kernel) rfl 0 rfl ?_
    refine a_aload_n (pc := 29) (q := 0) (i := 0) (x := 0) hC (by decide +kernel) rfl 0 rfl ?_
    refine g_get (pc := 30) (idx := 26) (ci := 5) (v := .ref 32) hC 0 2 (by decide +kernel) rfl rfl rfl rfl wrV (by decide) rfl (by decide +kernel) ?_
    refine g_getN (pc := 33) (idx := 162) (ci := 1) (v := .ref 40) (host := "PlanValues") hC 32 1 (by decide +kernel) rfl rfl rfl rfl wrL (by decide) rfl (by decide +kernel) ?_
    refine g_getN (pc := 36) (idx := 119) (ci := 2) (v := .ref 41) (host := "PlanValues") hC 40 0 (by decide +kernel) rfl rfl rfl rfl wrU (by decide) rfl (by decide +kernel) ?_
    refine a_aload_n (pc := 39) (q := 0) (i := 0) (x := 0) hC (by decide +kernel) rfl 0 rfl ?_
    refine g_get (pc := 40) (idx := 26) (ci := 5) (v := .ref 32) hC 0 2 (by decide +kernel) rfl rfl rfl rfl wrV (by decide) rfl (by decide +kernel) ?_
    refine g_getN (pc := 43) (idx := 163) (ci := 1) (v := .ref 43) (host := "PlanValues") hC 32 3 (by decide +kernel) rfl rfl rfl rfl wrL (by decide) rfl (by decide +kernel) ?_
    refine a_iload_n (pc := 46) (q := 1) (i := 1) (x := (s : Int)) hC (by decide +kernel) rfl 1 rfl ?_
    refine g_iald (pc := 47) (a := 43) (j := s) hC hty (by decide +kernel) rfl (by omega) (by first | decide | omega) ?_
    refine g_top (y := (h : Int)) h43 ?_
    refine g_lald (pc := 48) (a := 41) (j := h) hC hty (by decide +kernel) rfl (by omega) (by first | decide | omega) ?_
    refine a_aload_n (pc := 49) (q := 0) (i := 0) (x := 0) hC (by decide +kernel) rfl 0 rfl ?_
    refine g_get (pc := 50) (idx := 26) (ci := 5) (v := .ref 32) hC 0 2 (by decide +kernel) rfl rfl rfl rfl wrV (by decide) rfl (by decide +kernel) ?_
    refine g_getN (pc := 53) (idx := 162) (ci := 1) (v := .ref 40) (host := "PlanValues") hC 32 1 (by decide +kernel) rfl rfl rfl rfl wrL (by decide) rfl (by decide +kernel) ?_
    refine g_getN (pc := 56) (idx := 122) (ci := 2) (v := vl ((lrR G 47 N) 40 1)) (host := "PlanValues") hC 40 1 (by decide +kernel) rfl rfl rfl rfl wrU (by decide) rfl (by decide +kernel) ?_
    refine g_callV (pc := 59) (idx := 125) (i := 0) (av := [vl ((lrR G 47 N) 41 h), vl ((lrR G 47 N) 40 1)]) (rest := []) (g := ansG (lrR G 47 N) ((lrR G 47 N) 41 h) ((lrR G 47 N) 40 1)) (v := vi 1) hC hro hty (by decide +kernel) rfl rfl k_V_giveAnswer (by decide +kernel) (by decide +kernel) (by decide +kernel) (ct_V_giveAnswer X.la X.dd K (lrR G 47 N) ((lrR G 47 N) 41 h) ((lrR G 47 N) 40 1) hra.1 hra.2 ⟨by have := hru.2.1; omega, by have := hru.2.1; have := hru.2.2.1; unfold inL; omega⟩) rfl rfl (by decide) (by first | decide | simp [Value.category]) ?_
    exact g_iret (pc := 62) hC hE (by decide +kernel) rfl (by rw [hhn])
  · skip
    exact absurd c8 (by unfold hasS; rw [if_pos (by omega)]; decide)

def setS (F : GT) (G : GT) (N : Nat) : Nat → Bool
  | 0 => true
  | s + 1 => setS F G N s && decide (isbZ F N s (G 47 s).toNat = 1)
theorem setS_down {F G : GT} {N : Nat} : ∀ {n t : Nat}, t ≤ n → setS F G N n = true → setS F G N t = true
  | 0, t, h, hc => by rw [show t = 0 by omega]; rfl
  | n + 1, t, h, hc => by
    by_cases e : t = n + 1
    · rw [e]; exact hc
    · have : setS F G N n = true := by unfold setS at hc; simp at hc; exact hc.1
      exact setS_down (by omega) this
set_option maxRecDepth 100000 in
set_option maxHeartbeats 4000000 in
theorem ct_V_settled (l : Launch) (D : va_G) (K : K5) (G : GT) (N : Nat) (hm0 : MathOk) (hv : VV G N) : Ct l D K y_V_settled c_V_settled 2 (some .int) 6 150 [.ref 0] G (some (vi (bZ (setS (fvG G 48 N) G N N)))) (fvG G 48 N) := by
  refine Ct.intro (by decide +kernel) (Nat.le_of_ble_eq_true rfl) ?_
  intro X hro hty hC hE
  obtain ⟨hw, hp47, hp48⟩ := id hv
  obtain ⟨hn, hN5, hsh, hac, hpa, hwe, hth⟩ := id hw
  have hf := FolSt.fvG hm0 hw hp48
  have hnu := hf.2.2.2
  have hbo := BstOk.of hf.1 hf.2.2.1 hf.2.2.2
  refine a_aload_n (pc := 0) (q := 0) (i := 0) (x := 0) hC (by decide +kernel) rfl 0 rfl ?_
  refine g_get (pc := 1) (idx := 19) (ci := 5) (v := .ref 22) hC 0 1 (by decide +kernel) rfl rfl rfl rfl wrV (by decide) rfl (by decide +kernel) ?_
  refine a_aload_n (pc := 4) (q := 0) (i := 0) (x := 0) hC (by decide +kernel) rfl 0 rfl ?_
  refine g_get (pc := 5) (idx := 10) (ci := 5) (v := .ref 1) hC 0 0 (by decide +kernel) rfl rfl rfl rfl wrV (by decide) rfl (by decide +kernel) ?_
  refine a_aload_n (pc := 8) (q := 0) (i := 0) (x := 0) hC (by decide +kernel) rfl 0 rfl ?_
  refine g_get (pc := 9) (idx := 45) (ci := 5) (v := .ref 48) hC 0 6 (by decide +kernel) rfl rfl rfl rfl wrV (by decide) rfl (by decide +kernel) ?_
  refine g_callVN0 (pc := 12) (idx := 112) (i := 22) (av := [.ref 1, .ref 48]) (rest := []) (g := fvG G 48 N) (host := "PlanValues") hC hro hty (by decide +kernel) rfl rfl k_P_findValues (by decide +kernel) (by decide +kernel) (by decide +kernel) (ct_P_findValues X.la X.dd K G 48 N hm0 hw hp48) rfl rfl (by decide) (by first | decide | simp [Value.category]) ?_
  refine a_iconst (pc := 15) (c := 0) hC (by decide +kernel) ?_
  refine a_istore_n (pc := 16) (q := 1) (i := 1) (lv' := [(1, vi 0), (0, .ref 0)]) hC (by decide +kernel) rfl (by decide) rfl ?_
  have L17 : ∀ (fuel : Nat) (s : Nat), N - s < fuel → s ≤ N → setS (fvG G 48 N) G N s = true → AW X 2 0 0 17 [(1, vi ((s : Int))), (0, .ref 0)] [] (hp K (fvG G 48 N)) := by
    intro fuel
    induction fuel with
    | zero => intro s h; exact absurd h (Nat.not_lt_zero _)
    | succ fuel ih17 =>
      intro s hm hs hse
      have hfn := hf.1.1
      refine a_iload_n (pc := 17) (q := 1) (i := 1) (x := (s : Int)) hC (by decide +kernel) rfl 0 rfl ?_
      refine a_aload_n (pc := 18) (q := 0) (i := 0) (x := 0) hC (by decide +kernel) rfl 1 rfl ?_
      refine g_get (pc := 19) (idx := 10) (ci := 5) (v := .ref 1) hC 0 0 (by decide +kernel) rfl rfl rfl rfl wrV (by decide) rfl (by decide +kernel) ?_
      refine g_getN (pc := 22) (idx := 67) (ci := 4) (v := vi ((fvG G 48 N) 1 0)) (host := "PlanValues") hC 1 0 (by decide +kernel) rfl rfl rfl rfl wrW (by decide) rfl (by decide +kernel) ?_
      refine a_icmp_ge (pc := 25) (off := 25) hC 50 (by decide +kernel) (by decide) (by unfold inI; omega) (by unfold inI; omega) (fun c25 => ?_) (fun c25 => ?_)
      · skip
        refine a_iconst (pc := 50) (c := 1) hC (by decide +kernel) ?_
        exact g_iret (pc := 51) hC hE (by decide +kernel) (by have hsN : s = N := (by omega); rw [hsN] at hse; rw [hse]; rfl) rfl
      · skip
        obtain ⟨a, ha, ha3⟩ : ∃ a : Nat, G 47 s = (a : Int) ∧ a < 3 := ⟨(G 47 s).toNat, by have := hp47.2 s (by omega); omega, by have := hp47.2 s (by omega); omega⟩
        have han : (G 47 s).toNat = a := by omega
        have h01 := isbZ_01 (fvG G 48 N) N s a
        refine a_aload_n (pc := 28) (q := 0) (i := 0) (x := 0) hC (by decide +kernel) rfl 1 rfl ?_
        refine a_iload_n (pc := 29) (q := 1) (i := 1) (x := (s : Int)) hC (by decide +kernel) rfl 0 rfl ?_
        refine a_aload_n (pc := 30) (q := 0) (i := 0) (x := 0) hC (by decide +kernel) rfl 1 rfl ?_
        refine g_get (pc := 31) (idx := 41) (ci := 5) (v := .ref 47) hC 0 5 (by decide +kernel) rfl rfl rfl rfl wrV (by decide) rfl (by decide +kernel) ?_
        refine a_iload_n (pc := 34) (q := 1) (i := 1) (x := (s : Int)) hC (by decide +kernel) rfl 0 rfl ?_
        refine g_iald (pc := 35) (a := 47) (j := s) hC hty (by decide +kernel) rfl (by omega) (by first | decide | omega) ?_
        refine g_top (y := (a : Int)) (by rw [fvG_off hN5 (by omega)]; exact ha) ?_
        refine g_callV (pc := 36) (idx := 166) (i := 0) (av := [vi ((s : Int)), vi ((a : Int))]) (rest := []) (g := fvG G 48 N) (v := vi (isbZ (fvG G 48 N) N s a)) hC hro hty (by decide +kernel) rfl rfl k_V_isBest (by decide +kernel) (by decide +kernel) (by decide +kernel) (ct_V_isBest X.la X.dd K (fvG G 48 N) N s a (by omega) (by omega) hf.1 hbo) rfl rfl (by decide) (by first | decide | simp [Value.category]) ?_
        refine a_if_ne (pc := 39) (off := 5) hC 44 (by decide +kernel) (by decide) (by unfold inI; omega) (fun c39 => ?_) (fun c39 => ?_)
        · skip
          refine a_iinc (pc := 44) (i := 1) (c := 1) (x := (s : Int)) (lv' := [(1, vi (((s : Int)) + 1)), (0, .ref 0)]) hC (by decide +kernel) 0 rfl (by decide) rfl ?_
          refine a_goto (pc := 47) (off := -30) hC 17 (by decide +kernel) (by decide) ?_
          refine a_sub (lv' := [(1, vi (((s + 1) : Int))), (0, .ref 0)]) [0, 1] rfl ?_
          exact ih17 (s + 1) (by omega) (by omega) (by unfold setS; rw [hse, han]; simp; omega)
        · skip
          refine a_iconst (pc := 42) (c := 0) hC (by decide +kernel) ?_
          exact g_iret (pc := 43) hC hE (by decide +kernel) (by
            have hx : setS (fvG G 48 N) G N N = false := by
              cases hh : setS (fvG G 48 N) G N N
              · rfl
              · have := setS_down (t := s + 1) (by omega) hh
                unfold setS at this; rw [hse, han] at this; simp at this; omega
            rw [hx]; rfl) rfl
  refine a_sub (lv' := [(1, vi ((0 : Int))), (0, .ref 0)]) [0, 1] rfl ?_
  exact L17 _ 0 (Nat.lt_succ_self _) (by omega) rfl

set_option maxRecDepth 100000 in
set_option maxHeartbeats 4000000 in
theorem ct_V_told_0 (l : Launch) (D : va_G) (K : K5) (G : GT) (N : Nat) (hm0 : MathOk) (hv : VV G N) : Ct l D K y_V_told c_V_told 2 (some .int) 7 172 [.ref 0, vi 0] G (some (vi ((N : Int)))) G := by
  refine Ct.intro (by decide +kernel) (Nat.le_of_ble_eq_true rfl) ?_
  intro X hro hty hC hE
  obtain ⟨hw, hp47, hp48⟩ := id hv
  obtain ⟨hn, hN5, hsh, hac, hpa, hwe, hth⟩ := id hw
  refine a_iload_n (pc := 0) (q := 1) (i := 1) (x := 0) hC (by decide +kernel) rfl 1 rfl ?_
  refine a_tabIn (pc := 1) (dflt := 63) (lo := 0) (hi := 4) (offs := #[35, 43, 48, 53, 58]) (len := 35) (off := 35) hC 36 ⟨by decide, by decide⟩ (by decide +kernel) (by decide) (by decide) rfl (by decide) ?_
  refine a_aload_n (pc := 36) (q := 0) (i := 0) (x := 0) hC (by decide +kernel) rfl 0 rfl ?_
  refine g_get (pc := 37) (idx := 10) (ci := 5) (v := .ref 1) hC 0 0 (by decide +kernel) rfl rfl rfl rfl wrV (by decide) rfl (by decide +kernel) ?_
  refine g_getN (pc := 40) (idx := 67) (ci := 4) (v := vi (G 1 0)) (host := "PlanValues") hC 1 0 (by decide +kernel) rfl rfl rfl rfl wrW (by decide) rfl (by decide +kernel) ?_
  exact g_iret (pc := 43) hC hE (by decide +kernel) hn rfl

set_option maxRecDepth 100000 in
set_option maxHeartbeats 4000000 in
theorem ct_V_told_1 (l : Launch) (D : va_G) (K : K5) (G : GT) (N : Nat) (hm0 : MathOk) (hv : VV G N) : Ct l D K y_V_told c_V_told 2 (some .int) 7 172 [.ref 0, vi 1] G (some (vi (sumA G N))) G := by
  refine Ct.intro (by decide +kernel) (Nat.le_of_ble_eq_true rfl) ?_
  intro X hro hty hC hE
  obtain ⟨hw, hp47, hp48⟩ := id hv
  obtain ⟨hn, hN5, hsh, hac, hpa, hwe, hth⟩ := id hw
  refine a_iload_n (pc := 0) (q := 1) (i := 1) (x := 1) hC (by decide +kernel) rfl 1 rfl ?_
  refine a_tabIn (pc := 1) (dflt := 63) (lo := 0) (hi := 4) (offs := #[35, 43, 48, 53, 58]) (len := 35) (off := 43) hC 44 ⟨by decide, by decide⟩ (by decide +kernel) (by decide) (by decide) rfl (by decide) ?_
  refine a_aload_n (pc := 44) (q := 0) (i := 0) (x := 0) hC (by decide +kernel) rfl 0 rfl ?_
  refine g_callV (pc := 45) (idx := 169) (i := 0) (av := []) (rest := []) (g := G) (v := vi (sumA G N)) hC hro hty (by decide +kernel) rfl rfl k_V_countActs (by decide +kernel) (by decide +kernel) (by decide +kernel) (ct_V_countActs X.la X.dd K G N hw) rfl rfl (by decide) (by first | decide | simp [Value.category]) ?_
  exact g_iret (pc := 48) hC hE (by decide +kernel) rfl rfl

set_option maxRecDepth 100000 in
set_option maxHeartbeats 4000000 in
theorem ct_V_told_2 (l : Launch) (D : va_G) (K : K5) (G : GT) (N : Nat) (hm0 : MathOk) (hv : VV G N) : Ct l D K y_V_told c_V_told 2 (some .int) 7 172 [.ref 0, vi 2] G (some (vi (prodA G N))) G := by
  refine Ct.intro (by decide +kernel) (Nat.le_of_ble_eq_true rfl) ?_
  intro X hro hty hC hE
  obtain ⟨hw, hp47, hp48⟩ := id hv
  obtain ⟨hn, hN5, hsh, hac, hpa, hwe, hth⟩ := id hw
  refine a_iload_n (pc := 0) (q := 1) (i := 1) (x := 2) hC (by decide +kernel) rfl 1 rfl ?_
  refine a_tabIn (pc := 1) (dflt := 63) (lo := 0) (hi := 4) (offs := #[35, 43, 48, 53, 58]) (len := 35) (off := 48) hC 49 ⟨by decide, by decide⟩ (by decide +kernel) (by decide) (by decide) rfl (by decide) ?_
  refine a_aload_n (pc := 49) (q := 0) (i := 0) (x := 0) hC (by decide +kernel) rfl 0 rfl ?_
  refine g_callV (pc := 50) (idx := 173) (i := 0) (av := []) (rest := []) (g := G) (v := vi (prodA G N)) hC hro hty (by decide +kernel) rfl rfl k_V_countPlans (by decide +kernel) (by decide +kernel) (by decide +kernel) (ct_V_countPlans X.la X.dd K G N hw) rfl rfl (by decide) (by first | decide | simp [Value.category]) ?_
  exact g_iret (pc := 53) hC hE (by decide +kernel) rfl rfl

set_option maxRecDepth 100000 in
set_option maxHeartbeats 4000000 in
theorem ct_V_told_3 (l : Launch) (D : va_G) (K : K5) (G : GT) (N : Nat) (hm0 : MathOk) (hv : VV G N) : Ct l D K y_V_told c_V_told 2 (some .int) 7 172 [.ref 0, vi 3] G (some (vi (bpS (fvG G 48 N) N N))) (fvG G 48 N) := by
  refine Ct.intro (by decide +kernel) (Nat.le_of_ble_eq_true rfl) ?_
  intro X hro hty hC hE
  obtain ⟨hw, hp47, hp48⟩ := id hv
  obtain ⟨hn, hN5, hsh, hac, hpa, hwe, hth⟩ := id hw
  refine a_iload_n (pc := 0) (q := 1) (i := 1) (x := 3) hC (by decide +kernel) rfl 1 rfl ?_
  refine a_tabIn (pc := 1) (dflt := 63) (lo := 0) (hi := 4) (offs := #[35, 43, 48, 53, 58]) (len := 35) (off := 53) hC 54 ⟨by decide, by decide⟩ (by decide +kernel) (by decide) (by decide) rfl (by decide) ?_
  refine a_aload_n (pc := 54) (q := 0) (i := 0) (x := 0) hC (by decide +kernel) rfl 0 rfl ?_
  refine g_callV (pc := 55) (idx := 176) (i := 0) (av := []) (rest := []) (g := fvG G 48 N) (v := vi (bpS (fvG G 48 N) N N)) hC hro hty (by decide +kernel) rfl rfl k_V_countBestPlans (by decide +kernel) (by decide +kernel) (by decide +kernel) (ct_V_countBestPlans X.la X.dd K G N hm0 hv) rfl rfl (by decide) (by first | decide | simp [Value.category]) ?_
  exact g_iret (pc := 58) hC hE (by decide +kernel) rfl rfl

set_option maxRecDepth 100000 in
set_option maxHeartbeats 4000000 in
theorem ct_V_told_4 (l : Launch) (D : va_G) (K : K5) (G : GT) (N : Nat) (hm0 : MathOk) (hv : VV G N) : Ct l D K y_V_told c_V_told 2 (some .int) 7 172 [.ref 0, vi 4] G (some (vi (sumT G N))) G := by
  refine Ct.intro (by decide +kernel) (Nat.le_of_ble_eq_true rfl) ?_
  intro X hro hty hC hE
  obtain ⟨hw, hp47, hp48⟩ := id hv
  obtain ⟨hn, hN5, hsh, hac, hpa, hwe, hth⟩ := id hw
  refine a_iload_n (pc := 0) (q := 1) (i := 1) (x := 4) hC (by decide +kernel) rfl 1 rfl ?_
  refine a_tabIn (pc := 1) (dflt := 63) (lo := 0) (hi := 4) (offs := #[35, 43, 48, 53, 58]) (len := 35) (off := 58) hC 59 ⟨by decide, by decide⟩ (by decide +kernel) (by decide) (by decide) rfl (by decide) ?_
  refine a_aload_n (pc := 59) (q := 0) (i := 0) (x := 0) hC (by decide +kernel) rfl 0 rfl ?_
  refine g_callV (pc := 60) (idx := 179) (i := 0) (av := []) (rest := []) (g := G) (v := vi (sumT G N)) hC hro hty (by decide +kernel) rfl rfl k_V_countTheirs (by decide +kernel) (by decide +kernel) (by decide +kernel) (ct_V_countTheirs X.la X.dd K G N hw) rfl rfl (by decide) (by first | decide | simp [Value.category]) ?_
  exact g_iret (pc := 63) hC hE (by decide +kernel) rfl rfl

set_option maxRecDepth 100000 in
set_option maxHeartbeats 4000000 in
theorem ct_V_told_bad (l : Launch) (D : va_G) (K : K5) (G : GT) (N : Nat) (x : Int) (hxi : inI x) (hbad : x < 0 ∨ 4 < x) (hv : VV G N) : Ct l D K y_V_told c_V_told 2 (some .int) 7 172 [.ref 0, vi x] G (some (vi (-2))) G := by
  refine Ct.intro (by decide +kernel) (Nat.le_of_ble_eq_true rfl) ?_
  intro X hro hty hC hE
  obtain ⟨hw, hp47, hp48⟩ := id hv
  obtain ⟨hn, hN5, hsh, hac, hpa, hwe, hth⟩ := id hw
  refine a_iload_n (pc := 0) (q := 1) (i := 1) (x := x) hC (by decide +kernel) rfl 1 rfl ?_
  refine a_tabOut (pc := 1) (dflt := 63) (lo := 0) (hi := 4) (offs := #[35, 43, 48, 53, 58]) (len := 35) hC 64 hxi (by decide +kernel) hbad (by decide) ?_
  refine a_bipush (pc := 64) (c := -2) hC (by decide +kernel) (by decide +kernel) ?_
  exact g_iret (pc := 66) hC hE (by decide +kernel) rfl rfl
end
section
/-! PlanValues: change, within -/
def chH (G : GT) (N s : Nat) : Nat → GT
  | 0 => trG G
  | a + 1 => folR (uG (chH G N s a) 49 (up (chH G N s a 49) s (a : Int))) 49 N
def chP (G : GT) (N s : Nat) : Nat → Int × Int × Int
  | 0 => (0, 0, 1)
  | a + 1 => if a = 0 ∨ likesZ G s ((chH G N s (a + 1) 31 s) * (chP G N s a).2.2) ((chP G N s a).2.1 * (chH G N s (a + 1) 30 1)) = 1 then ((a : Int), chH G N s (a + 1) 31 s, chH G N s (a + 1) 30 1) else chP G N s a
theorem chH_off {G : GT} {N s : Nat} (hN : N ≤ 5) {c : Nat} (h : c < 25 ∨ 32 ≤ c) (hp : c ≠ 49) : ∀ a, chH G N s a c = G c
  | 0 => uG_n _ _ hp
  | a + 1 => by show folR _ 49 N c = _; rw [folR_off hN h, uG_n _ _ hp, chH_off hN h hp a]
theorem chH_st {G : GT} {N s : Nat} (hw : WW G N) (hp : PlOk G 47 N) (hs : s < N) : ∀ a, a ≤ 3 → WW (chH G N s a) N ∧ PlOk (chH G N s a) 49 N
  | 0, _ => ⟨hw.tr, hp.tr hw.2.1⟩
  | a + 1, ha => by
    have ih := chH_st hw hp hs a (by omega)
    have w2 : WW (uG (chH G N s a) 49 (up (chH G N s a 49) s (a : Int))) N := ih.1.keep (fun c hc => uG_n _ _ (by omega))
    have p2 : PlOk (uG (chH G N s a) 49 (up (chH G N s a 49) s (a : Int))) 49 N := ⟨Or.inr (Or.inr rfl), fun t ht => by
      rw [uG_s]
      by_cases e : t = s
      · subst e; rw [up_s]; omega
      · rw [up_n _ _ e]; exact ih.2.2 t ht⟩
    exact ⟨w2.folR, p2.folR w2⟩
theorem chH_st2 {G : GT} {N s a : Nat} (hw : WW G N) (hp : PlOk G 47 N) (hs : s < N) (ha : a < 3) : WW (uG (chH G N s a) 49 (up (chH G N s a 49) s (a : Int))) N ∧ PlOk (uG (chH G N s a) 49 (up (chH G N s a 49) s (a : Int))) 49 N := by
  have ih := chH_st hw hp hs a (by omega)
  refine ⟨ih.1.keep (fun c hc => uG_n _ _ (by omega)), Or.inr (Or.inr rfl), fun t ht => ?_⟩
  rw [uG_s]
  by_cases e : t = s
  · subst e; rw [up_s]; omega
  · rw [up_n _ _ e]; exact ih.2.2 t ht
theorem chP_in {G : GT} {N s : Nat} (hm : MathOk) (hw : WW G N) (hp : PlOk G 47 N) (hs : s < N) : ∀ a, a ≤ 3 → (-18139852800 ≤ (chP G N s a).2.1 ∧ (chP G N s a).2.1 ≤ 18139852800) ∧ (1 ≤ (chP G N s a).2.2 ∧ (chP G N s a).2.2 ≤ 60466176) ∧ 0 ≤ (chP G N s a).1 ∧ (chP G N s a).1 ≤ 2
  | 0, _ => by unfold chP; simp
  | a + 1, ha => by
    have ih := chP_in hm hw hp hs a (by omega)
    have h2 := chH_st2 (a := a) hw hp hs (by omega)
    have hn := (hm _ 49 N h2.1 h2.2).2.2
    unfold chP
    split
    · exact ⟨hn.2.2 s hs, ⟨hn.1, hn.2.1⟩, by show (0 : Int) ≤ (a : Int); omega, by show (a : Int) ≤ 2; omega⟩
    · exact ih
def stS (G : GT) (N : Nat) : Nat → GT
  | 0 => uG (uG G 45 (fillF (G 45) 5 0)) 44 (up (G 44) 1 1)
  | k + 1 => stpG (stS G N k) N
theorem stS_off {G : GT} {N : Nat} {c : Nat} (h : c < 44 ∨ 47 ≤ c) : ∀ k, stS G N k c = G c
  | 0 => by unfold stS; rw [uG_n _ _ (by omega), uG_n _ _ (by omega)]
  | k + 1 => by show stpG _ N c = _; unfold stpG; rw [uG_n _ _ (by omega), uG_n _ _ (by omega), uG_n _ _ (by omega), stS_off h k]
/-- what within needs of the arithmetic -/
def StpOk (G : GT) (N : Nat) : Prop := ∀ k, k ≤ 5 → ComOk (stS G N k) N 44 ∧ (1 ≤ stS G N k 44 1 ∧ stS G N k 44 1 ≤ 10000000000000) ∧ ∀ s, s < N → -10000000000000000 ≤ stS G N k 45 s ∧ stS G N k 45 s ≤ 10000000000000000

set_option maxRecDepth 100000 in
set_option maxHeartbeats 4000000 in
theorem ct_V_change_no (l : Launch) (D : va_G) (K : K5) (G : GT) (N : Nat) (s : Int)  (hsi : inI s) (hv : VV G N) (hno : hasS G s = 0) : Ct l D K y_V_change c_V_change 12 (some .int) 3 84 [.ref 0, vi s] G (some (vi (-1))) G := by
  refine Ct.intro (by decide +kernel) (Nat.le_of_ble_eq_true rfl) ?_
  intro X hro hty hC hE
  obtain ⟨hw, hp47, hp48⟩ := id hv
  obtain ⟨hn, hN5, hsh, hac, hpa, hwe, hth⟩ := id hw
  refine a_aload_n (pc := 0) (q := 0) (i := 0) (x := 0) hC (by decide +kernel) rfl 0 rfl ?_
  refine g_get (pc := 1) (idx := 10) (ci := 5) (v := .ref 1) hC 0 0 (by decide +kernel) rfl rfl rfl rfl wrV (by decide) rfl (by decide +kernel) ?_
  refine a_iload_n (pc := 4) (q := 1) (i := 1) (x := s) hC (by decide +kernel) rfl 1 rfl ?_
  refine g_callVN (pc := 5) (idx := 75) (i := 1) (av := [vi s]) (rest := []) (g := G) (v := vi (hasS G s)) (host := "PlanValues") hC hro hty (by decide +kernel) rfl rfl k_W_hasState (by decide +kernel) (by decide +kernel) (by decide +kernel) (ct_W_hasState X.la X.dd K G N s hsi hw) rfl rfl (by decide) (by first | decide | simp [Value.category]) ?_
  refine a_if_ne (pc := 8) (off := 5) hC 13 (by decide +kernel) (by decide) (by unfold inI; omega) (fun c8 => ?_) (fun c8 => ?_)
  · skip
    exact absurd hno c8
  · skip
    refine a_iconst (pc := 11) (c := -1) hC (by decide +kernel) ?_
    exact g_iret (pc := 12) hC hE (by decide +kernel) rfl rfl

set_option maxRecDepth 100000 in
set_option maxHeartbeats 4000000 in
theorem ct_V_change_none (l : Launch) (D : va_G) (K : K5) (G : GT) (N s : Nat) (hs : s < N) (hv : VV G N) (hz : G 3 s = 0) : Ct l D K y_V_change c_V_change 12 (some .int) 3 84 [.ref 0, vi ((s : Int))] G (some (vi (-3))) G := by
  refine Ct.intro (by decide +kernel) (Nat.le_of_ble_eq_true rfl) ?_
  intro X hro hty hC hE
  obtain ⟨hw, hp47, hp48⟩ := id hv
  obtain ⟨hn, hN5, hsh, hac, hpa, hwe, hth⟩ := id hw
  refine a_aload_n (pc := 0) (q := 0) (i := 0) (x := 0) hC (by decide +kernel) rfl 0 rfl ?_
  refine g_get (pc := 1) (idx := 10) (ci := 5) (v := .ref 1) hC 0 0 (by decide +kernel) rfl rfl rfl rfl wrV (by decide) rfl (by decide +kernel) ?_
  refine a_iload_n (pc := 4) (q := 1) (i := 1) (x := (s : Int)) hC (by decide +kernel) rfl 1 rfl ?_
  refine g_callVN (pc := 5) (idx := 75) (i := 1) (av := [vi ((s : Int))]) (rest := []) (g := G) (v := vi (hasS G ((s : Int)))) (host := "PlanValues") hC hro hty (by decide +kernel) rfl rfl k_W_hasState (by decide +kernel) (by decide +kernel) (by decide +kernel) (ct_W_hasState X.la X.dd K G N ((s : Int)) (by unfold inI; omega) hw) rfl rfl (by decide) (by first | decide | simp [Value.category]) ?_
  refine a_if_ne (pc := 8) (off := 5) hC 13 (by decide +kernel) (by decide) (by unfold inI hasS; split <;> omega) (fun c8 => ?_) (fun c8 => ?_)
  · skip
    refine a_aload_n (pc := 13) (q := 0) (i := 0) (x := 0) hC (by decide +kernel) rfl 0 rfl ?_
    refine g_get (pc := 14) (idx := 10) (ci := 5) (v := .ref 1) hC 0 0 (by decide +kernel) rfl rfl rfl rfl wrV (by decide) rfl (by decide +kernel) ?_
    refine g_getN (pc := 17) (idx := 82) (ci := 4) (v := .ref 3) (host := "PlanValues") hC 1 4 (by decide +kernel) rfl rfl rfl rfl wrW (by decide) rfl (by decide +kernel) ?_
    refine a_iload_n (pc := 20) (q := 1) (i := 1) (x := (s : Int)) hC (by decide +kernel) rfl 1 rfl ?_
    refine g_iald (pc := 21) (a := 3) (j := s) hC hty (by decide +kernel) rfl (by omega) (by first | decide | omega) ?_
    refine a_if_ne (pc := 22) (off := 6) hC 28 (by decide +kernel) (by decide) (by unfold inI; omega) (fun c22 => ?_) (fun c22 => ?_)
    · skip
      exact absurd hz c22
    · skip
      refine a_bipush (pc := 25) (c := -3) hC (by decide +kernel) (by decide +kernel) ?_
      exact g_iret (pc := 27) hC hE (by decide +kernel) rfl rfl
  · skip
    exact absurd c8 (by unfold hasS; rw [if_pos (by omega)]; decide)

set_option maxRecDepth 100000 in
set_option maxHeartbeats 4000000 in
theorem ct_V_change (l : Launch) (D : va_G) (K : K5) (G : GT) (N s A : Nat) (hs : s < N) (hA : G 3 s = (A : Int)) (hA1 : 1 ≤ A) (hm0 : MathOk) (hv : VV G N) : Ct l D K y_V_change c_V_change 12 (some .int) 3 84 [.ref 0, vi ((s : Int))] G (some (vi ((chP G N s A).1))) (chH G N s A) := by
  refine Ct.intro (by decide +kernel) (Nat.le_of_ble_eq_true rfl) ?_
  intro X hro hty hC hE
  obtain ⟨hw, hp47, hp48⟩ := id hv
  obtain ⟨hn, hN5, hsh, hac, hpa, hwe, hth⟩ := id hw
  have hA3 := hac s (by omega)
  refine a_aload_n (pc := 0) (q := 0) (i := 0) (x := 0) hC (by decide +kernel) rfl 0 rfl ?_
  refine g_get (pc := 1) (idx := 10) (ci := 5) (v := .ref 1) hC 0 0 (by decide +kernel) rfl rfl rfl rfl wrV (by decide) rfl (by decide +kernel) ?_
  refine a_iload_n (pc := 4) (q := 1) (i := 1) (x := (s : Int)) hC (by decide +kernel) rfl 1 rfl ?_
  refine g_callVN (pc := 5) (idx := 75) (i := 1) (av := [vi ((s : Int))]) (rest := []) (g := G) (v := vi (hasS G ((s : Int)))) (host := "PlanValues") hC hro hty (by decide +kernel) rfl rfl k_W_hasState (by decide +kernel) (by decide +kernel) (by decide +kernel) (ct_W_hasState X.la X.dd K G N ((s : Int)) (by unfold inI; omega) hw) rfl rfl (by decide) (by first | decide | simp [Value.category]) ?_
  refine a_if_ne (pc := 8) (off := 5) hC 13 (by decide +kernel) (by decide) (by unfold inI hasS; split <;> omega) (fun c8 => ?_) (fun c8 => ?_)
  · skip
    refine a_aload_n (pc := 13) (q := 0) (i := 0) (x := 0) hC (by decide +kernel) rfl 0 rfl ?_
    refine g_get (pc := 14) (idx := 10) (ci := 5) (v := .ref 1) hC 0 0 (by decide +kernel) rfl rfl rfl rfl wrV (by decide) rfl (by decide +kernel) ?_
    refine g_getN (pc := 17) (idx := 82) (ci := 4) (v := .ref 3) (host := "PlanValues") hC 1 4 (by decide +kernel) rfl rfl rfl rfl wrW (by decide) rfl (by decide +kernel) ?_
    refine a_iload_n (pc := 20) (q := 1) (i := 1) (x := (s : Int)) hC (by decide +kernel) rfl 1 rfl ?_
    refine g_iald (pc := 21) (a := 3) (j := s) hC hty (by decide +kernel) rfl (by omega) (by first | decide | omega) ?_
    refine a_if_ne (pc := 22) (off := 6) hC 28 (by decide +kernel) (by decide) (by unfold inI; omega) (fun c22 => ?_) (fun c22 => ?_)
    · skip
      refine a_aload_n (pc := 28) (q := 0) (i := 0) (x := 0) hC (by decide +kernel) rfl 0 rfl ?_
      refine g_callV0 (pc := 29) (idx := 144) (i := 0) (av := []) (rest := []) (g := uG G 49 (cpy (G 47) (G 49) 5)) hC hro hty (by decide +kernel) rfl rfl k_V_tryToldPlan (by decide +kernel) (by decide +kernel) (by decide +kernel) (ct_V_tryToldPlan X.la X.dd K G) rfl rfl (by decide) (by first | decide | simp [Value.category]) ?_
      refine g_G (G' := chH G N s 0) rfl ?_
      refine a_iconst (pc := 32) (c := 0) hC (by decide +kernel) ?_
      refine a_istore_n (pc := 33) (q := 2) (i := 2) (lv' := [(2, vi 0), (0, .ref 0), (1, vi ((s : Int)))]) hC (by decide +kernel) rfl (by decide) rfl ?_
      refine a_lconst (pc := 34) (c := 0) (z := 0) hC (by decide +kernel) rfl ?_
      refine a_lstore_n (pc := 35) (q := 3) (i := 3) (lv' := [(3, vl 0), (2, vi 0), (0, .ref 0), (1, vi ((s : Int)))]) hC (by decide +kernel) rfl (by decide) rfl ?_
      refine a_lconst (pc := 36) (c := 1) (z := 1) hC (by decide +kernel) rfl ?_
      refine a_lstore (pc := 37) (q := 0) (i := 5) (lv' := [(5, vl 1), (3, vl 0), (2, vi 0), (0, .ref 0), (1, vi ((s : Int)))]) hC (by decide +kernel) (by decide) rfl ?_
      refine a_iconst (pc := 39) (c := 0) hC (by decide +kernel) ?_
      refine a_istore (pc := 40) (q := 0) (i := 7) (lv' := [(7, vi 0), (5, vl 1), (3, vl 0), (2, vi 0), (0, .ref 0), (1, vi ((s : Int)))]) hC (by decide +kernel) (by decide) rfl ?_
      have L42 : ∀ (fuel : Nat) (a : Nat), A - a < fuel → a ≤ A → AW X 12 0 0 42 [(7, vi ((a : Int))), (5, vl ((chP G N s a).2.2)), (3, vl ((chP G N s a).2.1)), (2, vi ((chP G N s a).1)), (0, .ref 0), (1, vi ((s : Int)))] [] (hp K (chH G N s a)) := by
        intro fuel
        induction fuel with
        | zero => intro a h; exact absurd h (Nat.not_lt_zero _)
        | succ fuel ih42 =>
          intro a hm ha
          have hpi := chP_in hm0 hw hp47 hs a (by omega)
          refine a_iload (pc := 42) (i := 7) (x := (a : Int)) hC (by decide +kernel) 0 rfl ?_
          refine a_aload_n (pc := 44) (q := 0) (i := 0) (x := 0) hC (by decide +kernel) rfl 4 rfl ?_
          refine g_get (pc := 45) (idx := 10) (ci := 5) (v := .ref 1) hC 0 0 (by decide +kernel) rfl rfl rfl rfl wrV (by decide) rfl (by decide +kernel) ?_
          refine g_getN (pc := 48) (idx := 82) (ci := 4) (v := .ref 3) (host := "PlanValues") hC 1 4 (by decide +kernel) rfl rfl rfl rfl wrW (by decide) rfl (by decide +kernel) ?_
          refine a_iload_n (pc := 51) (q := 1) (i := 1) (x := (s : Int)) hC (by decide +kernel) rfl 5 rfl ?_
          refine g_iald (pc := 52) (a := 3) (j := s) hC hty (by decide +kernel) rfl (by omega) (by first | decide | omega) ?_
          refine g_top (y := (A : Int)) (by rw [chH_off hN5 (by omega) (by omega)]; exact hA) ?_
          refine a_icmp_ge (pc := 53) (off := 93) hC 146 (by decide +kernel) (by decide) (by unfold inI; omega) (by unfold inI; omega) (fun c53 => ?_) (fun c53 => ?_)
          · skip
            refine a_iload_n (pc := 146) (q := 2) (i := 2) (x := (chP G N s a).1) hC (by decide +kernel) rfl 3 rfl ?_
            exact g_iret (pc := 147) hC hE (by decide +kernel) (by rw [show a = A by omega]) (by rw [show a = A by omega])
          · skip
            have h2 := chH_st2 (a := a) hw hp47 hs (by omega)
            have hM := hm0 _ 49 N h2.1 h2.2
            have hnu := hM.2.2
            have hu := hnu.2.2 s hs
            have hl1 := hnu.1
            have hl2 := hnu.2.1
            have hw3 := (chH_st hw hp47 hs (a + 1) (by omega)).1
            refine a_aload_n (pc := 56) (q := 0) (i := 0) (x := 0) hC (by decide +kernel) rfl 4 rfl ?_
            refine g_get (pc := 57) (idx := 48) (ci := 5) (v := .ref 49) hC 0 7 (by decide +kernel) rfl rfl rfl rfl wrV (by decide) rfl (by decide +kernel) ?_
            refine a_iload_n (pc := 60) (q := 1) (i := 1) (x := (s : Int)) hC (by decide +kernel) rfl 5 rfl ?_
            refine a_iload (pc := 61) (i := 7) (x := (a : Int)) hC (by decide +kernel) 0 rfl ?_
            refine g_iast (pc := 63) (a := 49) (j := s) (x := (a : Int)) hC hty (by decide +kernel) rfl (by omega) (by first | decide | omega) ?_
            refine a_aload_n (pc := 64) (q := 0) (i := 0) (x := 0) hC (by decide +kernel) rfl 4 rfl ?_
            refine g_get (pc := 65) (idx := 19) (ci := 5) (v := .ref 22) hC 0 1 (by decide +kernel) rfl rfl rfl rfl wrV (by decide) rfl (by decide +kernel) ?_
            refine a_aload_n (pc := 68) (q := 0) (i := 0) (x := 0) hC (by decide +kernel) rfl 4 rfl ?_
            refine g_get (pc := 69) (idx := 10) (ci := 5) (v := .ref 1) hC 0 0 (by decide +kernel) rfl rfl rfl rfl wrV (by decide) rfl (by decide +kernel) ?_
            refine a_aload_n (pc := 72) (q := 0) (i := 0) (x := 0) hC (by decide +kernel) rfl 4 rfl ?_
            refine g_get (pc := 73) (idx := 48) (ci := 5) (v := .ref 49) hC 0 7 (by decide +kernel) rfl rfl rfl rfl wrV (by decide) rfl (by decide +kernel) ?_
            refine g_callVN0 (pc := 76) (idx := 141) (i := 22) (av := [.ref 1, .ref 49]) (rest := []) (g := folR (uG (chH G N s a) 49 (up ((chH G N s a) 49) s ((a : Int)))) 49 N) (host := "PlanValues") hC hro hty (by decide +kernel) rfl rfl k_P_follow (by decide +kernel) (by decide +kernel) (by decide +kernel) (ct_P_follow X.la X.dd K (uG (chH G N s a) 49 (up ((chH G N s a) 49) s ((a : Int)))) 49 N h2.1 h2.2 hM.1) rfl rfl (by decide) (by first | decide | simp [Value.category]) ?_
            refine g_G (G' := chH G N s (a + 1)) rfl ?_
            refine a_aload_n (pc := 79) (q := 0) (i := 0) (x := 0) hC (by decide +kernel) rfl 4 rfl ?_
            refine g_get (pc := 80) (idx := 19) (ci := 5) (v := .ref 22) hC 0 1 (by decide +kernel) rfl rfl rfl rfl wrV (by decide) rfl (by decide +kernel) ?_
            refine g_getN (pc := 83) (idx := 116) (ci := 3) (v := .ref 30) (host := "PlanValues") hC 22 1 (by decide +kernel) rfl rfl rfl rfl wrP (by decide) rfl (by decide +kernel) ?_
            refine g_getN (pc := 86) (idx := 119) (ci := 2) (v := .ref 31) (host := "PlanValues") hC 30 0 (by decide +kernel) rfl rfl rfl rfl wrU (by decide) rfl (by decide +kernel) ?_
            refine a_iload_n (pc := 89) (q := 1) (i := 1) (x := (s : Int)) hC (by decide +kernel) rfl 5 rfl ?_
            refine g_lald (pc := 90) (a := 31) (j := s) hC hty (by decide +kernel) rfl (by omega) (by first | decide | omega) ?_
            refine a_lstore (pc := 91) (q := 0) (i := 8) (lv' := [(8, vl ((chH G N s (a + 1)) 31 s)), (7, vi ((a : Int))), (5, vl ((chP G N s a).2.2)), (3, vl ((chP G N s a).2.1)), (2, vi ((chP G N s a).1)), (0, .ref 0), (1, vi ((s : Int)))]) hC (by decide +kernel) (by decide) rfl ?_
            refine a_aload_n (pc := 93) (q := 0) (i := 0) (x := 0) hC (by decide +kernel) rfl 5 rfl ?_
            refine g_get (pc := 94) (idx := 19) (ci := 5) (v := .ref 22) hC 0 1 (by decide +kernel) rfl rfl rfl rfl wrV (by decide) rfl (by decide +kernel) ?_
            refine g_getN (pc := 97) (idx := 116) (ci := 3) (v := .ref 30) (host := "PlanValues") hC 22 1 (by decide +kernel) rfl rfl rfl rfl wrP (by decide) rfl (by decide +kernel) ?_
            refine g_getN (pc := 100) (idx := 122) (ci := 2) (v := vl ((chH G N s (a + 1)) 30 1)) (host := "PlanValues") hC 30 1 (by decide +kernel) rfl rfl rfl rfl wrU (by decide) rfl (by decide +kernel) ?_
            refine a_lstore (pc := 103) (q := 0) (i := 10) (lv' := [(10, vl ((chH G N s (a + 1)) 30 1)), (8, vl ((chH G N s (a + 1)) 31 s)), (7, vi ((a : Int))), (5, vl ((chP G N s a).2.2)), (3, vl ((chP G N s a).2.1)), (2, vi ((chP G N s a).1)), (0, .ref 0), (1, vi ((s : Int)))]) hC (by decide +kernel) (by decide) rfl ?_
            refine a_iload (pc := 105) (i := 7) (x := (a : Int)) hC (by decide +kernel) 2 rfl ?_
            refine a_if_eq (pc := 107) (off := 23) hC 130 (by decide +kernel) (by decide) (by unfold inI; omega) (fun c107 => ?_) (fun c107 => ?_)
            · skip
              have hst : chP G N s (a + 1) = ((a : Int), (chH G N s (a + 1)) 31 s, (chH G N s (a + 1)) 30 1) := by show (if _ then _ else _) = _; rw [if_pos (Or.inl (by omega))]
              refine a_iload (pc := 130) (i := 7) (x := (a : Int)) hC (by decide +kernel) 2 rfl ?_
              refine a_istore_n (pc := 132) (q := 2) (i := 2) (lv' := [(2, vi ((a : Int))), (10, vl ((chH G N s (a + 1)) 30 1)), (8, vl ((chH G N s (a + 1)) 31 s)), (7, vi ((a : Int))), (5, vl ((chP G N s a).2.2)), (3, vl ((chP G N s a).2.1)), (0, .ref 0), (1, vi ((s : Int)))]) hC (by decide +kernel) rfl (by decide) rfl ?_
              refine a_lload (pc := 133) (i := 8) (x := (chH G N s (a + 1)) 31 s) hC (by decide +kernel) 2 rfl ?_
              refine a_lstore_n (pc := 135) (q := 3) (i := 3) (lv' := [(3, vl ((chH G N s (a + 1)) 31 s)), (2, vi ((a : Int))), (10, vl ((chH G N s (a + 1)) 30 1)), (8, vl ((chH G N s (a + 1)) 31 s)), (7, vi ((a : Int))), (5, vl ((chP G N s a).2.2)), (0, .ref 0), (1, vi ((s : Int)))]) hC (by decide +kernel) rfl (by decide) rfl ?_
              refine a_lload (pc := 136) (i := 10) (x := (chH G N s (a + 1)) 30 1) hC (by decide +kernel) 2 rfl ?_
              refine a_lstore (pc := 138) (q := 0) (i := 5) (lv' := [(5, vl ((chH G N s (a + 1)) 30 1)), (3, vl ((chH G N s (a + 1)) 31 s)), (2, vi ((a : Int))), (10, vl ((chH G N s (a + 1)) 30 1)), (8, vl ((chH G N s (a + 1)) 31 s)), (7, vi ((a : Int))), (0, .ref 0), (1, vi ((s : Int)))]) hC (by decide +kernel) (by decide) rfl ?_
              refine a_iinc (pc := 140) (i := 7) (c := 1) (x := (a : Int)) (lv' := [(7, vi (((a : Int)) + 1)), (5, vl ((chH G N s (a + 1)) 30 1)), (3, vl ((chH G N s (a + 1)) 31 s)), (2, vi ((a : Int))), (10, vl ((chH G N s (a + 1)) 30 1)), (8, vl ((chH G N s (a + 1)) 31 s)), (0, .ref 0), (1, vi ((s : Int)))]) hC (by decide +kernel) 5 rfl (by decide) rfl ?_
              refine a_goto (pc := 143) (off := -101) hC 42 (by decide +kernel) (by decide) ?_
              refine a_sub (lv' := [(7, vi (((a + 1) : Int))), (5, vl ((chP G N s (a + 1)).2.2)), (3, vl ((chP G N s (a + 1)).2.1)), (2, vi ((chP G N s (a + 1)).1)), (0, .ref 0), (1, vi ((s : Int)))]) [0, 1, 2, 3, 6, 7] (by rw [hst]; rfl) ?_
              exact ih42 (a + 1) (by omega) (by omega)
            · skip
              have m1 := mul_in (x := (chH G N s (a + 1)) 31 s) (y := (chP G N s a).2.2) (A := 18139852800) (B := 60466176) hu (by omega) (by decide)
              have m2 := mul_in (x := (chP G N s a).2.1) (y := (chH G N s (a + 1)) 30 1) (A := 18139852800) (B := 60466176) hpi.1 ⟨(by have : (1 : Int) ≤ (chH G N s (a + 1)) 30 1 := hl1; omega), hl2⟩ (by decide)
              refine a_aload_n (pc := 110) (q := 0) (i := 0) (x := 0) hC (by decide +kernel) rfl 6 rfl ?_
              refine g_get (pc := 111) (idx := 10) (ci := 5) (v := .ref 1) hC 0 0 (by decide +kernel) rfl rfl rfl rfl wrV (by decide) rfl (by decide +kernel) ?_
              refine a_iload_n (pc := 114) (q := 1) (i := 1) (x := (s : Int)) hC (by decide +kernel) rfl 7 rfl ?_
              refine a_lload (pc := 115) (i := 8) (x := (chH G N s (a + 1)) 31 s) hC (by decide +kernel) 1 rfl ?_
              refine a_lload (pc := 117) (i := 5) (x := (chP G N s a).2.2) hC (by decide +kernel) 3 rfl ?_
              refine a_lmul (pc := 119) hC (by decide +kernel) ?_
              refine a_lload_n (pc := 120) (q := 3) (i := 3) (x := (chP G N s a).2.1) hC (by decide +kernel) rfl 4 rfl ?_
              refine a_lload (pc := 121) (i := 10) (x := (chH G N s (a + 1)) 30 1) hC (by decide +kernel) 0 rfl ?_
              refine a_lmul (pc := 123) hC (by decide +kernel) ?_
              refine g_callVN (pc := 124) (idx := 151) (i := 1) (av := [vi ((s : Int)), vl (((chH G N s (a + 1)) 31 s) * ((chP G N s a).2.2)), vl (((chP G N s a).2.1) * ((chH G N s (a + 1)) 30 1))]) (rest := []) (g := chH G N s (a + 1)) (v := vi (likesZ (chH G N s (a + 1)) s (((chH G N s (a + 1)) 31 s) * ((chP G N s a).2.2)) (((chP G N s a).2.1) * ((chH G N s (a + 1)) 30 1)))) (host := "PlanValues") hC hro hty (by decide +kernel) rfl rfl k_W_likes (by decide +kernel) (by decide +kernel) (by decide +kernel) (ct_W_likes X.la X.dd K (chH G N s (a + 1)) s N (((chH G N s (a + 1)) 31 s) * ((chP G N s a).2.2)) (((chP G N s a).2.1) * ((chH G N s (a + 1)) 30 1)) (by omega) hw3 (by unfold inL; omega) (by unfold inL; omega)) rfl rfl (by decide) (by first | decide | simp [Value.category]) ?_
              refine g_top (y := likesZ G s (((chH G N s (a + 1)) 31 s) * (chP G N s a).2.2) ((chP G N s a).2.1 * ((chH G N s (a + 1)) 30 1))) (by unfold likesZ; rw [chH_off hN5 (by omega) (by omega)]) ?_
              have h01 := likesZ_01 G s (((chH G N s (a + 1)) 31 s) * (chP G N s a).2.2) ((chP G N s a).2.1 * ((chH G N s (a + 1)) 30 1))
              refine a_if_eq (pc := 127) (off := 13) hC 140 (by decide +kernel) (by decide) (by unfold inI; omega) (fun c127 => ?_) (fun c127 => ?_)
              · skip
                have hst : chP G N s (a + 1) = chP G N s a := by show (if _ then _ else _) = _; rw [if_neg (fun q => q.elim (fun e => c107 (by omega)) (fun e => by omega))]
                refine a_iinc (pc := 140) (i := 7) (c := 1) (x := (a : Int)) (lv' := [(7, vi (((a : Int)) + 1)), (10, vl ((chH G N s (a + 1)) 30 1)), (8, vl ((chH G N s (a + 1)) 31 s)), (5, vl ((chP G N s a).2.2)), (3, vl ((chP G N s a).2.1)), (2, vi ((chP G N s a).1)), (0, .ref 0), (1, vi ((s : Int)))]) hC (by decide +kernel) 2 rfl (by decide) rfl ?_
                refine a_goto (pc := 143) (off := -101) hC 42 (by decide +kernel) (by decide) ?_
                refine a_sub (lv' := [(7, vi (((a + 1) : Int))), (5, vl ((chP G N s (a + 1)).2.2)), (3, vl ((chP G N s (a + 1)).2.1)), (2, vi ((chP G N s (a + 1)).1)), (0, .ref 0), (1, vi ((s : Int)))]) [0, 3, 4, 5, 6, 7] (by rw [hst]; rfl) ?_
                exact ih42 (a + 1) (by omega) (by omega)
              · skip
                have hst : chP G N s (a + 1) = ((a : Int), (chH G N s (a + 1)) 31 s, (chH G N s (a + 1)) 30 1) := by show (if _ then _ else _) = _; rw [if_pos (Or.inr (by omega))]
                refine a_iload (pc := 130) (i := 7) (x := (a : Int)) hC (by decide +kernel) 2 rfl ?_
                refine a_istore_n (pc := 132) (q := 2) (i := 2) (lv' := [(2, vi ((a : Int))), (10, vl ((chH G N s (a + 1)) 30 1)), (8, vl ((chH G N s (a + 1)) 31 s)), (7, vi ((a : Int))), (5, vl ((chP G N s a).2.2)), (3, vl ((chP G N s a).2.1)), (0, .ref 0), (1, vi ((s : Int)))]) hC (by decide +kernel) rfl (by decide) rfl ?_
                refine a_lload (pc := 133) (i := 8) (x := (chH G N s (a + 1)) 31 s) hC (by decide +kernel) 2 rfl ?_
                refine a_lstore_n (pc := 135) (q := 3) (i := 3) (lv' := [(3, vl ((chH G N s (a + 1)) 31 s)), (2, vi ((a : Int))), (10, vl ((chH G N s (a + 1)) 30 1)), (8, vl ((chH G N s (a + 1)) 31 s)), (7, vi ((a : Int))), (5, vl ((chP G N s a).2.2)), (0, .ref 0), (1, vi ((s : Int)))]) hC (by decide +kernel) rfl (by decide) rfl ?_
                refine a_lload (pc := 136) (i := 10) (x := (chH G N s (a + 1)) 30 1) hC (by decide +kernel) 2 rfl ?_
                refine a_lstore (pc := 138) (q := 0) (i := 5) (lv' := [(5, vl ((chH G N s (a + 1)) 30 1)), (3, vl ((chH G N s (a + 1)) 31 s)), (2, vi ((a : Int))), (10, vl ((chH G N s (a + 1)) 30 1)), (8, vl ((chH G N s (a + 1)) 31 s)), (7, vi ((a : Int))), (0, .ref 0), (1, vi ((s : Int)))]) hC (by decide +kernel) (by decide) rfl ?_
                refine a_iinc (pc := 140) (i := 7) (c := 1) (x := (a : Int)) (lv' := [(7, vi (((a : Int)) + 1)), (5, vl ((chH G N s (a + 1)) 30 1)), (3, vl ((chH G N s (a + 1)) 31 s)), (2, vi ((a : Int))), (10, vl ((chH G N s (a + 1)) 30 1)), (8, vl ((chH G N s (a + 1)) 31 s)), (0, .ref 0), (1, vi ((s : Int)))]) hC (by decide +kernel) 5 rfl (by decide) rfl ?_
                refine a_goto (pc := 143) (off := -101) hC 42 (by decide +kernel) (by decide) ?_
                refine a_sub (lv' := [(7, vi (((a + 1) : Int))), (5, vl ((chP G N s (a + 1)).2.2)), (3, vl ((chP G N s (a + 1)).2.1)), (2, vi ((chP G N s (a + 1)).1)), (0, .ref 0), (1, vi ((s : Int)))]) [0, 1, 2, 3, 6, 7] (by rw [hst]; rfl) ?_
                exact ih42 (a + 1) (by omega) (by omega)
      refine a_sub (lv' := [(7, vi ((0 : Int))), (5, vl ((chP G N s 0).2.2)), (3, vl ((chP G N s 0).2.1)), (2, vi ((chP G N s 0).1)), (0, .ref 0), (1, vi ((s : Int)))]) [0, 1, 2, 3, 4, 5] rfl ?_
      exact L42 _ 0 (Nat.lt_succ_self _) (by omega)
    · skip
      exact absurd c22 (by omega)
  · skip
    exact absurd c8 (by unfold hasS; rw [if_pos (by omega)]; decide)

set_option maxRecDepth 100000 in
set_option maxHeartbeats 4000000 in
theorem ct_V_within_no (l : Launch) (D : va_G) (K : K5) (G : GT) (N : Nat) (s : Int) (n : Int) (hsi : inI s) (hv : VV G N) (hno : hasS G s = 0) : Ct l D K y_V_within c_V_within 4 (some .int) 4 99 [.ref 0, vi s, vi n] G (some (vi (-1))) G := by
  refine Ct.intro (by decide +kernel) (Nat.le_of_ble_eq_true rfl) ?_
  intro X hro hty hC hE
  obtain ⟨hw, hp47, hp48⟩ := id hv
  obtain ⟨hn, hN5, hsh, hac, hpa, hwe, hth⟩ := id hw
  refine a_aload_n (pc := 0) (q := 0) (i := 0) (x := 0) hC (by decide +kernel) rfl 0 rfl ?_
  refine g_get (pc := 1) (idx := 10) (ci := 5) (v := .ref 1) hC 0 0 (by decide +kernel) rfl rfl rfl rfl wrV (by decide) rfl (by decide +kernel) ?_
  refine a_iload_n (pc := 4) (q := 1) (i := 1) (x := s) hC (by decide +kernel) rfl 1 rfl ?_
  refine g_callVN (pc := 5) (idx := 75) (i := 1) (av := [vi s]) (rest := []) (g := G) (v := vi (hasS G s)) (host := "PlanValues") hC hro hty (by decide +kernel) rfl rfl k_W_hasState (by decide +kernel) (by decide +kernel) (by decide +kernel) (ct_W_hasState X.la X.dd K G N s hsi hw) rfl rfl (by decide) (by first | decide | simp [Value.category]) ?_
  refine a_if_ne (pc := 8) (off := 5) hC 13 (by decide +kernel) (by decide) (by unfold inI; omega) (fun c8 => ?_) (fun c8 => ?_)
  · skip
    exact absurd hno c8
  · skip
    refine a_iconst (pc := 11) (c := -1) hC (by decide +kernel) ?_
    exact g_iret (pc := 12) hC hE (by decide +kernel) rfl rfl

set_option maxRecDepth 100000 in
set_option maxHeartbeats 4000000 in
theorem ct_V_within_bad (l : Launch) (D : va_G) (K : K5) (G : GT) (N s : Nat) (n : Int) (hs : s < N) (hni : inI n) (hv : VV G N) (hbad : n < 0 ∨ 5 < n) : Ct l D K y_V_within c_V_within 4 (some .int) 4 99 [.ref 0, vi ((s : Int)), vi n] G (some (vi (-2))) G := by
  refine Ct.intro (by decide +kernel) (Nat.le_of_ble_eq_true rfl) ?_
  intro X hro hty hC hE
  obtain ⟨hw, hp47, hp48⟩ := id hv
  obtain ⟨hn, hN5, hsh, hac, hpa, hwe, hth⟩ := id hw
  unfold inI at hni
  refine a_aload_n (pc := 0) (q := 0) (i := 0) (x := 0) hC (by decide +kernel) rfl 0 rfl ?_
  refine g_get (pc := 1) (idx := 10) (ci := 5) (v := .ref 1) hC 0 0 (by decide +kernel) rfl rfl rfl rfl wrV (by decide) rfl (by decide +kernel) ?_
  refine a_iload_n (pc := 4) (q := 1) (i := 1) (x := (s : Int)) hC (by decide +kernel) rfl 1 rfl ?_
  refine g_callVN (pc := 5) (idx := 75) (i := 1) (av := [vi ((s : Int))]) (rest := []) (g := G) (v := vi (hasS G ((s : Int)))) (host := "PlanValues") hC hro hty (by decide +kernel) rfl rfl k_W_hasState (by decide +kernel) (by decide +kernel) (by decide +kernel) (ct_W_hasState X.la X.dd K G N ((s : Int)) (by unfold inI; omega) hw) rfl rfl (by decide) (by first | decide | simp [Value.category]) ?_
  refine a_if_ne (pc := 8) (off := 5) hC 13 (by decide +kernel) (by decide) (by unfold inI hasS; split <;> omega) (fun c8 => ?_) (fun c8 => ?_)
  · skip
    refine a_iload_n (pc := 13) (q := 2) (i := 2) (x := n) hC (by decide +kernel) rfl 2 rfl ?_
    refine a_if_lt (pc := 14) (off := 8) hC 22 (by decide +kernel) (by decide) (by unfold inI; omega) (fun c14 => ?_) (fun c14 => ?_)
    · skip
      refine a_bipush (pc := 22) (c := -2) hC (by decide +kernel) (by decide +kernel) ?_
      exact g_iret (pc := 24) hC hE (by decide +kernel) rfl rfl
    · skip
      refine a_iload_n (pc := 17) (q := 2) (i := 2) (x := n) hC (by decide +kernel) rfl 2 rfl ?_
      refine a_iconst (pc := 18) (c := 5) hC (by decide +kernel) ?_
      refine a_icmp_le (pc := 19) (off := 6) hC 25 (by decide +kernel) (by decide) (by unfold inI; omega) (by unfold inI; omega) (fun c19 => ?_) (fun c19 => ?_)
      · skip
        exact absurd c19 (by omega)
      · skip
        refine a_bipush (pc := 22) (c := -2) hC (by decide +kernel) (by decide +kernel) ?_
        exact g_iret (pc := 24) hC hE (by decide +kernel) rfl rfl
  · skip
    exact absurd c8 (by unfold hasS; rw [if_pos (by omega)]; decide)

set_option maxRecDepth 100000 in
set_option maxHeartbeats 4000000 in
theorem ct_V_within (l : Launch) (D : va_G) (K : K5) (G : GT) (N s n : Nat) (hs : s < N) (hn5 : n ≤ 5) (hv : VV G N) (hso : StpOk G N) : Ct l D K y_V_within c_V_within 4 (some .int) 4 99 [.ref 0, vi ((s : Int)), vi ((n : Int))] G (some (vi 1)) (ansG (stS G N n) (stS G N n 45 s) (stS G N n 44 1)) := by
  refine Ct.intro (by decide +kernel) (Nat.le_of_ble_eq_true rfl) ?_
  intro X hro hty hC hE
  obtain ⟨hw, hp47, hp48⟩ := id hv
  obtain ⟨hn, hN5, hsh, hac, hpa, hwe, hth⟩ := id hw
  refine a_aload_n (pc := 0) (q := 0) (i := 0) (x := 0) hC (by decide +kernel) rfl 0 rfl ?_
  refine g_get (pc := 1) (idx := 10) (ci := 5) (v := .ref 1) hC 0 0 (by decide +kernel) rfl rfl rfl rfl wrV (by decide) rfl (by decide +kernel) ?_
  refine a_iload_n (pc := 4) (q := 1) (i := 1) (x := (s : Int)) hC (by decide +kernel) rfl 1 rfl ?_
  refine g_callVN (pc := 5) (idx := 75) (i := 1) (av := [vi ((s : Int))]) (rest := []) (g := G) (v := vi (hasS G ((s : Int)))) (host := "PlanValues") hC hro hty (by decide +kernel) rfl rfl k_W_hasState (by decide +kernel) (by decide +kernel) (by decide +kernel) (ct_W_hasState X.la X.dd K G N ((s : Int)) (by unfold inI; omega) hw) rfl rfl (by decide) (by first | decide | simp [Value.category]) ?_
  refine a_if_ne (pc := 8) (off := 5) hC 13 (by decide +kernel) (by decide) (by unfold inI hasS; split <;> omega) (fun c8 => ?_) (fun c8 => ?_)
  · skip
    refine a_iload_n (pc := 13) (q := 2) (i := 2) (x := (n : Int)) hC (by decide +kernel) rfl 2 rfl ?_
    refine a_if_lt (pc := 14) (off := 8) hC 22 (by decide +kernel) (by decide) (by unfold inI; omega) (fun c14 => ?_) (fun c14 => ?_)
    · skip
      exact absurd c14 (by omega)
    · skip
      refine a_iload_n (pc := 17) (q := 2) (i := 2) (x := (n : Int)) hC (by decide +kernel) rfl 2 rfl ?_
      refine a_iconst (pc := 18) (c := 5) hC (by decide +kernel) ?_
      refine a_icmp_le (pc := 19) (off := 6) hC 25 (by decide +kernel) (by decide) (by unfold inI; omega) (by unfold inI; omega) (fun c19 => ?_) (fun c19 => ?_)
      · skip
        refine a_aload_n (pc := 25) (q := 0) (i := 0) (x := 0) hC (by decide +kernel) rfl 0 rfl ?_
        refine g_get (pc := 26) (idx := 33) (ci := 5) (v := .ref 44) hC 0 3 (by decide +kernel) rfl rfl rfl rfl wrV (by decide) rfl (by decide +kernel) ?_
        refine g_getN (pc := 29) (idx := 119) (ci := 2) (v := .ref 45) (host := "PlanValues") hC 44 0 (by decide +kernel) rfl rfl rfl rfl wrU (by decide) rfl (by decide +kernel) ?_
        refine a_lconst (pc := 32) (c := 0) (z := 0) hC (by decide +kernel) rfl ?_
        refine g_callS0 (pc := 33) (idx := 155) (av := [.ref 45, vl 0]) (rest := []) (g := uG G 45 (fillF (G 45) 5 0)) hC hro hty (by decide +kernel) k_JA_fill_AJJ (by decide +kernel) (by decide +kernel) (ct_JA_fill_AJJ X.la X.dd K G 45 5 0 rfl (by decide)) rfl rfl (by decide) (by first | decide | simp [Value.category]) ?_
        refine a_aload_n (pc := 36) (q := 0) (i := 0) (x := 0) hC (by decide +kernel) rfl 0 rfl ?_
        refine g_get (pc := 37) (idx := 33) (ci := 5) (v := .ref 44) hC 0 3 (by decide +kernel) rfl rfl rfl rfl wrV (by decide) rfl (by decide +kernel) ?_
        refine a_lconst (pc := 40) (c := 1) (z := 1) hC (by decide +kernel) rfl ?_
        refine g_putN (pc := 41) (idx := 122) (ci := 2) (x := 1) (host := "PlanValues") hC 44 1 (by decide +kernel) rfl rfl (congrArg (fun z => vl z) (up_s _ _ _)) rfl wrU (by decide) rfl (by decide +kernel) rfl (ok_long _) ?_
        refine g_G (G' := stS G N 0) rfl ?_
        refine a_iconst (pc := 44) (c := 0) hC (by decide +kernel) ?_
        refine a_istore_n (pc := 45) (q := 3) (i := 3) (lv' := [(3, vi 0), (0, .ref 0), (1, vi ((s : Int))), (2, vi ((n : Int)))]) hC (by decide +kernel) rfl (by decide) rfl ?_
        have L46 : ∀ (fuel : Nat) (k : Nat), n - k < fuel → k ≤ n → AW X 4 0 0 46 [(3, vi ((k : Int))), (0, .ref 0), (1, vi ((s : Int))), (2, vi ((n : Int)))] [] (hp K (stS G N k)) := by
          intro fuel
          induction fuel with
          | zero => intro k h; exact absurd h (Nat.not_lt_zero _)
          | succ fuel ih46 =>
            intro k hm hk
            refine a_iload_n (pc := 46) (q := 3) (i := 3) (x := (k : Int)) hC (by decide +kernel) rfl 0 rfl ?_
            refine a_iload_n (pc := 47) (q := 2) (i := 2) (x := (n : Int)) hC (by decide +kernel) rfl 3 rfl ?_
            refine a_icmp_ge (pc := 48) (off := 13) hC 61 (by decide +kernel) (by decide) (by unfold inI; omega) (by unfold inI; omega) (fun c48 => ?_) (fun c48 => ?_)
            · skip
              have hkn : k = n := by omega
              have hs2 := hso k (by omega)
              have hra := abs_in (hs2.2.2 s hs) (by decide)
              refine a_aload_n (pc := 61) (q := 0) (i := 0) (x := 0) hC (by decide +kernel) rfl 1 rfl ?_
              refine a_aload_n (pc := 62) (q := 0) (i := 0) (x := 0) hC (by decide +kernel) rfl 1 rfl ?_
              refine g_get (pc := 63) (idx := 33) (ci := 5) (v := .ref 44) hC 0 3 (by decide +kernel) rfl rfl rfl rfl wrV (by decide) rfl (by decide +kernel) ?_
              refine g_getN (pc := 66) (idx := 119) (ci := 2) (v := .ref 45) (host := "PlanValues") hC 44 0 (by decide +kernel) rfl rfl rfl rfl wrU (by decide) rfl (by decide +kernel) ?_
              refine a_iload_n (pc := 69) (q := 1) (i := 1) (x := (s : Int)) hC (by decide +kernel) rfl 2 rfl ?_
              refine g_lald (pc := 70) (a := 45) (j := s) hC hty (by decide +kernel) rfl (by omega) (by first | decide | omega) ?_
              refine a_aload_n (pc := 71) (q := 0) (i := 0) (x := 0) hC (by decide +kernel) rfl 1 rfl ?_
              refine g_get (pc := 72) (idx := 33) (ci := 5) (v := .ref 44) hC 0 3 (by decide +kernel) rfl rfl rfl rfl wrV (by decide) rfl (by decide +kernel) ?_
              refine g_getN (pc := 75) (idx := 122) (ci := 2) (v := vl ((stS G N k) 44 1)) (host := "PlanValues") hC 44 1 (by decide +kernel) rfl rfl rfl rfl wrU (by decide) rfl (by decide +kernel) ?_
              refine g_callV (pc := 78) (idx := 125) (i := 0) (av := [vl ((stS G N k) 45 s), vl ((stS G N k) 44 1)]) (rest := []) (g := ansG (stS G N k) ((stS G N k) 45 s) ((stS G N k) 44 1)) (v := vi 1) hC hro hty (by decide +kernel) rfl rfl k_V_giveAnswer (by decide +kernel) (by decide +kernel) (by decide +kernel) (ct_V_giveAnswer X.la X.dd K (stS G N k) ((stS G N k) 45 s) ((stS G N k) 44 1) hra.1 hra.2 ⟨by have := hs2.2.1.1; omega, by have := hs2.2.1; unfold inL; omega⟩) rfl rfl (by decide) (by first | decide | simp [Value.category]) ?_
              exact g_iret (pc := 81) hC hE (by decide +kernel) rfl (by rw [hkn])
            · skip
              refine a_aload_n (pc := 51) (q := 0) (i := 0) (x := 0) hC (by decide +kernel) rfl 1 rfl ?_
              refine g_callV0 (pc := 52) (idx := 158) (i := 0) (av := []) (rest := []) (g := stpG (stS G N k) N) hC hro hty (by decide +kernel) rfl rfl k_V_stepBack (by decide +kernel) (by decide +kernel) (by decide +kernel) (ct_V_stepBack X.la X.dd K (stS G N k) N (hw.keep (fun c hc => stS_off (by omega) k)) (hso k (by omega)).1) rfl rfl (by decide) (by first | decide | simp [Value.category]) ?_
              refine a_iinc (pc := 55) (i := 3) (c := 1) (x := (k : Int)) (lv' := [(3, vi (((k : Int)) + 1)), (0, .ref 0), (1, vi ((s : Int))), (2, vi ((n : Int)))]) hC (by decide +kernel) 0 rfl (by decide) rfl ?_
              refine a_goto (pc := 58) (off := -12) hC 46 (by decide +kernel) (by decide) ?_
              refine a_sub (lv' := [(3, vi (((k + 1) : Int))), (0, .ref 0), (1, vi ((s : Int))), (2, vi ((n : Int)))]) [0, 1, 2, 3] rfl ?_
              refine g_G (G' := stS G N (k + 1)) rfl ?_
              exact ih46 (k + 1) (by omega) (by omega)
        refine a_sub (lv' := [(3, vi ((0 : Int))), (0, .ref 0), (1, vi ((s : Int))), (2, vi ((n : Int)))]) [0, 1, 2, 3] rfl ?_
        exact L46 _ 0 (Nat.lt_succ_self _) (by omega)
      · skip
        exact absurd c19 (by omega)
  · skip
    exact absurd c8 (by unfold hasS; rw [if_pos (by omega)]; decide)
end
section
/-! the reference: its small methods -/
def MM (G : GT) (N : Nat) : Prop := G 50 1 = (N : Int) ∧ N ≤ 5 ∧ (0 ≤ G 50 7 ∧ G 50 7 < G 50 8 ∧ G 50 8 ≤ 6) ∧ (∀ s, s < 5 → 0 ≤ G 52 s ∧ G 52 s ≤ 3) ∧ (∀ q, q < 15 → -50 ≤ G 53 q ∧ G 53 q ≤ 50) ∧ (∀ q, q < 75 → 0 ≤ G 54 q ∧ G 54 q ≤ 6) ∧ (∀ s, s < 5 → G 51 s = 0 ∨ G 51 s = 1) ∧ ∀ s, s < 5 → 0 ≤ G 55 s ∧ G 55 s ≤ 2
theorem MM.keep {G G' : GT} {N : Nat} (h : MM G N) (e : ∀ a, 51 ≤ a ∧ a ≤ 55 → G' a = G a) (e0 : ∀ k, k = 1 ∨ k = 7 ∨ k = 8 → G' 50 k = G 50 k) : MM G' N := by
  obtain ⟨h1, h2, h3, h4, h5, h6, h7, h8⟩ := h
  refine ⟨by rw [e0 1 (by omega)]; exact h1, h2, by rw [e0 7 (by omega), e0 8 (by omega)]; exact h3, fun s hs => by rw [e 52 (by omega)]; exact h4 s hs, fun q hq => by rw [e 53 (by omega)]; exact h5 q hq, fun q hq => by rw [e 54 (by omega)]; exact h6 q hq, fun s hs => by rw [e 51 (by omega)]; exact h7 s hs, fun s hs => by rw [e 55 (by omega)]; exact h8 s hs⟩
def inZ (v lo hi : Int) : Int := if lo ≤ v ∧ v ≤ hi then 1 else 0
theorem inZ_01 (v lo hi : Int) : inZ v lo hi = 0 ∨ inZ v lo hi = 1 := by unfold inZ; split <;> omega
def gcZ (a b : Int) : Int := ((Nat.gcd a.natAbs b.natAbs : Nat) : Int)
theorem gcZ_s {x y : Int} (hx : 0 ≤ x) (hy : 0 ≤ y) : gcZ y (Int.tmod x y) = gcZ x y := by
  obtain ⟨a, rfl⟩ : ∃ a : Nat, x = (a : Int) := ⟨x.toNat, by omega⟩
  obtain ⟨b, rfl⟩ : ∃ b : Nat, y = (b : Int) := ⟨y.toNat, by omega⟩
  unfold gcZ
  rw [show Int.tmod (a : Int) (b : Int) = ((a % b : Nat) : Int) from rfl]
  simp only [Int.natAbs_natCast]
  rw [Nat.gcd_comm b (a % b), ← Nat.gcd_rec, Nat.gcd_comm]
theorem gcZ_0 {x : Int} (hx : 0 ≤ x) : gcZ x 0 = x := by unfold gcZ; simp; omega
theorem gcZ_abs (a b : Int) : gcZ (absZ a) (absZ b) = gcZ a b := by
  have e : ∀ x : Int, (absZ x).natAbs = x.natAbs := fun x => by unfold absZ; split <;> simp
  unfold gcZ; rw [e, e]
theorem gcZ_in {a b : Int} (hb : 1 ≤ b) : 1 ≤ gcZ a b ∧ gcZ a b ≤ b := by
  unfold gcZ
  have h1 : Nat.gcd a.natAbs b.natAbs ≤ b.natAbs := Nat.gcd_le_right _ (by omega)
  have h2 : 0 < Nat.gcd a.natAbs b.natAbs := Nat.gcd_pos_of_pos_right _ (by omega)
  omega
def mansG (G : GT) (x y : Int) : GT := uG G 50 (up (up (G 50) 9 (Int.tdiv x (gcZ x y))) 10 (Int.tdiv y (gcZ x y)))
def mS (G : GT) (s : Int) : Int := inZ s 0 (G 50 1 - 1)
def mA (G : GT) (s a : Int) : Int := if mS G s = 1 ∧ inZ a 0 (G 52 s.toNat - 1) = 1 then 1 else 0
def wIx (s a t : Nat) : Nat := 15 * s + 5 * a + t
def totZ (G : GT) (s a : Nat) : Nat → Int
  | 0 => 0
  | t + 1 => totZ G s a t + G 54 (wIx s a t)
theorem totZ_in {G : GT} {N s a : Nat} (h : MM G N) (hs : s < 5) (ha : a < 3) : ∀ t, t ≤ 5 → 0 ≤ totZ G s a t ∧ totZ G s a t ≤ 6 * (t : Int)
  | 0, _ => by unfold totZ; simp
  | t + 1, ht => by
    have ih := totZ_in h hs ha t (by omega)
    have := h.2.2.2.2.2.1 (wIx s a t) (by unfold wIx; omega)
    unfold totZ
    omega
def m0 (G : GT) : GT := uG G 50 (up (G 50) 0 0)
theorem m0_n {G : GT} {a : Nat} (h : a ≠ 50) : m0 G a = G a := uG_n _ _ h
theorem m0_k {G : GT} {k : Nat} (h : k ≠ 0) : m0 G 50 k = G 50 k := by unfold m0; rw [uG_s, up_n _ _ h]
theorem MM.m0 {G : GT} {N : Nat} (h : MM G N) : MM (m0 G) N := h.keep (fun a ha => m0_n (by omega)) (fun k hk => m0_k (by omega))
theorem shr5 : ∀ m : Nat, m < 64 → ∀ k : Nat, k < 6 → iZ (m : Int) >>> (iZ (k : Int) &&& 31) = iZ ((m / 2 ^ k : Nat) : Int) := by decide +kernel
theorem and1 : ∀ m : Nat, m < 64 → iZ (m : Int) &&& iZ 1 = iZ ((m % 2 : Nat) : Int) := by decide +kernel
def sr (m k : Nat) : Nat := m / 2 ^ k
theorem sr_lt {m k : Nat} (h : m < 64) : sr m k < 64 := Nat.lt_of_le_of_lt (Nat.div_le_self _ _) h
def bt2 (m k : Nat) : Nat := sr m k % 2
theorem bt2_in (m k : Nat) : bt2 m k < 2 := Nat.mod_lt _ (by decide)
def mnS (m : Nat) : Nat → Int
  | 0 => 0
  | k + 1 => mnS m k + (bt2 m k : Int)
theorem mnS_in (m : Nat) : ∀ k, 0 ≤ mnS m k ∧ mnS m k ≤ (k : Int)
  | 0 => by unfold mnS; simp
  | k + 1 => by have ih := mnS_in m k; have := bt2_in m k; unfold mnS; omega

set_option maxRecDepth 100000 in
set_option maxHeartbeats 4000000 in
theorem ct_M_in (l : Launch) (D : va_G) (K : K5) (G : GT) (v lo hi : Int) (hv : inL v) (hlo : inL lo) (hhi : inL hi) : Ct l D K y_M_in c_M_in 6 (some .boolean) 0 0 [vl v, vl lo, vl hi] G (some (vi (inZ v lo hi))) G := by
  refine Ct.intro (by decide +kernel) (Nat.le_of_ble_eq_true rfl) ?_
  intro X hro hty hC hE
  refine a_lload_n (pc := 0) (q := 0) (i := 0) (x := v) hC (by decide +kernel) rfl 0 rfl ?_
  refine a_lload_n (pc := 1) (q := 2) (i := 2) (x := lo) hC (by decide +kernel) rfl 1 rfl ?_
  refine a_lcmp (pc := 2) hC (by decide +kernel) hv hlo ?_
  refine a_if_lt (pc := 3) (off := 14) hC 17 (by decide +kernel) (by decide) (cmpZ_in _ _) (fun c3 => ?_) (fun c3 => ?_)
  · skip
    rw [cmpZ_lt] at c3
    refine a_iconst (pc := 17) (c := 0) hC (by decide +kernel) ?_
    exact g_zret (pc := 18) hC hE (by decide +kernel) (by omega) (by unfold inZ; split <;> omega) rfl
  · skip
    rw [cmpZ_lt] at c3
    refine a_lload_n (pc := 6) (q := 0) (i := 0) (x := v) hC (by decide +kernel) rfl 0 rfl ?_
    refine a_lload (pc := 7) (i := 4) (x := hi) hC (by decide +kernel) 2 rfl ?_
    refine a_lcmp (pc := 9) hC (by decide +kernel) hv hhi ?_
    refine a_if_gt (pc := 10) (off := 7) hC 17 (by decide +kernel) (by decide) (cmpZ_in _ _) (fun c10 => ?_) (fun c10 => ?_)
    · skip
      rw [cmpZ_gt] at c10
      refine a_iconst (pc := 17) (c := 0) hC (by decide +kernel) ?_
      exact g_zret (pc := 18) hC hE (by decide +kernel) (by omega) (by unfold inZ; split <;> omega) rfl
    · skip
      rw [cmpZ_gt] at c10
      refine a_iconst (pc := 13) (c := 1) hC (by decide +kernel) ?_
      refine a_goto (pc := 14) (off := 4) hC 18 (by decide +kernel) (by decide) ?_
      exact g_zret (pc := 18) hC hE (by decide +kernel) (by omega) (by unfold inZ; split <;> omega) rfl

set_option maxRecDepth 100000 in
set_option maxHeartbeats 4000000 in
theorem ct_M_divisor (l : Launch) (D : va_G) (K : K5) (G : GT) (a b : Int) (ha : inL a ∧ inL (absZ a)) (hb : inL b ∧ inL (absZ b)) : Ct l D K y_M_divisor c_M_divisor 10 (some .long) 0 0 [vl a, vl b] G (some (vl (gcZ a b))) G := by
  refine Ct.intro (by decide +kernel) (Nat.le_of_ble_eq_true rfl) ?_
  intro X hro hty hC hE
  have ha0 : 0 ≤ absZ a := by unfold absZ; split <;> omega
  have hb0 : 0 ≤ absZ b := by unfold absZ; split <;> omega
  refine a_lload_n (pc := 0) (q := 0) (i := 0) (x := a) hC (by decide +kernel) rfl 0 rfl ?_
  refine a_lconst (pc := 1) (c := 0) (z := 0) hC (by decide +kernel) rfl ?_
  refine a_lcmp (pc := 2) hC (by decide +kernel) ha.1 inL_0 ?_
  refine a_if_ge (pc := 3) (off := 8) hC 11 (by decide +kernel) (by decide) (cmpZ_in _ _) (fun c3 => ?_) (fun c3 => ?_)
  · skip
    rw [cmpZ_ge] at c3
    have hxa : a = absZ a := by unfold absZ; rw [if_neg (by omega)]
    refine a_lload_n (pc := 11) (q := 0) (i := 0) (x := a) hC (by decide +kernel) rfl 0 rfl ?_
    refine a_lstore (pc := 12) (q := 0) (i := 4) (lv' := [(4, vl a), (0, vl a), (2, vl b)]) hC (by decide +kernel) (by decide) rfl ?_
    refine a_lload_n (pc := 14) (q := 2) (i := 2) (x := b) hC (by decide +kernel) rfl 2 rfl ?_
    refine a_lconst (pc := 15) (c := 0) (z := 0) hC (by decide +kernel) rfl ?_
    refine a_lcmp (pc := 16) hC (by decide +kernel) hb.1 inL_0 ?_
    refine a_if_ge (pc := 17) (off := 8) hC 25 (by decide +kernel) (by decide) (cmpZ_in _ _) (fun c17 => ?_) (fun c17 => ?_)
    · skip
      rw [cmpZ_ge] at c17
      have hyb : b = absZ b := by unfold absZ; rw [if_neg (by omega)]
      refine a_lload_n (pc := 25) (q := 2) (i := 2) (x := b) hC (by decide +kernel) rfl 2 rfl ?_
      refine a_lstore (pc := 26) (q := 0) (i := 6) (lv' := [(6, vl b), (4, vl a), (0, vl a), (2, vl b)]) hC (by decide +kernel) (by decide) rfl ?_
      have L28 : ∀ (fuel : Nat) (x : Int) (y : Int), y.toNat < fuel → (0 ≤ x ∧ inL x) → (0 ≤ y ∧ inL y) → gcZ x y = gcZ a b → AW X 10 0 0 28 [(6, vl y), (4, vl x), (0, vl a), (2, vl b)] [] (hp K G) := by
        intro fuel
        induction fuel with
        | zero => intro x y h; exact absurd h (Nat.not_lt_zero _)
        | succ fuel ih28 =>
          intro x y hm hx hy hg
          refine a_lload (pc := 28) (i := 6) (x := y) hC (by decide +kernel) 0 rfl ?_
          refine a_lconst (pc := 30) (c := 0) (z := 0) hC (by decide +kernel) rfl ?_
          refine a_lcmp (pc := 31) hC (by decide +kernel) hy.2 inL_0 ?_
          refine a_if_eq (pc := 32) (off := 21) hC 53 (by decide +kernel) (by decide) (cmpZ_in _ _) (fun c32 => ?_) (fun c32 => ?_)
          · skip
            rw [cmpZ_eq] at c32
            refine a_lload (pc := 53) (i := 4) (x := x) hC (by decide +kernel) 1 rfl ?_
            exact g_lret (pc := 55) hC hE (by decide +kernel) (by rw [← hg, c32, gcZ_0 hx.1]) rfl
          · skip
            rw [cmpZ_eq] at c32
            have htm := tmod_in hx.1 hy.1 c32
            refine a_lload (pc := 35) (i := 4) (x := x) hC (by decide +kernel) 1 rfl ?_
            refine a_lload (pc := 37) (i := 6) (x := y) hC (by decide +kernel) 0 rfl ?_
            refine a_lrem (pc := 39) hC (by decide +kernel) hx.2 hy.2 c32 ?_
            refine a_lstore (pc := 40) (q := 0) (i := 8) (lv' := [(8, vl (Int.tmod x y)), (6, vl y), (4, vl x), (0, vl a), (2, vl b)]) hC (by decide +kernel) (by decide) rfl ?_
            refine a_lload (pc := 42) (i := 6) (x := y) hC (by decide +kernel) 1 rfl ?_
            refine a_lstore (pc := 44) (q := 0) (i := 4) (lv' := [(4, vl y), (8, vl (Int.tmod x y)), (6, vl y), (0, vl a), (2, vl b)]) hC (by decide +kernel) (by decide) rfl ?_
            refine a_lload (pc := 46) (i := 8) (x := Int.tmod x y) hC (by decide +kernel) 1 rfl ?_
            refine a_lstore (pc := 48) (q := 0) (i := 6) (lv' := [(6, vl (Int.tmod x y)), (4, vl y), (8, vl (Int.tmod x y)), (0, vl a), (2, vl b)]) hC (by decide +kernel) (by decide) rfl ?_
            refine a_goto (pc := 50) (off := -22) hC 28 (by decide +kernel) (by decide) ?_
            refine a_sub (lv' := [(6, vl ((Int.tmod x y))), (4, vl y), (0, vl a), (2, vl b)]) [0, 1, 3, 4] rfl ?_
            exact ih28 y (Int.tmod x y) (by omega) hy ⟨htm.1, by have := hy.2; unfold inL at *; omega⟩ (by rw [gcZ_s hx.1 hy.1]; exact hg)
      refine a_sub (lv' := [(6, vl ((absZ b))), (4, vl ((absZ a))), (0, vl a), (2, vl b)]) [0, 1, 2, 3] (by rw [← hxa, ← hyb]; rfl) ?_
      exact L28 _ (absZ a) (absZ b) (Nat.lt_succ_self _) ⟨ha0, ha.2⟩ ⟨hb0, hb.2⟩ (gcZ_abs a b)
    · skip
      rw [cmpZ_ge] at c17
      have hyb : -b = absZ b := by unfold absZ; rw [if_pos (by omega)]
      refine a_lload_n (pc := 20) (q := 2) (i := 2) (x := b) hC (by decide +kernel) rfl 2 rfl ?_
      refine a_lneg (pc := 21) hC (by decide +kernel) ?_
      refine a_goto (pc := 22) (off := 4) hC 26 (by decide +kernel) (by decide) ?_
      refine a_lstore (pc := 26) (q := 0) (i := 6) (lv' := [(6, vl (-b)), (4, vl a), (0, vl a), (2, vl b)]) hC (by decide +kernel) (by decide) rfl ?_
      have L28 : ∀ (fuel : Nat) (x : Int) (y : Int), y.toNat < fuel → (0 ≤ x ∧ inL x) → (0 ≤ y ∧ inL y) → gcZ x y = gcZ a b → AW X 10 0 0 28 [(6, vl y), (4, vl x), (0, vl a), (2, vl b)] [] (hp K G) := by
        intro fuel
        induction fuel with
        | zero => intro x y h; exact absurd h (Nat.not_lt_zero _)
        | succ fuel ih28 =>
          intro x y hm hx hy hg
          refine a_lload (pc := 28) (i := 6) (x := y) hC (by decide +kernel) 0 rfl ?_
          refine a_lconst (pc := 30) (c := 0) (z := 0) hC (by decide +kernel) rfl ?_
          refine a_lcmp (pc := 31) hC (by decide +kernel) hy.2 inL_0 ?_
          refine a_if_eq (pc := 32) (off := 21) hC 53 (by decide +kernel) (by decide) (cmpZ_in _ _) (fun c32 => ?_) (fun c32 => ?_)
          · skip
            rw [cmpZ_eq] at c32
            refine a_lload (pc := 53) (i := 4) (x := x) hC (by decide +kernel) 1 rfl ?_
            exact g_lret (pc := 55) hC hE (by decide +kernel) (by rw [← hg, c32, gcZ_0 hx.1]) rfl
          · skip
            rw [cmpZ_eq] at c32
            have htm := tmod_in hx.1 hy.1 c32
            refine a_lload (pc := 35) (i := 4) (x := x) hC (by decide +kernel) 1 rfl ?_
            refine a_lload (pc := 37) (i := 6) (x := y) hC (by decide +kernel) 0 rfl ?_
            refine a_lrem (pc := 39) hC (by decide +kernel) hx.2 hy.2 c32 ?_
            refine a_lstore (pc := 40) (q := 0) (i := 8) (lv' := [(8, vl (Int.tmod x y)), (6, vl y), (4, vl x), (0, vl a), (2, vl b)]) hC (by decide +kernel) (by decide) rfl ?_
            refine a_lload (pc := 42) (i := 6) (x := y) hC (by decide +kernel) 1 rfl ?_
            refine a_lstore (pc := 44) (q := 0) (i := 4) (lv' := [(4, vl y), (8, vl (Int.tmod x y)), (6, vl y), (0, vl a), (2, vl b)]) hC (by decide +kernel) (by decide) rfl ?_
            refine a_lload (pc := 46) (i := 8) (x := Int.tmod x y) hC (by decide +kernel) 1 rfl ?_
            refine a_lstore (pc := 48) (q := 0) (i := 6) (lv' := [(6, vl (Int.tmod x y)), (4, vl y), (8, vl (Int.tmod x y)), (0, vl a), (2, vl b)]) hC (by decide +kernel) (by decide) rfl ?_
            refine a_goto (pc := 50) (off := -22) hC 28 (by decide +kernel) (by decide) ?_
            refine a_sub (lv' := [(6, vl ((Int.tmod x y))), (4, vl y), (0, vl a), (2, vl b)]) [0, 1, 3, 4] rfl ?_
            exact ih28 y (Int.tmod x y) (by omega) hy ⟨htm.1, by have := hy.2; unfold inL at *; omega⟩ (by rw [gcZ_s hx.1 hy.1]; exact hg)
      refine a_sub (lv' := [(6, vl ((absZ b))), (4, vl ((absZ a))), (0, vl a), (2, vl b)]) [0, 1, 2, 3] (by rw [← hxa, ← hyb]; rfl) ?_
      exact L28 _ (absZ a) (absZ b) (Nat.lt_succ_self _) ⟨ha0, ha.2⟩ ⟨hb0, hb.2⟩ (gcZ_abs a b)
  · skip
    rw [cmpZ_ge] at c3
    have hxa : -a = absZ a := by unfold absZ; rw [if_pos (by omega)]
    refine a_lload_n (pc := 6) (q := 0) (i := 0) (x := a) hC (by decide +kernel) rfl 0 rfl ?_
    refine a_lneg (pc := 7) hC (by decide +kernel) ?_
    refine a_goto (pc := 8) (off := 4) hC 12 (by decide +kernel) (by decide) ?_
    refine a_lstore (pc := 12) (q := 0) (i := 4) (lv' := [(4, vl (-a)), (0, vl a), (2, vl b)]) hC (by decide +kernel) (by decide) rfl ?_
    refine a_lload_n (pc := 14) (q := 2) (i := 2) (x := b) hC (by decide +kernel) rfl 2 rfl ?_
    refine a_lconst (pc := 15) (c := 0) (z := 0) hC (by decide +kernel) rfl ?_
    refine a_lcmp (pc := 16) hC (by decide +kernel) hb.1 inL_0 ?_
    refine a_if_ge (pc := 17) (off := 8) hC 25 (by decide +kernel) (by decide) (cmpZ_in _ _) (fun c17 => ?_) (fun c17 => ?_)
    · skip
      rw [cmpZ_ge] at c17
      have hyb : b = absZ b := by unfold absZ; rw [if_neg (by omega)]
      refine a_lload_n (pc := 25) (q := 2) (i := 2) (x := b) hC (by decide +kernel) rfl 2 rfl ?_
      refine a_lstore (pc := 26) (q := 0) (i := 6) (lv' := [(6, vl b), (4, vl (-a)), (0, vl a), (2, vl b)]) hC (by decide +kernel) (by decide) rfl ?_
      have L28 : ∀ (fuel : Nat) (x : Int) (y : Int), y.toNat < fuel → (0 ≤ x ∧ inL x) → (0 ≤ y ∧ inL y) → gcZ x y = gcZ a b → AW X 10 0 0 28 [(6, vl y), (4, vl x), (0, vl a), (2, vl b)] [] (hp K G) := by
        intro fuel
        induction fuel with
        | zero => intro x y h; exact absurd h (Nat.not_lt_zero _)
        | succ fuel ih28 =>
          intro x y hm hx hy hg
          refine a_lload (pc := 28) (i := 6) (x := y) hC (by decide +kernel) 0 rfl ?_
          refine a_lconst (pc := 30) (c := 0) (z := 0) hC (by decide +kernel) rfl ?_
          refine a_lcmp (pc := 31) hC (by decide +kernel) hy.2 inL_0 ?_
          refine a_if_eq (pc := 32) (off := 21) hC 53 (by decide +kernel) (by decide) (cmpZ_in _ _) (fun c32 => ?_) (fun c32 => ?_)
          · skip
            rw [cmpZ_eq] at c32
            refine a_lload (pc := 53) (i := 4) (x := x) hC (by decide +kernel) 1 rfl ?_
            exact g_lret (pc := 55) hC hE (by decide +kernel) (by rw [← hg, c32, gcZ_0 hx.1]) rfl
          · skip
            rw [cmpZ_eq] at c32
            have htm := tmod_in hx.1 hy.1 c32
            refine a_lload (pc := 35) (i := 4) (x := x) hC (by decide +kernel) 1 rfl ?_
            refine a_lload (pc := 37) (i := 6) (x := y) hC (by decide +kernel) 0 rfl ?_
            refine a_lrem (pc := 39) hC (by decide +kernel) hx.2 hy.2 c32 ?_
            refine a_lstore (pc := 40) (q := 0) (i := 8) (lv' := [(8, vl (Int.tmod x y)), (6, vl y), (4, vl x), (0, vl a), (2, vl b)]) hC (by decide +kernel) (by decide) rfl ?_
            refine a_lload (pc := 42) (i := 6) (x := y) hC (by decide +kernel) 1 rfl ?_
            refine a_lstore (pc := 44) (q := 0) (i := 4) (lv' := [(4, vl y), (8, vl (Int.tmod x y)), (6, vl y), (0, vl a), (2, vl b)]) hC (by decide +kernel) (by decide) rfl ?_
            refine a_lload (pc := 46) (i := 8) (x := Int.tmod x y) hC (by decide +kernel) 1 rfl ?_
            refine a_lstore (pc := 48) (q := 0) (i := 6) (lv' := [(6, vl (Int.tmod x y)), (4, vl y), (8, vl (Int.tmod x y)), (0, vl a), (2, vl b)]) hC (by decide +kernel) (by decide) rfl ?_
            refine a_goto (pc := 50) (off := -22) hC 28 (by decide +kernel) (by decide) ?_
            refine a_sub (lv' := [(6, vl ((Int.tmod x y))), (4, vl y), (0, vl a), (2, vl b)]) [0, 1, 3, 4] rfl ?_
            exact ih28 y (Int.tmod x y) (by omega) hy ⟨htm.1, by have := hy.2; unfold inL at *; omega⟩ (by rw [gcZ_s hx.1 hy.1]; exact hg)
      refine a_sub (lv' := [(6, vl ((absZ b))), (4, vl ((absZ a))), (0, vl a), (2, vl b)]) [0, 1, 2, 3] (by rw [← hxa, ← hyb]; rfl) ?_
      exact L28 _ (absZ a) (absZ b) (Nat.lt_succ_self _) ⟨ha0, ha.2⟩ ⟨hb0, hb.2⟩ (gcZ_abs a b)
    · skip
      rw [cmpZ_ge] at c17
      have hyb : -b = absZ b := by unfold absZ; rw [if_pos (by omega)]
      refine a_lload_n (pc := 20) (q := 2) (i := 2) (x := b) hC (by decide +kernel) rfl 2 rfl ?_
      refine a_lneg (pc := 21) hC (by decide +kernel) ?_
      refine a_goto (pc := 22) (off := 4) hC 26 (by decide +kernel) (by decide) ?_
      refine a_lstore (pc := 26) (q := 0) (i := 6) (lv' := [(6, vl (-b)), (4, vl (-a)), (0, vl a), (2, vl b)]) hC (by decide +kernel) (by decide) rfl ?_
      have L28 : ∀ (fuel : Nat) (x : Int) (y : Int), y.toNat < fuel → (0 ≤ x ∧ inL x) → (0 ≤ y ∧ inL y) → gcZ x y = gcZ a b → AW X 10 0 0 28 [(6, vl y), (4, vl x), (0, vl a), (2, vl b)] [] (hp K G) := by
        intro fuel
        induction fuel with
        | zero => intro x y h; exact absurd h (Nat.not_lt_zero _)
        | succ fuel ih28 =>
          intro x y hm hx hy hg
          refine a_lload (pc := 28) (i := 6) (x := y) hC (by decide +kernel) 0 rfl ?_
          refine a_lconst (pc := 30) (c := 0) (z := 0) hC (by decide +kernel) rfl ?_
          refine a_lcmp (pc := 31) hC (by decide +kernel) hy.2 inL_0 ?_
          refine a_if_eq (pc := 32) (off := 21) hC 53 (by decide +kernel) (by decide) (cmpZ_in _ _) (fun c32 => ?_) (fun c32 => ?_)
          · skip
            rw [cmpZ_eq] at c32
            refine a_lload (pc := 53) (i := 4) (x := x) hC (by decide +kernel) 1 rfl ?_
            exact g_lret (pc := 55) hC hE (by decide +kernel) (by rw [← hg, c32, gcZ_0 hx.1]) rfl
          · skip
            rw [cmpZ_eq] at c32
            have htm := tmod_in hx.1 hy.1 c32
            refine a_lload (pc := 35) (i := 4) (x := x) hC (by decide +kernel) 1 rfl ?_
            refine a_lload (pc := 37) (i := 6) (x := y) hC (by decide +kernel) 0 rfl ?_
            refine a_lrem (pc := 39) hC (by decide +kernel) hx.2 hy.2 c32 ?_
            refine a_lstore (pc := 40) (q := 0) (i := 8) (lv' := [(8, vl (Int.tmod x y)), (6, vl y), (4, vl x), (0, vl a), (2, vl b)]) hC (by decide +kernel) (by decide) rfl ?_
            refine a_lload (pc := 42) (i := 6) (x := y) hC (by decide +kernel) 1 rfl ?_
            refine a_lstore (pc := 44) (q := 0) (i := 4) (lv' := [(4, vl y), (8, vl (Int.tmod x y)), (6, vl y), (0, vl a), (2, vl b)]) hC (by decide +kernel) (by decide) rfl ?_
            refine a_lload (pc := 46) (i := 8) (x := Int.tmod x y) hC (by decide +kernel) 1 rfl ?_
            refine a_lstore (pc := 48) (q := 0) (i := 6) (lv' := [(6, vl (Int.tmod x y)), (4, vl y), (8, vl (Int.tmod x y)), (0, vl a), (2, vl b)]) hC (by decide +kernel) (by decide) rfl ?_
            refine a_goto (pc := 50) (off := -22) hC 28 (by decide +kernel) (by decide) ?_
            refine a_sub (lv' := [(6, vl ((Int.tmod x y))), (4, vl y), (0, vl a), (2, vl b)]) [0, 1, 3, 4] rfl ?_
            exact ih28 y (Int.tmod x y) (by omega) hy ⟨htm.1, by have := hy.2; unfold inL at *; omega⟩ (by rw [gcZ_s hx.1 hy.1]; exact hg)
      refine a_sub (lv' := [(6, vl ((absZ b))), (4, vl ((absZ a))), (0, vl a), (2, vl b)]) [0, 1, 2, 3] (by rw [← hxa, ← hyb]; rfl) ?_
      exact L28 _ (absZ a) (absZ b) (Nat.lt_succ_self _) ⟨ha0, ha.2⟩ ⟨hb0, hb.2⟩ (gcZ_abs a b)

set_option maxRecDepth 100000 in
set_option maxHeartbeats 4000000 in
theorem ct_M_answer (l : Launch) (D : va_G) (K : K5) (G : GT) (x y : Int) (hx : inL x ∧ inL (absZ x)) (hy : 1 ≤ y ∧ inL y) : Ct l D K y_M_answer c_M_answer 7 (some .int) 1 29 [.ref 50, vl x, vl y] G (some (vi 1)) (mansG G x y) := by
  refine Ct.intro (by decide +kernel) (Nat.le_of_ble_eq_true rfl) ?_
  intro X hro hty hC hE
  have hg := gcZ_in (a := x) hy.1
  have hgi : inL (gcZ x y) := by have := hy.2; unfold inL at *; omega
  refine a_lload_n (pc := 0) (q := 1) (i := 1) (x := x) hC (by decide +kernel) rfl 1 rfl ?_
  refine a_lload_n (pc := 1) (q := 3) (i := 3) (x := y) hC (by decide +kernel) rfl 2 rfl ?_
  refine g_callS (pc := 2) (idx := 65) (av := [vl x, vl y]) (rest := []) (g := G) (v := vl (gcZ x y)) hC hro hty (by decide +kernel) k_M_divisor (by decide +kernel) (by decide +kernel) (ct_M_divisor X.la X.dd K G x y hx ⟨hy.2, by unfold absZ; rw [if_neg (by omega)]; exact hy.2⟩) rfl rfl (by decide) (by first | decide | simp [Value.category]) ?_
  refine a_lstore (pc := 5) (q := 0) (i := 5) (lv' := [(5, vl (gcZ x y)), (0, .ref 50), (1, vl x), (3, vl y)]) hC (by decide +kernel) (by decide) rfl ?_
  refine a_aload_n (pc := 7) (q := 0) (i := 0) (x := 50) hC (by decide +kernel) rfl 1 rfl ?_
  refine a_lload_n (pc := 8) (q := 1) (i := 1) (x := x) hC (by decide +kernel) rfl 2 rfl ?_
  refine a_lload (pc := 9) (i := 5) (x := gcZ x y) hC (by decide +kernel) 0 rfl ?_
  refine a_ldiv (pc := 11) hC (by decide +kernel) hx.1 hgi (by omega) ?_
  refine g_put (pc := 12) (idx := 69) (ci := 6) (x := Int.tdiv x (gcZ x y)) hC 50 9 (by decide +kernel) rfl rfl (congrArg (fun z => vl z) (up_s _ _ _)) rfl wrM (by decide) rfl (by decide +kernel) rfl (ok_long _) ?_
  refine a_aload_n (pc := 15) (q := 0) (i := 0) (x := 50) hC (by decide +kernel) rfl 1 rfl ?_
  refine a_lload_n (pc := 16) (q := 3) (i := 3) (x := y) hC (by decide +kernel) rfl 3 rfl ?_
  refine a_lload (pc := 17) (i := 5) (x := gcZ x y) hC (by decide +kernel) 0 rfl ?_
  refine a_ldiv (pc := 19) hC (by decide +kernel) hy.2 hgi (by omega) ?_
  refine g_put (pc := 20) (idx := 33) (ci := 6) (x := Int.tdiv y (gcZ x y)) hC 50 10 (by decide +kernel) rfl rfl (congrArg (fun z => vl z) (up_s _ _ _)) rfl wrM (by decide) rfl (by decide +kernel) rfl (ok_long _) ?_
  refine a_iconst (pc := 23) (c := 1) hC (by decide +kernel) ?_
  exact g_iret (pc := 24) hC hE (by decide +kernel) rfl (by rw [uG_s, uG_uG]; rfl)

set_option maxRecDepth 100000 in
set_option maxHeartbeats 4000000 in
theorem ct_M_isState (l : Launch) (D : va_G) (K : K5) (G : GT) (N : Nat) (s : Int) (hs : inI s) (hmm : MM G N) : Ct l D K y_M_isState c_M_isState 2 (some .boolean) 1 25 [.ref 50, vi s] G (some (vi (mS G s))) G := by
  refine Ct.intro (by decide +kernel) (Nat.le_of_ble_eq_true rfl) ?_
  intro X hro hty hC hE
  obtain ⟨hn, hN5, hsh, hac, hpa, hwe, hth, hch⟩ := id hmm
  unfold inI at hs
  refine a_iload_n (pc := 0) (q := 1) (i := 1) (x := s) hC (by decide +kernel) rfl 1 rfl ?_
  refine a_i2l (pc := 1) hC (by decide +kernel) (by unfold inI; omega) ?_
  refine a_lconst (pc := 2) (c := 0) (z := 0) hC (by decide +kernel) rfl ?_
  refine a_aload_n (pc := 3) (q := 0) (i := 0) (x := 50) hC (by decide +kernel) rfl 0 rfl ?_
  refine g_get (pc := 4) (idx := 72) (ci := 6) (v := vi (G 50 1)) hC 50 1 (by decide +kernel) rfl rfl rfl rfl wrM (by decide) rfl (by decide +kernel) ?_
  refine a_iconst (pc := 7) (c := 1) hC (by decide +kernel) ?_
  refine a_isub (pc := 8) hC (by decide +kernel) ?_
  refine a_i2l (pc := 9) hC (by decide +kernel) (by unfold inI; omega) ?_
  refine g_callS (pc := 10) (idx := 75) (av := [vl s, vl 0, vl ((G 50 1) - 1)]) (rest := []) (g := G) (v := vi (inZ s 0 ((G 50 1) - 1))) hC hro hty (by decide +kernel) k_M_in (by decide +kernel) (by decide +kernel) (ct_M_in X.la X.dd K G s 0 ((G 50 1) - 1) (by unfold inL; omega) (by unfold inL; omega) (by unfold inL; omega)) rfl rfl (by decide) (by first | decide | simp [Value.category]) ?_
  exact g_zret (pc := 13) hC hE (by decide +kernel) (inZ_01 _ _ _) rfl rfl

set_option maxRecDepth 100000 in
set_option maxHeartbeats 4000000 in
theorem ct_M_isAct (l : Launch) (D : va_G) (K : K5) (G : GT) (N : Nat) (s a : Int) (hs : inI s) (ha : inI a) (hmm : MM G N) : Ct l D K y_M_isAct c_M_isAct 3 (some .boolean) 2 46 [.ref 50, vi s, vi a] G (some (vi (mA G s a))) G := by
  refine Ct.intro (by decide +kernel) (Nat.le_of_ble_eq_true rfl) ?_
  intro X hro hty hC hE
  obtain ⟨hn, hN5, hsh, hac, hpa, hwe, hth, hch⟩ := id hmm
  unfold inI at hs ha
  have h01 := inZ_01 s 0 (G 50 1 - 1)
  refine a_aload_n (pc := 0) (q := 0) (i := 0) (x := 50) hC (by decide +kernel) rfl 0 rfl ?_
  refine a_iload_n (pc := 1) (q := 1) (i := 1) (x := s) hC (by decide +kernel) rfl 1 rfl ?_
  refine g_callV (pc := 2) (idx := 79) (i := 50) (av := [vi s]) (rest := []) (g := G) (v := vi (mS G s)) hC hro hty (by decide +kernel) rfl rfl k_M_isState (by decide +kernel) (by decide +kernel) (by decide +kernel) (ct_M_isState X.la X.dd K G N s hs hmm) rfl rfl (by decide) (by first | decide | simp [Value.category]) ?_
  refine a_if_eq (pc := 5) (off := 25) hC 30 (by decide +kernel) (by decide) (by unfold inI mS; omega) (fun c5 => ?_) (fun c5 => ?_)
  · skip
    have hx5 : ¬ mS G s = 1 := by omega
    refine a_iconst (pc := 30) (c := 0) hC (by decide +kernel) ?_
    exact g_zret (pc := 31) hC hE (by decide +kernel) (by omega) (by unfold mA; first | rw [if_neg (fun z => hx5 z.1)] | (rw [if_pos ⟨hx5, by rw [hq2]; omega⟩]) | (rw [if_neg (fun z => by rw [hq2] at z; omega)])) rfl
  · skip
    have hx5 : mS G s = 1 := by unfold mS at *; omega
    have hs2 : 0 ≤ s ∧ s < N := by unfold mS inZ at hx5; split at hx5 <;> omega
    obtain ⟨q, hq⟩ : ∃ q : Nat, s = (q : Int) := ⟨s.toNat, by omega⟩
    have hq2 : s.toNat = q := by omega
    have h3 := hac q (by omega)
    have h02 := inZ_01 a 0 (G 52 q - 1)
    refine a_iload_n (pc := 8) (q := 2) (i := 2) (x := a) hC (by decide +kernel) rfl 2 rfl ?_
    refine a_i2l (pc := 9) hC (by decide +kernel) (by unfold inI; omega) ?_
    refine a_lconst (pc := 10) (c := 0) (z := 0) hC (by decide +kernel) rfl ?_
    refine a_aload_n (pc := 11) (q := 0) (i := 0) (x := 50) hC (by decide +kernel) rfl 0 rfl ?_
    refine g_get (pc := 12) (idx := 13) (ci := 6) (v := .ref 52) hC 50 3 (by decide +kernel) rfl rfl rfl rfl wrM (by decide) rfl (by decide +kernel) ?_
    refine a_iload_n (pc := 15) (q := 1) (i := 1) (x := s) hC (by decide +kernel) rfl 1 rfl ?_
    refine g_top (y := ((q : Nat) : Int)) (by omega) ?_
    refine g_iald (pc := 16) (a := 52) (j := q) hC hty (by decide +kernel) rfl (by omega) (by first | decide | omega) ?_
    refine a_iconst (pc := 17) (c := 1) hC (by decide +kernel) ?_
    refine a_isub (pc := 18) hC (by decide +kernel) ?_
    refine a_i2l (pc := 19) hC (by decide +kernel) (by unfold inI; omega) ?_
    refine g_callS (pc := 20) (idx := 75) (av := [vl a, vl 0, vl ((G 52 q) - 1)]) (rest := []) (g := G) (v := vi (inZ a 0 ((G 52 q) - 1))) hC hro hty (by decide +kernel) k_M_in (by decide +kernel) (by decide +kernel) (ct_M_in X.la X.dd K G a 0 ((G 52 q) - 1) (by unfold inL; omega) (by unfold inL; omega) (by unfold inL; omega)) rfl rfl (by decide) (by first | decide | simp [Value.category]) ?_
    refine a_if_eq (pc := 23) (off := 7) hC 30 (by decide +kernel) (by decide) (by unfold inI; omega) (fun c23 => ?_) (fun c23 => ?_)
    · skip
      refine a_iconst (pc := 30) (c := 0) hC (by decide +kernel) ?_
      exact g_zret (pc := 31) hC hE (by decide +kernel) (by omega) (by unfold mA; first | rw [if_neg (fun z => hx5 z.1)] | (rw [if_pos ⟨hx5, by rw [hq2]; omega⟩]) | (rw [if_neg (fun z => by rw [hq2] at z; omega)])) rfl
    · skip
      refine a_iconst (pc := 26) (c := 1) hC (by decide +kernel) ?_
      refine a_goto (pc := 27) (off := 4) hC 31 (by decide +kernel) (by decide) ?_
      exact g_zret (pc := 31) hC hE (by decide +kernel) (by omega) (by unfold mA; first | rw [if_neg (fun z => hx5 z.1)] | (rw [if_pos ⟨hx5, by rw [hq2]; omega⟩]) | (rw [if_neg (fun z => by rw [hq2] at z; omega)])) rfl

set_option maxRecDepth 100000 in
set_option maxHeartbeats 4000000 in
theorem ct_M_weightOf (l : Launch) (D : va_G) (K : K5) (G : GT) (s a t : Nat) (hs : s < 5) (ha : a < 3) (ht : t < 5) : Ct l D K y_M_weightOf c_M_weightOf 4 (some .int) 0 0 [.ref 50, vi ((s : Int)), vi ((a : Int)), vi ((t : Int))] G (some (vi (G 54 (wIx s a t)))) G := by
  refine Ct.intro (by decide +kernel) (Nat.le_of_ble_eq_true rfl) ?_
  intro X hro hty hC hE
  refine a_aload_n (pc := 0) (q := 0) (i := 0) (x := 50) hC (by decide +kernel) rfl 0 rfl ?_
  refine g_get (pc := 1) (idx := 20) (ci := 6) (v := .ref 54) hC 50 5 (by decide +kernel) rfl rfl rfl rfl wrM (by decide) rfl (by decide +kernel) ?_
  refine a_bipush (pc := 4) (c := 15) hC (by decide +kernel) (by decide +kernel) ?_
  refine a_iload_n (pc := 6) (q := 1) (i := 1) (x := (s : Int)) hC (by decide +kernel) rfl 1 rfl ?_
  refine a_imul (pc := 7) hC (by decide +kernel) ?_
  refine a_iconst (pc := 8) (c := 5) hC (by decide +kernel) ?_
  refine a_iload_n (pc := 9) (q := 2) (i := 2) (x := (a : Int)) hC (by decide +kernel) rfl 2 rfl ?_
  refine a_imul (pc := 10) hC (by decide +kernel) ?_
  refine a_iadd (pc := 11) hC (by decide +kernel) ?_
  refine a_iload_n (pc := 12) (q := 3) (i := 3) (x := (t : Int)) hC (by decide +kernel) rfl 3 rfl ?_
  refine a_iadd (pc := 13) hC (by decide +kernel) ?_
  refine g_top (y := ((wIx s a t : Nat) : Int)) (by unfold wIx; omega) ?_
  refine g_iald (pc := 14) (a := 54) (j := wIx s a t) hC hty (by decide +kernel) rfl (by unfold wIx; omega) (by first | decide | omega) ?_
  exact g_iret (pc := 15) hC hE (by decide +kernel) rfl rfl

set_option maxRecDepth 100000 in
set_option maxHeartbeats 4000000 in
theorem ct_M_total (l : Launch) (D : va_G) (K : K5) (G : GT) (s a : Nat) (hs : s < 5) (ha : a < 3) : Ct l D K y_M_total c_M_total 5 (some .int) 1 23 [.ref 50, vi ((s : Int)), vi ((a : Int))] G (some (vi (totZ G s a 5))) G := by
  refine Ct.intro (by decide +kernel) (Nat.le_of_ble_eq_true rfl) ?_
  intro X hro hty hC hE
  refine a_iconst (pc := 0) (c := 0) hC (by decide +kernel) ?_
  refine a_istore_n (pc := 1) (q := 3) (i := 3) (lv' := [(3, vi 0), (0, .ref 50), (1, vi ((s : Int))), (2, vi ((a : Int)))]) hC (by decide +kernel) rfl (by decide) rfl ?_
  refine a_iconst (pc := 2) (c := 0) hC (by decide +kernel) ?_
  refine a_istore (pc := 3) (q := 0) (i := 4) (lv' := [(4, vi 0), (3, vi 0), (0, .ref 50), (1, vi ((s : Int))), (2, vi ((a : Int)))]) hC (by decide +kernel) (by decide) rfl ?_
  have L5 : ∀ (fuel : Nat) (t : Nat), 5 - t < fuel → t ≤ 5 → AW X 5 0 0 5 [(4, vi ((t : Int))), (3, vi (totZ G s a t)), (0, .ref 50), (1, vi ((s : Int))), (2, vi ((a : Int)))] [] (hp K G) := by
    intro fuel
    induction fuel with
    | zero => intro t h; exact absurd h (Nat.not_lt_zero _)
    | succ fuel ih5 =>
      intro t hm ht
      refine a_iload (pc := 5) (i := 4) (x := (t : Int)) hC (by decide +kernel) 0 rfl ?_
      refine a_iconst (pc := 7) (c := 5) hC (by decide +kernel) ?_
      refine a_icmp_ge (pc := 8) (off := 20) hC 28 (by decide +kernel) (by decide) (by unfold inI; omega) (by unfold inI; omega) (fun c8 => ?_) (fun c8 => ?_)
      · skip
        refine a_iload_n (pc := 28) (q := 3) (i := 3) (x := totZ G s a t) hC (by decide +kernel) rfl 1 rfl ?_
        exact g_iret (pc := 29) hC hE (by decide +kernel) (by rw [show t = 5 by omega]) rfl
      · skip
        refine a_iload_n (pc := 11) (q := 3) (i := 3) (x := totZ G s a t) hC (by decide +kernel) rfl 1 rfl ?_
        refine a_aload_n (pc := 12) (q := 0) (i := 0) (x := 50) hC (by decide +kernel) rfl 2 rfl ?_
        refine a_iload_n (pc := 13) (q := 1) (i := 1) (x := (s : Int)) hC (by decide +kernel) rfl 3 rfl ?_
        refine a_iload_n (pc := 14) (q := 2) (i := 2) (x := (a : Int)) hC (by decide +kernel) rfl 4 rfl ?_
        refine a_iload (pc := 15) (i := 4) (x := (t : Int)) hC (by decide +kernel) 0 rfl ?_
        refine g_callV (pc := 17) (idx := 83) (i := 50) (av := [vi ((s : Int)), vi ((a : Int)), vi ((t : Int))]) (rest := [vi (totZ G s a t)]) (g := G) (v := vi (G 54 (wIx s a t))) hC hro hty (by decide +kernel) rfl rfl k_M_weightOf (by decide +kernel) (by decide +kernel) (by decide +kernel) (ct_M_weightOf X.la X.dd K G s a t (by omega) (by omega) (by omega)) rfl rfl (by decide) (by first | decide | simp [Value.category]) ?_
        refine a_iadd (pc := 20) hC (by decide +kernel) ?_
        refine a_istore_n (pc := 21) (q := 3) (i := 3) (lv' := [(3, vi ((totZ G s a t) + (G 54 (wIx s a t)))), (4, vi ((t : Int))), (0, .ref 50), (1, vi ((s : Int))), (2, vi ((a : Int)))]) hC (by decide +kernel) rfl (by decide) rfl ?_
        refine a_iinc (pc := 22) (i := 4) (c := 1) (x := (t : Int)) (lv' := [(4, vi (((t : Int)) + 1)), (3, vi ((totZ G s a t) + (G 54 (wIx s a t)))), (0, .ref 50), (1, vi ((s : Int))), (2, vi ((a : Int)))]) hC (by decide +kernel) 1 rfl (by decide) rfl ?_
        refine a_goto (pc := 25) (off := -20) hC 5 (by decide +kernel) (by decide) ?_
        refine a_sub (lv' := [(4, vi (((t + 1) : Int))), (3, vi (totZ G s a (t + 1))), (0, .ref 50), (1, vi ((s : Int))), (2, vi ((a : Int)))]) [0, 1, 2, 3, 4] rfl ?_
        exact ih5 (t + 1) (by omega) (by omega)
  refine a_sub (lv' := [(4, vi ((0 : Int))), (3, vi (totZ G s a 0)), (0, .ref 50), (1, vi ((s : Int))), (2, vi ((a : Int)))]) [0, 1, 2, 3, 4] rfl ?_
  exact L5 _ 0 (Nat.lt_succ_self _) (by omega)

def mclr (G : GT) : GT := uG G 50 (up (up (up (up (up (up (G 50) 0 0) 1 0) 7 1) 8 2) 9 0) 10 1)
set_option maxRecDepth 100000 in
set_option maxHeartbeats 4000000 in
theorem ct_M_clear (l : Launch) (D : va_G) (K : K5) (G : GT)  : Ct l D K y_M_clear c_M_clear 1 none 0 0 [.ref 50] G none (mclr G) := by
  refine Ct.intro (by decide +kernel) (Nat.le_of_ble_eq_true rfl) ?_
  intro X hro hty hC hE
  refine a_aload_n (pc := 0) (q := 0) (i := 0) (x := 50) hC (by decide +kernel) rfl 0 rfl ?_
  refine a_iconst (pc := 1) (c := 0) hC (by decide +kernel) ?_
  refine g_put (pc := 2) (idx := 62) (ci := 6) (x := 0) hC 50 0 (by decide +kernel) rfl rfl (congrArg (fun z => vi z) (up_s _ _ _)) rfl wrM (by decide) rfl (by decide +kernel) rfl (ok_int _) ?_
  refine a_aload_n (pc := 5) (q := 0) (i := 0) (x := 50) hC (by decide +kernel) rfl 0 rfl ?_
  refine a_iconst (pc := 6) (c := 0) hC (by decide +kernel) ?_
  refine g_put (pc := 7) (idx := 72) (ci := 6) (x := 0) hC 50 1 (by decide +kernel) rfl rfl (congrArg (fun z => vi z) (up_s _ _ _)) rfl wrM (by decide) rfl (by decide +kernel) rfl (ok_int _) ?_
  refine a_aload_n (pc := 10) (q := 0) (i := 0) (x := 50) hC (by decide +kernel) rfl 0 rfl ?_
  refine a_iconst (pc := 11) (c := 1) hC (by decide +kernel) ?_
  refine g_put (pc := 12) (idx := 26) (ci := 6) (x := 1) hC 50 7 (by decide +kernel) rfl rfl (congrArg (fun z => vi z) (up_s _ _ _)) rfl wrM (by decide) rfl (by decide +kernel) rfl (ok_int _) ?_
  refine a_aload_n (pc := 15) (q := 0) (i := 0) (x := 50) hC (by decide +kernel) rfl 0 rfl ?_
  refine a_iconst (pc := 16) (c := 2) hC (by decide +kernel) ?_
  refine g_put (pc := 17) (idx := 30) (ci := 6) (x := 2) hC 50 8 (by decide +kernel) rfl rfl (congrArg (fun z => vi z) (up_s _ _ _)) rfl wrM (by decide) rfl (by decide +kernel) rfl (ok_int _) ?_
  refine a_aload_n (pc := 20) (q := 0) (i := 0) (x := 50) hC (by decide +kernel) rfl 0 rfl ?_
  refine a_lconst (pc := 21) (c := 0) (z := 0) hC (by decide +kernel) rfl ?_
  refine g_put (pc := 22) (idx := 69) (ci := 6) (x := 0) hC 50 9 (by decide +kernel) rfl rfl (congrArg (fun z => vl z) (up_s _ _ _)) rfl wrM (by decide) rfl (by decide +kernel) rfl (ok_long _) ?_
  refine a_aload_n (pc := 25) (q := 0) (i := 0) (x := 50) hC (by decide +kernel) rfl 0 rfl ?_
  refine a_lconst (pc := 26) (c := 1) (z := 1) hC (by decide +kernel) rfl ?_
  refine g_put (pc := 27) (idx := 33) (ci := 6) (x := 1) hC 50 10 (by decide +kernel) rfl rfl (congrArg (fun z => vl z) (up_s _ _ _)) rfl wrM (by decide) rfl (by decide +kernel) rfl (ok_long _) ?_
  exact g_vret (pc := 30) hC hE (by decide +kernel) (by simp only [uG_s, uG_uG]; rfl)

set_option maxRecDepth 100000 in
set_option maxHeartbeats 4000000 in
theorem ct_M_many (l : Launch) (D : va_G) (K : K5) (G : GT) (m : Nat) (h64 : m < 64) : Ct l D K y_M_many c_M_many 3 (some .int) 0 0 [vi ((m : Int))] G (some (vi (mnS m 5))) G := by
  refine Ct.intro (by decide +kernel) (Nat.le_of_ble_eq_true rfl) ?_
  intro X hro hty hC hE
  refine a_iconst (pc := 0) (c := 0) hC (by decide +kernel) ?_
  refine a_istore_n (pc := 1) (q := 1) (i := 1) (lv' := [(1, vi 0), (0, vi ((m : Int)))]) hC (by decide +kernel) rfl (by decide) rfl ?_
  refine a_iconst (pc := 2) (c := 0) hC (by decide +kernel) ?_
  refine a_istore_n (pc := 3) (q := 2) (i := 2) (lv' := [(2, vi 0), (1, vi 0), (0, vi ((m : Int)))]) hC (by decide +kernel) rfl (by decide) rfl ?_
  have L4 : ∀ (fuel : Nat) (k : Nat), 5 - k < fuel → k ≤ 5 → AW X 3 0 0 4 [(2, vi ((k : Int))), (1, vi (mnS m k)), (0, vi ((m : Int)))] [] (hp K G) := by
    intro fuel
    induction fuel with
    | zero => intro k h; exact absurd h (Nat.not_lt_zero _)
    | succ fuel ih4 =>
      intro k hm hk
      refine a_iload_n (pc := 4) (q := 2) (i := 2) (x := (k : Int)) hC (by decide +kernel) rfl 0 rfl ?_
      refine a_iconst (pc := 5) (c := 5) hC (by decide +kernel) ?_
      refine a_icmp_ge (pc := 6) (off := 17) hC 23 (by decide +kernel) (by decide) (by unfold inI; omega) (by unfold inI; omega) (fun c6 => ?_) (fun c6 => ?_)
      · skip
        refine a_iload_n (pc := 23) (q := 1) (i := 1) (x := mnS m k) hC (by decide +kernel) rfl 1 rfl ?_
        exact g_iret (pc := 24) hC hE (by decide +kernel) (by rw [show k = 5 by omega]) rfl
      · skip
        have hsl := sr_lt (k := k) h64
        have hb2 := bt2_in m k
        refine a_iload_n (pc := 9) (q := 1) (i := 1) (x := mnS m k) hC (by decide +kernel) rfl 1 rfl ?_
        refine a_iload_n (pc := 10) (q := 0) (i := 0) (x := (m : Int)) hC (by decide +kernel) rfl 2 rfl ?_
        refine a_iload_n (pc := 11) (q := 2) (i := 2) (x := (k : Int)) hC (by decide +kernel) rfl 0 rfl ?_
        refine a_ishr (pc := 12) (z := ((sr m k : Nat) : Int)) hC (by decide +kernel) (shr5 m h64 k (by omega)) ?_
        refine a_iconst (pc := 13) (c := 1) hC (by decide +kernel) ?_
        refine a_iand (pc := 14) (z := ((bt2 m k : Nat) : Int)) hC (by decide +kernel) (and1 _ hsl) ?_
        refine a_iadd (pc := 15) hC (by decide +kernel) ?_
        refine a_istore_n (pc := 16) (q := 1) (i := 1) (lv' := [(1, vi ((mnS m k) + (((bt2 m k : Nat) : Int)))), (2, vi ((k : Int))), (0, vi ((m : Int)))]) hC (by decide +kernel) rfl (by decide) rfl ?_
        refine a_iinc (pc := 17) (i := 2) (c := 1) (x := (k : Int)) (lv' := [(2, vi (((k : Int)) + 1)), (1, vi ((mnS m k) + (((bt2 m k : Nat) : Int)))), (0, vi ((m : Int)))]) hC (by decide +kernel) 1 rfl (by decide) rfl ?_
        refine a_goto (pc := 20) (off := -16) hC 4 (by decide +kernel) (by decide) ?_
        refine a_sub (lv' := [(2, vi (((k + 1) : Int))), (1, vi (mnS m (k + 1))), (0, vi ((m : Int)))]) [0, 1, 2] rfl ?_
        exact ih4 (k + 1) (by omega) (by omega)
  refine a_sub (lv' := [(2, vi ((0 : Int))), (1, vi (mnS m 0)), (0, vi ((m : Int)))]) [0, 1, 2] rfl ?_
  exact L4 _ 0 (Nat.lt_succ_self _) (by omega)

set_option maxRecDepth 100000 in
set_option maxHeartbeats 4000000 in
theorem ct_M_state_full (l : Launch) (D : va_G) (K : K5) (G : GT) (N : Nat) (t : Int) (hmm : MM G N) (hfull : N = 5) : Ct l D K y_M_state c_M_state 2 (some .int) 0 0 [.ref 50, vi t] G (some (vi (-4))) (m0 G) := by
  refine Ct.intro (by decide +kernel) (Nat.le_of_ble_eq_true rfl) ?_
  intro X hro hty hC hE
  obtain ⟨hn, hN5, hsh, hac, hpa, hwe, hth, hch⟩ := id hmm
  refine a_aload_n (pc := 0) (q := 0) (i := 0) (x := 50) hC (by decide +kernel) rfl 0 rfl ?_
  refine a_iconst (pc := 1) (c := 0) hC (by decide +kernel) ?_
  refine g_put (pc := 2) (idx := 62) (ci := 6) (x := 0) hC 50 0 (by decide +kernel) rfl rfl (congrArg (fun z => vi z) (up_s _ _ _)) rfl wrM (by decide) rfl (by decide +kernel) rfl (ok_int _) ?_
  refine g_G (G' := m0 G) rfl ?_
  refine a_aload_n (pc := 5) (q := 0) (i := 0) (x := 50) hC (by decide +kernel) rfl 0 rfl ?_
  refine g_get (pc := 6) (idx := 72) (ci := 6) (v := vi ((m0 G) 50 1)) hC 50 1 (by decide +kernel) rfl rfl rfl rfl wrM (by decide) rfl (by decide +kernel) ?_
  refine g_top (y := (N : Int)) (by rw [m0_k (by decide)]; exact hn) ?_
  refine a_iconst (pc := 9) (c := 5) hC (by decide +kernel) ?_
  refine a_icmp_ne (pc := 10) (off := 6) hC 16 (by decide +kernel) (by decide) (by unfold inI; omega) (by unfold inI; omega) (fun c10 => ?_) (fun c10 => ?_)
  · skip
    exact absurd (by omega) c10
  · skip
    refine a_bipush (pc := 13) (c := -4) hC (by decide +kernel) (by decide +kernel) ?_
    exact g_iret (pc := 15) hC hE (by decide +kernel) rfl rfl

def mstG (G : GT) (N : Nat) (t : Int) : GT := uG (uG (uG (uG (m0 G) 51 (up (G 51) N t)) 52 (up (G 52) N 0)) 55 (up (G 55) N 0)) 50 (up ((m0 G) 50) 1 ((N : Int) + 1))
set_option maxRecDepth 100000 in
set_option maxHeartbeats 4000000 in
theorem ct_M_state (l : Launch) (D : va_G) (K : K5) (G : GT) (N : Nat) (t : Int) (ht : t = 0 ∨ t = 1) (hmm : MM G N) (hfull : N < 5) : Ct l D K y_M_state c_M_state 2 (some .int) 0 0 [.ref 50, vi t] G (some (vi ((N : Int)))) (mstG G N t) := by
  refine Ct.intro (by decide +kernel) (Nat.le_of_ble_eq_true rfl) ?_
  intro X hro hty hC hE
  obtain ⟨hn, hN5, hsh, hac, hpa, hwe, hth, hch⟩ := id hmm
  refine a_aload_n (pc := 0) (q := 0) (i := 0) (x := 50) hC (by decide +kernel) rfl 0 rfl ?_
  refine a_iconst (pc := 1) (c := 0) hC (by decide +kernel) ?_
  refine g_put (pc := 2) (idx := 62) (ci := 6) (x := 0) hC 50 0 (by decide +kernel) rfl rfl (congrArg (fun z => vi z) (up_s _ _ _)) rfl wrM (by decide) rfl (by decide +kernel) rfl (ok_int _) ?_
  refine g_G (G' := m0 G) rfl ?_
  refine a_aload_n (pc := 5) (q := 0) (i := 0) (x := 50) hC (by decide +kernel) rfl 0 rfl ?_
  refine g_get (pc := 6) (idx := 72) (ci := 6) (v := vi ((m0 G) 50 1)) hC 50 1 (by decide +kernel) rfl rfl rfl rfl wrM (by decide) rfl (by decide +kernel) ?_
  refine g_top (y := (N : Int)) (by first | (rw [m0_k (by decide)]; exact hn) | (rw [uG_n _ _ (by decide), m0_k (by decide)]; exact hn) | (rw [uG_n _ _ (by decide), uG_n _ _ (by decide), m0_k (by decide)]; exact hn) | (rw [uG_n _ _ (by decide), uG_n _ _ (by decide), uG_n _ _ (by decide), m0_k (by decide)]; exact hn)) ?_
  refine a_iconst (pc := 9) (c := 5) hC (by decide +kernel) ?_
  refine a_icmp_ne (pc := 10) (off := 6) hC 16 (by decide +kernel) (by decide) (by unfold inI; omega) (by unfold inI; omega) (fun c10 => ?_) (fun c10 => ?_)
  · skip
    refine a_aload_n (pc := 16) (q := 0) (i := 0) (x := 50) hC (by decide +kernel) rfl 0 rfl ?_
    refine g_get (pc := 17) (idx := 7) (ci := 6) (v := .ref 51) hC 50 2 (by decide +kernel) rfl rfl rfl rfl wrM (by decide) rfl (by decide +kernel) ?_
    refine a_aload_n (pc := 20) (q := 0) (i := 0) (x := 50) hC (by decide +kernel) rfl 0 rfl ?_
    refine g_get (pc := 21) (idx := 72) (ci := 6) (v := vi ((m0 G) 50 1)) hC 50 1 (by decide +kernel) rfl rfl rfl rfl wrM (by decide) rfl (by decide +kernel) ?_
    refine g_top (y := (N : Int)) (by first | (rw [m0_k (by decide)]; exact hn) | (rw [uG_n _ _ (by decide), m0_k (by decide)]; exact hn) | (rw [uG_n _ _ (by decide), uG_n _ _ (by decide), m0_k (by decide)]; exact hn) | (rw [uG_n _ _ (by decide), uG_n _ _ (by decide), uG_n _ _ (by decide), m0_k (by decide)]; exact hn)) ?_
    refine a_iload_n (pc := 24) (q := 1) (i := 1) (x := t) hC (by decide +kernel) rfl 1 rfl ?_
    refine g_zast (pc := 25) (a := 51) (j := N) (x := t) hC hty ht (by decide +kernel) rfl (by omega) (by first | decide | omega) ?_
    refine a_aload_n (pc := 26) (q := 0) (i := 0) (x := 50) hC (by decide +kernel) rfl 0 rfl ?_
    refine g_get (pc := 27) (idx := 13) (ci := 6) (v := .ref 52) hC 50 3 (by decide +kernel) rfl rfl rfl rfl wrM (by decide) rfl (by decide +kernel) ?_
    refine a_aload_n (pc := 30) (q := 0) (i := 0) (x := 50) hC (by decide +kernel) rfl 0 rfl ?_
    refine g_get (pc := 31) (idx := 72) (ci := 6) (v := vi ((uG (m0 G) 51 (up ((m0 G) 51) N t)) 50 1)) hC 50 1 (by decide +kernel) rfl rfl rfl rfl wrM (by decide) rfl (by decide +kernel) ?_
    refine g_top (y := (N : Int)) (by first | (rw [m0_k (by decide)]; exact hn) | (rw [uG_n _ _ (by decide), m0_k (by decide)]; exact hn) | (rw [uG_n _ _ (by decide), uG_n _ _ (by decide), m0_k (by decide)]; exact hn) | (rw [uG_n _ _ (by decide), uG_n _ _ (by decide), uG_n _ _ (by decide), m0_k (by decide)]; exact hn)) ?_
    refine a_iconst (pc := 34) (c := 0) hC (by decide +kernel) ?_
    refine g_iast (pc := 35) (a := 52) (j := N) (x := 0) hC hty (by decide +kernel) rfl (by omega) (by first | decide | omega) ?_
    refine a_aload_n (pc := 36) (q := 0) (i := 0) (x := 50) hC (by decide +kernel) rfl 0 rfl ?_
    refine g_get (pc := 37) (idx := 23) (ci := 6) (v := .ref 55) hC 50 6 (by decide +kernel) rfl rfl rfl rfl wrM (by decide) rfl (by decide +kernel) ?_
    refine a_aload_n (pc := 40) (q := 0) (i := 0) (x := 50) hC (by decide +kernel) rfl 0 rfl ?_
    refine g_get (pc := 41) (idx := 72) (ci := 6) (v := vi ((uG (uG (m0 G) 51 (up ((m0 G) 51) N t)) 52 (up ((uG (m0 G) 51 (up ((m0 G) 51) N t)) 52) N 0)) 50 1)) hC 50 1 (by decide +kernel) rfl rfl rfl rfl wrM (by decide) rfl (by decide +kernel) ?_
    refine g_top (y := (N : Int)) (by first | (rw [m0_k (by decide)]; exact hn) | (rw [uG_n _ _ (by decide), m0_k (by decide)]; exact hn) | (rw [uG_n _ _ (by decide), uG_n _ _ (by decide), m0_k (by decide)]; exact hn) | (rw [uG_n _ _ (by decide), uG_n _ _ (by decide), uG_n _ _ (by decide), m0_k (by decide)]; exact hn)) ?_
    refine a_iconst (pc := 44) (c := 0) hC (by decide +kernel) ?_
    refine g_iast (pc := 45) (a := 55) (j := N) (x := 0) hC hty (by decide +kernel) rfl (by omega) (by first | decide | omega) ?_
    refine a_aload_n (pc := 46) (q := 0) (i := 0) (x := 50) hC (by decide +kernel) rfl 0 rfl ?_
    refine a_dup (pc := 47) hC (by decide +kernel) rfl ?_
    refine g_get (pc := 48) (idx := 72) (ci := 6) (v := vi ((uG (uG (uG (m0 G) 51 (up ((m0 G) 51) N t)) 52 (up ((uG (m0 G) 51 (up ((m0 G) 51) N t)) 52) N 0)) 55 (up ((uG (uG (m0 G) 51 (up ((m0 G) 51) N t)) 52 (up ((uG (m0 G) 51 (up ((m0 G) 51) N t)) 52) N 0)) 55) N 0)) 50 1)) hC 50 1 (by decide +kernel) rfl rfl rfl rfl wrM (by decide) rfl (by decide +kernel) ?_
    refine g_top (y := (N : Int)) (by first | (rw [m0_k (by decide)]; exact hn) | (rw [uG_n _ _ (by decide), m0_k (by decide)]; exact hn) | (rw [uG_n _ _ (by decide), uG_n _ _ (by decide), m0_k (by decide)]; exact hn) | (rw [uG_n _ _ (by decide), uG_n _ _ (by decide), uG_n _ _ (by decide), m0_k (by decide)]; exact hn)) ?_
    refine a_iconst (pc := 51) (c := 1) hC (by decide +kernel) ?_
    refine a_iadd (pc := 52) hC (by decide +kernel) ?_
    refine g_put (pc := 53) (idx := 72) (ci := 6) (x := ((N : Int)) + 1) hC 50 1 (by decide +kernel) rfl rfl (congrArg (fun z => vi z) (up_s _ _ _)) rfl wrM (by decide) rfl (by decide +kernel) rfl (ok_int _) ?_
    refine a_aload_n (pc := 56) (q := 0) (i := 0) (x := 50) hC (by decide +kernel) rfl 0 rfl ?_
    refine g_get (pc := 57) (idx := 72) (ci := 6) (v := vi ((uG (uG (uG (uG (m0 G) 51 (up ((m0 G) 51) N t)) 52 (up ((uG (m0 G) 51 (up ((m0 G) 51) N t)) 52) N 0)) 55 (up ((uG (uG (m0 G) 51 (up ((m0 G) 51) N t)) 52 (up ((uG (m0 G) 51 (up ((m0 G) 51) N t)) 52) N 0)) 55) N 0)) 50 (up ((uG (uG (uG (m0 G) 51 (up ((m0 G) 51) N t)) 52 (up ((uG (m0 G) 51 (up ((m0 G) 51) N t)) 52) N 0)) 55 (up ((uG (uG (m0 G) 51 (up ((m0 G) 51) N t)) 52 (up ((uG (m0 G) 51 (up ((m0 G) 51) N t)) 52) N 0)) 55) N 0)) 50) 1 (((N : Int)) + 1))) 50 1)) hC 50 1 (by decide +kernel) rfl rfl rfl rfl wrM (by decide) rfl (by decide +kernel) ?_
    refine g_top (y := (N : Int) + 1) (by rw [uG_s, up_s]) ?_
    refine a_iconst (pc := 60) (c := 1) hC (by decide +kernel) ?_
    refine a_isub (pc := 61) hC (by decide +kernel) ?_
    exact g_iret (pc := 62) hC hE (by decide +kernel) (by omega) rfl
  · skip
    exact absurd c10 (by omega)
end
section
/-! the reference: what is told, the plans' numbers, determinants -/
theorem totZ_congr {G G' : GT} (h : G' 54 = G 54) (s a : Nat) : ∀ t, totZ G' s a t = totZ G s a t
  | 0 => rfl
  | t + 1 => by unfold totZ; rw [totZ_congr h s a t, h]
theorem mS_m0 (G : GT) (s : Int) : mS (m0 G) s = mS G s := by unfold mS; rw [m0_k (by decide)]
theorem mA_m0 (G : GT) (s a : Int) : mA (m0 G) s a = mA G s a := by unfold mA; rw [mS_m0, m0_n (by decide)]
theorem mS_01 (G : GT) (s : Int) : mS G s = 0 ∨ mS G s = 1 := inZ_01 _ _ _
theorem mA_01 (G : GT) (s a : Int) : mA G s a = 0 ∨ mA G s a = 1 := by unfold mA; split <;> omega
theorem mS_ok {G : GT} {N s : Nat} (h : MM G N) (hs : s < N) : mS G (s : Int) = 1 := by unfold mS inZ; rw [if_pos (by have := h.1; omega)]
theorem mA_ok {G : GT} {N s a : Nat} (h : MM G N) (hs : s < N) (ha : (a : Int) < G 52 s) : mA G (s : Int) (a : Int) = 1 := by
  unfold mA; rw [if_pos ⟨mS_ok h hs, by unfold inZ; rw [if_pos (by rw [Int.toNat_natCast]; omega)]⟩]
def clW (f : Nat → Int) (s a t : Nat) : Nat → Int := fun j => if wIx s a 0 ≤ j ∧ j < wIx s a t then 0 else f j
theorem clW_0 (f : Nat → Int) (s a : Nat) : clW f s a 0 = f := by funext j; exact if_neg (by omega)
theorem clW_s (f : Nat → Int) (s a t : Nat) : up (clW f s a t) (wIx s a t) 0 = clW f s a (t + 1) := by
  funext j; unfold up clW
  have e1 : wIx s a t = wIx s a 0 + t := by unfold wIx; omega
  have e2 : wIx s a (t + 1) = wIx s a 0 + t + 1 := by unfold wIx; omega
  by_cases h : j = wIx s a t
  · rw [if_pos h, if_pos (by omega)]
  · rw [if_neg h]
    by_cases h2 : wIx s a 0 ≤ j ∧ j < wIx s a t
    · rw [if_pos h2, if_pos (by omega)]
    · rw [if_neg h2, if_neg (by omega)]
def macG (G : GT) (s A : Nat) (p : Int) : GT := uG (uG (uG (m0 G) 53 (up (G 53) (3 * s + A) p)) 54 (clW (G 54) s A 5)) 52 (up (G 52) s ((A : Int) + 1))
def fxF (f : Nat → Int) (s t : Nat) : Nat → Int := fun j => if 5 * s ≤ j ∧ j < 5 * s + t then (if j = 5 * s + s then 1 else 0) else f j
theorem fxF_0 (f : Nat → Int) (s : Nat) : fxF f s 0 = f := by funext j; exact if_neg (by omega)
theorem fxF_s (f : Nat → Int) (s t : Nat) (x : Int) (hx : x = if t = s then 1 else 0) : up (fxF f s t) (5 * s + t) x = fxF f s (t + 1) := by
  funext j; unfold up fxF
  by_cases h : j = 5 * s + t
  · rw [if_pos h, if_pos (show 5 * s ≤ j ∧ j < 5 * s + (t + 1) by omega), hx]
    by_cases e : t = s
    · rw [if_pos e, if_pos (by omega)]
    · rw [if_neg e, if_neg (by omega)]
  · rw [if_neg h]
    have e : (5 * s ≤ j ∧ j < 5 * s + (t + 1)) ↔ (5 * s ≤ j ∧ j < 5 * s + t) := by omega
    simp only [e]
theorem uG_same {G : GT} {a : Nat} {f : Nat → Int} (h : G a = f) : uG G a f = G := by rw [← h, uG_self]
def fixG (G : GT) (N s : Nat) (v : Int) : GT := uG (uG G 56 (fxF (G 56) s N)) 57 (up (G 57) s v)
def byZ (G : GT) (s a : Nat) : Int := G 50 8 * totZ G s a 5
def lwX (G : GT) (s a t : Nat) : Int := (if t = s then byZ G s a else 0) - G 50 7 * G 54 (wIx s a t)
def lwF (G : GT) (s a t : Nat) : Nat → Int := fun j => if 5 * s ≤ j ∧ j < 5 * s + t then lwX G s a (j - 5 * s) else G 56 j
theorem lwF_0 (G : GT) (s a : Nat) : lwF G s a 0 = G 56 := by funext j; exact if_neg (by omega)
theorem lwF_s (G : GT) (s a t : Nat) : up (lwF G s a t) (5 * s + t) (lwX G s a t) = lwF G s a (t + 1) := by
  funext j; unfold up lwF
  by_cases h : j = 5 * s + t
  · rw [if_pos h, if_pos (by omega), show j - 5 * s = t by omega]
  · rw [if_neg h]
    by_cases h2 : 5 * s ≤ j ∧ j < 5 * s + t
    · rw [if_pos h2, if_pos (by omega)]
    · rw [if_neg h2, if_neg (by omega)]
def lwG (G : GT) (N s : Nat) (a : Int) : GT := if a = -1 then fixG G N s 0 else if totZ G s a.toNat 5 = 0 then fixG G N s (G 53 (3 * s + a.toNat)) else uG (uG G 56 (lwF G s a.toNat N)) 57 (up (G 57) s (byZ G s a.toNat * G 53 (3 * s + a.toNat)))
def aiS (G : GT) (p : Nat) : Nat → Int
  | 0 => (p : Int)
  | t + 1 => if G 52 t = 0 then aiS G p t else Int.tdiv (aiS G p t) (G 52 t)
theorem aiS_in {G : GT} {p : Nat} (h : ∀ s, s < 5 → 0 ≤ G 52 s ∧ G 52 s ≤ 3) : ∀ t, t ≤ 5 → 0 ≤ aiS G p t ∧ aiS G p t ≤ (p : Int)
  | 0, _ => by unfold aiS; omega
  | t + 1, ht => by
    have ih := aiS_in (p := p) h t (by omega)
    have h1 := h t (by omega)
    unfold aiS
    split
    · exact ih
    · next hne =>
      obtain ⟨x, hx⟩ : ∃ x : Nat, aiS G p t = (x : Int) := ⟨(aiS G p t).toNat, by omega⟩
      obtain ⟨y, hy⟩ : ∃ y : Nat, G 52 t = (y : Int) := ⟨(G 52 t).toNat, by omega⟩
      rw [hx, hy, show Int.tdiv (x : Int) (y : Int) = ((x / y : Nat) : Int) from rfl]
      have h8 := Nat.div_le_self x y
      generalize x / y = z at h8 ⊢
      omega
def actZ (G : GT) (p s : Nat) : Int := if G 52 s = 0 then -1 else Int.tmod (aiS G p s) (G 52 s)
theorem actZ_in {G : GT} {p s : Nat} (h : ∀ s, s < 5 → 0 ≤ G 52 s ∧ G 52 s ≤ 3) (hs : s < 5) : (G 52 s = 0 ∧ actZ G p s = -1) ∨ (0 ≤ actZ G p s ∧ actZ G p s < G 52 s) := by
  unfold actZ
  have h1 := h s hs
  have h2 := aiS_in (p := p) h s (by omega)
  split
  · next e => exact Or.inl ⟨e, rfl⟩
  · next e => exact Or.inr (tmod_in h2.1 h1.1 e)
def tpS (G : GT) (s a : Int) : Nat → Int × Int
  | 0 => (0, 1)
  | t + 1 => if 0 < G 52 t then ((tpS G s a t).1 + (tpS G s a t).2 * (if (t : Int) = s then a else G 55 t), (tpS G s a t).2 * G 52 t) else tpS G s a t

set_option maxRecDepth 100000 in
set_option maxHeartbeats 4000000 in
theorem ct_M_act_no (l : Launch) (D : va_G) (K : K5) (G : GT) (N : Nat) (s : Int) (p : Int) (hsi : inI s) (hmm : MM G N) (hno : mS G s = 0) : Ct l D K y_M_act c_M_act 5 (some .int) 2 46 [.ref 50, vi s, vi p] G (some (vi (-1))) (m0 G) := by
  refine Ct.intro (by decide +kernel) (Nat.le_of_ble_eq_true rfl) ?_
  intro X hro hty hC hE
  obtain ⟨hn, hN5, hsh, hac, hpa, hwe, hth, hch⟩ := id hmm
  refine a_aload_n (pc := 0) (q := 0) (i := 0) (x := 50) hC (by decide +kernel) rfl 0 rfl ?_
  refine a_iconst (pc := 1) (c := 0) hC (by decide +kernel) ?_
  refine g_put (pc := 2) (idx := 62) (ci := 6) (x := 0) hC 50 0 (by decide +kernel) rfl rfl (congrArg (fun z => vi z) (up_s _ _ _)) rfl wrM (by decide) rfl (by decide +kernel) rfl (ok_int _) ?_
  refine g_G (G' := m0 G) rfl ?_
  refine a_aload_n (pc := 5) (q := 0) (i := 0) (x := 50) hC (by decide +kernel) rfl 0 rfl ?_
  refine a_iload_n (pc := 6) (q := 1) (i := 1) (x := s) hC (by decide +kernel) rfl 1 rfl ?_
  refine g_callV (pc := 7) (idx := 79) (i := 50) (av := [vi s]) (rest := []) (g := m0 G) (v := vi (mS (m0 G) s)) hC hro hty (by decide +kernel) rfl rfl k_M_isState (by decide +kernel) (by decide +kernel) (by decide +kernel) (ct_M_isState X.la X.dd K (m0 G) N s hsi hmm.m0) rfl rfl (by decide) (by first | decide | simp [Value.category]) ?_
  refine g_top (y := mS G s) (mS_m0 _ _) ?_
  refine a_if_ne (pc := 10) (off := 5) hC 15 (by decide +kernel) (by decide) (by unfold inI; omega) (fun c10 => ?_) (fun c10 => ?_)
  · skip
    exact absurd hno c10
  · skip
    refine a_iconst (pc := 13) (c := -1) hC (by decide +kernel) ?_
    exact g_iret (pc := 14) hC hE (by decide +kernel) rfl rfl

set_option maxRecDepth 100000 in
set_option maxHeartbeats 4000000 in
theorem ct_M_act_pay (l : Launch) (D : va_G) (K : K5) (G : GT) (N s : Nat) (p : Int) (hs : s < N) (hpi : inI p) (hmm : MM G N) (hbad : inZ p (-50) 50 = 0) : Ct l D K y_M_act c_M_act 5 (some .int) 2 46 [.ref 50, vi ((s : Int)), vi p] G (some (vi (-2))) (m0 G) := by
  refine Ct.intro (by decide +kernel) (Nat.le_of_ble_eq_true rfl) ?_
  intro X hro hty hC hE
  obtain ⟨hn, hN5, hsh, hac, hpa, hwe, hth, hch⟩ := id hmm
  unfold inI at hpi
  refine a_aload_n (pc := 0) (q := 0) (i := 0) (x := 50) hC (by decide +kernel) rfl 0 rfl ?_
  refine a_iconst (pc := 1) (c := 0) hC (by decide +kernel) ?_
  refine g_put (pc := 2) (idx := 62) (ci := 6) (x := 0) hC 50 0 (by decide +kernel) rfl rfl (congrArg (fun z => vi z) (up_s _ _ _)) rfl wrM (by decide) rfl (by decide +kernel) rfl (ok_int _) ?_
  refine g_G (G' := m0 G) rfl ?_
  refine a_aload_n (pc := 5) (q := 0) (i := 0) (x := 50) hC (by decide +kernel) rfl 0 rfl ?_
  refine a_iload_n (pc := 6) (q := 1) (i := 1) (x := (s : Int)) hC (by decide +kernel) rfl 1 rfl ?_
  refine g_callV (pc := 7) (idx := 79) (i := 50) (av := [vi ((s : Int))]) (rest := []) (g := m0 G) (v := vi (mS (m0 G) ((s : Int)))) hC hro hty (by decide +kernel) rfl rfl k_M_isState (by decide +kernel) (by decide +kernel) (by decide +kernel) (ct_M_isState X.la X.dd K (m0 G) N ((s : Int)) (by unfold inI; omega) hmm.m0) rfl rfl (by decide) (by first | decide | simp [Value.category]) ?_
  refine g_top (y := 1) (by rw [mS_m0]; exact mS_ok hmm hs) ?_
  refine a_if_ne (pc := 10) (off := 5) hC 15 (by decide +kernel) (by decide) (by unfold inI; omega) (fun c10 => ?_) (fun c10 => ?_)
  · skip
    refine a_iload_n (pc := 15) (q := 2) (i := 2) (x := p) hC (by decide +kernel) rfl 2 rfl ?_
    refine a_i2l (pc := 16) hC (by decide +kernel) (by unfold inI; omega) ?_
    refine a_ldc2 (pc := 17) (idx := 87) (z := -50) (v := -50) hC (by decide +kernel) (by decide +kernel) rfl ?_
    refine a_ldc2 (pc := 20) (idx := 89) (z := 50) (v := 50) hC (by decide +kernel) (by decide +kernel) rfl ?_
    refine g_callS (pc := 23) (idx := 75) (av := [vl p, vl (-50), vl 50]) (rest := []) (g := m0 G) (v := vi (inZ p (-50) 50)) hC hro hty (by decide +kernel) k_M_in (by decide +kernel) (by decide +kernel) (ct_M_in X.la X.dd K (m0 G) p (-50) 50 (by unfold inL; omega) (by unfold inL; omega) (by unfold inL; omega)) rfl rfl (by decide) (by first | decide | simp [Value.category]) ?_
    refine a_if_ne (pc := 26) (off := 6) hC 32 (by decide +kernel) (by decide) (by unfold inI; have := inZ_01 p (-50) 50; omega) (fun c26 => ?_) (fun c26 => ?_)
    · skip
      exact absurd hbad c26
    · skip
      refine a_bipush (pc := 29) (c := -2) hC (by decide +kernel) (by decide +kernel) ?_
      exact g_iret (pc := 31) hC hE (by decide +kernel) rfl rfl
  · skip
    exact absurd c10 (by decide)

set_option maxRecDepth 100000 in
set_option maxHeartbeats 4000000 in
theorem ct_M_act_full (l : Launch) (D : va_G) (K : K5) (G : GT) (N s : Nat) (p : Int) (hs : s < N) (hpi : inI p) (hmm : MM G N) (hok : ¬ inZ p (-50) 50 = 0) (hfull : G 52 s = 3) : Ct l D K y_M_act c_M_act 5 (some .int) 2 46 [.ref 50, vi ((s : Int)), vi p] G (some (vi (-4))) (m0 G) := by
  refine Ct.intro (by decide +kernel) (Nat.le_of_ble_eq_true rfl) ?_
  intro X hro hty hC hE
  obtain ⟨hn, hN5, hsh, hac, hpa, hwe, hth, hch⟩ := id hmm
  unfold inI at hpi
  refine a_aload_n (pc := 0) (q := 0) (i := 0) (x := 50) hC (by decide +kernel) rfl 0 rfl ?_
  refine a_iconst (pc := 1) (c := 0) hC (by decide +kernel) ?_
  refine g_put (pc := 2) (idx := 62) (ci := 6) (x := 0) hC 50 0 (by decide +kernel) rfl rfl (congrArg (fun z => vi z) (up_s _ _ _)) rfl wrM (by decide) rfl (by decide +kernel) rfl (ok_int _) ?_
  refine g_G (G' := m0 G) rfl ?_
  refine a_aload_n (pc := 5) (q := 0) (i := 0) (x := 50) hC (by decide +kernel) rfl 0 rfl ?_
  refine a_iload_n (pc := 6) (q := 1) (i := 1) (x := (s : Int)) hC (by decide +kernel) rfl 1 rfl ?_
  refine g_callV (pc := 7) (idx := 79) (i := 50) (av := [vi ((s : Int))]) (rest := []) (g := m0 G) (v := vi (mS (m0 G) ((s : Int)))) hC hro hty (by decide +kernel) rfl rfl k_M_isState (by decide +kernel) (by decide +kernel) (by decide +kernel) (ct_M_isState X.la X.dd K (m0 G) N ((s : Int)) (by unfold inI; omega) hmm.m0) rfl rfl (by decide) (by first | decide | simp [Value.category]) ?_
  refine g_top (y := 1) (by rw [mS_m0]; exact mS_ok hmm hs) ?_
  refine a_if_ne (pc := 10) (off := 5) hC 15 (by decide +kernel) (by decide) (by unfold inI; omega) (fun c10 => ?_) (fun c10 => ?_)
  · skip
    refine a_iload_n (pc := 15) (q := 2) (i := 2) (x := p) hC (by decide +kernel) rfl 2 rfl ?_
    refine a_i2l (pc := 16) hC (by decide +kernel) (by unfold inI; omega) ?_
    refine a_ldc2 (pc := 17) (idx := 87) (z := -50) (v := -50) hC (by decide +kernel) (by decide +kernel) rfl ?_
    refine a_ldc2 (pc := 20) (idx := 89) (z := 50) (v := 50) hC (by decide +kernel) (by decide +kernel) rfl ?_
    refine g_callS (pc := 23) (idx := 75) (av := [vl p, vl (-50), vl 50]) (rest := []) (g := m0 G) (v := vi (inZ p (-50) 50)) hC hro hty (by decide +kernel) k_M_in (by decide +kernel) (by decide +kernel) (ct_M_in X.la X.dd K (m0 G) p (-50) 50 (by unfold inL; omega) (by unfold inL; omega) (by unfold inL; omega)) rfl rfl (by decide) (by first | decide | simp [Value.category]) ?_
    refine a_if_ne (pc := 26) (off := 6) hC 32 (by decide +kernel) (by decide) (by unfold inI; have := inZ_01 p (-50) 50; omega) (fun c26 => ?_) (fun c26 => ?_)
    · skip
      refine a_aload_n (pc := 32) (q := 0) (i := 0) (x := 50) hC (by decide +kernel) rfl 0 rfl ?_
      refine g_get (pc := 33) (idx := 13) (ci := 6) (v := .ref 52) hC 50 3 (by decide +kernel) rfl rfl rfl rfl wrM (by decide) rfl (by decide +kernel) ?_
      refine a_iload_n (pc := 36) (q := 1) (i := 1) (x := (s : Int)) hC (by decide +kernel) rfl 1 rfl ?_
      refine g_iald (pc := 37) (a := 52) (j := s) hC hty (by decide +kernel) rfl (by omega) (by first | decide | omega) ?_
      refine g_top (y := G 52 s) (by rw [m0_n (by decide)]) ?_
      refine a_iconst (pc := 38) (c := 3) hC (by decide +kernel) ?_
      refine a_icmp_ne (pc := 39) (off := 6) hC 45 (by decide +kernel) (by decide) (by unfold inI; omega) (by unfold inI; omega) (fun c39 => ?_) (fun c39 => ?_)
      · skip
        exact absurd hfull c39
      · skip
        refine a_bipush (pc := 42) (c := -4) hC (by decide +kernel) (by decide +kernel) ?_
        exact g_iret (pc := 44) hC hE (by decide +kernel) rfl rfl
    · skip
      exact absurd c26 hok
  · skip
    exact absurd c10 (by decide)

set_option maxRecDepth 100000 in
set_option maxHeartbeats 4000000 in
theorem ct_M_act (l : Launch) (D : va_G) (K : K5) (G : GT) (N s A : Nat) (p : Int) (hs : s < N) (hpi : inI p) (hmm : MM G N) (hok : ¬ inZ p (-50) 50 = 0) (hA : G 52 s = (A : Int)) (hA3 : A < 3) : Ct l D K y_M_act c_M_act 5 (some .int) 2 46 [.ref 50, vi ((s : Int)), vi p] G (some (vi ((A : Int)))) (macG G s A p) := by
  refine Ct.intro (by decide +kernel) (Nat.le_of_ble_eq_true rfl) ?_
  intro X hro hty hC hE
  obtain ⟨hn, hN5, hsh, hac, hpa, hwe, hth, hch⟩ := id hmm
  unfold inI at hpi
  refine a_aload_n (pc := 0) (q := 0) (i := 0) (x := 50) hC (by decide +kernel) rfl 0 rfl ?_
  refine a_iconst (pc := 1) (c := 0) hC (by decide +kernel) ?_
  refine g_put (pc := 2) (idx := 62) (ci := 6) (x := 0) hC 50 0 (by decide +kernel) rfl rfl (congrArg (fun z => vi z) (up_s _ _ _)) rfl wrM (by decide) rfl (by decide +kernel) rfl (ok_int _) ?_
  refine g_G (G' := m0 G) rfl ?_
  refine a_aload_n (pc := 5) (q := 0) (i := 0) (x := 50) hC (by decide +kernel) rfl 0 rfl ?_
  refine a_iload_n (pc := 6) (q := 1) (i := 1) (x := (s : Int)) hC (by decide +kernel) rfl 1 rfl ?_
  refine g_callV (pc := 7) (idx := 79) (i := 50) (av := [vi ((s : Int))]) (rest := []) (g := m0 G) (v := vi (mS (m0 G) ((s : Int)))) hC hro hty (by decide +kernel) rfl rfl k_M_isState (by decide +kernel) (by decide +kernel) (by decide +kernel) (ct_M_isState X.la X.dd K (m0 G) N ((s : Int)) (by unfold inI; omega) hmm.m0) rfl rfl (by decide) (by first | decide | simp [Value.category]) ?_
  refine g_top (y := 1) (by rw [mS_m0]; exact mS_ok hmm hs) ?_
  refine a_if_ne (pc := 10) (off := 5) hC 15 (by decide +kernel) (by decide) (by unfold inI; omega) (fun c10 => ?_) (fun c10 => ?_)
  · skip
    refine a_iload_n (pc := 15) (q := 2) (i := 2) (x := p) hC (by decide +kernel) rfl 2 rfl ?_
    refine a_i2l (pc := 16) hC (by decide +kernel) (by unfold inI; omega) ?_
    refine a_ldc2 (pc := 17) (idx := 87) (z := -50) (v := -50) hC (by decide +kernel) (by decide +kernel) rfl ?_
    refine a_ldc2 (pc := 20) (idx := 89) (z := 50) (v := 50) hC (by decide +kernel) (by decide +kernel) rfl ?_
    refine g_callS (pc := 23) (idx := 75) (av := [vl p, vl (-50), vl 50]) (rest := []) (g := m0 G) (v := vi (inZ p (-50) 50)) hC hro hty (by decide +kernel) k_M_in (by decide +kernel) (by decide +kernel) (ct_M_in X.la X.dd K (m0 G) p (-50) 50 (by unfold inL; omega) (by unfold inL; omega) (by unfold inL; omega)) rfl rfl (by decide) (by first | decide | simp [Value.category]) ?_
    refine a_if_ne (pc := 26) (off := 6) hC 32 (by decide +kernel) (by decide) (by unfold inI; have := inZ_01 p (-50) 50; omega) (fun c26 => ?_) (fun c26 => ?_)
    · skip
      refine a_aload_n (pc := 32) (q := 0) (i := 0) (x := 50) hC (by decide +kernel) rfl 0 rfl ?_
      refine g_get (pc := 33) (idx := 13) (ci := 6) (v := .ref 52) hC 50 3 (by decide +kernel) rfl rfl rfl rfl wrM (by decide) rfl (by decide +kernel) ?_
      refine a_iload_n (pc := 36) (q := 1) (i := 1) (x := (s : Int)) hC (by decide +kernel) rfl 1 rfl ?_
      refine g_iald (pc := 37) (a := 52) (j := s) hC hty (by decide +kernel) rfl (by omega) (by first | decide | omega) ?_
      refine g_top (y := (A : Int)) (by rw [m0_n (by decide)]; exact hA) ?_
      refine a_iconst (pc := 38) (c := 3) hC (by decide +kernel) ?_
      refine a_icmp_ne (pc := 39) (off := 6) hC 45 (by decide +kernel) (by decide) (by unfold inI; omega) (by unfold inI; omega) (fun c39 => ?_) (fun c39 => ?_)
      · skip
        refine a_aload_n (pc := 45) (q := 0) (i := 0) (x := 50) hC (by decide +kernel) rfl 0 rfl ?_
        refine g_get (pc := 46) (idx := 13) (ci := 6) (v := .ref 52) hC 50 3 (by decide +kernel) rfl rfl rfl rfl wrM (by decide) rfl (by decide +kernel) ?_
        refine a_iload_n (pc := 49) (q := 1) (i := 1) (x := (s : Int)) hC (by decide +kernel) rfl 1 rfl ?_
        refine g_iald (pc := 50) (a := 52) (j := s) hC hty (by decide +kernel) rfl (by omega) (by first | decide | omega) ?_
        refine g_top (y := (A : Int)) (by rw [m0_n (by decide)]; exact hA) ?_
        refine a_istore_n (pc := 51) (q := 3) (i := 3) (lv' := [(3, vi ((A : Int))), (0, .ref 50), (1, vi ((s : Int))), (2, vi p)]) hC (by decide +kernel) rfl (by decide) rfl ?_
        refine a_aload_n (pc := 52) (q := 0) (i := 0) (x := 50) hC (by decide +kernel) rfl 1 rfl ?_
        refine g_get (pc := 53) (idx := 17) (ci := 6) (v := .ref 53) hC 50 4 (by decide +kernel) rfl rfl rfl rfl wrM (by decide) rfl (by decide +kernel) ?_
        refine a_iconst (pc := 56) (c := 3) hC (by decide +kernel) ?_
        refine a_iload_n (pc := 57) (q := 1) (i := 1) (x := (s : Int)) hC (by decide +kernel) rfl 2 rfl ?_
        refine a_imul (pc := 58) hC (by decide +kernel) ?_
        refine a_iload_n (pc := 59) (q := 3) (i := 3) (x := (A : Int)) hC (by decide +kernel) rfl 0 rfl ?_
        refine a_iadd (pc := 60) hC (by decide +kernel) ?_
        refine a_iload_n (pc := 61) (q := 2) (i := 2) (x := p) hC (by decide +kernel) rfl 3 rfl ?_
        refine g_snd (y := ((3 * s + A : Nat) : Int)) (by omega) ?_
        refine g_iast (pc := 62) (a := 53) (j := 3 * s + A) (x := p) hC hty (by decide +kernel) rfl (by omega) (by first | decide | omega) ?_
        refine g_G (G' := uG (m0 G) 53 (up (G 53) (3 * s + A) p)) (by rw [m0_n (by decide)]) ?_
        refine a_iconst (pc := 63) (c := 0) hC (by decide +kernel) ?_
        refine a_istore (pc := 64) (q := 0) (i := 4) (lv' := [(4, vi 0), (3, vi ((A : Int))), (0, .ref 50), (1, vi ((s : Int))), (2, vi p)]) hC (by decide +kernel) (by decide) rfl ?_
        have L66 : ∀ (fuel : Nat) (t : Nat), 5 - t < fuel → t ≤ 5 → AW X 5 0 0 66 [(4, vi ((t : Int))), (3, vi ((A : Int))), (0, .ref 50), (1, vi ((s : Int))), (2, vi p)] [] (hp K (uG (uG (m0 G) 53 (up (G 53) (3 * s + A) p)) 54 (clW (G 54) s A t))) := by
          intro fuel
          induction fuel with
          | zero => intro t h; exact absurd h (Nat.not_lt_zero _)
          | succ fuel ih66 =>
            intro t hm ht
            refine a_iload (pc := 66) (i := 4) (x := (t : Int)) hC (by decide +kernel) 0 rfl ?_
            refine a_iconst (pc := 68) (c := 5) hC (by decide +kernel) ?_
            refine a_icmp_ge (pc := 69) (off := 26) hC 95 (by decide +kernel) (by decide) (by unfold inI; omega) (by unfold inI; omega) (fun c69 => ?_) (fun c69 => ?_)
            · skip
              refine a_aload_n (pc := 95) (q := 0) (i := 0) (x := 50) hC (by decide +kernel) rfl 2 rfl ?_
              refine g_get (pc := 96) (idx := 13) (ci := 6) (v := .ref 52) hC 50 3 (by decide +kernel) rfl rfl rfl rfl wrM (by decide) rfl (by decide +kernel) ?_
              refine a_iload_n (pc := 99) (q := 1) (i := 1) (x := (s : Int)) hC (by decide +kernel) rfl 3 rfl ?_
              refine a_dup2 (pc := 100) hC (by decide +kernel) rfl rfl ?_
              refine g_iald (pc := 101) (a := 52) (j := s) hC hty (by decide +kernel) rfl (by omega) (by first | decide | omega) ?_
              refine g_top (y := (A : Int)) (by rw [uG_n _ _ (by decide), uG_n _ _ (by decide), m0_n (by decide)]; exact hA) ?_
              refine a_iconst (pc := 102) (c := 1) hC (by decide +kernel) ?_
              refine a_iadd (pc := 103) hC (by decide +kernel) ?_
              refine g_iast (pc := 104) (a := 52) (j := s) (x := ((A : Int)) + 1) hC hty (by decide +kernel) rfl (by omega) (by first | decide | omega) ?_
              refine a_iload_n (pc := 105) (q := 3) (i := 3) (x := (A : Int)) hC (by decide +kernel) rfl 1 rfl ?_
              exact g_iret (pc := 106) hC hE (by decide +kernel) rfl (by rw [show t = 5 by omega, uG_n _ _ (by decide), uG_n _ _ (by decide), m0_n (by decide)]; rfl)
            · skip
              refine a_aload_n (pc := 72) (q := 0) (i := 0) (x := 50) hC (by decide +kernel) rfl 2 rfl ?_
              refine g_get (pc := 73) (idx := 20) (ci := 6) (v := .ref 54) hC 50 5 (by decide +kernel) rfl rfl rfl rfl wrM (by decide) rfl (by decide +kernel) ?_
              refine a_bipush (pc := 76) (c := 15) hC (by decide +kernel) (by decide +kernel) ?_
              refine a_iload_n (pc := 78) (q := 1) (i := 1) (x := (s : Int)) hC (by decide +kernel) rfl 3 rfl ?_
              refine a_imul (pc := 79) hC (by decide +kernel) ?_
              refine a_iconst (pc := 80) (c := 5) hC (by decide +kernel) ?_
              refine a_iload_n (pc := 81) (q := 3) (i := 3) (x := (A : Int)) hC (by decide +kernel) rfl 1 rfl ?_
              refine a_imul (pc := 82) hC (by decide +kernel) ?_
              refine a_iadd (pc := 83) hC (by decide +kernel) ?_
              refine a_iload (pc := 84) (i := 4) (x := (t : Int)) hC (by decide +kernel) 0 rfl ?_
              refine a_iadd (pc := 86) hC (by decide +kernel) ?_
              refine a_iconst (pc := 87) (c := 0) hC (by decide +kernel) ?_
              refine g_snd (y := ((wIx s A t : Nat) : Int)) (by unfold wIx; omega) ?_
              refine g_iast (pc := 88) (a := 54) (j := wIx s A t) (x := 0) hC hty (by decide +kernel) rfl (by unfold wIx; omega) (by first | decide | omega) ?_
              refine a_iinc (pc := 89) (i := 4) (c := 1) (x := (t : Int)) (lv' := [(4, vi (((t : Int)) + 1)), (3, vi ((A : Int))), (0, .ref 50), (1, vi ((s : Int))), (2, vi p)]) hC (by decide +kernel) 0 rfl (by decide) rfl ?_
              refine a_goto (pc := 92) (off := -26) hC 66 (by decide +kernel) (by decide) ?_
              refine a_sub (lv' := [(4, vi (((t + 1) : Int))), (3, vi ((A : Int))), (0, .ref 50), (1, vi ((s : Int))), (2, vi p)]) [0, 1, 2, 3, 4] rfl ?_
              refine g_G (G' := uG (uG (m0 G) 53 (up (G 53) (3 * s + A) p)) 54 (clW (G 54) s A (t + 1))) (by rw [uG_s, uG_uG, clW_s]) ?_
              exact ih66 (t + 1) (by omega) (by omega)
        refine a_sub (lv' := [(4, vi ((0 : Int))), (3, vi ((A : Int))), (0, .ref 50), (1, vi ((s : Int))), (2, vi p)]) [0, 1, 2, 3, 4] rfl ?_
        refine g_G (G' := uG (uG (m0 G) 53 (up (G 53) (3 * s + A) p)) 54 (clW (G 54) s A 0)) (by rw [clW_0]; exact (uG_same (by rw [uG_n _ _ (by decide), m0_n (by decide)])).symm) ?_
        exact L66 _ 0 (Nat.lt_succ_self _) (by omega)
      · skip
        exact absurd c39 (by omega)
    · skip
      exact absurd c26 hok
  · skip
    exact absurd c10 (by decide)

set_option maxRecDepth 100000 in
set_option maxHeartbeats 4000000 in
theorem ct_M_pay_no (l : Launch) (D : va_G) (K : K5) (G : GT) (N : Nat) (s a : Int) (p : Int) (hsi : inI s) (hai : inI a) (hmm : MM G N) (hno : mA G s a = 0) : Ct l D K y_M_pay c_M_pay 5 (some .int) 3 68 [.ref 50, vi s, vi a, vi p] G (some (vi (-1))) (m0 G) := by
  refine Ct.intro (by decide +kernel) (Nat.le_of_ble_eq_true rfl) ?_
  intro X hro hty hC hE
  obtain ⟨hn, hN5, hsh, hac, hpa, hwe, hth, hch⟩ := id hmm
  refine a_aload_n (pc := 0) (q := 0) (i := 0) (x := 50) hC (by decide +kernel) rfl 0 rfl ?_
  refine a_iconst (pc := 1) (c := 0) hC (by decide +kernel) ?_
  refine g_put (pc := 2) (idx := 62) (ci := 6) (x := 0) hC 50 0 (by decide +kernel) rfl rfl (congrArg (fun z => vi z) (up_s _ _ _)) rfl wrM (by decide) rfl (by decide +kernel) rfl (ok_int _) ?_
  refine g_G (G' := m0 G) rfl ?_
  refine a_aload_n (pc := 5) (q := 0) (i := 0) (x := 50) hC (by decide +kernel) rfl 0 rfl ?_
  refine a_iload_n (pc := 6) (q := 1) (i := 1) (x := s) hC (by decide +kernel) rfl 1 rfl ?_
  refine a_iload_n (pc := 7) (q := 2) (i := 2) (x := a) hC (by decide +kernel) rfl 2 rfl ?_
  refine g_callV (pc := 8) (idx := 91) (i := 50) (av := [vi s, vi a]) (rest := []) (g := m0 G) (v := vi (mA (m0 G) s a)) hC hro hty (by decide +kernel) rfl rfl k_M_isAct (by decide +kernel) (by decide +kernel) (by decide +kernel) (ct_M_isAct X.la X.dd K (m0 G) N s a hsi hai hmm.m0) rfl rfl (by decide) (by first | decide | simp [Value.category]) ?_
  refine g_top (y := mA G s a) (mA_m0 _ _ _) ?_
  refine a_if_ne (pc := 11) (off := 5) hC 16 (by decide +kernel) (by decide) (by unfold inI; omega) (fun c11 => ?_) (fun c11 => ?_)
  · skip
    exact absurd hno c11
  · skip
    refine a_iconst (pc := 14) (c := -1) hC (by decide +kernel) ?_
    exact g_iret (pc := 15) hC hE (by decide +kernel) rfl rfl

set_option maxRecDepth 100000 in
set_option maxHeartbeats 4000000 in
theorem ct_M_pay_bad (l : Launch) (D : va_G) (K : K5) (G : GT) (N s a : Nat) (p : Int) (hs : s < N) (ha : (a : Int) < G 52 s) (hpi : inI p) (hmm : MM G N) (hbad : inZ p (-50) 50 = 0) : Ct l D K y_M_pay c_M_pay 5 (some .int) 3 68 [.ref 50, vi ((s : Int)), vi ((a : Int)), vi p] G (some (vi (-2))) (m0 G) := by
  refine Ct.intro (by decide +kernel) (Nat.le_of_ble_eq_true rfl) ?_
  intro X hro hty hC hE
  obtain ⟨hn, hN5, hsh, hac, hpa, hwe, hth, hch⟩ := id hmm
  have ha3 := hac s (by omega)
  have ha2 : a < 3 := by omega
  unfold inI at hpi
  refine a_aload_n (pc := 0) (q := 0) (i := 0) (x := 50) hC (by decide +kernel) rfl 0 rfl ?_
  refine a_iconst (pc := 1) (c := 0) hC (by decide +kernel) ?_
  refine g_put (pc := 2) (idx := 62) (ci := 6) (x := 0) hC 50 0 (by decide +kernel) rfl rfl (congrArg (fun z => vi z) (up_s _ _ _)) rfl wrM (by decide) rfl (by decide +kernel) rfl (ok_int _) ?_
  refine g_G (G' := m0 G) rfl ?_
  refine a_aload_n (pc := 5) (q := 0) (i := 0) (x := 50) hC (by decide +kernel) rfl 0 rfl ?_
  refine a_iload_n (pc := 6) (q := 1) (i := 1) (x := (s : Int)) hC (by decide +kernel) rfl 1 rfl ?_
  refine a_iload_n (pc := 7) (q := 2) (i := 2) (x := (a : Int)) hC (by decide +kernel) rfl 2 rfl ?_
  refine g_callV (pc := 8) (idx := 91) (i := 50) (av := [vi ((s : Int)), vi ((a : Int))]) (rest := []) (g := m0 G) (v := vi (mA (m0 G) ((s : Int)) ((a : Int)))) hC hro hty (by decide +kernel) rfl rfl k_M_isAct (by decide +kernel) (by decide +kernel) (by decide +kernel) (ct_M_isAct X.la X.dd K (m0 G) N ((s : Int)) ((a : Int)) (by unfold inI; omega) (by unfold inI; omega) hmm.m0) rfl rfl (by decide) (by first | decide | simp [Value.category]) ?_
  refine g_top (y := 1) (by rw [mA_m0]; exact mA_ok hmm hs ha) ?_
  refine a_if_ne (pc := 11) (off := 5) hC 16 (by decide +kernel) (by decide) (by unfold inI; omega) (fun c11 => ?_) (fun c11 => ?_)
  · skip
    refine a_iload_n (pc := 16) (q := 3) (i := 3) (x := p) hC (by decide +kernel) rfl 3 rfl ?_
    refine a_i2l (pc := 17) hC (by decide +kernel) (by unfold inI; omega) ?_
    refine a_ldc2 (pc := 18) (idx := 87) (z := -50) (v := -50) hC (by decide +kernel) (by decide +kernel) rfl ?_
    refine a_ldc2 (pc := 21) (idx := 89) (z := 50) (v := 50) hC (by decide +kernel) (by decide +kernel) rfl ?_
    refine g_callS (pc := 24) (idx := 75) (av := [vl p, vl (-50), vl 50]) (rest := []) (g := m0 G) (v := vi (inZ p (-50) 50)) hC hro hty (by decide +kernel) k_M_in (by decide +kernel) (by decide +kernel) (ct_M_in X.la X.dd K (m0 G) p (-50) 50 (by unfold inL; omega) (by unfold inL; omega) (by unfold inL; omega)) rfl rfl (by decide) (by first | decide | simp [Value.category]) ?_
    refine a_if_ne (pc := 27) (off := 6) hC 33 (by decide +kernel) (by decide) (by unfold inI; have := inZ_01 p (-50) 50; omega) (fun c27 => ?_) (fun c27 => ?_)
    · skip
      exact absurd hbad c27
    · skip
      refine a_bipush (pc := 30) (c := -2) hC (by decide +kernel) (by decide +kernel) ?_
      exact g_iret (pc := 32) hC hE (by decide +kernel) rfl rfl
  · skip
    exact absurd c11 (by decide)

set_option maxRecDepth 100000 in
set_option maxHeartbeats 4000000 in
theorem ct_M_pay (l : Launch) (D : va_G) (K : K5) (G : GT) (N s a : Nat) (p : Int) (hs : s < N) (ha : (a : Int) < G 52 s) (hpi : inI p) (hmm : MM G N) (hok : ¬ inZ p (-50) 50 = 0) : Ct l D K y_M_pay c_M_pay 5 (some .int) 3 68 [.ref 50, vi ((s : Int)), vi ((a : Int)), vi p] G (some (vi (G 53 (3 * s + a) + 50))) (uG (m0 G) 53 (up (G 53) (3 * s + a) p)) := by
  refine Ct.intro (by decide +kernel) (Nat.le_of_ble_eq_true rfl) ?_
  intro X hro hty hC hE
  obtain ⟨hn, hN5, hsh, hac, hpa, hwe, hth, hch⟩ := id hmm
  have ha3 := hac s (by omega)
  have ha2 : a < 3 := by omega
  unfold inI at hpi
  refine a_aload_n (pc := 0) (q := 0) (i := 0) (x := 50) hC (by decide +kernel) rfl 0 rfl ?_
  refine a_iconst (pc := 1) (c := 0) hC (by decide +kernel) ?_
  refine g_put (pc := 2) (idx := 62) (ci := 6) (x := 0) hC 50 0 (by decide +kernel) rfl rfl (congrArg (fun z => vi z) (up_s _ _ _)) rfl wrM (by decide) rfl (by decide +kernel) rfl (ok_int _) ?_
  refine g_G (G' := m0 G) rfl ?_
  refine a_aload_n (pc := 5) (q := 0) (i := 0) (x := 50) hC (by decide +kernel) rfl 0 rfl ?_
  refine a_iload_n (pc := 6) (q := 1) (i := 1) (x := (s : Int)) hC (by decide +kernel) rfl 1 rfl ?_
  refine a_iload_n (pc := 7) (q := 2) (i := 2) (x := (a : Int)) hC (by decide +kernel) rfl 2 rfl ?_
  refine g_callV (pc := 8) (idx := 91) (i := 50) (av := [vi ((s : Int)), vi ((a : Int))]) (rest := []) (g := m0 G) (v := vi (mA (m0 G) ((s : Int)) ((a : Int)))) hC hro hty (by decide +kernel) rfl rfl k_M_isAct (by decide +kernel) (by decide +kernel) (by decide +kernel) (ct_M_isAct X.la X.dd K (m0 G) N ((s : Int)) ((a : Int)) (by unfold inI; omega) (by unfold inI; omega) hmm.m0) rfl rfl (by decide) (by first | decide | simp [Value.category]) ?_
  refine g_top (y := 1) (by rw [mA_m0]; exact mA_ok hmm hs ha) ?_
  refine a_if_ne (pc := 11) (off := 5) hC 16 (by decide +kernel) (by decide) (by unfold inI; omega) (fun c11 => ?_) (fun c11 => ?_)
  · skip
    refine a_iload_n (pc := 16) (q := 3) (i := 3) (x := p) hC (by decide +kernel) rfl 3 rfl ?_
    refine a_i2l (pc := 17) hC (by decide +kernel) (by unfold inI; omega) ?_
    refine a_ldc2 (pc := 18) (idx := 87) (z := -50) (v := -50) hC (by decide +kernel) (by decide +kernel) rfl ?_
    refine a_ldc2 (pc := 21) (idx := 89) (z := 50) (v := 50) hC (by decide +kernel) (by decide +kernel) rfl ?_
    refine g_callS (pc := 24) (idx := 75) (av := [vl p, vl (-50), vl 50]) (rest := []) (g := m0 G) (v := vi (inZ p (-50) 50)) hC hro hty (by decide +kernel) k_M_in (by decide +kernel) (by decide +kernel) (ct_M_in X.la X.dd K (m0 G) p (-50) 50 (by unfold inL; omega) (by unfold inL; omega) (by unfold inL; omega)) rfl rfl (by decide) (by first | decide | simp [Value.category]) ?_
    refine a_if_ne (pc := 27) (off := 6) hC 33 (by decide +kernel) (by decide) (by unfold inI; have := inZ_01 p (-50) 50; omega) (fun c27 => ?_) (fun c27 => ?_)
    · skip
      refine a_aload_n (pc := 33) (q := 0) (i := 0) (x := 50) hC (by decide +kernel) rfl 0 rfl ?_
      refine g_get (pc := 34) (idx := 17) (ci := 6) (v := .ref 53) hC 50 4 (by decide +kernel) rfl rfl rfl rfl wrM (by decide) rfl (by decide +kernel) ?_
      refine a_iconst (pc := 37) (c := 3) hC (by decide +kernel) ?_
      refine a_iload_n (pc := 38) (q := 1) (i := 1) (x := (s : Int)) hC (by decide +kernel) rfl 1 rfl ?_
      refine a_imul (pc := 39) hC (by decide +kernel) ?_
      refine a_iload_n (pc := 40) (q := 2) (i := 2) (x := (a : Int)) hC (by decide +kernel) rfl 2 rfl ?_
      refine a_iadd (pc := 41) hC (by decide +kernel) ?_
      refine g_top (y := ((3 * s + a : Nat) : Int)) (by omega) ?_
      refine g_iald (pc := 42) (a := 53) (j := 3 * s + a) hC hty (by decide +kernel) rfl (by omega) (by first | decide | omega) ?_
      refine g_top (y := G 53 (3 * s + a)) (by rw [m0_n (by decide)]) ?_
      refine a_istore (pc := 43) (q := 0) (i := 4) (lv' := [(4, vi (G 53 (3 * s + a))), (0, .ref 50), (1, vi ((s : Int))), (2, vi ((a : Int))), (3, vi p)]) hC (by decide +kernel) (by decide) rfl ?_
      refine a_aload_n (pc := 45) (q := 0) (i := 0) (x := 50) hC (by decide +kernel) rfl 1 rfl ?_
      refine g_get (pc := 46) (idx := 17) (ci := 6) (v := .ref 53) hC 50 4 (by decide +kernel) rfl rfl rfl rfl wrM (by decide) rfl (by decide +kernel) ?_
      refine a_iconst (pc := 49) (c := 3) hC (by decide +kernel) ?_
      refine a_iload_n (pc := 50) (q := 1) (i := 1) (x := (s : Int)) hC (by decide +kernel) rfl 2 rfl ?_
      refine a_imul (pc := 51) hC (by decide +kernel) ?_
      refine a_iload_n (pc := 52) (q := 2) (i := 2) (x := (a : Int)) hC (by decide +kernel) rfl 3 rfl ?_
      refine a_iadd (pc := 53) hC (by decide +kernel) ?_
      refine a_iload_n (pc := 54) (q := 3) (i := 3) (x := p) hC (by decide +kernel) rfl 4 rfl ?_
      refine g_snd (y := ((3 * s + a : Nat) : Int)) (by omega) ?_
      refine g_iast (pc := 55) (a := 53) (j := 3 * s + a) (x := p) hC hty (by decide +kernel) rfl (by omega) (by first | decide | omega) ?_
      refine a_iload (pc := 56) (i := 4) (x := G 53 (3 * s + a)) hC (by decide +kernel) 0 rfl ?_
      refine a_bipush (pc := 58) (c := 50) hC (by decide +kernel) (by decide +kernel) ?_
      refine a_iadd (pc := 60) hC (by decide +kernel) ?_
      exact g_iret (pc := 61) hC hE (by decide +kernel) rfl (by rw [m0_n (a := 53) (by decide)])
    · skip
      exact absurd c27 hok
  · skip
    exact absurd c11 (by decide)

set_option maxRecDepth 100000 in
set_option maxHeartbeats 4000000 in
theorem ct_M_tell_no (l : Launch) (D : va_G) (K : K5) (G : GT) (N : Nat) (s a : Int)  (hsi : inI s) (hai : inI a) (hmm : MM G N) (hno : mA G s a = 0) : Ct l D K y_M_tell c_M_tell 4 (some .int) 3 68 [.ref 50, vi s, vi a] G (some (vi (-1))) (m0 G) := by
  refine Ct.intro (by decide +kernel) (Nat.le_of_ble_eq_true rfl) ?_
  intro X hro hty hC hE
  obtain ⟨hn, hN5, hsh, hac, hpa, hwe, hth, hch⟩ := id hmm
  refine a_aload_n (pc := 0) (q := 0) (i := 0) (x := 50) hC (by decide +kernel) rfl 0 rfl ?_
  refine a_iconst (pc := 1) (c := 0) hC (by decide +kernel) ?_
  refine g_put (pc := 2) (idx := 62) (ci := 6) (x := 0) hC 50 0 (by decide +kernel) rfl rfl (congrArg (fun z => vi z) (up_s _ _ _)) rfl wrM (by decide) rfl (by decide +kernel) rfl (ok_int _) ?_
  refine g_G (G' := m0 G) rfl ?_
  refine a_aload_n (pc := 5) (q := 0) (i := 0) (x := 50) hC (by decide +kernel) rfl 0 rfl ?_
  refine a_iload_n (pc := 6) (q := 1) (i := 1) (x := s) hC (by decide +kernel) rfl 1 rfl ?_
  refine a_iload_n (pc := 7) (q := 2) (i := 2) (x := a) hC (by decide +kernel) rfl 2 rfl ?_
  refine g_callV (pc := 8) (idx := 91) (i := 50) (av := [vi s, vi a]) (rest := []) (g := m0 G) (v := vi (mA (m0 G) s a)) hC hro hty (by decide +kernel) rfl rfl k_M_isAct (by decide +kernel) (by decide +kernel) (by decide +kernel) (ct_M_isAct X.la X.dd K (m0 G) N s a hsi hai hmm.m0) rfl rfl (by decide) (by first | decide | simp [Value.category]) ?_
  refine g_top (y := mA G s a) (mA_m0 _ _ _) ?_
  refine a_if_ne (pc := 11) (off := 5) hC 16 (by decide +kernel) (by decide) (by unfold inI; omega) (fun c11 => ?_) (fun c11 => ?_)
  · skip
    exact absurd hno c11
  · skip
    refine a_iconst (pc := 14) (c := -1) hC (by decide +kernel) ?_
    exact g_iret (pc := 15) hC hE (by decide +kernel) rfl rfl

set_option maxRecDepth 100000 in
set_option maxHeartbeats 4000000 in
theorem ct_M_tell (l : Launch) (D : va_G) (K : K5) (G : GT) (N s a : Nat) (hs : s < N) (ha : (a : Int) < G 52 s) (hmm : MM G N) : Ct l D K y_M_tell c_M_tell 4 (some .int) 3 68 [.ref 50, vi ((s : Int)), vi ((a : Int))] G (some (vi (G 55 s))) (uG (m0 G) 55 (up (G 55) s (a : Int))) := by
  refine Ct.intro (by decide +kernel) (Nat.le_of_ble_eq_true rfl) ?_
  intro X hro hty hC hE
  obtain ⟨hn, hN5, hsh, hac, hpa, hwe, hth, hch⟩ := id hmm
  have ha3 := hac s (by omega)
  have ha2 : a < 3 := by omega
  refine a_aload_n (pc := 0) (q := 0) (i := 0) (x := 50) hC (by decide +kernel) rfl 0 rfl ?_
  refine a_iconst (pc := 1) (c := 0) hC (by decide +kernel) ?_
  refine g_put (pc := 2) (idx := 62) (ci := 6) (x := 0) hC 50 0 (by decide +kernel) rfl rfl (congrArg (fun z => vi z) (up_s _ _ _)) rfl wrM (by decide) rfl (by decide +kernel) rfl (ok_int _) ?_
  refine g_G (G' := m0 G) rfl ?_
  refine a_aload_n (pc := 5) (q := 0) (i := 0) (x := 50) hC (by decide +kernel) rfl 0 rfl ?_
  refine a_iload_n (pc := 6) (q := 1) (i := 1) (x := (s : Int)) hC (by decide +kernel) rfl 1 rfl ?_
  refine a_iload_n (pc := 7) (q := 2) (i := 2) (x := (a : Int)) hC (by decide +kernel) rfl 2 rfl ?_
  refine g_callV (pc := 8) (idx := 91) (i := 50) (av := [vi ((s : Int)), vi ((a : Int))]) (rest := []) (g := m0 G) (v := vi (mA (m0 G) ((s : Int)) ((a : Int)))) hC hro hty (by decide +kernel) rfl rfl k_M_isAct (by decide +kernel) (by decide +kernel) (by decide +kernel) (ct_M_isAct X.la X.dd K (m0 G) N ((s : Int)) ((a : Int)) (by unfold inI; omega) (by unfold inI; omega) hmm.m0) rfl rfl (by decide) (by first | decide | simp [Value.category]) ?_
  refine g_top (y := 1) (by rw [mA_m0]; exact mA_ok hmm hs ha) ?_
  refine a_if_ne (pc := 11) (off := 5) hC 16 (by decide +kernel) (by decide) (by unfold inI; omega) (fun c11 => ?_) (fun c11 => ?_)
  · skip
    refine a_aload_n (pc := 16) (q := 0) (i := 0) (x := 50) hC (by decide +kernel) rfl 0 rfl ?_
    refine g_get (pc := 17) (idx := 23) (ci := 6) (v := .ref 55) hC 50 6 (by decide +kernel) rfl rfl rfl rfl wrM (by decide) rfl (by decide +kernel) ?_
    refine a_iload_n (pc := 20) (q := 1) (i := 1) (x := (s : Int)) hC (by decide +kernel) rfl 1 rfl ?_
    refine g_iald (pc := 21) (a := 55) (j := s) hC hty (by decide +kernel) rfl (by omega) (by first | decide | omega) ?_
    refine g_top (y := G 55 s) (by rw [m0_n (by decide)]) ?_
    refine a_istore_n (pc := 22) (q := 3) (i := 3) (lv' := [(3, vi (G 55 s)), (0, .ref 50), (1, vi ((s : Int))), (2, vi ((a : Int)))]) hC (by decide +kernel) rfl (by decide) rfl ?_
    refine a_aload_n (pc := 23) (q := 0) (i := 0) (x := 50) hC (by decide +kernel) rfl 1 rfl ?_
    refine g_get (pc := 24) (idx := 23) (ci := 6) (v := .ref 55) hC 50 6 (by decide +kernel) rfl rfl rfl rfl wrM (by decide) rfl (by decide +kernel) ?_
    refine a_iload_n (pc := 27) (q := 1) (i := 1) (x := (s : Int)) hC (by decide +kernel) rfl 2 rfl ?_
    refine a_iload_n (pc := 28) (q := 2) (i := 2) (x := (a : Int)) hC (by decide +kernel) rfl 3 rfl ?_
    refine g_iast (pc := 29) (a := 55) (j := s) (x := (a : Int)) hC hty (by decide +kernel) rfl (by omega) (by first | decide | omega) ?_
    refine a_iload_n (pc := 30) (q := 3) (i := 3) (x := G 55 s) hC (by decide +kernel) rfl 0 rfl ?_
    exact g_iret (pc := 31) hC hE (by decide +kernel) rfl (by rw [m0_n (a := 55) (by decide)])
  · skip
    exact absurd c11 (by decide)


set_option maxRecDepth 100000 in
set_option maxHeartbeats 4000000 in
theorem ct_M_share (l : Launch) (D : va_G) (K : K5) (G : GT) (u d : Int) (hui : inI u) (hdi : inI d) (hok : 1 ≤ d ∧ d ≤ 6 ∧ 0 ≤ u ∧ u < d) : Ct l D K y_M_share c_M_share 3 (some .int) 1 25 [.ref 50, vi u, vi d] G (some (vi 1)) (uG (m0 G) 50 (up (up ((m0 G) 50) 7 u) 8 d)) := by
  refine Ct.intro (by decide +kernel) (Nat.le_of_ble_eq_true rfl) ?_
  intro X hro hty hC hE
  unfold inI at hui hdi
  refine a_aload_n (pc := 0) (q := 0) (i := 0) (x := 50) hC (by decide +kernel) rfl 0 rfl ?_
  refine a_iconst (pc := 1) (c := 0) hC (by decide +kernel) ?_
  refine g_put (pc := 2) (idx := 62) (ci := 6) (x := 0) hC 50 0 (by decide +kernel) rfl rfl (congrArg (fun z => vi z) (up_s _ _ _)) rfl wrM (by decide) rfl (by decide +kernel) rfl (ok_int _) ?_
  refine g_G (G' := m0 G) rfl ?_
  refine a_iload_n (pc := 5) (q := 2) (i := 2) (x := d) hC (by decide +kernel) rfl 2 rfl ?_
  refine a_i2l (pc := 6) hC (by decide +kernel) (by unfold inI; omega) ?_
  refine a_lconst (pc := 7) (c := 1) (z := 1) hC (by decide +kernel) rfl ?_
  refine a_ldc2 (pc := 8) (idx := 95) (z := 6) (v := 6) hC (by decide +kernel) (by decide +kernel) rfl ?_
  refine g_callS (pc := 11) (idx := 75) (av := [vl d, vl 1, vl 6]) (rest := []) (g := m0 G) (v := vi (inZ d 1 6)) hC hro hty (by decide +kernel) k_M_in (by decide +kernel) (by decide +kernel) (ct_M_in X.la X.dd K (m0 G) d 1 6 (by unfold inL; omega) (by unfold inL; omega) (by unfold inL; omega)) rfl rfl (by decide) (by first | decide | simp [Value.category]) ?_
  refine a_if_eq (pc := 14) (off := 16) hC 30 (by decide +kernel) (by decide) (by unfold inI; have := inZ_01 d 1 6; omega) (fun c14 => ?_) (fun c14 => ?_)
  · skip
    exact absurd c14 (by unfold inZ; rw [if_pos (by omega)]; decide)
  · skip
    refine a_iload_n (pc := 17) (q := 1) (i := 1) (x := u) hC (by decide +kernel) rfl 1 rfl ?_
    refine a_i2l (pc := 18) hC (by decide +kernel) (by unfold inI; omega) ?_
    refine a_lconst (pc := 19) (c := 0) (z := 0) hC (by decide +kernel) rfl ?_
    refine a_iload_n (pc := 20) (q := 2) (i := 2) (x := d) hC (by decide +kernel) rfl 2 rfl ?_
    refine a_iconst (pc := 21) (c := 1) hC (by decide +kernel) ?_
    refine a_isub (pc := 22) hC (by decide +kernel) ?_
    refine a_i2l (pc := 23) hC (by decide +kernel) (by unfold inI; omega) ?_
    refine g_callS (pc := 24) (idx := 75) (av := [vl u, vl 0, vl (d - 1)]) (rest := []) (g := m0 G) (v := vi (inZ u 0 (d - 1))) hC hro hty (by decide +kernel) k_M_in (by decide +kernel) (by decide +kernel) (ct_M_in X.la X.dd K (m0 G) u 0 (d - 1) (by unfold inL; omega) (by unfold inL; omega) (by unfold inL; omega)) rfl rfl (by decide) (by first | decide | simp [Value.category]) ?_
    refine a_if_ne (pc := 27) (off := 6) hC 33 (by decide +kernel) (by decide) (by unfold inI; have := inZ_01 u 0 (d - 1); omega) (fun c27 => ?_) (fun c27 => ?_)
    · skip
      refine a_aload_n (pc := 33) (q := 0) (i := 0) (x := 50) hC (by decide +kernel) rfl 0 rfl ?_
      refine a_iload_n (pc := 34) (q := 1) (i := 1) (x := u) hC (by decide +kernel) rfl 1 rfl ?_
      refine g_put (pc := 35) (idx := 26) (ci := 6) (x := u) hC 50 7 (by decide +kernel) rfl rfl (congrArg (fun z => vi z) (up_s _ _ _)) rfl wrM (by decide) rfl (by decide +kernel) rfl (ok_int _) ?_
      refine a_aload_n (pc := 38) (q := 0) (i := 0) (x := 50) hC (by decide +kernel) rfl 0 rfl ?_
      refine a_iload_n (pc := 39) (q := 2) (i := 2) (x := d) hC (by decide +kernel) rfl 2 rfl ?_
      refine g_put (pc := 40) (idx := 30) (ci := 6) (x := d) hC 50 8 (by decide +kernel) rfl rfl (congrArg (fun z => vi z) (up_s _ _ _)) rfl wrM (by decide) rfl (by decide +kernel) rfl (ok_int _) ?_
      refine a_iconst (pc := 43) (c := 1) hC (by decide +kernel) ?_
      exact g_iret (pc := 44) hC hE (by decide +kernel) rfl (by rw [uG_s, uG_uG])
    · skip
      exact absurd c27 (by unfold inZ; rw [if_pos (by omega)]; decide)

set_option maxRecDepth 100000 in
set_option maxHeartbeats 4000000 in
theorem ct_M_actIn (l : Launch) (D : va_G) (K : K5) (G : GT) (p s : Nat) (hp0 : p < 300) (hs : s < 5) (hac : ∀ s, s < 5 → 0 ≤ G 52 s ∧ G 52 s ≤ 3) : Ct l D K y_M_actIn c_M_actIn 5 (some .int) 0 0 [.ref 50, vi ((p : Int)), vi ((s : Int))] G (some (vi (actZ G p s))) G := by
  refine Ct.intro (by decide +kernel) (Nat.le_of_ble_eq_true rfl) ?_
  intro X hro hty hC hE
  refine a_iload_n (pc := 0) (q := 1) (i := 1) (x := (p : Int)) hC (by decide +kernel) rfl 1 rfl ?_
  refine a_istore_n (pc := 1) (q := 3) (i := 3) (lv' := [(3, vi ((p : Int))), (0, .ref 50), (1, vi ((p : Int))), (2, vi ((s : Int)))]) hC (by decide +kernel) rfl (by decide) rfl ?_
  refine a_iconst (pc := 2) (c := 0) hC (by decide +kernel) ?_
  refine a_istore (pc := 3) (q := 0) (i := 4) (lv' := [(4, vi 0), (3, vi ((p : Int))), (0, .ref 50), (1, vi ((p : Int))), (2, vi ((s : Int)))]) hC (by decide +kernel) (by decide) rfl ?_
  have L5 : ∀ (fuel : Nat) (t : Nat), s - t < fuel → t ≤ s → AW X 5 0 0 5 [(4, vi ((t : Int))), (3, vi (aiS G p t)), (0, .ref 50), (1, vi ((p : Int))), (2, vi ((s : Int)))] [] (hp K G) := by
    intro fuel
    induction fuel with
    | zero => intro t h; exact absurd h (Nat.not_lt_zero _)
    | succ fuel ih5 =>
      intro t hm ht
      have hai := aiS_in (p := p) hac t (by omega)
      have h5 := hac t (by omega)
      refine a_iload (pc := 5) (i := 4) (x := (t : Int)) hC (by decide +kernel) 0 rfl ?_
      refine a_iload_n (pc := 7) (q := 2) (i := 2) (x := (s : Int)) hC (by decide +kernel) rfl 4 rfl ?_
      refine a_icmp_ge (pc := 8) (off := 33) hC 41 (by decide +kernel) (by decide) (by unfold inI; omega) (by unfold inI; omega) (fun c8 => ?_) (fun c8 => ?_)
      · skip
        have hts : t = s := by omega
        have h6 := hac s hs
        refine a_aload_n (pc := 41) (q := 0) (i := 0) (x := 50) hC (by decide +kernel) rfl 2 rfl ?_
        refine g_get (pc := 42) (idx := 13) (ci := 6) (v := .ref 52) hC 50 3 (by decide +kernel) rfl rfl rfl rfl wrM (by decide) rfl (by decide +kernel) ?_
        refine a_iload_n (pc := 45) (q := 2) (i := 2) (x := (s : Int)) hC (by decide +kernel) rfl 4 rfl ?_
        refine g_iald (pc := 46) (a := 52) (j := s) hC hty (by decide +kernel) rfl (by omega) (by first | decide | omega) ?_
        refine a_if_ne (pc := 47) (off := 7) hC 54 (by decide +kernel) (by decide) (by unfold inI; omega) (fun c47 => ?_) (fun c47 => ?_)
        · skip
          refine a_iload_n (pc := 54) (q := 3) (i := 3) (x := aiS G p t) hC (by decide +kernel) rfl 1 rfl ?_
          refine a_aload_n (pc := 55) (q := 0) (i := 0) (x := 50) hC (by decide +kernel) rfl 2 rfl ?_
          refine g_get (pc := 56) (idx := 13) (ci := 6) (v := .ref 52) hC 50 3 (by decide +kernel) rfl rfl rfl rfl wrM (by decide) rfl (by decide +kernel) ?_
          refine a_iload_n (pc := 59) (q := 2) (i := 2) (x := (s : Int)) hC (by decide +kernel) rfl 4 rfl ?_
          refine g_iald (pc := 60) (a := 52) (j := s) hC hty (by decide +kernel) rfl (by omega) (by first | decide | omega) ?_
          refine a_irem (pc := 61) hC (by decide +kernel) (by unfold inI; omega) (by unfold inI; omega) c47 ?_
          exact g_iret (pc := 62) hC hE (by decide +kernel) (by unfold actZ; first | rw [if_pos c47] | rw [if_neg c47, hts]) rfl
        · skip
          refine a_iconst (pc := 50) (c := -1) hC (by decide +kernel) ?_
          refine a_goto (pc := 51) (off := 11) hC 62 (by decide +kernel) (by decide) ?_
          exact g_iret (pc := 62) hC hE (by decide +kernel) (by unfold actZ; first | rw [if_pos c47] | rw [if_neg c47, hts]) rfl
      · skip
        refine a_aload_n (pc := 11) (q := 0) (i := 0) (x := 50) hC (by decide +kernel) rfl 2 rfl ?_
        refine g_get (pc := 12) (idx := 13) (ci := 6) (v := .ref 52) hC 50 3 (by decide +kernel) rfl rfl rfl rfl wrM (by decide) rfl (by decide +kernel) ?_
        refine a_iload (pc := 15) (i := 4) (x := (t : Int)) hC (by decide +kernel) 0 rfl ?_
        refine g_iald (pc := 17) (a := 52) (j := t) hC hty (by decide +kernel) rfl (by omega) (by first | decide | omega) ?_
        refine a_if_ne (pc := 18) (off := 7) hC 25 (by decide +kernel) (by decide) (by unfold inI; omega) (fun c18 => ?_) (fun c18 => ?_)
        · skip
          have hst : Int.tdiv (aiS G p t) (G 52 t) = aiS G p (t + 1) := by show _ = (if _ then _ else _); rw [if_neg c18]
          refine a_iload_n (pc := 25) (q := 3) (i := 3) (x := aiS G p t) hC (by decide +kernel) rfl 1 rfl ?_
          refine a_aload_n (pc := 26) (q := 0) (i := 0) (x := 50) hC (by decide +kernel) rfl 2 rfl ?_
          refine g_get (pc := 27) (idx := 13) (ci := 6) (v := .ref 52) hC 50 3 (by decide +kernel) rfl rfl rfl rfl wrM (by decide) rfl (by decide +kernel) ?_
          refine a_iload (pc := 30) (i := 4) (x := (t : Int)) hC (by decide +kernel) 0 rfl ?_
          refine g_iald (pc := 32) (a := 52) (j := t) hC hty (by decide +kernel) rfl (by omega) (by first | decide | omega) ?_
          refine a_idiv (pc := 33) hC (by decide +kernel) (by unfold inI; omega) (by unfold inI; omega) c18 ?_
          refine a_istore_n (pc := 34) (q := 3) (i := 3) (lv' := [(3, vi (Int.tdiv (aiS G p t) (G 52 t))), (4, vi ((t : Int))), (0, .ref 50), (1, vi ((p : Int))), (2, vi ((s : Int)))]) hC (by decide +kernel) rfl (by decide) rfl ?_
          refine a_iinc (pc := 35) (i := 4) (c := 1) (x := (t : Int)) (lv' := [(4, vi (((t : Int)) + 1)), (3, vi (Int.tdiv (aiS G p t) (G 52 t))), (0, .ref 50), (1, vi ((p : Int))), (2, vi ((s : Int)))]) hC (by decide +kernel) 1 rfl (by decide) rfl ?_
          refine a_goto (pc := 38) (off := -33) hC 5 (by decide +kernel) (by decide) ?_
          refine a_sub (lv' := [(4, vi (((t + 1) : Int))), (3, vi (aiS G p (t + 1))), (0, .ref 50), (1, vi ((p : Int))), (2, vi ((s : Int)))]) [0, 1, 2, 3, 4] (by rw [← hst]; rfl) ?_
          exact ih5 (t + 1) (by omega) (by omega)
        · skip
          have hst : aiS G p t = aiS G p (t + 1) := by show _ = (if _ then _ else _); rw [if_pos c18]
          refine a_iload_n (pc := 21) (q := 3) (i := 3) (x := aiS G p t) hC (by decide +kernel) rfl 1 rfl ?_
          refine a_goto (pc := 22) (off := 12) hC 34 (by decide +kernel) (by decide) ?_
          refine a_istore_n (pc := 34) (q := 3) (i := 3) (lv' := [(3, vi (aiS G p t)), (4, vi ((t : Int))), (0, .ref 50), (1, vi ((p : Int))), (2, vi ((s : Int)))]) hC (by decide +kernel) rfl (by decide) rfl ?_
          refine a_iinc (pc := 35) (i := 4) (c := 1) (x := (t : Int)) (lv' := [(4, vi (((t : Int)) + 1)), (3, vi (aiS G p t)), (0, .ref 50), (1, vi ((p : Int))), (2, vi ((s : Int)))]) hC (by decide +kernel) 1 rfl (by decide) rfl ?_
          refine a_goto (pc := 38) (off := -33) hC 5 (by decide +kernel) (by decide) ?_
          refine a_sub (lv' := [(4, vi (((t + 1) : Int))), (3, vi (aiS G p (t + 1))), (0, .ref 50), (1, vi ((p : Int))), (2, vi ((s : Int)))]) [0, 1, 2, 3, 4] (by rw [← hst]; rfl) ?_
          exact ih5 (t + 1) (by omega) (by omega)
  refine a_sub (lv' := [(4, vi ((0 : Int))), (3, vi (aiS G p 0)), (0, .ref 50), (1, vi ((p : Int))), (2, vi ((s : Int)))]) [0, 1, 2, 3, 4] rfl ?_
  exact L5 _ 0 (Nat.lt_succ_self _) (by omega)

set_option maxRecDepth 100000 in
set_option maxHeartbeats 4000000 in
theorem ct_M_fix (l : Launch) (D : va_G) (K : K5) (G : GT) (N s : Nat) (v : Int) (hN5 : N ≤ 5) (hs : s < 5) (hn : G 50 1 = (N : Int)) : Ct l D K y_M_fix c_M_fix 5 none 0 0 [.ref 50, vi ((s : Int)), vl v] G none (fixG G N s v) := by
  refine Ct.intro (by decide +kernel) (Nat.le_of_ble_eq_true rfl) ?_
  intro X hro hty hC hE
  refine a_iconst (pc := 0) (c := 0) hC (by decide +kernel) ?_
  refine a_istore (pc := 1) (q := 0) (i := 4) (lv' := [(4, vi 0), (0, .ref 50), (1, vi ((s : Int))), (2, vl v)]) hC (by decide +kernel) (by decide) rfl ?_
  have L3 : ∀ (fuel : Nat) (t : Nat), N - t < fuel → t ≤ N → AW X 5 0 0 3 [(4, vi ((t : Int))), (0, .ref 50), (1, vi ((s : Int))), (2, vl v)] [] (hp K (uG G 56 (fxF (G 56) s t))) := by
    intro fuel
    induction fuel with
    | zero => intro t h; exact absurd h (Nat.not_lt_zero _)
    | succ fuel ih3 =>
      intro t hm ht
      refine a_iload (pc := 3) (i := 4) (x := (t : Int)) hC (by decide +kernel) 0 rfl ?_
      refine a_aload_n (pc := 5) (q := 0) (i := 0) (x := 50) hC (by decide +kernel) rfl 1 rfl ?_
      refine g_get (pc := 6) (idx := 72) (ci := 6) (v := vi ((uG G 56 (fxF (G 56) s t)) 50 1)) hC 50 1 (by decide +kernel) rfl rfl rfl rfl wrM (by decide) rfl (by decide +kernel) ?_
      refine g_top (y := (N : Int)) (by rw [uG_n _ _ (by decide)]; exact hn) ?_
      refine a_icmp_ge (pc := 9) (off := 31) hC 40 (by decide +kernel) (by decide) (by unfold inI; omega) (by unfold inI; omega) (fun c9 => ?_) (fun c9 => ?_)
      · skip
        refine a_aload_n (pc := 40) (q := 0) (i := 0) (x := 50) hC (by decide +kernel) rfl 1 rfl ?_
        refine g_get (pc := 41) (idx := 41) (ci := 6) (v := .ref 57) hC 50 12 (by decide +kernel) rfl rfl rfl rfl wrM (by decide) rfl (by decide +kernel) ?_
        refine a_iload_n (pc := 44) (q := 1) (i := 1) (x := (s : Int)) hC (by decide +kernel) rfl 2 rfl ?_
        refine a_lload_n (pc := 45) (q := 2) (i := 2) (x := v) hC (by decide +kernel) rfl 3 rfl ?_
        refine g_last (pc := 46) (a := 57) (j := s) (x := v) hC hty (by decide +kernel) rfl (by omega) (by first | decide | omega) ?_
        exact g_vret (pc := 47) hC hE (by decide +kernel) (by rw [show t = N by omega]; rfl)
      · skip
        refine a_aload_n (pc := 12) (q := 0) (i := 0) (x := 50) hC (by decide +kernel) rfl 1 rfl ?_
        refine g_get (pc := 13) (idx := 37) (ci := 6) (v := .ref 56) hC 50 11 (by decide +kernel) rfl rfl rfl rfl wrM (by decide) rfl (by decide +kernel) ?_
        refine a_iconst (pc := 16) (c := 5) hC (by decide +kernel) ?_
        refine a_iload_n (pc := 17) (q := 1) (i := 1) (x := (s : Int)) hC (by decide +kernel) rfl 2 rfl ?_
        refine a_imul (pc := 18) hC (by decide +kernel) ?_
        refine a_iload (pc := 19) (i := 4) (x := (t : Int)) hC (by decide +kernel) 0 rfl ?_
        refine a_iadd (pc := 21) hC (by decide +kernel) ?_
        refine a_iload (pc := 22) (i := 4) (x := (t : Int)) hC (by decide +kernel) 0 rfl ?_
        refine a_iload_n (pc := 24) (q := 1) (i := 1) (x := (s : Int)) hC (by decide +kernel) rfl 2 rfl ?_
        refine a_icmp_ne (pc := 25) (off := 7) hC 32 (by decide +kernel) (by decide) (by unfold inI; omega) (by unfold inI; omega) (fun c25 => ?_) (fun c25 => ?_)
        · skip
          have hx : (0 : Int) = if t = s then 1 else 0 := by rw [if_neg (by omega)]
          refine a_lconst (pc := 32) (c := 0) (z := 0) hC (by decide +kernel) rfl ?_
          refine g_snd (y := ((5 * s + t : Nat) : Int)) (by omega) ?_
          refine g_last (pc := 33) (a := 56) (j := 5 * s + t) (x := 0) hC hty (by decide +kernel) rfl (by omega) (by first | decide | omega) ?_
          refine a_iinc (pc := 34) (i := 4) (c := 1) (x := (t : Int)) (lv' := [(4, vi (((t : Int)) + 1)), (0, .ref 50), (1, vi ((s : Int))), (2, vl v)]) hC (by decide +kernel) 0 rfl (by decide) rfl ?_
          refine a_goto (pc := 37) (off := -34) hC 3 (by decide +kernel) (by decide) ?_
          refine a_sub (lv' := [(4, vi (((t + 1) : Int))), (0, .ref 50), (1, vi ((s : Int))), (2, vl v)]) [0, 1, 2, 3] rfl ?_
          refine g_G (G' := uG G 56 (fxF (G 56) s (t + 1))) (by rw [uG_s, uG_uG, fxF_s _ _ _ _ hx]) ?_
          exact ih3 (t + 1) (by omega) (by omega)
        · skip
          have hx : (1 : Int) = if t = s then 1 else 0 := by rw [if_pos (by omega)]
          refine a_lconst (pc := 28) (c := 1) (z := 1) hC (by decide +kernel) rfl ?_
          refine a_goto (pc := 29) (off := 4) hC 33 (by decide +kernel) (by decide) ?_
          refine g_snd (y := ((5 * s + t : Nat) : Int)) (by omega) ?_
          refine g_last (pc := 33) (a := 56) (j := 5 * s + t) (x := 1) hC hty (by decide +kernel) rfl (by omega) (by first | decide | omega) ?_
          refine a_iinc (pc := 34) (i := 4) (c := 1) (x := (t : Int)) (lv' := [(4, vi (((t : Int)) + 1)), (0, .ref 50), (1, vi ((s : Int))), (2, vl v)]) hC (by decide +kernel) 0 rfl (by decide) rfl ?_
          refine a_goto (pc := 37) (off := -34) hC 3 (by decide +kernel) (by decide) ?_
          refine a_sub (lv' := [(4, vi (((t + 1) : Int))), (0, .ref 50), (1, vi ((s : Int))), (2, vl v)]) [0, 1, 2, 3] rfl ?_
          refine g_G (G' := uG G 56 (fxF (G 56) s (t + 1))) (by rw [uG_s, uG_uG, fxF_s _ _ _ _ hx]) ?_
          exact ih3 (t + 1) (by omega) (by omega)
  refine a_sub (lv' := [(4, vi ((0 : Int))), (0, .ref 50), (1, vi ((s : Int))), (2, vl v)]) [0, 1, 2, 3] rfl ?_
  refine g_G (G' := uG G 56 (fxF (G 56) s 0)) (by rw [fxF_0, uG_self]) ?_
  exact L3 _ 0 (Nat.lt_succ_self _) (by omega)

set_option maxRecDepth 100000 in
set_option maxHeartbeats 4000000 in
theorem ct_M_layWorth_none (l : Launch) (D : va_G) (K : K5) (G : GT) (N s : Nat) (hs : s < 5) (hmm : MM G N) : Ct l D K y_M_layWorth c_M_layWorth 5 none 2 47 [.ref 50, vi ((s : Int)), vi (-1)] G none (lwG G N s (-1)) := by
  refine Ct.intro (by decide +kernel) (Nat.le_of_ble_eq_true rfl) ?_
  intro X hro hty hC hE
  obtain ⟨hn, hN5, hsh, hac, hpa, hwe, hth, hch⟩ := id hmm
  refine a_iload_n (pc := 0) (q := 2) (i := 2) (x := -1) hC (by decide +kernel) rfl 2 rfl ?_
  refine a_iconst (pc := 1) (c := -1) hC (by decide +kernel) ?_
  refine a_icmp_eq (pc := 2) (off := 12) hC 14 (by decide +kernel) (by decide) (by unfold inI; omega) (by unfold inI; omega) (fun c2 => ?_) (fun c2 => ?_)
  · skip
    refine a_aload_n (pc := 14) (q := 0) (i := 0) (x := 50) hC (by decide +kernel) rfl 0 rfl ?_
    refine a_iload_n (pc := 15) (q := 1) (i := 1) (x := (s : Int)) hC (by decide +kernel) rfl 1 rfl ?_
    refine a_iload_n (pc := 16) (q := 2) (i := 2) (x := -1) hC (by decide +kernel) rfl 2 rfl ?_
    refine a_iconst (pc := 17) (c := -1) hC (by decide +kernel) ?_
    refine a_icmp_ne (pc := 18) (off := 7) hC 25 (by decide +kernel) (by decide) (by unfold inI; omega) (by unfold inI; omega) (fun c18 => ?_) (fun c18 => ?_)
    · skip
      exact absurd rfl c18
    · skip
      refine a_lconst (pc := 21) (c := 0) (z := 0) hC (by decide +kernel) rfl ?_
      refine a_goto (pc := 22) (off := 14) hC 36 (by decide +kernel) (by decide) ?_
      refine g_callV0 (pc := 36) (idx := 105) (i := 50) (av := [vi ((s : Int)), vl 0]) (rest := []) (g := fixG G N s 0) hC hro hty (by decide +kernel) rfl rfl k_M_fix (by decide +kernel) (by decide +kernel) (by decide +kernel) (ct_M_fix X.la X.dd K G N s 0 (by omega) (by omega) hn) rfl rfl (by decide) (by first | decide | simp [Value.category]) ?_
      exact g_vret (pc := 39) hC hE (by decide +kernel) rfl
  · skip
    exact absurd rfl c2

set_option maxRecDepth 100000 in
set_option maxHeartbeats 4000000 in
theorem ct_M_layWorth (l : Launch) (D : va_G) (K : K5) (G : GT) (N s a : Nat) (hs : s < 5) (ha : a < 3) (hmm : MM G N) : Ct l D K y_M_layWorth c_M_layWorth 5 none 2 47 [.ref 50, vi ((s : Int)), vi ((a : Int))] G none (lwG G N s (a : Int)) := by
  refine Ct.intro (by decide +kernel) (Nat.le_of_ble_eq_true rfl) ?_
  intro X hro hty hC hE
  obtain ⟨hn, hN5, hsh, hac, hpa, hwe, hth, hch⟩ := id hmm
  have htt := totZ_in hmm hs ha 5 (by omega)
  have hps := hpa (3 * s + a) (by omega)
  have hlw : lwG G N s (a : Int) = if totZ G s a 5 = 0 then fixG G N s (G 53 (3 * s + a)) else uG (uG G 56 (lwF G s a N)) 57 (up (G 57) s (byZ G s a * G 53 (3 * s + a))) := by unfold lwG; rw [if_neg (by omega)]; rfl
  have hby : 0 ≤ byZ G s a ∧ byZ G s a ≤ 180 := by
    have := mul_in (x := totZ G s a 5) (y := G 50 8) (A := 30) (B := 6) (by omega) (by omega) (by decide)
    have h2 : 0 ≤ totZ G s a 5 * G 50 8 := Int.mul_nonneg htt.1 (by omega)
    unfold byZ; rw [Int.mul_comm]; omega
  refine a_iload_n (pc := 0) (q := 2) (i := 2) (x := (a : Int)) hC (by decide +kernel) rfl 2 rfl ?_
  refine a_iconst (pc := 1) (c := -1) hC (by decide +kernel) ?_
  refine a_icmp_eq (pc := 2) (off := 12) hC 14 (by decide +kernel) (by decide) (by unfold inI; omega) (by unfold inI; omega) (fun c2 => ?_) (fun c2 => ?_)
  · skip
    exact absurd c2 (by omega)
  · skip
    refine a_aload_n (pc := 5) (q := 0) (i := 0) (x := 50) hC (by decide +kernel) rfl 0 rfl ?_
    refine a_iload_n (pc := 6) (q := 1) (i := 1) (x := (s : Int)) hC (by decide +kernel) rfl 1 rfl ?_
    refine a_iload_n (pc := 7) (q := 2) (i := 2) (x := (a : Int)) hC (by decide +kernel) rfl 2 rfl ?_
    refine g_callV (pc := 8) (idx := 97) (i := 50) (av := [vi ((s : Int)), vi ((a : Int))]) (rest := []) (g := G) (v := vi (totZ G s a 5)) hC hro hty (by decide +kernel) rfl rfl k_M_total (by decide +kernel) (by decide +kernel) (by decide +kernel) (ct_M_total X.la X.dd K G s a (by omega) (by omega)) rfl rfl (by decide) (by first | decide | simp [Value.category]) ?_
    refine a_if_ne (pc := 11) (off := 29) hC 40 (by decide +kernel) (by decide) (by unfold inI; omega) (fun c11 => ?_) (fun c11 => ?_)
    · skip
      refine a_aload_n (pc := 40) (q := 0) (i := 0) (x := 50) hC (by decide +kernel) rfl 0 rfl ?_
      refine g_get (pc := 41) (idx := 30) (ci := 6) (v := vi (G 50 8)) hC 50 8 (by decide +kernel) rfl rfl rfl rfl wrM (by decide) rfl (by decide +kernel) ?_
      refine a_aload_n (pc := 44) (q := 0) (i := 0) (x := 50) hC (by decide +kernel) rfl 0 rfl ?_
      refine a_iload_n (pc := 45) (q := 1) (i := 1) (x := (s : Int)) hC (by decide +kernel) rfl 1 rfl ?_
      refine a_iload_n (pc := 46) (q := 2) (i := 2) (x := (a : Int)) hC (by decide +kernel) rfl 2 rfl ?_
      refine g_callV (pc := 47) (idx := 97) (i := 50) (av := [vi ((s : Int)), vi ((a : Int))]) (rest := [vi (G 50 8)]) (g := G) (v := vi (totZ G s a 5)) hC hro hty (by decide +kernel) rfl rfl k_M_total (by decide +kernel) (by decide +kernel) (by decide +kernel) (ct_M_total X.la X.dd K G s a (by omega) (by omega)) rfl rfl (by decide) (by first | decide | simp [Value.category]) ?_
      refine a_imul (pc := 50) hC (by decide +kernel) ?_
      refine g_top (y := byZ G s a) rfl ?_
      refine a_istore_n (pc := 51) (q := 3) (i := 3) (lv' := [(3, vi (byZ G s a)), (0, .ref 50), (1, vi ((s : Int))), (2, vi ((a : Int)))]) hC (by decide +kernel) rfl (by decide) rfl ?_
      refine a_iconst (pc := 52) (c := 0) hC (by decide +kernel) ?_
      refine a_istore (pc := 53) (q := 0) (i := 4) (lv' := [(4, vi 0), (3, vi (byZ G s a)), (0, .ref 50), (1, vi ((s : Int))), (2, vi ((a : Int)))]) hC (by decide +kernel) (by decide) rfl ?_
      have L55 : ∀ (fuel : Nat) (t : Nat), N - t < fuel → t ≤ N → AW X 5 0 0 55 [(4, vi ((t : Int))), (3, vi (byZ G s a)), (0, .ref 50), (1, vi ((s : Int))), (2, vi ((a : Int)))] [] (hp K (uG G 56 (lwF G s a t))) := by
        intro fuel
        induction fuel with
        | zero => intro t h; exact absurd h (Nat.not_lt_zero _)
        | succ fuel ih55 =>
          intro t hm ht
          refine a_iload (pc := 55) (i := 4) (x := (t : Int)) hC (by decide +kernel) 0 rfl ?_
          refine a_aload_n (pc := 57) (q := 0) (i := 0) (x := 50) hC (by decide +kernel) rfl 2 rfl ?_
          refine g_get (pc := 58) (idx := 72) (ci := 6) (v := vi ((uG G 56 (lwF G s a t)) 50 1)) hC 50 1 (by decide +kernel) rfl rfl rfl rfl wrM (by decide) rfl (by decide +kernel) ?_
          refine g_top (y := (N : Int)) (by rw [uG_n _ _ (by decide)]; exact hn) ?_
          refine a_icmp_ge (pc := 61) (off := 46) hC 107 (by decide +kernel) (by decide) (by unfold inI; omega) (by unfold inI; omega) (fun c61 => ?_) (fun c61 => ?_)
          · skip
            refine a_aload_n (pc := 107) (q := 0) (i := 0) (x := 50) hC (by decide +kernel) rfl 2 rfl ?_
            refine g_get (pc := 108) (idx := 41) (ci := 6) (v := .ref 57) hC 50 12 (by decide +kernel) rfl rfl rfl rfl wrM (by decide) rfl (by decide +kernel) ?_
            refine a_iload_n (pc := 111) (q := 1) (i := 1) (x := (s : Int)) hC (by decide +kernel) rfl 3 rfl ?_
            refine a_iload_n (pc := 112) (q := 3) (i := 3) (x := byZ G s a) hC (by decide +kernel) rfl 1 rfl ?_
            refine a_i2l (pc := 113) hC (by decide +kernel) (by unfold inI; omega) ?_
            refine a_aload_n (pc := 114) (q := 0) (i := 0) (x := 50) hC (by decide +kernel) rfl 2 rfl ?_
            refine g_get (pc := 115) (idx := 17) (ci := 6) (v := .ref 53) hC 50 4 (by decide +kernel) rfl rfl rfl rfl wrM (by decide) rfl (by decide +kernel) ?_
            refine a_iconst (pc := 118) (c := 3) hC (by decide +kernel) ?_
            refine a_iload_n (pc := 119) (q := 1) (i := 1) (x := (s : Int)) hC (by decide +kernel) rfl 3 rfl ?_
            refine a_imul (pc := 120) hC (by decide +kernel) ?_
            refine a_iload_n (pc := 121) (q := 2) (i := 2) (x := (a : Int)) hC (by decide +kernel) rfl 4 rfl ?_
            refine a_iadd (pc := 122) hC (by decide +kernel) ?_
            refine g_top (y := ((3 * s + a : Nat) : Int)) (by omega) ?_
            refine g_iald (pc := 123) (a := 53) (j := 3 * s + a) hC hty (by decide +kernel) rfl (by omega) (by first | decide | omega) ?_
            refine g_top (y := G 53 (3 * s + a)) (by rw [uG_n _ _ (by decide)]) ?_
            refine a_i2l (pc := 124) hC (by decide +kernel) (by unfold inI; omega) ?_
            refine a_lmul (pc := 125) hC (by decide +kernel) ?_
            refine g_last (pc := 126) (a := 57) (j := s) (x := (byZ G s a) * (G 53 (3 * s + a))) hC hty (by decide +kernel) rfl (by omega) (by first | decide | omega) ?_
            exact g_vret (pc := 127) hC hE (by decide +kernel) (by rw [hlw, if_neg c11, show t = N by omega]; rfl)
          · skip
            have hwt := hwe (wIx s a t) (by unfold wIx; omega)
            have hmu := mul_in (x := G 54 (wIx s a t)) (y := G 50 7) (A := 6) (B := 6) (by omega) (by omega) (by decide)
            have hmu2 : G 50 7 * G 54 (wIx s a t) = G 54 (wIx s a t) * G 50 7 := Int.mul_comm _ _
            refine a_aload_n (pc := 64) (q := 0) (i := 0) (x := 50) hC (by decide +kernel) rfl 2 rfl ?_
            refine g_get (pc := 65) (idx := 37) (ci := 6) (v := .ref 56) hC 50 11 (by decide +kernel) rfl rfl rfl rfl wrM (by decide) rfl (by decide +kernel) ?_
            refine a_iconst (pc := 68) (c := 5) hC (by decide +kernel) ?_
            refine a_iload_n (pc := 69) (q := 1) (i := 1) (x := (s : Int)) hC (by decide +kernel) rfl 3 rfl ?_
            refine a_imul (pc := 70) hC (by decide +kernel) ?_
            refine a_iload (pc := 71) (i := 4) (x := (t : Int)) hC (by decide +kernel) 0 rfl ?_
            refine a_iadd (pc := 73) hC (by decide +kernel) ?_
            refine a_iload (pc := 74) (i := 4) (x := (t : Int)) hC (by decide +kernel) 0 rfl ?_
            refine a_iload_n (pc := 76) (q := 1) (i := 1) (x := (s : Int)) hC (by decide +kernel) rfl 3 rfl ?_
            refine a_icmp_ne (pc := 77) (off := 7) hC 84 (by decide +kernel) (by decide) (by unfold inI; omega) (by unfold inI; omega) (fun c77 => ?_) (fun c77 => ?_)
            · skip
              refine a_iconst (pc := 84) (c := 0) hC (by decide +kernel) ?_
              refine a_aload_n (pc := 85) (q := 0) (i := 0) (x := 50) hC (by decide +kernel) rfl 2 rfl ?_
              refine g_get (pc := 86) (idx := 26) (ci := 6) (v := vi ((uG G 56 (lwF G s a t)) 50 7)) hC 50 7 (by decide +kernel) rfl rfl rfl rfl wrM (by decide) rfl (by decide +kernel) ?_
              refine g_top (y := G 50 7) (by rw [uG_n _ _ (by decide)]) ?_
              refine a_aload_n (pc := 89) (q := 0) (i := 0) (x := 50) hC (by decide +kernel) rfl 2 rfl ?_
              refine a_iload_n (pc := 90) (q := 1) (i := 1) (x := (s : Int)) hC (by decide +kernel) rfl 3 rfl ?_
              refine a_iload_n (pc := 91) (q := 2) (i := 2) (x := (a : Int)) hC (by decide +kernel) rfl 4 rfl ?_
              refine a_iload (pc := 92) (i := 4) (x := (t : Int)) hC (by decide +kernel) 0 rfl ?_
              refine g_callV (pc := 94) (idx := 83) (i := 50) (av := [vi ((s : Int)), vi ((a : Int)), vi ((t : Int))]) (rest := [vi (G 50 7), vi 0, vi ((5 * ((s : Int))) + ((t : Int))), .ref 56]) (g := uG G 56 (lwF G s a t)) (v := vi ((uG G 56 (lwF G s a t)) 54 (wIx s a t))) hC hro hty (by decide +kernel) rfl rfl k_M_weightOf (by decide +kernel) (by decide +kernel) (by decide +kernel) (ct_M_weightOf X.la X.dd K (uG G 56 (lwF G s a t)) s a t (by omega) (by omega) (by omega)) rfl rfl (by decide) (by first | decide | simp [Value.category]) ?_
              refine g_top (y := G 54 (wIx s a t)) (by rw [uG_n _ _ (by decide)]) ?_
              refine a_imul (pc := 97) hC (by decide +kernel) ?_
              refine a_isub (pc := 98) hC (by decide +kernel) ?_
              refine g_top (y := lwX G s a t) (by unfold lwX; first | rw [if_pos (by omega)] | rw [if_neg (by omega)]) ?_
              refine a_i2l (pc := 99) hC (by decide +kernel) (by unfold inI lwX; split <;> omega) ?_
              refine g_snd (y := ((5 * s + t : Nat) : Int)) (by omega) ?_
              refine g_last (pc := 100) (a := 56) (j := 5 * s + t) (x := lwX G s a t) hC hty (by decide +kernel) rfl (by omega) (by first | decide | omega) ?_
              refine a_iinc (pc := 101) (i := 4) (c := 1) (x := (t : Int)) (lv' := [(4, vi (((t : Int)) + 1)), (3, vi (byZ G s a)), (0, .ref 50), (1, vi ((s : Int))), (2, vi ((a : Int)))]) hC (by decide +kernel) 0 rfl (by decide) rfl ?_
              refine a_goto (pc := 104) (off := -49) hC 55 (by decide +kernel) (by decide) ?_
              refine a_sub (lv' := [(4, vi (((t + 1) : Int))), (3, vi (byZ G s a)), (0, .ref 50), (1, vi ((s : Int))), (2, vi ((a : Int)))]) [0, 1, 2, 3, 4] rfl ?_
              refine g_G (G' := uG G 56 (lwF G s a (t + 1))) (by rw [uG_s, uG_uG, lwF_s]) ?_
              exact ih55 (t + 1) (by omega) (by omega)
            · skip
              refine a_iload_n (pc := 80) (q := 3) (i := 3) (x := byZ G s a) hC (by decide +kernel) rfl 1 rfl ?_
              refine a_goto (pc := 81) (off := 4) hC 85 (by decide +kernel) (by decide) ?_
              refine a_aload_n (pc := 85) (q := 0) (i := 0) (x := 50) hC (by decide +kernel) rfl 2 rfl ?_
              refine g_get (pc := 86) (idx := 26) (ci := 6) (v := vi ((uG G 56 (lwF G s a t)) 50 7)) hC 50 7 (by decide +kernel) rfl rfl rfl rfl wrM (by decide) rfl (by decide +kernel) ?_
              refine g_top (y := G 50 7) (by rw [uG_n _ _ (by decide)]) ?_
              refine a_aload_n (pc := 89) (q := 0) (i := 0) (x := 50) hC (by decide +kernel) rfl 2 rfl ?_
              refine a_iload_n (pc := 90) (q := 1) (i := 1) (x := (s : Int)) hC (by decide +kernel) rfl 3 rfl ?_
              refine a_iload_n (pc := 91) (q := 2) (i := 2) (x := (a : Int)) hC (by decide +kernel) rfl 4 rfl ?_
              refine a_iload (pc := 92) (i := 4) (x := (t : Int)) hC (by decide +kernel) 0 rfl ?_
              refine g_callV (pc := 94) (idx := 83) (i := 50) (av := [vi ((s : Int)), vi ((a : Int)), vi ((t : Int))]) (rest := [vi (G 50 7), vi (byZ G s a), vi ((5 * ((s : Int))) + ((t : Int))), .ref 56]) (g := uG G 56 (lwF G s a t)) (v := vi ((uG G 56 (lwF G s a t)) 54 (wIx s a t))) hC hro hty (by decide +kernel) rfl rfl k_M_weightOf (by decide +kernel) (by decide +kernel) (by decide +kernel) (ct_M_weightOf X.la X.dd K (uG G 56 (lwF G s a t)) s a t (by omega) (by omega) (by omega)) rfl rfl (by decide) (by first | decide | simp [Value.category]) ?_
              refine g_top (y := G 54 (wIx s a t)) (by rw [uG_n _ _ (by decide)]) ?_
              refine a_imul (pc := 97) hC (by decide +kernel) ?_
              refine a_isub (pc := 98) hC (by decide +kernel) ?_
              refine g_top (y := lwX G s a t) (by unfold lwX; first | rw [if_pos (by omega)] | rw [if_neg (by omega)]) ?_
              refine a_i2l (pc := 99) hC (by decide +kernel) (by unfold inI lwX; split <;> omega) ?_
              refine g_snd (y := ((5 * s + t : Nat) : Int)) (by omega) ?_
              refine g_last (pc := 100) (a := 56) (j := 5 * s + t) (x := lwX G s a t) hC hty (by decide +kernel) rfl (by omega) (by first | decide | omega) ?_
              refine a_iinc (pc := 101) (i := 4) (c := 1) (x := (t : Int)) (lv' := [(4, vi (((t : Int)) + 1)), (3, vi (byZ G s a)), (0, .ref 50), (1, vi ((s : Int))), (2, vi ((a : Int)))]) hC (by decide +kernel) 0 rfl (by decide) rfl ?_
              refine a_goto (pc := 104) (off := -49) hC 55 (by decide +kernel) (by decide) ?_
              refine a_sub (lv' := [(4, vi (((t + 1) : Int))), (3, vi (byZ G s a)), (0, .ref 50), (1, vi ((s : Int))), (2, vi ((a : Int)))]) [0, 1, 2, 3, 4] rfl ?_
              refine g_G (G' := uG G 56 (lwF G s a (t + 1))) (by rw [uG_s, uG_uG, lwF_s]) ?_
              exact ih55 (t + 1) (by omega) (by omega)
      refine a_sub (lv' := [(4, vi ((0 : Int))), (3, vi (byZ G s a)), (0, .ref 50), (1, vi ((s : Int))), (2, vi ((a : Int)))]) [0, 1, 2, 3, 4] rfl ?_
      refine g_G (G' := uG G 56 (lwF G s a 0)) (by rw [lwF_0, uG_self]) ?_
      exact L55 _ 0 (Nat.lt_succ_self _) (by omega)
    · skip
      refine a_aload_n (pc := 14) (q := 0) (i := 0) (x := 50) hC (by decide +kernel) rfl 0 rfl ?_
      refine a_iload_n (pc := 15) (q := 1) (i := 1) (x := (s : Int)) hC (by decide +kernel) rfl 1 rfl ?_
      refine a_iload_n (pc := 16) (q := 2) (i := 2) (x := (a : Int)) hC (by decide +kernel) rfl 2 rfl ?_
      refine a_iconst (pc := 17) (c := -1) hC (by decide +kernel) ?_
      refine a_icmp_ne (pc := 18) (off := 7) hC 25 (by decide +kernel) (by decide) (by unfold inI; omega) (by unfold inI; omega) (fun c18 => ?_) (fun c18 => ?_)
      · skip
        refine a_aload_n (pc := 25) (q := 0) (i := 0) (x := 50) hC (by decide +kernel) rfl 0 rfl ?_
        refine g_get (pc := 26) (idx := 17) (ci := 6) (v := .ref 53) hC 50 4 (by decide +kernel) rfl rfl rfl rfl wrM (by decide) rfl (by decide +kernel) ?_
        refine a_iconst (pc := 29) (c := 3) hC (by decide +kernel) ?_
        refine a_iload_n (pc := 30) (q := 1) (i := 1) (x := (s : Int)) hC (by decide +kernel) rfl 1 rfl ?_
        refine a_imul (pc := 31) hC (by decide +kernel) ?_
        refine a_iload_n (pc := 32) (q := 2) (i := 2) (x := (a : Int)) hC (by decide +kernel) rfl 2 rfl ?_
        refine a_iadd (pc := 33) hC (by decide +kernel) ?_
        refine g_top (y := ((3 * s + a : Nat) : Int)) (by omega) ?_
        refine g_iald (pc := 34) (a := 53) (j := 3 * s + a) hC hty (by decide +kernel) rfl (by omega) (by first | decide | omega) ?_
        refine a_i2l (pc := 35) hC (by decide +kernel) (by unfold inI; omega) ?_
        refine g_callV0 (pc := 36) (idx := 105) (i := 50) (av := [vi ((s : Int)), vl (G 53 (3 * s + a))]) (rest := []) (g := fixG G N s (G 53 (3 * s + a))) hC hro hty (by decide +kernel) rfl rfl k_M_fix (by decide +kernel) (by decide +kernel) (by decide +kernel) (ct_M_fix X.la X.dd K G N s (G 53 (3 * s + a)) (by omega) (by omega) hn) rfl rfl (by decide) (by first | decide | simp [Value.category]) ?_
        exact g_vret (pc := 39) hC hE (by decide +kernel) (by rw [hlw, if_pos c11])
      · skip
        exact absurd c18 (by omega)
end
section
/-! the reference: weight, the told plan's number, the determinant -/
def iniF (f : Nat → Int) (j : Nat) : Nat → Int := fun z => if z < j then (if z = 0 then 1 else 0) else f z
theorem iniF_0 (f : Nat → Int) : iniF f 0 = f := by funext j; exact if_neg (by omega)
theorem iniF_s (f : Nat → Int) (t : Nat) (x : Int) (hx : x = if t = 0 then 1 else 0) : up (iniF f t) t x = iniF f (t + 1) := by
  funext j; unfold up iniF
  by_cases h : j = t
  · subst h; rw [if_pos rfl, if_pos (show j < j + 1 by omega), hx]
  · rw [if_neg h]
    have e : (j < t + 1) ↔ (j < t) := by omega
    simp only [e]
def orN (m t : Nat) : Nat := m ||| 2 ^ t
theorem orN_lt0 : ∀ m, m < 32 → ∀ t, t < 5 → m ||| 2 ^ t < 32 := by decide +kernel
theorem orN_lt {m t : Nat} (hm : m < 32) (ht : t < 5) : orN m t < 32 := orN_lt0 m hm t ht
theorem or_nat {m t : Nat} : iZ (m : Int) ||| iZ ((pw t : Nat) : Int) = iZ ((orN m t : Nat) : Int) := by
  rw [iZ_or (by omega) (by omega)]; unfold orZ; rw [Int.toNat_natCast, Int.toNat_natCast]; rfl
theorem mn4 : ∀ m, m < 32 → ∀ t, t < 5 → bt2 m t = 0 → mnS m 5 ≤ 4 := by decide +kernel
theorem pw_1 (k : Nat) : 1 ≤ pw k := Nat.two_pow_pos k
def alX (G : GT) (pl : Int) (m t : Nat) : Int := if (t : Int) = pl then G 57 (mnS m 5).toNat else G 56 (5 * (mnS m 5).toNat + t)
def sgZ (m t : Nat) (v : Int) : Int := if Int.tmod (mnS (sr m t) 5) 2 = 1 then -v else v
def aT (G : GT) (pl : Int) (m : Nat) (f : Nat → Int) : Nat → Nat → Int
  | 0 => f
  | t + 1 => if bt2 m t = 0 then up (aT G pl m f t) (orN m t) ((aT G pl m f t (orN m t)) + (sgZ m t ((aT G pl m f t m) * (alX G pl m t)))) else aT G pl m f t
def aS (G : GT) (pl : Int) (N : Nat) : Nat → Nat → Int
  | 0 => iniF (G 58) 32
  | m + 1 => aT G pl m (aS G pl N m) N
def allZ (G : GT) (pl : Int) (N : Nat) : Int := aS G pl N (pw N - 1) (pw N - 1)
def alG (G : GT) (pl : Int) (N : Nat) : GT := uG G 58 (aS G pl N (pw N - 1))

set_option maxRecDepth 100000 in
set_option maxHeartbeats 4000000 in
theorem ct_M_share_bad (l : Launch) (D : va_G) (K : K5) (G : GT) (u d : Int) (hui : inI u) (hdi : inI d) (hbad : d < 1 ∨ 6 < d ∨ u < 0 ∨ d ≤ u) : Ct l D K y_M_share c_M_share 3 (some .int) 1 25 [.ref 50, vi u, vi d] G (some (vi (-2))) (m0 G) := by
  refine Ct.intro (by decide +kernel) (Nat.le_of_ble_eq_true rfl) ?_
  intro X hro hty hC hE
  unfold inI at hui hdi
  refine a_aload_n (pc := 0) (q := 0) (i := 0) (x := 50) hC (by decide +kernel) rfl 0 rfl ?_
  refine a_iconst (pc := 1) (c := 0) hC (by decide +kernel) ?_
  refine g_put (pc := 2) (idx := 62) (ci := 6) (x := 0) hC 50 0 (by decide +kernel) rfl rfl (congrArg (fun z => vi z) (up_s _ _ _)) rfl wrM (by decide) rfl (by decide +kernel) rfl (ok_int _) ?_
  refine g_G (G' := m0 G) rfl ?_
  refine a_iload_n (pc := 5) (q := 2) (i := 2) (x := d) hC (by decide +kernel) rfl 2 rfl ?_
  refine a_i2l (pc := 6) hC (by decide +kernel) (by unfold inI; omega) ?_
  refine a_lconst (pc := 7) (c := 1) (z := 1) hC (by decide +kernel) rfl ?_
  refine a_ldc2 (pc := 8) (idx := 95) (z := 6) (v := 6) hC (by decide +kernel) (by decide +kernel) rfl ?_
  refine g_callS (pc := 11) (idx := 75) (av := [vl d, vl 1, vl 6]) (rest := []) (g := m0 G) (v := vi (inZ d 1 6)) hC hro hty (by decide +kernel) k_M_in (by decide +kernel) (by decide +kernel) (ct_M_in X.la X.dd K (m0 G) d 1 6 (by unfold inL; omega) (by unfold inL; omega) (by unfold inL; omega)) rfl rfl (by decide) (by first | decide | simp [Value.category]) ?_
  refine a_if_eq (pc := 14) (off := 16) hC 30 (by decide +kernel) (by decide) (by unfold inI; have := inZ_01 d 1 6; omega) (fun c14 => ?_) (fun c14 => ?_)
  · skip
    refine a_bipush (pc := 30) (c := -2) hC (by decide +kernel) (by decide +kernel) ?_
    exact g_iret (pc := 32) hC hE (by decide +kernel) rfl rfl
  · skip
    have hd6 : 1 ≤ d ∧ d ≤ 6 := by unfold inZ at c14; split at c14 <;> omega
    refine a_iload_n (pc := 17) (q := 1) (i := 1) (x := u) hC (by decide +kernel) rfl 1 rfl ?_
    refine a_i2l (pc := 18) hC (by decide +kernel) (by unfold inI; omega) ?_
    refine a_lconst (pc := 19) (c := 0) (z := 0) hC (by decide +kernel) rfl ?_
    refine a_iload_n (pc := 20) (q := 2) (i := 2) (x := d) hC (by decide +kernel) rfl 2 rfl ?_
    refine a_iconst (pc := 21) (c := 1) hC (by decide +kernel) ?_
    refine a_isub (pc := 22) hC (by decide +kernel) ?_
    refine a_i2l (pc := 23) hC (by decide +kernel) (by unfold inI; omega) ?_
    refine g_callS (pc := 24) (idx := 75) (av := [vl u, vl 0, vl (d - 1)]) (rest := []) (g := m0 G) (v := vi (inZ u 0 (d - 1))) hC hro hty (by decide +kernel) k_M_in (by decide +kernel) (by decide +kernel) (ct_M_in X.la X.dd K (m0 G) u 0 (d - 1) (by unfold inL; omega) (by unfold inL; omega) (by unfold inL; omega)) rfl rfl (by decide) (by first | decide | simp [Value.category]) ?_
    refine a_if_ne (pc := 27) (off := 6) hC 33 (by decide +kernel) (by decide) (by unfold inI; have := inZ_01 u 0 (d - 1); omega) (fun c27 => ?_) (fun c27 => ?_)
    · skip
      exact absurd hbad (by unfold inZ at c14 c27; split at c14 <;> split at c27 <;> omega)
    · skip
      refine a_bipush (pc := 30) (c := -2) hC (by decide +kernel) (by decide +kernel) ?_
      exact g_iret (pc := 32) hC hE (by decide +kernel) rfl rfl

set_option maxRecDepth 100000 in
set_option maxHeartbeats 4000000 in
theorem ct_M_weight_no (l : Launch) (D : va_G) (K : K5) (G : GT) (N : Nat) (s a t x : Int) (hsi : inI s) (hai : inI a) (hti : inI t) (hxi : inI x) (hmm : MM G N) (hno : mA G s a = 0 ∨ mS G t = 0) : Ct l D K y_M_weight c_M_weight 6 (some .int) 3 68 [.ref 50, vi s, vi a, vi t, vi x] G (some (vi (-1))) (m0 G) := by
  refine Ct.intro (by decide +kernel) (Nat.le_of_ble_eq_true rfl) ?_
  intro X hro hty hC hE
  obtain ⟨hn, hN5, hsh, hac, hpa, hwe, hth, hch⟩ := id hmm
  refine a_aload_n (pc := 0) (q := 0) (i := 0) (x := 50) hC (by decide +kernel) rfl 0 rfl ?_
  refine a_iconst (pc := 1) (c := 0) hC (by decide +kernel) ?_
  refine g_put (pc := 2) (idx := 62) (ci := 6) (x := 0) hC 50 0 (by decide +kernel) rfl rfl (congrArg (fun z => vi z) (up_s _ _ _)) rfl wrM (by decide) rfl (by decide +kernel) rfl (ok_int _) ?_
  refine g_G (G' := m0 G) rfl ?_
  refine a_aload_n (pc := 5) (q := 0) (i := 0) (x := 50) hC (by decide +kernel) rfl 0 rfl ?_
  refine a_iload_n (pc := 6) (q := 1) (i := 1) (x := s) hC (by decide +kernel) rfl 1 rfl ?_
  refine a_iload_n (pc := 7) (q := 2) (i := 2) (x := a) hC (by decide +kernel) rfl 2 rfl ?_
  refine g_callV (pc := 8) (idx := 91) (i := 50) (av := [vi s, vi a]) (rest := []) (g := m0 G) (v := vi (mA (m0 G) s a)) hC hro hty (by decide +kernel) rfl rfl k_M_isAct (by decide +kernel) (by decide +kernel) (by decide +kernel) (ct_M_isAct X.la X.dd K (m0 G) N s a hsi hai hmm.m0) rfl rfl (by decide) (by first | decide | simp [Value.category]) ?_
  refine g_top (y := mA G s a) (mA_m0 _ _ _) ?_
  refine a_if_eq (pc := 11) (off := 11) hC 22 (by decide +kernel) (by decide) (by unfold inI; have := mA_01 G s a; omega) (fun c11 => ?_) (fun c11 => ?_)
  · skip
    refine a_iconst (pc := 22) (c := -1) hC (by decide +kernel) ?_
    exact g_iret (pc := 23) hC hE (by decide +kernel) rfl rfl
  · skip
    refine a_aload_n (pc := 14) (q := 0) (i := 0) (x := 50) hC (by decide +kernel) rfl 0 rfl ?_
    refine a_iload_n (pc := 15) (q := 3) (i := 3) (x := t) hC (by decide +kernel) rfl 3 rfl ?_
    refine g_callV (pc := 16) (idx := 79) (i := 50) (av := [vi t]) (rest := []) (g := m0 G) (v := vi (mS (m0 G) t)) hC hro hty (by decide +kernel) rfl rfl k_M_isState (by decide +kernel) (by decide +kernel) (by decide +kernel) (ct_M_isState X.la X.dd K (m0 G) N t hti hmm.m0) rfl rfl (by decide) (by first | decide | simp [Value.category]) ?_
    refine g_top (y := mS G t) (mS_m0 _ _) ?_
    refine a_if_ne (pc := 19) (off := 5) hC 24 (by decide +kernel) (by decide) (by unfold inI; have := mS_01 G t; omega) (fun c19 => ?_) (fun c19 => ?_)
    · skip
      exact hno.elim (fun h => absurd h c11) (fun h => absurd h c19)
    · skip
      refine a_iconst (pc := 22) (c := -1) hC (by decide +kernel) ?_
      exact g_iret (pc := 23) hC hE (by decide +kernel) rfl rfl

set_option maxRecDepth 100000 in
set_option maxHeartbeats 4000000 in
theorem ct_M_weight_bad (l : Launch) (D : va_G) (K : K5) (G : GT) (N s a t : Nat) (x : Int) (hs : s < N) (ha : (a : Int) < G 52 s) (ht : t < N) (hxi : inI x) (hmm : MM G N) (hbad : x < 0 ∨ 6 < x ∨ 6 < totZ G s a 5 - G 54 (wIx s a t) + x) : Ct l D K y_M_weight c_M_weight 6 (some .int) 3 68 [.ref 50, vi ((s : Int)), vi ((a : Int)), vi ((t : Int)), vi x] G (some (vi (-2))) (m0 G) := by
  refine Ct.intro (by decide +kernel) (Nat.le_of_ble_eq_true rfl) ?_
  intro X hro hty hC hE
  obtain ⟨hn, hN5, hsh, hac, hpa, hwe, hth, hch⟩ := id hmm
  have ha3 := hac s (by omega)
  have ha2 : a < 3 := by omega
  unfold inI at hxi
  have hwt := hwe (wIx s a t) (by unfold wIx; omega)
  have htt := totZ_in hmm (by omega : s < 5) ha2 5 (by omega)
  have h06 := inZ_01 x 0 6
  refine a_aload_n (pc := 0) (q := 0) (i := 0) (x := 50) hC (by decide +kernel) rfl 0 rfl ?_
  refine a_iconst (pc := 1) (c := 0) hC (by decide +kernel) ?_
  refine g_put (pc := 2) (idx := 62) (ci := 6) (x := 0) hC 50 0 (by decide +kernel) rfl rfl (congrArg (fun z => vi z) (up_s _ _ _)) rfl wrM (by decide) rfl (by decide +kernel) rfl (ok_int _) ?_
  refine g_G (G' := m0 G) rfl ?_
  refine a_aload_n (pc := 5) (q := 0) (i := 0) (x := 50) hC (by decide +kernel) rfl 0 rfl ?_
  refine a_iload_n (pc := 6) (q := 1) (i := 1) (x := (s : Int)) hC (by decide +kernel) rfl 1 rfl ?_
  refine a_iload_n (pc := 7) (q := 2) (i := 2) (x := (a : Int)) hC (by decide +kernel) rfl 2 rfl ?_
  refine g_callV (pc := 8) (idx := 91) (i := 50) (av := [vi ((s : Int)), vi ((a : Int))]) (rest := []) (g := m0 G) (v := vi (mA (m0 G) ((s : Int)) ((a : Int)))) hC hro hty (by decide +kernel) rfl rfl k_M_isAct (by decide +kernel) (by decide +kernel) (by decide +kernel) (ct_M_isAct X.la X.dd K (m0 G) N ((s : Int)) ((a : Int)) (by unfold inI; omega) (by unfold inI; omega) hmm.m0) rfl rfl (by decide) (by first | decide | simp [Value.category]) ?_
  refine g_top (y := 1) (by rw [mA_m0]; exact mA_ok hmm hs ha) ?_
  refine a_if_eq (pc := 11) (off := 11) hC 22 (by decide +kernel) (by decide) (by unfold inI; omega) (fun c11 => ?_) (fun c11 => ?_)
  · skip
    exact absurd c11 (by decide)
  · skip
    refine a_aload_n (pc := 14) (q := 0) (i := 0) (x := 50) hC (by decide +kernel) rfl 0 rfl ?_
    refine a_iload_n (pc := 15) (q := 3) (i := 3) (x := (t : Int)) hC (by decide +kernel) rfl 3 rfl ?_
    refine g_callV (pc := 16) (idx := 79) (i := 50) (av := [vi ((t : Int))]) (rest := []) (g := m0 G) (v := vi (mS (m0 G) ((t : Int)))) hC hro hty (by decide +kernel) rfl rfl k_M_isState (by decide +kernel) (by decide +kernel) (by decide +kernel) (ct_M_isState X.la X.dd K (m0 G) N ((t : Int)) (by unfold inI; omega) hmm.m0) rfl rfl (by decide) (by first | decide | simp [Value.category]) ?_
    refine g_top (y := 1) (by rw [mS_m0]; exact mS_ok hmm ht) ?_
    refine a_if_ne (pc := 19) (off := 5) hC 24 (by decide +kernel) (by decide) (by unfold inI; omega) (fun c19 => ?_) (fun c19 => ?_)
    · skip
      refine a_aload_n (pc := 24) (q := 0) (i := 0) (x := 50) hC (by decide +kernel) rfl 0 rfl ?_
      refine a_iload_n (pc := 25) (q := 1) (i := 1) (x := (s : Int)) hC (by decide +kernel) rfl 1 rfl ?_
      refine a_iload_n (pc := 26) (q := 2) (i := 2) (x := (a : Int)) hC (by decide +kernel) rfl 2 rfl ?_
      refine a_iload_n (pc := 27) (q := 3) (i := 3) (x := (t : Int)) hC (by decide +kernel) rfl 3 rfl ?_
      refine g_callV (pc := 28) (idx := 83) (i := 50) (av := [vi ((s : Int)), vi ((a : Int)), vi ((t : Int))]) (rest := []) (g := m0 G) (v := vi ((m0 G) 54 (wIx s a t))) hC hro hty (by decide +kernel) rfl rfl k_M_weightOf (by decide +kernel) (by decide +kernel) (by decide +kernel) (ct_M_weightOf X.la X.dd K (m0 G) s a t (by omega) (by omega) (by omega)) rfl rfl (by decide) (by first | decide | simp [Value.category]) ?_
      refine g_top (y := G 54 (wIx s a t)) (by rw [m0_n (by decide)]) ?_
      refine a_istore (pc := 31) (q := 0) (i := 5) (lv' := [(5, vi (G 54 (wIx s a t))), (0, .ref 50), (1, vi ((s : Int))), (2, vi ((a : Int))), (3, vi ((t : Int))), (4, vi x)]) hC (by decide +kernel) (by decide) rfl ?_
      refine a_iload (pc := 33) (i := 4) (x := x) hC (by decide +kernel) 5 rfl ?_
      refine a_i2l (pc := 35) hC (by decide +kernel) (by unfold inI; omega) ?_
      refine a_lconst (pc := 36) (c := 0) (z := 0) hC (by decide +kernel) rfl ?_
      refine a_ldc2 (pc := 37) (idx := 95) (z := 6) (v := 6) hC (by decide +kernel) (by decide +kernel) rfl ?_
      refine g_callS (pc := 40) (idx := 75) (av := [vl x, vl 0, vl 6]) (rest := []) (g := m0 G) (v := vi (inZ x 0 6)) hC hro hty (by decide +kernel) k_M_in (by decide +kernel) (by decide +kernel) (ct_M_in X.la X.dd K (m0 G) x 0 6 (by unfold inL; omega) (by unfold inL; omega) (by unfold inL; omega)) rfl rfl (by decide) (by first | decide | simp [Value.category]) ?_
      refine a_if_eq (pc := 43) (off := 20) hC 63 (by decide +kernel) (by decide) (by unfold inI; omega) (fun c43 => ?_) (fun c43 => ?_)
      · skip
        refine a_bipush (pc := 63) (c := -2) hC (by decide +kernel) (by decide +kernel) ?_
        exact g_iret (pc := 65) hC hE (by decide +kernel) rfl rfl
      · skip
        have hx6 : 0 ≤ x ∧ x ≤ 6 := by unfold inZ at c43; split at c43 <;> omega
        refine a_aload_n (pc := 46) (q := 0) (i := 0) (x := 50) hC (by decide +kernel) rfl 1 rfl ?_
        refine a_iload_n (pc := 47) (q := 1) (i := 1) (x := (s : Int)) hC (by decide +kernel) rfl 2 rfl ?_
        refine a_iload_n (pc := 48) (q := 2) (i := 2) (x := (a : Int)) hC (by decide +kernel) rfl 3 rfl ?_
        refine g_callV (pc := 49) (idx := 97) (i := 50) (av := [vi ((s : Int)), vi ((a : Int))]) (rest := []) (g := m0 G) (v := vi (totZ (m0 G) s a 5)) hC hro hty (by decide +kernel) rfl rfl k_M_total (by decide +kernel) (by decide +kernel) (by decide +kernel) (ct_M_total X.la X.dd K (m0 G) s a (by omega) (by omega)) rfl rfl (by decide) (by first | decide | simp [Value.category]) ?_
        refine g_top (y := totZ G s a 5) (totZ_congr (m0_n (by decide)) _ _ _) ?_
        refine a_iload (pc := 52) (i := 5) (x := G 54 (wIx s a t)) hC (by decide +kernel) 0 rfl ?_
        refine a_isub (pc := 54) hC (by decide +kernel) ?_
        refine a_iload (pc := 55) (i := 4) (x := x) hC (by decide +kernel) 5 rfl ?_
        refine a_iadd (pc := 57) hC (by decide +kernel) ?_
        refine a_bipush (pc := 58) (c := 6) hC (by decide +kernel) (by decide +kernel) ?_
        refine a_icmp_le (pc := 60) (off := 6) hC 66 (by decide +kernel) (by decide) (by unfold inI; omega) (by unfold inI; omega) (fun c60 => ?_) (fun c60 => ?_)
        · skip
          exact absurd hbad (by unfold inZ at c43; split at c43 <;> omega)
        · skip
          refine a_bipush (pc := 63) (c := -2) hC (by decide +kernel) (by decide +kernel) ?_
          exact g_iret (pc := 65) hC hE (by decide +kernel) rfl rfl
    · skip
      exact absurd c19 (by decide)

set_option maxRecDepth 100000 in
set_option maxHeartbeats 4000000 in
theorem ct_M_weight (l : Launch) (D : va_G) (K : K5) (G : GT) (N s a t : Nat) (x : Int) (hs : s < N) (ha : (a : Int) < G 52 s) (ht : t < N) (hxi : inI x) (hmm : MM G N) (hok : 0 ≤ x ∧ x ≤ 6 ∧ totZ G s a 5 - G 54 (wIx s a t) + x ≤ 6) : Ct l D K y_M_weight c_M_weight 6 (some .int) 3 68 [.ref 50, vi ((s : Int)), vi ((a : Int)), vi ((t : Int)), vi x] G (some (vi (G 54 (wIx s a t)))) (uG (m0 G) 54 (up (G 54) (wIx s a t) x)) := by
  refine Ct.intro (by decide +kernel) (Nat.le_of_ble_eq_true rfl) ?_
  intro X hro hty hC hE
  obtain ⟨hn, hN5, hsh, hac, hpa, hwe, hth, hch⟩ := id hmm
  have ha3 := hac s (by omega)
  have ha2 : a < 3 := by omega
  unfold inI at hxi
  have hwt := hwe (wIx s a t) (by unfold wIx; omega)
  have htt := totZ_in hmm (by omega : s < 5) ha2 5 (by omega)
  have h06 := inZ_01 x 0 6
  refine a_aload_n (pc := 0) (q := 0) (i := 0) (x := 50) hC (by decide +kernel) rfl 0 rfl ?_
  refine a_iconst (pc := 1) (c := 0) hC (by decide +kernel) ?_
  refine g_put (pc := 2) (idx := 62) (ci := 6) (x := 0) hC 50 0 (by decide +kernel) rfl rfl (congrArg (fun z => vi z) (up_s _ _ _)) rfl wrM (by decide) rfl (by decide +kernel) rfl (ok_int _) ?_
  refine g_G (G' := m0 G) rfl ?_
  refine a_aload_n (pc := 5) (q := 0) (i := 0) (x := 50) hC (by decide +kernel) rfl 0 rfl ?_
  refine a_iload_n (pc := 6) (q := 1) (i := 1) (x := (s : Int)) hC (by decide +kernel) rfl 1 rfl ?_
  refine a_iload_n (pc := 7) (q := 2) (i := 2) (x := (a : Int)) hC (by decide +kernel) rfl 2 rfl ?_
  refine g_callV (pc := 8) (idx := 91) (i := 50) (av := [vi ((s : Int)), vi ((a : Int))]) (rest := []) (g := m0 G) (v := vi (mA (m0 G) ((s : Int)) ((a : Int)))) hC hro hty (by decide +kernel) rfl rfl k_M_isAct (by decide +kernel) (by decide +kernel) (by decide +kernel) (ct_M_isAct X.la X.dd K (m0 G) N ((s : Int)) ((a : Int)) (by unfold inI; omega) (by unfold inI; omega) hmm.m0) rfl rfl (by decide) (by first | decide | simp [Value.category]) ?_
  refine g_top (y := 1) (by rw [mA_m0]; exact mA_ok hmm hs ha) ?_
  refine a_if_eq (pc := 11) (off := 11) hC 22 (by decide +kernel) (by decide) (by unfold inI; omega) (fun c11 => ?_) (fun c11 => ?_)
  · skip
    exact absurd c11 (by decide)
  · skip
    refine a_aload_n (pc := 14) (q := 0) (i := 0) (x := 50) hC (by decide +kernel) rfl 0 rfl ?_
    refine a_iload_n (pc := 15) (q := 3) (i := 3) (x := (t : Int)) hC (by decide +kernel) rfl 3 rfl ?_
    refine g_callV (pc := 16) (idx := 79) (i := 50) (av := [vi ((t : Int))]) (rest := []) (g := m0 G) (v := vi (mS (m0 G) ((t : Int)))) hC hro hty (by decide +kernel) rfl rfl k_M_isState (by decide +kernel) (by decide +kernel) (by decide +kernel) (ct_M_isState X.la X.dd K (m0 G) N ((t : Int)) (by unfold inI; omega) hmm.m0) rfl rfl (by decide) (by first | decide | simp [Value.category]) ?_
    refine g_top (y := 1) (by rw [mS_m0]; exact mS_ok hmm ht) ?_
    refine a_if_ne (pc := 19) (off := 5) hC 24 (by decide +kernel) (by decide) (by unfold inI; omega) (fun c19 => ?_) (fun c19 => ?_)
    · skip
      refine a_aload_n (pc := 24) (q := 0) (i := 0) (x := 50) hC (by decide +kernel) rfl 0 rfl ?_
      refine a_iload_n (pc := 25) (q := 1) (i := 1) (x := (s : Int)) hC (by decide +kernel) rfl 1 rfl ?_
      refine a_iload_n (pc := 26) (q := 2) (i := 2) (x := (a : Int)) hC (by decide +kernel) rfl 2 rfl ?_
      refine a_iload_n (pc := 27) (q := 3) (i := 3) (x := (t : Int)) hC (by decide +kernel) rfl 3 rfl ?_
      refine g_callV (pc := 28) (idx := 83) (i := 50) (av := [vi ((s : Int)), vi ((a : Int)), vi ((t : Int))]) (rest := []) (g := m0 G) (v := vi ((m0 G) 54 (wIx s a t))) hC hro hty (by decide +kernel) rfl rfl k_M_weightOf (by decide +kernel) (by decide +kernel) (by decide +kernel) (ct_M_weightOf X.la X.dd K (m0 G) s a t (by omega) (by omega) (by omega)) rfl rfl (by decide) (by first | decide | simp [Value.category]) ?_
      refine g_top (y := G 54 (wIx s a t)) (by rw [m0_n (by decide)]) ?_
      refine a_istore (pc := 31) (q := 0) (i := 5) (lv' := [(5, vi (G 54 (wIx s a t))), (0, .ref 50), (1, vi ((s : Int))), (2, vi ((a : Int))), (3, vi ((t : Int))), (4, vi x)]) hC (by decide +kernel) (by decide) rfl ?_
      refine a_iload (pc := 33) (i := 4) (x := x) hC (by decide +kernel) 5 rfl ?_
      refine a_i2l (pc := 35) hC (by decide +kernel) (by unfold inI; omega) ?_
      refine a_lconst (pc := 36) (c := 0) (z := 0) hC (by decide +kernel) rfl ?_
      refine a_ldc2 (pc := 37) (idx := 95) (z := 6) (v := 6) hC (by decide +kernel) (by decide +kernel) rfl ?_
      refine g_callS (pc := 40) (idx := 75) (av := [vl x, vl 0, vl 6]) (rest := []) (g := m0 G) (v := vi (inZ x 0 6)) hC hro hty (by decide +kernel) k_M_in (by decide +kernel) (by decide +kernel) (ct_M_in X.la X.dd K (m0 G) x 0 6 (by unfold inL; omega) (by unfold inL; omega) (by unfold inL; omega)) rfl rfl (by decide) (by first | decide | simp [Value.category]) ?_
      refine a_if_eq (pc := 43) (off := 20) hC 63 (by decide +kernel) (by decide) (by unfold inI; omega) (fun c43 => ?_) (fun c43 => ?_)
      · skip
        exact absurd c43 (by unfold inZ; rw [if_pos (by omega)]; decide)
      · skip
        refine a_aload_n (pc := 46) (q := 0) (i := 0) (x := 50) hC (by decide +kernel) rfl 1 rfl ?_
        refine a_iload_n (pc := 47) (q := 1) (i := 1) (x := (s : Int)) hC (by decide +kernel) rfl 2 rfl ?_
        refine a_iload_n (pc := 48) (q := 2) (i := 2) (x := (a : Int)) hC (by decide +kernel) rfl 3 rfl ?_
        refine g_callV (pc := 49) (idx := 97) (i := 50) (av := [vi ((s : Int)), vi ((a : Int))]) (rest := []) (g := m0 G) (v := vi (totZ (m0 G) s a 5)) hC hro hty (by decide +kernel) rfl rfl k_M_total (by decide +kernel) (by decide +kernel) (by decide +kernel) (ct_M_total X.la X.dd K (m0 G) s a (by omega) (by omega)) rfl rfl (by decide) (by first | decide | simp [Value.category]) ?_
        refine g_top (y := totZ G s a 5) (totZ_congr (m0_n (by decide)) _ _ _) ?_
        refine a_iload (pc := 52) (i := 5) (x := G 54 (wIx s a t)) hC (by decide +kernel) 0 rfl ?_
        refine a_isub (pc := 54) hC (by decide +kernel) ?_
        refine a_iload (pc := 55) (i := 4) (x := x) hC (by decide +kernel) 5 rfl ?_
        refine a_iadd (pc := 57) hC (by decide +kernel) ?_
        refine a_bipush (pc := 58) (c := 6) hC (by decide +kernel) (by decide +kernel) ?_
        refine a_icmp_le (pc := 60) (off := 6) hC 66 (by decide +kernel) (by decide) (by unfold inI; omega) (by unfold inI; omega) (fun c60 => ?_) (fun c60 => ?_)
        · skip
          refine a_aload_n (pc := 66) (q := 0) (i := 0) (x := 50) hC (by decide +kernel) rfl 1 rfl ?_
          refine g_get (pc := 67) (idx := 20) (ci := 6) (v := .ref 54) hC 50 5 (by decide +kernel) rfl rfl rfl rfl wrM (by decide) rfl (by decide +kernel) ?_
          refine a_bipush (pc := 70) (c := 15) hC (by decide +kernel) (by decide +kernel) ?_
          refine a_iload_n (pc := 72) (q := 1) (i := 1) (x := (s : Int)) hC (by decide +kernel) rfl 2 rfl ?_
          refine a_imul (pc := 73) hC (by decide +kernel) ?_
          refine a_iconst (pc := 74) (c := 5) hC (by decide +kernel) ?_
          refine a_iload_n (pc := 75) (q := 2) (i := 2) (x := (a : Int)) hC (by decide +kernel) rfl 3 rfl ?_
          refine a_imul (pc := 76) hC (by decide +kernel) ?_
          refine a_iadd (pc := 77) hC (by decide +kernel) ?_
          refine a_iload_n (pc := 78) (q := 3) (i := 3) (x := (t : Int)) hC (by decide +kernel) rfl 4 rfl ?_
          refine a_iadd (pc := 79) hC (by decide +kernel) ?_
          refine a_iload (pc := 80) (i := 4) (x := x) hC (by decide +kernel) 5 rfl ?_
          refine g_snd (y := ((wIx s a t : Nat) : Int)) (by unfold wIx; omega) ?_
          refine g_iast (pc := 82) (a := 54) (j := wIx s a t) (x := x) hC hty (by decide +kernel) rfl (by unfold wIx; omega) (by first | decide | omega) ?_
          refine a_iload (pc := 83) (i := 5) (x := G 54 (wIx s a t)) hC (by decide +kernel) 0 rfl ?_
          exact g_iret (pc := 85) hC hE (by decide +kernel) rfl (by rw [m0_n (a := 54) (by decide)])
        · skip
          exact absurd c60 (by omega)
    · skip
      exact absurd c19 (by decide)

set_option maxRecDepth 100000 in
set_option maxHeartbeats 4000000 in
theorem ct_M_toldPlan (l : Launch) (D : va_G) (K : K5) (G : GT) (N : Nat) (s a : Int) (hsi : inI s) (hmm : MM G N) : Ct l D K y_M_toldPlan c_M_toldPlan 6 (some .int) 0 0 [.ref 50, vi s, vi a] G (some (vi ((tpS G s a N).1))) G := by
  refine Ct.intro (by decide +kernel) (Nat.le_of_ble_eq_true rfl) ?_
  intro X hro hty hC hE
  obtain ⟨hn, hN5, hsh, hac, hpa, hwe, hth, hch⟩ := id hmm
  refine a_iconst (pc := 0) (c := 0) hC (by decide +kernel) ?_
  refine a_istore_n (pc := 1) (q := 3) (i := 3) (lv' := [(3, vi 0), (0, .ref 50), (1, vi s), (2, vi a)]) hC (by decide +kernel) rfl (by decide) rfl ?_
  refine a_iconst (pc := 2) (c := 1) hC (by decide +kernel) ?_
  refine a_istore (pc := 3) (q := 0) (i := 4) (lv' := [(4, vi 1), (3, vi 0), (0, .ref 50), (1, vi s), (2, vi a)]) hC (by decide +kernel) (by decide) rfl ?_
  refine a_iconst (pc := 5) (c := 0) hC (by decide +kernel) ?_
  refine a_istore (pc := 6) (q := 0) (i := 5) (lv' := [(5, vi 0), (4, vi 1), (3, vi 0), (0, .ref 50), (1, vi s), (2, vi a)]) hC (by decide +kernel) (by decide) rfl ?_
  have L8 : ∀ (fuel : Nat) (t : Nat), N - t < fuel → t ≤ N → AW X 6 0 0 8 [(5, vi ((t : Int))), (4, vi ((tpS G s a t).2)), (3, vi ((tpS G s a t).1)), (0, .ref 50), (1, vi s), (2, vi a)] [] (hp K G) := by
    intro fuel
    induction fuel with
    | zero => intro t h; exact absurd h (Nat.not_lt_zero _)
    | succ fuel ih8 =>
      intro t hm ht
      refine a_iload (pc := 8) (i := 5) (x := (t : Int)) hC (by decide +kernel) 0 rfl ?_
      refine a_aload_n (pc := 10) (q := 0) (i := 0) (x := 50) hC (by decide +kernel) rfl 3 rfl ?_
      refine g_get (pc := 11) (idx := 72) (ci := 6) (v := vi (G 50 1)) hC 50 1 (by decide +kernel) rfl rfl rfl rfl wrM (by decide) rfl (by decide +kernel) ?_
      refine a_icmp_ge (pc := 14) (off := 54) hC 68 (by decide +kernel) (by decide) (by unfold inI; omega) (by unfold inI; omega) (fun c14 => ?_) (fun c14 => ?_)
      · skip
        refine a_iload_n (pc := 68) (q := 3) (i := 3) (x := (tpS G s a t).1) hC (by decide +kernel) rfl 2 rfl ?_
        exact g_iret (pc := 69) hC hE (by decide +kernel) (by rw [show t = N by omega]) rfl
      · skip
        have h3 := hac t (by omega)
        refine a_aload_n (pc := 17) (q := 0) (i := 0) (x := 50) hC (by decide +kernel) rfl 3 rfl ?_
        refine g_get (pc := 18) (idx := 13) (ci := 6) (v := .ref 52) hC 50 3 (by decide +kernel) rfl rfl rfl rfl wrM (by decide) rfl (by decide +kernel) ?_
        refine a_iload (pc := 21) (i := 5) (x := (t : Int)) hC (by decide +kernel) 0 rfl ?_
        refine g_iald (pc := 23) (a := 52) (j := t) hC hty (by decide +kernel) rfl (by omega) (by first | decide | omega) ?_
        refine a_if_le (pc := 24) (off := 38) hC 62 (by decide +kernel) (by decide) (by unfold inI; omega) (fun c24 => ?_) (fun c24 => ?_)
        · skip
          have hst : tpS G s a (t + 1) = tpS G s a t := by show (if _ then _ else _) = _; rw [if_neg (by omega)]
          refine a_iinc (pc := 62) (i := 5) (c := 1) (x := (t : Int)) (lv' := [(5, vi (((t : Int)) + 1)), (4, vi ((tpS G s a t).2)), (3, vi ((tpS G s a t).1)), (0, .ref 50), (1, vi s), (2, vi a)]) hC (by decide +kernel) 0 rfl (by decide) rfl ?_
          refine a_goto (pc := 65) (off := -57) hC 8 (by decide +kernel) (by decide) ?_
          refine a_sub (lv' := [(5, vi (((t + 1) : Int))), (4, vi ((tpS G s a (t + 1)).2)), (3, vi ((tpS G s a (t + 1)).1)), (0, .ref 50), (1, vi s), (2, vi a)]) [0, 1, 2, 3, 4, 5] (by rw [hst]; rfl) ?_
          exact ih8 (t + 1) (by omega) (by omega)
        · skip
          refine a_iload_n (pc := 27) (q := 3) (i := 3) (x := (tpS G s a t).1) hC (by decide +kernel) rfl 2 rfl ?_
          refine a_iload (pc := 28) (i := 4) (x := (tpS G s a t).2) hC (by decide +kernel) 1 rfl ?_
          refine a_iload (pc := 30) (i := 5) (x := (t : Int)) hC (by decide +kernel) 0 rfl ?_
          refine a_iload_n (pc := 32) (q := 1) (i := 1) (x := s) hC (by decide +kernel) rfl 4 rfl ?_
          refine a_icmp_ne (pc := 33) (off := 7) hC 40 (by decide +kernel) (by decide) (by unfold inI; omega) hsi (fun c33 => ?_) (fun c33 => ?_)
          · skip
            have hst : tpS G s a (t + 1) = ((tpS G s a t).1 + (tpS G s a t).2 * (G 55 t), (tpS G s a t).2 * (G 52 t)) := by show (if _ then _ else _) = _; rw [if_pos (by omega), if_neg (by omega)]
            refine a_aload_n (pc := 40) (q := 0) (i := 0) (x := 50) hC (by decide +kernel) rfl 3 rfl ?_
            refine g_get (pc := 41) (idx := 23) (ci := 6) (v := .ref 55) hC 50 6 (by decide +kernel) rfl rfl rfl rfl wrM (by decide) rfl (by decide +kernel) ?_
            refine a_iload (pc := 44) (i := 5) (x := (t : Int)) hC (by decide +kernel) 0 rfl ?_
            refine g_iald (pc := 46) (a := 55) (j := t) hC hty (by decide +kernel) rfl (by omega) (by first | decide | omega) ?_
            refine a_imul (pc := 47) hC (by decide +kernel) ?_
            refine a_iadd (pc := 48) hC (by decide +kernel) ?_
            refine a_istore_n (pc := 49) (q := 3) (i := 3) (lv' := [(3, vi (((tpS G s a t).1) + (((tpS G s a t).2) * (G 55 t)))), (5, vi ((t : Int))), (4, vi ((tpS G s a t).2)), (0, .ref 50), (1, vi s), (2, vi a)]) hC (by decide +kernel) rfl (by decide) rfl ?_
            refine a_iload (pc := 50) (i := 4) (x := (tpS G s a t).2) hC (by decide +kernel) 2 rfl ?_
            refine a_aload_n (pc := 52) (q := 0) (i := 0) (x := 50) hC (by decide +kernel) rfl 3 rfl ?_
            refine g_get (pc := 53) (idx := 13) (ci := 6) (v := .ref 52) hC 50 3 (by decide +kernel) rfl rfl rfl rfl wrM (by decide) rfl (by decide +kernel) ?_
            refine a_iload (pc := 56) (i := 5) (x := (t : Int)) hC (by decide +kernel) 1 rfl ?_
            refine g_iald (pc := 58) (a := 52) (j := t) hC hty (by decide +kernel) rfl (by omega) (by first | decide | omega) ?_
            refine a_imul (pc := 59) hC (by decide +kernel) ?_
            refine a_istore (pc := 60) (q := 0) (i := 4) (lv' := [(4, vi (((tpS G s a t).2) * (G 52 t))), (3, vi (((tpS G s a t).1) + (((tpS G s a t).2) * (G 55 t)))), (5, vi ((t : Int))), (0, .ref 50), (1, vi s), (2, vi a)]) hC (by decide +kernel) (by decide) rfl ?_
            refine a_iinc (pc := 62) (i := 5) (c := 1) (x := (t : Int)) (lv' := [(5, vi (((t : Int)) + 1)), (4, vi (((tpS G s a t).2) * (G 52 t))), (3, vi (((tpS G s a t).1) + (((tpS G s a t).2) * (G 55 t)))), (0, .ref 50), (1, vi s), (2, vi a)]) hC (by decide +kernel) 2 rfl (by decide) rfl ?_
            refine a_goto (pc := 65) (off := -57) hC 8 (by decide +kernel) (by decide) ?_
            refine a_sub (lv' := [(5, vi (((t + 1) : Int))), (4, vi ((tpS G s a (t + 1)).2)), (3, vi ((tpS G s a (t + 1)).1)), (0, .ref 50), (1, vi s), (2, vi a)]) [0, 1, 2, 3, 4, 5] (by rw [hst]; rfl) ?_
            exact ih8 (t + 1) (by omega) (by omega)
          · skip
            have hst : tpS G s a (t + 1) = ((tpS G s a t).1 + (tpS G s a t).2 * a, (tpS G s a t).2 * (G 52 t)) := by show (if _ then _ else _) = _; rw [if_pos (by omega), if_pos (by omega)]
            refine a_iload_n (pc := 36) (q := 2) (i := 2) (x := a) hC (by decide +kernel) rfl 5 rfl ?_
            refine a_goto (pc := 37) (off := 10) hC 47 (by decide +kernel) (by decide) ?_
            refine a_imul (pc := 47) hC (by decide +kernel) ?_
            refine a_iadd (pc := 48) hC (by decide +kernel) ?_
            refine a_istore_n (pc := 49) (q := 3) (i := 3) (lv' := [(3, vi (((tpS G s a t).1) + (((tpS G s a t).2) * a))), (5, vi ((t : Int))), (4, vi ((tpS G s a t).2)), (0, .ref 50), (1, vi s), (2, vi a)]) hC (by decide +kernel) rfl (by decide) rfl ?_
            refine a_iload (pc := 50) (i := 4) (x := (tpS G s a t).2) hC (by decide +kernel) 2 rfl ?_
            refine a_aload_n (pc := 52) (q := 0) (i := 0) (x := 50) hC (by decide +kernel) rfl 3 rfl ?_
            refine g_get (pc := 53) (idx := 13) (ci := 6) (v := .ref 52) hC 50 3 (by decide +kernel) rfl rfl rfl rfl wrM (by decide) rfl (by decide +kernel) ?_
            refine a_iload (pc := 56) (i := 5) (x := (t : Int)) hC (by decide +kernel) 1 rfl ?_
            refine g_iald (pc := 58) (a := 52) (j := t) hC hty (by decide +kernel) rfl (by omega) (by first | decide | omega) ?_
            refine a_imul (pc := 59) hC (by decide +kernel) ?_
            refine a_istore (pc := 60) (q := 0) (i := 4) (lv' := [(4, vi (((tpS G s a t).2) * (G 52 t))), (3, vi (((tpS G s a t).1) + (((tpS G s a t).2) * a))), (5, vi ((t : Int))), (0, .ref 50), (1, vi s), (2, vi a)]) hC (by decide +kernel) (by decide) rfl ?_
            refine a_iinc (pc := 62) (i := 5) (c := 1) (x := (t : Int)) (lv' := [(5, vi (((t : Int)) + 1)), (4, vi (((tpS G s a t).2) * (G 52 t))), (3, vi (((tpS G s a t).1) + (((tpS G s a t).2) * a))), (0, .ref 50), (1, vi s), (2, vi a)]) hC (by decide +kernel) 2 rfl (by decide) rfl ?_
            refine a_goto (pc := 65) (off := -57) hC 8 (by decide +kernel) (by decide) ?_
            refine a_sub (lv' := [(5, vi (((t + 1) : Int))), (4, vi ((tpS G s a (t + 1)).2)), (3, vi ((tpS G s a (t + 1)).1)), (0, .ref 50), (1, vi s), (2, vi a)]) [0, 1, 2, 3, 4, 5] (by rw [hst]; rfl) ?_
            exact ih8 (t + 1) (by omega) (by omega)
  refine a_sub (lv' := [(5, vi ((0 : Int))), (4, vi ((tpS G s a 0).2)), (3, vi ((tpS G s a 0).1)), (0, .ref 50), (1, vi s), (2, vi a)]) [0, 1, 2, 3, 4, 5] rfl ?_
  exact L8 _ 0 (Nat.lt_succ_self _) (by omega)

set_option maxRecDepth 100000 in
set_option maxHeartbeats 4000000 in
theorem ct_M_all (l : Launch) (D : va_G) (K : K5) (G : GT) (N : Nat) (pl : Int) (hpl : -1 ≤ pl ∧ pl ≤ 4) (hN5 : N ≤ 5) (hn : G 50 1 = (N : Int)) : Ct l D K y_M_all c_M_all 8 (some .long) 1 22 [.ref 50, vi pl] G (some (vl (allZ G pl N))) (alG G pl N) := by
  refine Ct.intro (by decide +kernel) (Nat.le_of_ble_eq_true rfl) ?_
  intro X hro hty hC hE
  refine a_iconst (pc := 0) (c := 0) hC (by decide +kernel) ?_
  refine a_istore_n (pc := 1) (q := 2) (i := 2) (lv' := [(2, vi 0), (0, .ref 50), (1, vi pl)]) hC (by decide +kernel) rfl (by decide) rfl ?_
  have L2 : ∀ (fuel : Nat) (j : Nat), 32 - j < fuel → j ≤ 32 → AW X 8 0 0 2 [(2, vi ((j : Int))), (0, .ref 50), (1, vi pl)] [] (hp K (uG G 58 (iniF (G 58) j))) := by
    intro fuel
    induction fuel with
    | zero => intro j h; exact absurd h (Nat.not_lt_zero _)
    | succ fuel ih2 =>
      intro j hm hj
      refine a_iload_n (pc := 2) (q := 2) (i := 2) (x := (j : Int)) hC (by decide +kernel) rfl 0 rfl ?_
      refine a_bipush (pc := 3) (c := 32) hC (by decide +kernel) (by decide +kernel) ?_
      refine a_icmp_ge (pc := 5) (off := 24) hC 29 (by decide +kernel) (by decide) (by unfold inI; omega) (by unfold inI; omega) (fun c5 => ?_) (fun c5 => ?_)
      · skip
        have hpN := pw_in (k := N) (by omega)
        have hp1 := pw_1 N
        refine a_iconst (pc := 29) (c := 1) hC (by decide +kernel) ?_
        refine a_aload_n (pc := 30) (q := 0) (i := 0) (x := 50) hC (by decide +kernel) rfl 1 rfl ?_
        refine g_get (pc := 31) (idx := 72) (ci := 6) (v := vi ((uG G 58 (iniF (G 58) j)) 50 1)) hC 50 1 (by decide +kernel) rfl rfl rfl rfl wrM (by decide) rfl (by decide +kernel) ?_
        refine g_top (y := (N : Int)) (by rw [uG_n _ _ (by decide)]; exact hn) ?_
        refine a_ishl (pc := 34) (z := ((pw N : Nat) : Int)) hC (by decide +kernel) (iZ_shl (by omega)) ?_
        refine a_iconst (pc := 35) (c := 1) hC (by decide +kernel) ?_
        refine a_isub (pc := 36) hC (by decide +kernel) ?_
        refine g_top (y := ((pw N - 1 : Nat) : Int)) (by omega) ?_
        refine a_istore_n (pc := 37) (q := 2) (i := 2) (lv' := [(2, vi (((pw N - 1 : Nat) : Int))), (0, .ref 50), (1, vi pl)]) hC (by decide +kernel) rfl (by decide) rfl ?_
        refine a_iconst (pc := 38) (c := 0) hC (by decide +kernel) ?_
        refine a_istore_n (pc := 39) (q := 3) (i := 3) (lv' := [(3, vi 0), (2, vi (((pw N - 1 : Nat) : Int))), (0, .ref 50), (1, vi pl)]) hC (by decide +kernel) rfl (by decide) rfl ?_
        have L40 : ∀ (fuel : Nat) (m : Nat), pw N - 1 - m < fuel → m ≤ pw N - 1 → AW X 8 0 0 40 [(3, vi ((m : Int))), (2, vi (((pw N - 1 : Nat) : Int))), (0, .ref 50), (1, vi pl)] [] (hp K (uG G 58 (aS G pl N m))) := by
          intro fuel
          induction fuel with
          | zero => intro m h; exact absurd h (Nat.not_lt_zero _)
          | succ fuel ih40 =>
            intro m hm hm
            refine a_iload_n (pc := 40) (q := 3) (i := 3) (x := (m : Int)) hC (by decide +kernel) rfl 0 rfl ?_
            refine a_iload_n (pc := 41) (q := 2) (i := 2) (x := ((pw N - 1 : Nat) : Int)) hC (by decide +kernel) rfl 1 rfl ?_
            refine a_icmp_ge (pc := 42) (off := 114) hC 156 (by decide +kernel) (by decide) (by unfold inI; omega) (by unfold inI; omega) (fun c42 => ?_) (fun c42 => ?_)
            · skip
              refine a_aload_n (pc := 156) (q := 0) (i := 0) (x := 50) hC (by decide +kernel) rfl 2 rfl ?_
              refine g_get (pc := 157) (idx := 44) (ci := 6) (v := .ref 58) hC 50 13 (by decide +kernel) rfl rfl rfl rfl wrM (by decide) rfl (by decide +kernel) ?_
              refine a_iload_n (pc := 160) (q := 2) (i := 2) (x := ((pw N - 1 : Nat) : Int)) hC (by decide +kernel) rfl 1 rfl ?_
              refine g_lald (pc := 161) (a := 58) (j := pw N - 1) hC hty (by decide +kernel) rfl (by omega) (by first | decide | omega) ?_
              exact g_lret (pc := 162) hC hE (by decide +kernel) (by rw [uG_s, show m = pw N - 1 by omega]; rfl) (by rw [show m = pw N - 1 by omega]; rfl)
            · skip
              have hmn := mnS_in m 5
              refine a_iload_n (pc := 45) (q := 3) (i := 3) (x := (m : Int)) hC (by decide +kernel) rfl 0 rfl ?_
              obtain ⟨r, hr, hr5⟩ : ∃ r : Nat, mnS m 5 = (r : Int) ∧ r ≤ 5 := ⟨(mnS m 5).toNat, by omega, by omega⟩
              have hrn : (mnS m 5).toNat = r := by omega
              refine g_callS (pc := 46) (idx := 101) (av := [vi ((m : Int))]) (rest := []) (g := uG G 58 (aS G pl N m)) (v := vi (mnS m 5)) hC hro hty (by decide +kernel) k_M_many (by decide +kernel) (by decide +kernel) (ct_M_many X.la X.dd K (uG G 58 (aS G pl N m)) m (by omega)) rfl rfl (by decide) (by first | decide | simp [Value.category]) ?_
              refine g_top (y := (r : Int)) hr ?_
              refine a_istore (pc := 49) (q := 0) (i := 4) (lv' := [(4, vi ((r : Int))), (3, vi ((m : Int))), (2, vi (((pw N - 1 : Nat) : Int))), (0, .ref 50), (1, vi pl)]) hC (by decide +kernel) (by decide) rfl ?_
              refine a_iconst (pc := 51) (c := 0) hC (by decide +kernel) ?_
              refine a_istore (pc := 52) (q := 0) (i := 5) (lv' := [(5, vi 0), (4, vi ((r : Int))), (3, vi ((m : Int))), (2, vi (((pw N - 1 : Nat) : Int))), (0, .ref 50), (1, vi pl)]) hC (by decide +kernel) (by decide) rfl ?_
              have L54 : ∀ (fuel : Nat) (t : Nat), N - t < fuel → t ≤ N → AW X 8 0 0 54 [(5, vi ((t : Int))), (4, vi ((r : Int))), (3, vi ((m : Int))), (2, vi (((pw N - 1 : Nat) : Int))), (0, .ref 50), (1, vi pl)] [] (hp K (uG G 58 (aT G pl m (aS G pl N m) t))) := by
                intro fuel
                induction fuel with
                | zero => intro t h; exact absurd h (Nat.not_lt_zero _)
                | succ fuel ih54 =>
                  intro t hm ht
                  refine a_iload (pc := 54) (i := 5) (x := (t : Int)) hC (by decide +kernel) 0 rfl ?_
                  refine a_aload_n (pc := 56) (q := 0) (i := 0) (x := 50) hC (by decide +kernel) rfl 4 rfl ?_
                  refine g_get (pc := 57) (idx := 72) (ci := 6) (v := vi ((uG G 58 (aT G pl m (aS G pl N m) t)) 50 1)) hC 50 1 (by decide +kernel) rfl rfl rfl rfl wrM (by decide) rfl (by decide +kernel) ?_
                  refine g_top (y := (N : Int)) (by rw [uG_n _ _ (by decide)]; exact hn) ?_
                  refine a_icmp_ge (pc := 60) (off := 90) hC 150 (by decide +kernel) (by decide) (by unfold inI; omega) (by unfold inI; omega) (fun c60 => ?_) (fun c60 => ?_)
                  · skip
                    refine a_iinc (pc := 150) (i := 3) (c := 1) (x := (m : Int)) (lv' := [(3, vi (((m : Int)) + 1)), (5, vi ((t : Int))), (4, vi ((r : Int))), (2, vi (((pw N - 1 : Nat) : Int))), (0, .ref 50), (1, vi pl)]) hC (by decide +kernel) 2 rfl (by decide) rfl ?_
                    refine a_goto (pc := 153) (off := -113) hC 40 (by decide +kernel) (by decide) ?_
                    refine a_sub (lv' := [(3, vi (((m + 1) : Int))), (2, vi (((pw N - 1 : Nat) : Int))), (0, .ref 50), (1, vi pl)]) [0, 3, 4, 5] rfl ?_
                    refine g_G (G' := uG G 58 (aS G pl N (m + 1))) (by rw [show t = N by omega]; rfl) ?_
                    exact ih40 (m + 1) (by omega) (by omega)
                  · skip
                    have hpt := pw_in (k := t) (by omega)
                    have hb2 := bt2_in m t
                    have hsl := sr_lt (m := m) (k := t) (by omega)
                    refine a_iload_n (pc := 63) (q := 3) (i := 3) (x := (m : Int)) hC (by decide +kernel) rfl 2 rfl ?_
                    refine a_iload (pc := 64) (i := 5) (x := (t : Int)) hC (by decide +kernel) 0 rfl ?_
                    refine a_ishr (pc := 66) (z := ((sr m t : Nat) : Int)) hC (by decide +kernel) (shr5 m (by omega) t (by omega)) ?_
                    refine a_iconst (pc := 67) (c := 1) hC (by decide +kernel) ?_
                    refine a_iand (pc := 68) (z := ((bt2 m t : Nat) : Int)) hC (by decide +kernel) (and1 _ hsl) ?_
                    refine a_if_ne (pc := 69) (off := 75) hC 144 (by decide +kernel) (by decide) (by unfold inI; omega) (fun c69 => ?_) (fun c69 => ?_)
                    · skip
                      have hst : (aT G pl m (aS G pl N m) t) = aT G pl m (aS G pl N m) (t + 1) := by show _ = (if _ then _ else _); rw [if_neg (by omega)]
                      refine a_iinc (pc := 144) (i := 5) (c := 1) (x := (t : Int)) (lv' := [(5, vi (((t : Int)) + 1)), (4, vi ((r : Int))), (3, vi ((m : Int))), (2, vi (((pw N - 1 : Nat) : Int))), (0, .ref 50), (1, vi pl)]) hC (by decide +kernel) 0 rfl (by decide) rfl ?_
                      refine a_goto (pc := 147) (off := -93) hC 54 (by decide +kernel) (by decide) ?_
                      refine a_sub (lv' := [(5, vi (((t + 1) : Int))), (4, vi ((r : Int))), (3, vi ((m : Int))), (2, vi (((pw N - 1 : Nat) : Int))), (0, .ref 50), (1, vi pl)]) [0, 1, 2, 3, 4, 5] rfl ?_
                      refine g_G (G' := uG G 58 (aT G pl m (aS G pl N m) (t + 1))) (by first | (rw [← hst]; done) | (rw [← hst, uG_s, uG_uG, ← hsg])) ?_
                      exact ih54 (t + 1) (by omega) (by omega)
                    · skip
                      have hb0 : bt2 m t = 0 := by omega
                      have hr4 : mnS m 5 ≤ 4 := mn4 m (by omega) t (by omega) hb0
                      have hor := orN_lt (m := m) (t := t) (by omega) (by omega)
                      have hst : up (aT G pl m (aS G pl N m) t) (orN m t) (((aT G pl m (aS G pl N m) t) (orN m t)) + (sgZ m t (((aT G pl m (aS G pl N m) t) m) * (alX G pl m t)))) = aT G pl m (aS G pl N m) (t + 1) := by show _ = (if _ then _ else _); rw [if_pos hb0]
                      have hms := mnS_in (sr m t) 5
                      refine a_aload_n (pc := 72) (q := 0) (i := 0) (x := 50) hC (by decide +kernel) rfl 4 rfl ?_
                      refine g_get (pc := 73) (idx := 44) (ci := 6) (v := .ref 58) hC 50 13 (by decide +kernel) rfl rfl rfl rfl wrM (by decide) rfl (by decide +kernel) ?_
                      refine a_iload_n (pc := 76) (q := 3) (i := 3) (x := (m : Int)) hC (by decide +kernel) rfl 2 rfl ?_
                      refine g_lald (pc := 77) (a := 58) (j := m) hC hty (by decide +kernel) rfl (by omega) (by first | decide | omega) ?_
                      refine g_topl (y := (aT G pl m (aS G pl N m) t) m) (by rw [uG_s]) ?_
                      refine a_iload (pc := 78) (i := 5) (x := (t : Int)) hC (by decide +kernel) 0 rfl ?_
                      refine a_iload_n (pc := 80) (q := 1) (i := 1) (x := pl) hC (by decide +kernel) rfl 5 rfl ?_
                      refine a_icmp_ne (pc := 81) (off := 13) hC 94 (by decide +kernel) (by decide) (by unfold inI; omega) (by unfold inI; omega) (fun c81 => ?_) (fun c81 => ?_)
                      · skip
                        refine a_aload_n (pc := 94) (q := 0) (i := 0) (x := 50) hC (by decide +kernel) rfl 4 rfl ?_
                        refine g_get (pc := 95) (idx := 37) (ci := 6) (v := .ref 56) hC 50 11 (by decide +kernel) rfl rfl rfl rfl wrM (by decide) rfl (by decide +kernel) ?_
                        refine a_iconst (pc := 98) (c := 5) hC (by decide +kernel) ?_
                        refine a_iload (pc := 99) (i := 4) (x := (r : Int)) hC (by decide +kernel) 1 rfl ?_
                        refine a_imul (pc := 101) hC (by decide +kernel) ?_
                        refine a_iload (pc := 102) (i := 5) (x := (t : Int)) hC (by decide +kernel) 0 rfl ?_
                        refine a_iadd (pc := 104) hC (by decide +kernel) ?_
                        refine g_top (y := ((5 * r + t : Nat) : Int)) (by omega) ?_
                        refine g_lald (pc := 105) (a := 56) (j := 5 * r + t) hC hty (by decide +kernel) rfl (by omega) (by first | decide | omega) ?_
                        refine g_topl (y := alX G pl m t) (by unfold alX; rw [if_neg (by omega), hrn, uG_n _ _ (by decide)]) ?_
                        refine a_lmul (pc := 106) hC (by decide +kernel) ?_
                        refine a_lstore (pc := 107) (q := 0) (i := 6) (lv' := [(6, vl (((aT G pl m (aS G pl N m) t) m) * (alX G pl m t))), (5, vi ((t : Int))), (4, vi ((r : Int))), (3, vi ((m : Int))), (2, vi (((pw N - 1 : Nat) : Int))), (0, .ref 50), (1, vi pl)]) hC (by decide +kernel) (by decide) rfl ?_
                        refine a_aload_n (pc := 109) (q := 0) (i := 0) (x := 50) hC (by decide +kernel) rfl 5 rfl ?_
                        refine g_get (pc := 110) (idx := 44) (ci := 6) (v := .ref 58) hC 50 13 (by decide +kernel) rfl rfl rfl rfl wrM (by decide) rfl (by decide +kernel) ?_
                        refine a_iload_n (pc := 113) (q := 3) (i := 3) (x := (m : Int)) hC (by decide +kernel) rfl 3 rfl ?_
                        refine a_iconst (pc := 114) (c := 1) hC (by decide +kernel) ?_
                        refine a_iload (pc := 115) (i := 5) (x := (t : Int)) hC (by decide +kernel) 1 rfl ?_
                        refine a_ishl (pc := 117) (z := ((pw t : Nat) : Int)) hC (by decide +kernel) (iZ_shl (by omega)) ?_
                        refine a_ior (pc := 118) (z := ((orN m t : Nat) : Int)) hC (by decide +kernel) or_nat ?_
                        refine a_dup2 (pc := 119) hC (by decide +kernel) rfl rfl ?_
                        refine g_lald (pc := 120) (a := 58) (j := orN m t) hC hty (by decide +kernel) rfl (by omega) (by first | decide | omega) ?_
                        refine g_topl (y := (aT G pl m (aS G pl N m) t) (orN m t)) (by rw [uG_s]) ?_
                        refine a_iload_n (pc := 121) (q := 3) (i := 3) (x := (m : Int)) hC (by decide +kernel) rfl 3 rfl ?_
                        refine a_iload (pc := 122) (i := 5) (x := (t : Int)) hC (by decide +kernel) 1 rfl ?_
                        refine a_ishr (pc := 124) (z := ((sr m t : Nat) : Int)) hC (by decide +kernel) (shr5 m (by omega) t (by omega)) ?_
                        refine g_callS (pc := 125) (idx := 101) (av := [vi (((sr m t : Nat) : Int))]) (rest := [vl ((aT G pl m (aS G pl N m) t) (orN m t)), vi (((orN m t : Nat) : Int)), .ref 58]) (g := uG G 58 (aT G pl m (aS G pl N m) t)) (v := vi (mnS (sr m t) 5)) hC hro hty (by decide +kernel) k_M_many (by decide +kernel) (by decide +kernel) (ct_M_many X.la X.dd K (uG G 58 (aT G pl m (aS G pl N m) t)) (sr m t) (by omega)) rfl rfl (by decide) (by first | decide | simp [Value.category]) ?_
                        refine a_iconst (pc := 128) (c := 2) hC (by decide +kernel) ?_
                        refine a_irem (pc := 129) hC (by decide +kernel) (by unfold inI; omega) (by unfold inI; omega) (by omega) ?_
                        refine a_iconst (pc := 130) (c := 1) hC (by decide +kernel) ?_
                        have htm2 := tmod_in (a := mnS (sr m t) 5) (b := 2) hms.1 (by decide) (by decide)
                        refine a_icmp_ne (pc := 131) (off := 9) hC 140 (by decide +kernel) (by decide) (by unfold inI; omega) (by unfold inI; omega) (fun c131 => ?_) (fun c131 => ?_)
                        · skip
                          have hsg : ((aT G pl m (aS G pl N m) t) m) * (alX G pl m t) = sgZ m t (((aT G pl m (aS G pl N m) t) m) * (alX G pl m t)) := by unfold sgZ; rw [if_neg c131]
                          refine a_lload (pc := 140) (i := 6) (x := ((aT G pl m (aS G pl N m) t) m) * (alX G pl m t)) hC (by decide +kernel) 0 rfl ?_
                          refine a_ladd (pc := 142) hC (by decide +kernel) ?_
                          refine g_last (pc := 143) (a := 58) (j := orN m t) (x := ((aT G pl m (aS G pl N m) t) (orN m t)) + (((aT G pl m (aS G pl N m) t) m) * (alX G pl m t))) hC hty (by decide +kernel) rfl (by omega) (by first | decide | omega) ?_
                          refine a_iinc (pc := 144) (i := 5) (c := 1) (x := (t : Int)) (lv' := [(5, vi (((t : Int)) + 1)), (6, vl (((aT G pl m (aS G pl N m) t) m) * (alX G pl m t))), (4, vi ((r : Int))), (3, vi ((m : Int))), (2, vi (((pw N - 1 : Nat) : Int))), (0, .ref 50), (1, vi pl)]) hC (by decide +kernel) 1 rfl (by decide) rfl ?_
                          refine a_goto (pc := 147) (off := -93) hC 54 (by decide +kernel) (by decide) ?_
                          refine a_sub (lv' := [(5, vi (((t + 1) : Int))), (4, vi ((r : Int))), (3, vi ((m : Int))), (2, vi (((pw N - 1 : Nat) : Int))), (0, .ref 50), (1, vi pl)]) [0, 2, 3, 4, 5, 6] rfl ?_
                          refine g_G (G' := uG G 58 (aT G pl m (aS G pl N m) (t + 1))) (by first | (rw [← hst]; done) | (rw [← hst, uG_s, uG_uG, ← hsg])) ?_
                          exact ih54 (t + 1) (by omega) (by omega)
                        · skip
                          have hsg : -(((aT G pl m (aS G pl N m) t) m) * (alX G pl m t)) = sgZ m t (((aT G pl m (aS G pl N m) t) m) * (alX G pl m t)) := by unfold sgZ; rw [if_pos c131]
                          refine a_lload (pc := 134) (i := 6) (x := ((aT G pl m (aS G pl N m) t) m) * (alX G pl m t)) hC (by decide +kernel) 0 rfl ?_
                          refine a_lneg (pc := 136) hC (by decide +kernel) ?_
                          refine a_goto (pc := 137) (off := 5) hC 142 (by decide +kernel) (by decide) ?_
                          refine a_ladd (pc := 142) hC (by decide +kernel) ?_
                          refine g_last (pc := 143) (a := 58) (j := orN m t) (x := ((aT G pl m (aS G pl N m) t) (orN m t)) + (-(((aT G pl m (aS G pl N m) t) m) * (alX G pl m t)))) hC hty (by decide +kernel) rfl (by omega) (by first | decide | omega) ?_
                          refine a_iinc (pc := 144) (i := 5) (c := 1) (x := (t : Int)) (lv' := [(5, vi (((t : Int)) + 1)), (6, vl (((aT G pl m (aS G pl N m) t) m) * (alX G pl m t))), (4, vi ((r : Int))), (3, vi ((m : Int))), (2, vi (((pw N - 1 : Nat) : Int))), (0, .ref 50), (1, vi pl)]) hC (by decide +kernel) 1 rfl (by decide) rfl ?_
                          refine a_goto (pc := 147) (off := -93) hC 54 (by decide +kernel) (by decide) ?_
                          refine a_sub (lv' := [(5, vi (((t + 1) : Int))), (4, vi ((r : Int))), (3, vi ((m : Int))), (2, vi (((pw N - 1 : Nat) : Int))), (0, .ref 50), (1, vi pl)]) [0, 2, 3, 4, 5, 6] rfl ?_
                          refine g_G (G' := uG G 58 (aT G pl m (aS G pl N m) (t + 1))) (by first | (rw [← hst]; done) | (rw [← hst, uG_s, uG_uG, ← hsg])) ?_
                          exact ih54 (t + 1) (by omega) (by omega)
                      · skip
                        refine a_aload_n (pc := 84) (q := 0) (i := 0) (x := 50) hC (by decide +kernel) rfl 4 rfl ?_
                        refine g_get (pc := 85) (idx := 41) (ci := 6) (v := .ref 57) hC 50 12 (by decide +kernel) rfl rfl rfl rfl wrM (by decide) rfl (by decide +kernel) ?_
                        refine a_iload (pc := 88) (i := 4) (x := (r : Int)) hC (by decide +kernel) 1 rfl ?_
                        refine g_lald (pc := 90) (a := 57) (j := r) hC hty (by decide +kernel) rfl (by omega) (by first | decide | omega) ?_
                        refine g_topl (y := alX G pl m t) (by unfold alX; rw [if_pos (by omega), hrn, uG_n _ _ (by decide)]) ?_
                        refine a_goto (pc := 91) (off := 15) hC 106 (by decide +kernel) (by decide) ?_
                        refine a_lmul (pc := 106) hC (by decide +kernel) ?_
                        refine a_lstore (pc := 107) (q := 0) (i := 6) (lv' := [(6, vl (((aT G pl m (aS G pl N m) t) m) * (alX G pl m t))), (5, vi ((t : Int))), (4, vi ((r : Int))), (3, vi ((m : Int))), (2, vi (((pw N - 1 : Nat) : Int))), (0, .ref 50), (1, vi pl)]) hC (by decide +kernel) (by decide) rfl ?_
                        refine a_aload_n (pc := 109) (q := 0) (i := 0) (x := 50) hC (by decide +kernel) rfl 5 rfl ?_
                        refine g_get (pc := 110) (idx := 44) (ci := 6) (v := .ref 58) hC 50 13 (by decide +kernel) rfl rfl rfl rfl wrM (by decide) rfl (by decide +kernel) ?_
                        refine a_iload_n (pc := 113) (q := 3) (i := 3) (x := (m : Int)) hC (by decide +kernel) rfl 3 rfl ?_
                        refine a_iconst (pc := 114) (c := 1) hC (by decide +kernel) ?_
                        refine a_iload (pc := 115) (i := 5) (x := (t : Int)) hC (by decide +kernel) 1 rfl ?_
                        refine a_ishl (pc := 117) (z := ((pw t : Nat) : Int)) hC (by decide +kernel) (iZ_shl (by omega)) ?_
                        refine a_ior (pc := 118) (z := ((orN m t : Nat) : Int)) hC (by decide +kernel) or_nat ?_
                        refine a_dup2 (pc := 119) hC (by decide +kernel) rfl rfl ?_
                        refine g_lald (pc := 120) (a := 58) (j := orN m t) hC hty (by decide +kernel) rfl (by omega) (by first | decide | omega) ?_
                        refine g_topl (y := (aT G pl m (aS G pl N m) t) (orN m t)) (by rw [uG_s]) ?_
                        refine a_iload_n (pc := 121) (q := 3) (i := 3) (x := (m : Int)) hC (by decide +kernel) rfl 3 rfl ?_
                        refine a_iload (pc := 122) (i := 5) (x := (t : Int)) hC (by decide +kernel) 1 rfl ?_
                        refine a_ishr (pc := 124) (z := ((sr m t : Nat) : Int)) hC (by decide +kernel) (shr5 m (by omega) t (by omega)) ?_
                        refine g_callS (pc := 125) (idx := 101) (av := [vi (((sr m t : Nat) : Int))]) (rest := [vl ((aT G pl m (aS G pl N m) t) (orN m t)), vi (((orN m t : Nat) : Int)), .ref 58]) (g := uG G 58 (aT G pl m (aS G pl N m) t)) (v := vi (mnS (sr m t) 5)) hC hro hty (by decide +kernel) k_M_many (by decide +kernel) (by decide +kernel) (ct_M_many X.la X.dd K (uG G 58 (aT G pl m (aS G pl N m) t)) (sr m t) (by omega)) rfl rfl (by decide) (by first | decide | simp [Value.category]) ?_
                        refine a_iconst (pc := 128) (c := 2) hC (by decide +kernel) ?_
                        refine a_irem (pc := 129) hC (by decide +kernel) (by unfold inI; omega) (by unfold inI; omega) (by omega) ?_
                        refine a_iconst (pc := 130) (c := 1) hC (by decide +kernel) ?_
                        have htm2 := tmod_in (a := mnS (sr m t) 5) (b := 2) hms.1 (by decide) (by decide)
                        refine a_icmp_ne (pc := 131) (off := 9) hC 140 (by decide +kernel) (by decide) (by unfold inI; omega) (by unfold inI; omega) (fun c131 => ?_) (fun c131 => ?_)
                        · skip
                          have hsg : ((aT G pl m (aS G pl N m) t) m) * (alX G pl m t) = sgZ m t (((aT G pl m (aS G pl N m) t) m) * (alX G pl m t)) := by unfold sgZ; rw [if_neg c131]
                          refine a_lload (pc := 140) (i := 6) (x := ((aT G pl m (aS G pl N m) t) m) * (alX G pl m t)) hC (by decide +kernel) 0 rfl ?_
                          refine a_ladd (pc := 142) hC (by decide +kernel) ?_
                          refine g_last (pc := 143) (a := 58) (j := orN m t) (x := ((aT G pl m (aS G pl N m) t) (orN m t)) + (((aT G pl m (aS G pl N m) t) m) * (alX G pl m t))) hC hty (by decide +kernel) rfl (by omega) (by first | decide | omega) ?_
                          refine a_iinc (pc := 144) (i := 5) (c := 1) (x := (t : Int)) (lv' := [(5, vi (((t : Int)) + 1)), (6, vl (((aT G pl m (aS G pl N m) t) m) * (alX G pl m t))), (4, vi ((r : Int))), (3, vi ((m : Int))), (2, vi (((pw N - 1 : Nat) : Int))), (0, .ref 50), (1, vi pl)]) hC (by decide +kernel) 1 rfl (by decide) rfl ?_
                          refine a_goto (pc := 147) (off := -93) hC 54 (by decide +kernel) (by decide) ?_
                          refine a_sub (lv' := [(5, vi (((t + 1) : Int))), (4, vi ((r : Int))), (3, vi ((m : Int))), (2, vi (((pw N - 1 : Nat) : Int))), (0, .ref 50), (1, vi pl)]) [0, 2, 3, 4, 5, 6] rfl ?_
                          refine g_G (G' := uG G 58 (aT G pl m (aS G pl N m) (t + 1))) (by first | (rw [← hst]; done) | (rw [← hst, uG_s, uG_uG, ← hsg])) ?_
                          exact ih54 (t + 1) (by omega) (by omega)
                        · skip
                          have hsg : -(((aT G pl m (aS G pl N m) t) m) * (alX G pl m t)) = sgZ m t (((aT G pl m (aS G pl N m) t) m) * (alX G pl m t)) := by unfold sgZ; rw [if_pos c131]
                          refine a_lload (pc := 134) (i := 6) (x := ((aT G pl m (aS G pl N m) t) m) * (alX G pl m t)) hC (by decide +kernel) 0 rfl ?_
                          refine a_lneg (pc := 136) hC (by decide +kernel) ?_
                          refine a_goto (pc := 137) (off := 5) hC 142 (by decide +kernel) (by decide) ?_
                          refine a_ladd (pc := 142) hC (by decide +kernel) ?_
                          refine g_last (pc := 143) (a := 58) (j := orN m t) (x := ((aT G pl m (aS G pl N m) t) (orN m t)) + (-(((aT G pl m (aS G pl N m) t) m) * (alX G pl m t)))) hC hty (by decide +kernel) rfl (by omega) (by first | decide | omega) ?_
                          refine a_iinc (pc := 144) (i := 5) (c := 1) (x := (t : Int)) (lv' := [(5, vi (((t : Int)) + 1)), (6, vl (((aT G pl m (aS G pl N m) t) m) * (alX G pl m t))), (4, vi ((r : Int))), (3, vi ((m : Int))), (2, vi (((pw N - 1 : Nat) : Int))), (0, .ref 50), (1, vi pl)]) hC (by decide +kernel) 1 rfl (by decide) rfl ?_
                          refine a_goto (pc := 147) (off := -93) hC 54 (by decide +kernel) (by decide) ?_
                          refine a_sub (lv' := [(5, vi (((t + 1) : Int))), (4, vi ((r : Int))), (3, vi ((m : Int))), (2, vi (((pw N - 1 : Nat) : Int))), (0, .ref 50), (1, vi pl)]) [0, 2, 3, 4, 5, 6] rfl ?_
                          refine g_G (G' := uG G 58 (aT G pl m (aS G pl N m) (t + 1))) (by first | (rw [← hst]; done) | (rw [← hst, uG_s, uG_uG, ← hsg])) ?_
                          exact ih54 (t + 1) (by omega) (by omega)
              refine a_sub (lv' := [(5, vi ((0 : Int))), (4, vi ((r : Int))), (3, vi ((m : Int))), (2, vi (((pw N - 1 : Nat) : Int))), (0, .ref 50), (1, vi pl)]) [0, 1, 2, 3, 4, 5] rfl ?_
              refine g_G (G' := uG G 58 (aT G pl m (aS G pl N m) 0)) rfl ?_
              exact L54 _ 0 (Nat.lt_succ_self _) (by omega)
        refine a_sub (lv' := [(3, vi ((0 : Int))), (2, vi (((pw N - 1 : Nat) : Int))), (0, .ref 50), (1, vi pl)]) [0, 1, 2, 3] rfl ?_
        refine g_G (G' := uG G 58 (aS G pl N 0)) (by rw [show j = 32 by omega]; rfl) ?_
        exact L40 _ 0 (Nat.lt_succ_self _) (by omega)
      · skip
        refine a_aload_n (pc := 8) (q := 0) (i := 0) (x := 50) hC (by decide +kernel) rfl 1 rfl ?_
        refine g_get (pc := 9) (idx := 44) (ci := 6) (v := .ref 58) hC 50 13 (by decide +kernel) rfl rfl rfl rfl wrM (by decide) rfl (by decide +kernel) ?_
        refine a_iload_n (pc := 12) (q := 2) (i := 2) (x := (j : Int)) hC (by decide +kernel) rfl 0 rfl ?_
        refine a_iload_n (pc := 13) (q := 2) (i := 2) (x := (j : Int)) hC (by decide +kernel) rfl 0 rfl ?_
        refine a_if_ne (pc := 14) (off := 7) hC 21 (by decide +kernel) (by decide) (by unfold inI; omega) (fun c14 => ?_) (fun c14 => ?_)
        · skip
          have hx : (0 : Int) = if j = 0 then 1 else 0 := by rw [if_neg (by omega)]
          refine a_lconst (pc := 21) (c := 0) (z := 0) hC (by decide +kernel) rfl ?_
          refine g_last (pc := 22) (a := 58) (j := j) (x := 0) hC hty (by decide +kernel) rfl (by omega) (by first | decide | omega) ?_
          refine a_iinc (pc := 23) (i := 2) (c := 1) (x := (j : Int)) (lv' := [(2, vi (((j : Int)) + 1)), (0, .ref 50), (1, vi pl)]) hC (by decide +kernel) 0 rfl (by decide) rfl ?_
          refine a_goto (pc := 26) (off := -24) hC 2 (by decide +kernel) (by decide) ?_
          refine a_sub (lv' := [(2, vi (((j + 1) : Int))), (0, .ref 50), (1, vi pl)]) [0, 1, 2] rfl ?_
          refine g_G (G' := uG G 58 (iniF (G 58) (j + 1))) (by rw [uG_s, uG_uG, iniF_s _ _ _ hx]) ?_
          exact ih2 (j + 1) (by omega) (by omega)
        · skip
          have hx : (1 : Int) = if j = 0 then 1 else 0 := by rw [if_pos (by omega)]
          refine a_lconst (pc := 17) (c := 1) (z := 1) hC (by decide +kernel) rfl ?_
          refine a_goto (pc := 18) (off := 4) hC 22 (by decide +kernel) (by decide) ?_
          refine g_last (pc := 22) (a := 58) (j := j) (x := 1) hC hty (by decide +kernel) rfl (by omega) (by first | decide | omega) ?_
          refine a_iinc (pc := 23) (i := 2) (c := 1) (x := (j : Int)) (lv' := [(2, vi (((j : Int)) + 1)), (0, .ref 50), (1, vi pl)]) hC (by decide +kernel) 0 rfl (by decide) rfl ?_
          refine a_goto (pc := 26) (off := -24) hC 2 (by decide +kernel) (by decide) ?_
          refine a_sub (lv' := [(2, vi (((j + 1) : Int))), (0, .ref 50), (1, vi pl)]) [0, 1, 2] rfl ?_
          refine g_G (G' := uG G 58 (iniF (G 58) (j + 1))) (by rw [uG_s, uG_uG, iniF_s _ _ _ hx]) ?_
          exact ih2 (j + 1) (by omega) (by omega)
  refine a_sub (lv' := [(2, vi ((0 : Int))), (0, .ref 50), (1, vi pl)]) [0, 1, 2] rfl ?_
  refine g_G (G' := uG G 58 (iniF (G 58) 0)) (by rw [iniF_0, uG_self]) ?_
  exact L2 _ 0 (Nat.lt_succ_self _) (by omega)
end
section
/-! the reference: all plans -/
theorem MM.off {G G' : GT} {N : Nat} (h : MM G N) (e : ∀ b, b < 56 → G' b = G b) : MM G' N := h.keep (fun a ha => e a (by omega)) (fun k _ => by rw [e 50 (by omega)])
theorem ct_M_layWorth_any (l : Launch) (D : va_G) (K : K5) (G : GT) (N s : Nat) (a : Int) (hs : s < 5) (ha : a = -1 ∨ (0 ≤ a ∧ a < 3)) (hmm : MM G N) : Ct l D K y_M_layWorth c_M_layWorth 5 none 2 47 [.ref 50, vi (s : Int), vi a] G none (lwG G N s a) := by
  rcases ha with rfl | h
  · exact ct_M_layWorth_none l D K G N s hs hmm
  · obtain ⟨b, rfl⟩ : ∃ b : Nat, a = (b : Int) := ⟨a.toNat, by omega⟩
    exact ct_M_layWorth l D K G N s b hs (by omega) hmm
def plS (G : GT) : Nat → Int
  | 0 => 1
  | s + 1 => if G 52 s = 0 then plS G s else plS G s * G 52 s
theorem plS_in {G : GT} (h : ∀ s, s < 5 → 0 ≤ G 52 s ∧ G 52 s ≤ 3) : ∀ s, s ≤ 5 → 1 ≤ plS G s ∧ plS G s ≤ ((3 ^ s : Nat) : Int)
  | 0, _ => by unfold plS; simp
  | s + 1, hs => by
    have ih := plS_in h s (by omega)
    have h1 := h s (by omega)
    have e : ((3 ^ (s + 1) : Nat) : Int) = 3 * ((3 ^ s : Nat) : Int) := by rw [Nat.pow_succ, Nat.mul_comm]; simp
    unfold plS
    split
    · omega
    · rw [e]
      rcases (by omega : G 52 s = 1 ∨ G 52 s = 2 ∨ G 52 s = 3) with h2 | h2 | h2 <;> rw [h2] <;> omega
theorem plS_243 {G : GT} {N : Nat} (h : ∀ s, s < 5 → 0 ≤ G 52 s ∧ G 52 s ≤ 3) (hN : N ≤ 5) : 1 ≤ plS G N ∧ plS G N ≤ 243 := by
  have h1 := plS_in h N hN
  have : 3 ^ N ≤ 3 ^ 5 := Nat.pow_le_pow_right (by decide) hN
  have : (3 : Nat) ^ 5 = 243 := rfl
  omega
def pl0 (G : GT) (s : Nat) : GT := uG G 50 (up (G 50) 14 (plS G s))
theorem pl0_n {G : GT} {s b : Nat} (h : b ≠ 50) : pl0 G s b = G b := uG_n _ _ h
theorem pl0_k {G : GT} {s k : Nat} (h : k ≠ 14) : pl0 G s 50 k = G 50 k := by unfold pl0; rw [uG_s, up_n _ _ h]
theorem pl0_p (G : GT) (s : Nat) : pl0 G s 50 14 = plS G s := by unfold pl0; rw [uG_s, up_s]
theorem MM.pl0 {G : GT} {N s : Nat} (h : MM G N) : MM (pl0 G s) N := h.keep (fun a ha => pl0_n (by omega)) (fun k hk => pl0_k (by omega))
def lyW (G : GT) (p N : Nat) : Nat → GT
  | 0 => G
  | s + 1 => lwG (lyW G p N s) N s (actZ (lyW G p N s) p s)
theorem lwG_off {G : GT} {N s : Nat} {a : Int} {b : Nat} (h : b ≠ 56) (h2 : b ≠ 57) : lwG G N s a b = G b := by
  unfold lwG fixG
  split
  · rw [uG_n _ _ h2, uG_n _ _ h]
  · split
    · rw [uG_n _ _ h2, uG_n _ _ h]
    · rw [uG_n _ _ h2, uG_n _ _ h]
theorem lyW_off {G : GT} {p N b : Nat} (h : b ≠ 56) (h2 : b ≠ 57) : ∀ s, lyW G p N s b = G b
  | 0 => rfl
  | s + 1 => by show lwG _ _ _ _ b = _; rw [lwG_off h h2, lyW_off h h2 s]
theorem alG_off {G : GT} {pl : Int} {N b : Nat} (h : b ≠ 58) : alG G pl N b = G b := uG_n _ _ h
def lyD (G : GT) (p N : Nat) : GT := uG (alG (lyW G p N N) (-1) N) 60 (up (lyW G p N N 60) p (allZ (lyW G p N N) (-1) N))
def lyU (G : GT) (p N : Nat) : Nat → GT
  | 0 => lyD G p N
  | s + 1 => uG (alG (lyU G p N s) (s : Int) N) 59 (up (lyU G p N s 59) (5 * p + s) (allZ (lyU G p N s) (s : Int) N))
theorem lyU_off {G : GT} {p N b : Nat} (h : b < 56 ∨ 61 ≤ b) : ∀ s, lyU G p N s b = G b
  | 0 => by show lyD G p N b = _; unfold lyD; rw [uG_n _ _ (by omega), alG_off (by omega), lyW_off (by omega) (by omega)]
  | s + 1 => by show uG _ _ _ b = _; rw [uG_n _ _ (by omega), alG_off (by omega), lyU_off h s]
def lyP (G : GT) (N : Nat) : Nat → GT
  | 0 => G
  | p + 1 => lyU (lyP G N p) p N N
theorem lyP_off {G : GT} {N b : Nat} (h : b < 56 ∨ 61 ≤ b) : ∀ p, lyP G N p b = G b
  | 0 => rfl
  | p + 1 => by show lyU _ _ _ _ b = _; rw [lyU_off h, lyP_off h p]
def layP (G : GT) (N : Nat) : GT := lyP (pl0 G N) N (plS G N).toNat
theorem layP_off {G : GT} {N b : Nat} (h : (b < 56 ∨ 61 ≤ b) ∧ b ≠ 50) : layP G N b = G b := by unfold layP; rw [lyP_off h.1, pl0_n h.2]
theorem layP_50 (G : GT) (N : Nat) : layP G N 50 = pl0 G N 50 := by unfold layP; rw [lyP_off (by omega)]
theorem MM.lay {G : GT} {N : Nat} (h : MM G N) : MM (layP G N) N := (h.pl0 (s := N)).off (fun b hb => by unfold layP; rw [lyP_off (by omega)])
def cmU (G : GT) (s p q : Nat) : Int := cmpZ ((G 59 (5 * p + s)) * (G 60 q)) ((G 59 (5 * q + s)) * (G 60 p))
theorem cmU_in (G : GT) (s p q : Nat) : -1 ≤ cmU G s p q ∧ cmU G s p q ≤ 1 := by unfold cmU cmpZ; split; omega; split <;> omega
/-- the plans' numbers fit -/
def CmOk (G : GT) (N P : Nat) : Prop := P ≤ 243 ∧ ∀ s p q, s < N → p < P → q < P → inL ((G 59 (5 * p + s)) * (G 60 q))

set_option maxRecDepth 100000 in
set_option maxHeartbeats 4000000 in
theorem ct_M_layPlans (l : Launch) (D : va_G) (K : K5) (G : GT) (N : Nat) (hmm : MM G N) : Ct l D K y_M_layPlans c_M_layPlans 3 none 3 71 [.ref 50] G none (layP G N) := by
  refine Ct.intro (by decide +kernel) (Nat.le_of_ble_eq_true rfl) ?_
  intro X hro hty hC hE
  obtain ⟨hn, hN5, hsh, hac, hpa, hwe, hth, hch⟩ := id hmm
  have hP0 := plS_243 hac hN5
  obtain ⟨P, hP, hP243⟩ : ∃ P : Nat, plS G N = (P : Int) ∧ P ≤ 243 := ⟨(plS G N).toNat, by omega, by omega⟩
  refine a_aload_n (pc := 0) (q := 0) (i := 0) (x := 50) hC (by decide +kernel) rfl 0 rfl ?_
  refine a_iconst (pc := 1) (c := 1) hC (by decide +kernel) ?_
  refine g_put (pc := 2) (idx := 109) (ci := 6) (x := 1) hC 50 14 (by decide +kernel) rfl rfl (congrArg (fun z => vi z) (up_s _ _ _)) rfl wrM (by decide) rfl (by decide +kernel) rfl (ok_int _) ?_
  refine g_G (G' := pl0 G 0) rfl ?_
  refine a_iconst (pc := 5) (c := 0) hC (by decide +kernel) ?_
  refine a_istore_n (pc := 6) (q := 1) (i := 1) (lv' := [(1, vi 0), (0, .ref 50)]) hC (by decide +kernel) rfl (by decide) rfl ?_
  have L7 : ∀ (fuel : Nat) (s : Nat), N - s < fuel → s ≤ N → AW X 3 0 0 7 [(1, vi ((s : Int))), (0, .ref 50)] [] (hp K (pl0 G s)) := by
    intro fuel
    induction fuel with
    | zero => intro s h; exact absurd h (Nat.not_lt_zero _)
    | succ fuel ih7 =>
      intro s hm hs
      refine a_iload_n (pc := 7) (q := 1) (i := 1) (x := (s : Int)) hC (by decide +kernel) rfl 0 rfl ?_
      refine a_aload_n (pc := 8) (q := 0) (i := 0) (x := 50) hC (by decide +kernel) rfl 1 rfl ?_
      refine g_get (pc := 9) (idx := 72) (ci := 6) (v := vi ((pl0 G s) 50 1)) hC 50 1 (by decide +kernel) rfl rfl rfl rfl wrM (by decide) rfl (by decide +kernel) ?_
      refine g_top (y := (N : Int)) (by rw [pl0_k (by decide)]; exact hn) ?_
      refine a_icmp_ge (pc := 12) (off := 40) hC 52 (by decide +kernel) (by decide) (by unfold inI; omega) (by unfold inI; omega) (fun c12 => ?_) (fun c12 => ?_)
      · skip
        refine a_iconst (pc := 52) (c := 0) hC (by decide +kernel) ?_
        refine a_istore_n (pc := 53) (q := 1) (i := 1) (lv' := [(1, vi 0), (0, .ref 50)]) hC (by decide +kernel) rfl (by decide) rfl ?_
        have L54 : ∀ (fuel : Nat) (p : Nat), P - p < fuel → p ≤ P → AW X 3 0 0 54 [(1, vi ((p : Int))), (0, .ref 50)] [] (hp K (lyP (pl0 G N) N p)) := by
          intro fuel
          induction fuel with
          | zero => intro p h; exact absurd h (Nat.not_lt_zero _)
          | succ fuel ih54 =>
            intro p hm hp0
            refine a_iload_n (pc := 54) (q := 1) (i := 1) (x := (p : Int)) hC (by decide +kernel) rfl 0 rfl ?_
            refine a_aload_n (pc := 55) (q := 0) (i := 0) (x := 50) hC (by decide +kernel) rfl 1 rfl ?_
            refine g_get (pc := 56) (idx := 109) (ci := 6) (v := vi ((lyP (pl0 G N) N p) 50 14)) hC 50 14 (by decide +kernel) rfl rfl rfl rfl wrM (by decide) rfl (by decide +kernel) ?_
            refine g_top (y := (P : Int)) (by rw [lyP_off (by omega), pl0_p]; exact hP) ?_
            refine a_icmp_ge (pc := 59) (off := 78) hC 137 (by decide +kernel) (by decide) (by unfold inI; omega) (by unfold inI; omega) (fun c59 => ?_) (fun c59 => ?_)
            · skip
              exact g_vret (pc := 137) hC hE (by decide +kernel) (by rw [show p = P by omega]; unfold layP; rw [hP]; rfl)
            · skip
              have hmH : MM (lyP (pl0 G N) N p) N := (hmm.pl0 (s := N)).off (fun b hb => lyP_off (by omega) p)
              refine a_iconst (pc := 62) (c := 0) hC (by decide +kernel) ?_
              refine a_istore_n (pc := 63) (q := 2) (i := 2) (lv' := [(2, vi 0), (1, vi ((p : Int))), (0, .ref 50)]) hC (by decide +kernel) rfl (by decide) rfl ?_
              have L64 : ∀ (fuel : Nat) (s : Nat), N - s < fuel → s ≤ N → AW X 3 0 0 64 [(2, vi ((s : Int))), (1, vi ((p : Int))), (0, .ref 50)] [] (hp K (lyW (lyP (pl0 G N) N p) p N s)) := by
                intro fuel
                induction fuel with
                | zero => intro s h; exact absurd h (Nat.not_lt_zero _)
                | succ fuel ih64 =>
                  intro s hm hs
                  refine a_iload_n (pc := 64) (q := 2) (i := 2) (x := (s : Int)) hC (by decide +kernel) rfl 0 rfl ?_
                  refine a_aload_n (pc := 65) (q := 0) (i := 0) (x := 50) hC (by decide +kernel) rfl 2 rfl ?_
                  refine g_get (pc := 66) (idx := 72) (ci := 6) (v := vi ((lyW (lyP (pl0 G N) N p) p N s) 50 1)) hC 50 1 (by decide +kernel) rfl rfl rfl rfl wrM (by decide) rfl (by decide +kernel) ?_
                  refine g_top (y := (N : Int)) (by rw [lyW_off (by omega) (by omega), lyP_off (by omega), pl0_k (by decide)]; exact hn) ?_
                  refine a_icmp_ge (pc := 69) (off := 20) hC 89 (by decide +kernel) (by decide) (by unfold inI; omega) (by unfold inI; omega) (fun c69 => ?_) (fun c69 => ?_)
                  · skip
                    have hmN : MM (lyW (lyP (pl0 G N) N p) p N s) N := hmH.off (fun b hb => lyW_off (by omega) (by omega) s)
                    have hsN : s = N := by omega
                    refine a_aload_n (pc := 89) (q := 0) (i := 0) (x := 50) hC (by decide +kernel) rfl 2 rfl ?_
                    refine g_get (pc := 90) (idx := 50) (ci := 6) (v := .ref 60) hC 50 16 (by decide +kernel) rfl rfl rfl rfl wrM (by decide) rfl (by decide +kernel) ?_
                    refine a_iload_n (pc := 93) (q := 1) (i := 1) (x := (p : Int)) hC (by decide +kernel) rfl 1 rfl ?_
                    refine a_aload_n (pc := 94) (q := 0) (i := 0) (x := 50) hC (by decide +kernel) rfl 2 rfl ?_
                    refine a_iconst (pc := 95) (c := -1) hC (by decide +kernel) ?_
                    refine g_callV (pc := 96) (idx := 119) (i := 50) (av := [vi (-1)]) (rest := [vi ((p : Int)), .ref 60]) (g := alG (lyW (lyP (pl0 G N) N p) p N s) (-1) N) (v := vl (allZ (lyW (lyP (pl0 G N) N p) p N s) (-1) N)) hC hro hty (by decide +kernel) rfl rfl k_M_all (by decide +kernel) (by decide +kernel) (by decide +kernel) (ct_M_all X.la X.dd K (lyW (lyP (pl0 G N) N p) p N s) N (-1) (by omega) (by omega) hmN.1) rfl rfl (by decide) (by first | decide | simp [Value.category]) ?_
                    refine g_last (pc := 99) (a := 60) (j := p) (x := allZ (lyW (lyP (pl0 G N) N p) p N s) (-1) N) hC hty (by decide +kernel) rfl (by omega) (by first | decide | omega) ?_
                    refine a_iconst (pc := 100) (c := 0) hC (by decide +kernel) ?_
                    refine a_istore_n (pc := 101) (q := 2) (i := 2) (lv' := [(2, vi 0), (1, vi ((p : Int))), (0, .ref 50)]) hC (by decide +kernel) rfl (by decide) rfl ?_
                    have L102 : ∀ (fuel : Nat) (s : Nat), N - s < fuel → s ≤ N → AW X 3 0 0 102 [(2, vi ((s : Int))), (1, vi ((p : Int))), (0, .ref 50)] [] (hp K (lyU (lyP (pl0 G N) N p) p N s)) := by
                      intro fuel
                      induction fuel with
                      | zero => intro s h; exact absurd h (Nat.not_lt_zero _)
                      | succ fuel ih102 =>
                        intro s hm hs
                        refine a_iload_n (pc := 102) (q := 2) (i := 2) (x := (s : Int)) hC (by decide +kernel) rfl 0 rfl ?_
                        refine a_aload_n (pc := 103) (q := 0) (i := 0) (x := 50) hC (by decide +kernel) rfl 2 rfl ?_
                        refine g_get (pc := 104) (idx := 72) (ci := 6) (v := vi ((lyU (lyP (pl0 G N) N p) p N s) 50 1)) hC 50 1 (by decide +kernel) rfl rfl rfl rfl wrM (by decide) rfl (by decide +kernel) ?_
                        refine g_top (y := (N : Int)) (by rw [lyU_off (by omega), lyP_off (by omega), pl0_k (by decide)]; exact hn) ?_
                        refine a_icmp_ge (pc := 107) (off := 24) hC 131 (by decide +kernel) (by decide) (by unfold inI; omega) (by unfold inI; omega) (fun c107 => ?_) (fun c107 => ?_)
                        · skip
                          refine a_iinc (pc := 131) (i := 1) (c := 1) (x := (p : Int)) (lv' := [(1, vi (((p : Int)) + 1)), (2, vi ((s : Int))), (0, .ref 50)]) hC (by decide +kernel) 1 rfl (by decide) rfl ?_
                          refine a_goto (pc := 134) (off := -80) hC 54 (by decide +kernel) (by decide) ?_
                          refine a_sub (lv' := [(1, vi (((p + 1) : Int))), (0, .ref 50)]) [0, 2] rfl ?_
                          refine g_G (G' := lyP (pl0 G N) N (p + 1)) (by rw [show s = N by omega]; rfl) ?_
                          exact ih54 (p + 1) (by omega) (by omega)
                        · skip
                          have hmU : MM (lyU (lyP (pl0 G N) N p) p N s) N := hmH.off (fun b hb => lyU_off (by omega) s)
                          refine a_aload_n (pc := 110) (q := 0) (i := 0) (x := 50) hC (by decide +kernel) rfl 2 rfl ?_
                          refine g_get (pc := 111) (idx := 47) (ci := 6) (v := .ref 59) hC 50 15 (by decide +kernel) rfl rfl rfl rfl wrM (by decide) rfl (by decide +kernel) ?_
                          refine a_iconst (pc := 114) (c := 5) hC (by decide +kernel) ?_
                          refine a_iload_n (pc := 115) (q := 1) (i := 1) (x := (p : Int)) hC (by decide +kernel) rfl 1 rfl ?_
                          refine a_imul (pc := 116) hC (by decide +kernel) ?_
                          refine a_iload_n (pc := 117) (q := 2) (i := 2) (x := (s : Int)) hC (by decide +kernel) rfl 0 rfl ?_
                          refine a_iadd (pc := 118) hC (by decide +kernel) ?_
                          refine a_aload_n (pc := 119) (q := 0) (i := 0) (x := 50) hC (by decide +kernel) rfl 2 rfl ?_
                          refine a_iload_n (pc := 120) (q := 2) (i := 2) (x := (s : Int)) hC (by decide +kernel) rfl 0 rfl ?_
                          refine g_callV (pc := 121) (idx := 119) (i := 50) (av := [vi ((s : Int))]) (rest := [vi ((5 * ((p : Int))) + ((s : Int))), .ref 59]) (g := alG (lyU (lyP (pl0 G N) N p) p N s) ((s : Int)) N) (v := vl (allZ (lyU (lyP (pl0 G N) N p) p N s) ((s : Int)) N)) hC hro hty (by decide +kernel) rfl rfl k_M_all (by decide +kernel) (by decide +kernel) (by decide +kernel) (ct_M_all X.la X.dd K (lyU (lyP (pl0 G N) N p) p N s) N ((s : Int)) (by omega) (by omega) hmU.1) rfl rfl (by decide) (by first | decide | simp [Value.category]) ?_
                          refine g_snd (y := ((5 * p + s : Nat) : Int)) (by omega) ?_
                          refine g_last (pc := 124) (a := 59) (j := 5 * p + s) (x := allZ (lyU (lyP (pl0 G N) N p) p N s) ((s : Int)) N) hC hty (by decide +kernel) rfl (by omega) (by first | decide | omega) ?_
                          refine a_iinc (pc := 125) (i := 2) (c := 1) (x := (s : Int)) (lv' := [(2, vi (((s : Int)) + 1)), (1, vi ((p : Int))), (0, .ref 50)]) hC (by decide +kernel) 0 rfl (by decide) rfl ?_
                          refine a_goto (pc := 128) (off := -26) hC 102 (by decide +kernel) (by decide) ?_
                          refine a_sub (lv' := [(2, vi (((s + 1) : Int))), (1, vi ((p : Int))), (0, .ref 50)]) [0, 1, 2] rfl ?_
                          refine g_G (G' := lyU (lyP (pl0 G N) N p) p N (s + 1)) (by rw [alG_off (by decide)]; rfl) ?_
                          exact ih102 (s + 1) (by omega) (by omega)
                    refine a_sub (lv' := [(2, vi ((0 : Int))), (1, vi ((p : Int))), (0, .ref 50)]) [0, 1, 2] rfl ?_
                    refine g_G (G' := lyU (lyP (pl0 G N) N p) p N 0) (by rw [hsN, alG_off (by decide)]; rfl) ?_
                    exact L102 _ 0 (Nat.lt_succ_self _) (by omega)
                  · skip
                    have hmW : MM (lyW (lyP (pl0 G N) N p) p N s) N := hmH.off (fun b hb => lyW_off (by omega) (by omega) s)
                    have haz := actZ_in (p := p) hmW.2.2.2.1 (by omega : s < 5)
                    have ha5 := hmW.2.2.2.1 s (by omega)
                    refine a_aload_n (pc := 72) (q := 0) (i := 0) (x := 50) hC (by decide +kernel) rfl 2 rfl ?_
                    refine a_iload_n (pc := 73) (q := 2) (i := 2) (x := (s : Int)) hC (by decide +kernel) rfl 0 rfl ?_
                    refine a_aload_n (pc := 74) (q := 0) (i := 0) (x := 50) hC (by decide +kernel) rfl 2 rfl ?_
                    refine a_iload_n (pc := 75) (q := 1) (i := 1) (x := (p : Int)) hC (by decide +kernel) rfl 1 rfl ?_
                    refine a_iload_n (pc := 76) (q := 2) (i := 2) (x := (s : Int)) hC (by decide +kernel) rfl 0 rfl ?_
                    refine g_callV (pc := 77) (idx := 112) (i := 50) (av := [vi ((p : Int)), vi ((s : Int))]) (rest := [vi ((s : Int)), .ref 50]) (g := lyW (lyP (pl0 G N) N p) p N s) (v := vi (actZ (lyW (lyP (pl0 G N) N p) p N s) p s)) hC hro hty (by decide +kernel) rfl rfl k_M_actIn (by decide +kernel) (by decide +kernel) (by decide +kernel) (ct_M_actIn X.la X.dd K (lyW (lyP (pl0 G N) N p) p N s) p s (by omega) (by omega) hmW.2.2.2.1) rfl rfl (by decide) (by first | decide | simp [Value.category]) ?_
                    refine g_callV0 (pc := 80) (idx := 115) (i := 50) (av := [vi ((s : Int)), vi (actZ (lyW (lyP (pl0 G N) N p) p N s) p s)]) (rest := []) (g := lwG (lyW (lyP (pl0 G N) N p) p N s) N s (actZ (lyW (lyP (pl0 G N) N p) p N s) p s)) hC hro hty (by decide +kernel) rfl rfl k_M_layWorth (by decide +kernel) (by decide +kernel) (by decide +kernel) (ct_M_layWorth_any X.la X.dd K (lyW (lyP (pl0 G N) N p) p N s) N s (actZ (lyW (lyP (pl0 G N) N p) p N s) p s) (by omega) (by omega) hmW) rfl rfl (by decide) (by first | decide | simp [Value.category]) ?_
                    refine a_iinc (pc := 83) (i := 2) (c := 1) (x := (s : Int)) (lv' := [(2, vi (((s : Int)) + 1)), (1, vi ((p : Int))), (0, .ref 50)]) hC (by decide +kernel) 0 rfl (by decide) rfl ?_
                    refine a_goto (pc := 86) (off := -22) hC 64 (by decide +kernel) (by decide) ?_
                    refine a_sub (lv' := [(2, vi (((s + 1) : Int))), (1, vi ((p : Int))), (0, .ref 50)]) [0, 1, 2] rfl ?_
                    refine g_G (G' := lyW (lyP (pl0 G N) N p) p N (s + 1)) rfl ?_
                    exact ih64 (s + 1) (by omega) (by omega)
              refine a_sub (lv' := [(2, vi ((0 : Int))), (1, vi ((p : Int))), (0, .ref 50)]) [0, 1, 2] rfl ?_
              refine g_G (G' := lyW (lyP (pl0 G N) N p) p N 0) rfl ?_
              exact L64 _ 0 (Nat.lt_succ_self _) (by omega)
        refine a_sub (lv' := [(1, vi ((0 : Int))), (0, .ref 50)]) [0, 1] rfl ?_
        refine g_G (G' := lyP (pl0 G N) N 0) (by rw [show s = N by omega]; rfl) ?_
        exact L54 _ 0 (Nat.lt_succ_self _) (by omega)
      · skip
        have h3 := hac s (by omega)
        refine a_aload_n (pc := 15) (q := 0) (i := 0) (x := 50) hC (by decide +kernel) rfl 1 rfl ?_
        refine a_aload_n (pc := 16) (q := 0) (i := 0) (x := 50) hC (by decide +kernel) rfl 1 rfl ?_
        refine g_get (pc := 17) (idx := 13) (ci := 6) (v := .ref 52) hC 50 3 (by decide +kernel) rfl rfl rfl rfl wrM (by decide) rfl (by decide +kernel) ?_
        refine a_iload_n (pc := 20) (q := 1) (i := 1) (x := (s : Int)) hC (by decide +kernel) rfl 0 rfl ?_
        refine g_iald (pc := 21) (a := 52) (j := s) hC hty (by decide +kernel) rfl (by omega) (by first | decide | omega) ?_
        refine g_top (y := G 52 s) (by rw [pl0_n (by decide)]) ?_
        refine a_if_ne (pc := 22) (off := 10) hC 32 (by decide +kernel) (by decide) (by unfold inI; omega) (fun c22 => ?_) (fun c22 => ?_)
        · skip
          have hst : plS G s * G 52 s = plS G (s + 1) := by show _ = (if _ then _ else _); rw [if_neg c22]
          refine a_aload_n (pc := 32) (q := 0) (i := 0) (x := 50) hC (by decide +kernel) rfl 1 rfl ?_
          refine g_get (pc := 33) (idx := 109) (ci := 6) (v := vi ((pl0 G s) 50 14)) hC 50 14 (by decide +kernel) rfl rfl rfl rfl wrM (by decide) rfl (by decide +kernel) ?_
          refine g_top (y := plS G s) (pl0_p _ _) ?_
          refine a_aload_n (pc := 36) (q := 0) (i := 0) (x := 50) hC (by decide +kernel) rfl 1 rfl ?_
          refine g_get (pc := 37) (idx := 13) (ci := 6) (v := .ref 52) hC 50 3 (by decide +kernel) rfl rfl rfl rfl wrM (by decide) rfl (by decide +kernel) ?_
          refine a_iload_n (pc := 40) (q := 1) (i := 1) (x := (s : Int)) hC (by decide +kernel) rfl 0 rfl ?_
          refine g_iald (pc := 41) (a := 52) (j := s) hC hty (by decide +kernel) rfl (by omega) (by first | decide | omega) ?_
          refine g_top (y := G 52 s) (by rw [pl0_n (by decide)]) ?_
          refine a_imul (pc := 42) hC (by decide +kernel) ?_
          refine g_put (pc := 43) (idx := 109) (ci := 6) (x := (plS G s) * (G 52 s)) hC 50 14 (by decide +kernel) rfl rfl (congrArg (fun z => vi z) (up_s _ _ _)) rfl wrM (by decide) rfl (by decide +kernel) rfl (ok_int _) ?_
          refine a_iinc (pc := 46) (i := 1) (c := 1) (x := (s : Int)) (lv' := [(1, vi (((s : Int)) + 1)), (0, .ref 50)]) hC (by decide +kernel) 0 rfl (by decide) rfl ?_
          refine a_goto (pc := 49) (off := -42) hC 7 (by decide +kernel) (by decide) ?_
          refine a_sub (lv' := [(1, vi (((s + 1) : Int))), (0, .ref 50)]) [0, 1] rfl ?_
          refine g_G (G' := pl0 G (s + 1)) (by rw [hst]; unfold pl0; rw [uG_s, uG_uG, up_up]) ?_
          exact ih7 (s + 1) (by omega) (by omega)
        · skip
          have hst : plS G s = plS G (s + 1) := by show _ = (if _ then _ else _); rw [if_pos c22]
          refine a_aload_n (pc := 25) (q := 0) (i := 0) (x := 50) hC (by decide +kernel) rfl 1 rfl ?_
          refine g_get (pc := 26) (idx := 109) (ci := 6) (v := vi ((pl0 G s) 50 14)) hC 50 14 (by decide +kernel) rfl rfl rfl rfl wrM (by decide) rfl (by decide +kernel) ?_
          refine g_top (y := plS G s) (pl0_p _ _) ?_
          refine a_goto (pc := 29) (off := 14) hC 43 (by decide +kernel) (by decide) ?_
          refine g_put (pc := 43) (idx := 109) (ci := 6) (x := plS G s) hC 50 14 (by decide +kernel) rfl rfl (congrArg (fun z => vi z) (up_s _ _ _)) rfl wrM (by decide) rfl (by decide +kernel) rfl (ok_int _) ?_
          refine a_iinc (pc := 46) (i := 1) (c := 1) (x := (s : Int)) (lv' := [(1, vi (((s : Int)) + 1)), (0, .ref 50)]) hC (by decide +kernel) 0 rfl (by decide) rfl ?_
          refine a_goto (pc := 49) (off := -42) hC 7 (by decide +kernel) (by decide) ?_
          refine a_sub (lv' := [(1, vi (((s + 1) : Int))), (0, .ref 50)]) [0, 1] rfl ?_
          refine g_G (G' := pl0 G (s + 1)) (by rw [hst]; unfold pl0; rw [uG_s, uG_uG, up_up]) ?_
          exact ih7 (s + 1) (by omega) (by omega)
  refine a_sub (lv' := [(1, vi ((0 : Int))), (0, .ref 50)]) [0, 1] rfl ?_
  exact L7 _ 0 (Nat.lt_succ_self _) (by omega)

set_option maxRecDepth 100000 in
set_option maxHeartbeats 4000000 in
theorem ct_M_compare (l : Launch) (D : va_G) (K : K5) (G : GT) (N P s p q : Nat) (hN5 : N ≤ 5) (hs : s < N) (hp0 : p < P) (hq : q < P) (hcm : CmOk G N P) : Ct l D K y_M_compare c_M_compare 8 (some .int) 0 0 [.ref 50, vi ((s : Int)), vi ((p : Int)), vi ((q : Int))] G (some (vi (cmU G s p q))) G := by
  refine Ct.intro (by decide +kernel) (Nat.le_of_ble_eq_true rfl) ?_
  intro X hro hty hC hE
  have hP := hcm.1
  refine a_aload_n (pc := 0) (q := 0) (i := 0) (x := 50) hC (by decide +kernel) rfl 0 rfl ?_
  refine g_get (pc := 1) (idx := 47) (ci := 6) (v := .ref 59) hC 50 15 (by decide +kernel) rfl rfl rfl rfl wrM (by decide) rfl (by decide +kernel) ?_
  refine a_iconst (pc := 4) (c := 5) hC (by decide +kernel) ?_
  refine a_iload_n (pc := 5) (q := 2) (i := 2) (x := (p : Int)) hC (by decide +kernel) rfl 2 rfl ?_
  refine a_imul (pc := 6) hC (by decide +kernel) ?_
  refine a_iload_n (pc := 7) (q := 1) (i := 1) (x := (s : Int)) hC (by decide +kernel) rfl 1 rfl ?_
  refine a_iadd (pc := 8) hC (by decide +kernel) ?_
  refine g_top (y := ((5 * p + s : Nat) : Int)) (by omega) ?_
  refine g_lald (pc := 9) (a := 59) (j := 5 * p + s) hC hty (by decide +kernel) rfl (by omega) (by first | decide | omega) ?_
  refine a_aload_n (pc := 10) (q := 0) (i := 0) (x := 50) hC (by decide +kernel) rfl 0 rfl ?_
  refine g_get (pc := 11) (idx := 50) (ci := 6) (v := .ref 60) hC 50 16 (by decide +kernel) rfl rfl rfl rfl wrM (by decide) rfl (by decide +kernel) ?_
  refine a_iload_n (pc := 14) (q := 3) (i := 3) (x := (q : Int)) hC (by decide +kernel) rfl 3 rfl ?_
  refine g_lald (pc := 15) (a := 60) (j := q) hC hty (by decide +kernel) rfl (by omega) (by first | decide | omega) ?_
  refine a_lmul (pc := 16) hC (by decide +kernel) ?_
  refine a_lstore (pc := 17) (q := 0) (i := 4) (lv' := [(4, vl ((G 59 (5 * p + s)) * (G 60 q))), (0, .ref 50), (1, vi ((s : Int))), (2, vi ((p : Int))), (3, vi ((q : Int)))]) hC (by decide +kernel) (by decide) rfl ?_
  refine a_aload_n (pc := 19) (q := 0) (i := 0) (x := 50) hC (by decide +kernel) rfl 1 rfl ?_
  refine g_get (pc := 20) (idx := 47) (ci := 6) (v := .ref 59) hC 50 15 (by decide +kernel) rfl rfl rfl rfl wrM (by decide) rfl (by decide +kernel) ?_
  refine a_iconst (pc := 23) (c := 5) hC (by decide +kernel) ?_
  refine a_iload_n (pc := 24) (q := 3) (i := 3) (x := (q : Int)) hC (by decide +kernel) rfl 4 rfl ?_
  refine a_imul (pc := 25) hC (by decide +kernel) ?_
  refine a_iload_n (pc := 26) (q := 1) (i := 1) (x := (s : Int)) hC (by decide +kernel) rfl 2 rfl ?_
  refine a_iadd (pc := 27) hC (by decide +kernel) ?_
  refine g_top (y := ((5 * q + s : Nat) : Int)) (by omega) ?_
  refine g_lald (pc := 28) (a := 59) (j := 5 * q + s) hC hty (by decide +kernel) rfl (by omega) (by first | decide | omega) ?_
  refine a_aload_n (pc := 29) (q := 0) (i := 0) (x := 50) hC (by decide +kernel) rfl 1 rfl ?_
  refine g_get (pc := 30) (idx := 50) (ci := 6) (v := .ref 60) hC 50 16 (by decide +kernel) rfl rfl rfl rfl wrM (by decide) rfl (by decide +kernel) ?_
  refine a_iload_n (pc := 33) (q := 2) (i := 2) (x := (p : Int)) hC (by decide +kernel) rfl 3 rfl ?_
  refine g_lald (pc := 34) (a := 60) (j := p) hC hty (by decide +kernel) rfl (by omega) (by first | decide | omega) ?_
  refine a_lmul (pc := 35) hC (by decide +kernel) ?_
  refine a_lstore (pc := 36) (q := 0) (i := 6) (lv' := [(6, vl ((G 59 (5 * q + s)) * (G 60 p))), (4, vl ((G 59 (5 * p + s)) * (G 60 q))), (0, .ref 50), (1, vi ((s : Int))), (2, vi ((p : Int))), (3, vi ((q : Int)))]) hC (by decide +kernel) (by decide) rfl ?_
  refine a_lload (pc := 38) (i := 4) (x := (G 59 (5 * p + s)) * (G 60 q)) hC (by decide +kernel) 1 rfl ?_
  refine a_lload (pc := 40) (i := 6) (x := (G 59 (5 * q + s)) * (G 60 p)) hC (by decide +kernel) 0 rfl ?_
  refine a_lcmp (pc := 42) hC (by decide +kernel) (hcm.2 s p q hs hp0 hq) (hcm.2 s q p hs hq hp0) ?_
  refine a_if_ge (pc := 43) (off := 7) hC 50 (by decide +kernel) (by decide) (cmpZ_in _ _) (fun c43 => ?_) (fun c43 => ?_)
  · skip
    rw [cmpZ_ge] at c43
    refine a_lload (pc := 50) (i := 4) (x := (G 59 (5 * p + s)) * (G 60 q)) hC (by decide +kernel) 1 rfl ?_
    refine a_lload (pc := 52) (i := 6) (x := (G 59 (5 * q + s)) * (G 60 p)) hC (by decide +kernel) 0 rfl ?_
    refine a_lcmp (pc := 54) hC (by decide +kernel) (hcm.2 s p q hs hp0 hq) (hcm.2 s q p hs hq hp0) ?_
    refine a_if_le (pc := 55) (off := 7) hC 62 (by decide +kernel) (by decide) (cmpZ_in _ _) (fun c55 => ?_) (fun c55 => ?_)
    · skip
      rw [cmpZ_le] at c55
      refine a_iconst (pc := 62) (c := 0) hC (by decide +kernel) ?_
      exact g_iret (pc := 63) hC hE (by decide +kernel) (by unfold cmU cmpZ; first | (rw [if_neg (by omega), if_neg (by omega)]; done) | (rw [if_pos (by omega)]; done) | (rw [if_neg (by omega), if_pos (by omega)])) rfl
    · skip
      rw [cmpZ_le] at c55
      refine a_iconst (pc := 58) (c := 1) hC (by decide +kernel) ?_
      refine a_goto (pc := 59) (off := 4) hC 63 (by decide +kernel) (by decide) ?_
      exact g_iret (pc := 63) hC hE (by decide +kernel) (by unfold cmU cmpZ; first | (rw [if_neg (by omega), if_neg (by omega)]; done) | (rw [if_pos (by omega)]; done) | (rw [if_neg (by omega), if_pos (by omega)])) rfl
  · skip
    rw [cmpZ_ge] at c43
    refine a_iconst (pc := 46) (c := -1) hC (by decide +kernel) ?_
    refine a_goto (pc := 47) (off := 16) hC 63 (by decide +kernel) (by decide) ?_
    exact g_iret (pc := 63) hC hE (by decide +kernel) (by unfold cmU cmpZ; first | (rw [if_neg (by omega), if_neg (by omega)]; done) | (rw [if_pos (by omega)]; done) | (rw [if_neg (by omega), if_pos (by omega)])) rfl
end
section
/-! the reference: values -/
def agS (G : GT) (p q : Nat) (b : Int) : Nat → Bool
  | 0 => true
  | s + 1 => agS G p q b s && (decide (¬ G 51 s = b) || decide (actZ G p s = actZ G q s))
theorem agS_down {G : GT} {p q : Nat} {b : Int} : ∀ {n t : Nat}, t ≤ n → agS G p q b n = true → agS G p q b t = true
  | 0, t, h, hc => by rw [show t = 0 by omega]; rfl
  | n + 1, t, h, hc => by
    by_cases e : t = n + 1
    · rw [e]; exact hc
    · have : agS G p q b n = true := by unfold agS at hc; simp at hc; exact hc.1
      exact agS_down (by omega) this
def utS (G : GT) (N s p : Nat) (b g : Int) : Nat → Nat
  | 0 => p
  | q + 1 => if agS G p q b N = true then (if g = 0 then (if cmU G s q (utS G N s p b g q) < 0 then q else utS G N s p b g q) else (if 0 < cmU G s q (utS G N s p b g q) then q else utS G N s p b g q)) else utS G N s p b g q
theorem utS_lt {G : GT} {N s p : Nat} {b g : Int} {P : Nat} (hp : p < P) : ∀ q, q ≤ P → utS G N s p b g q < P
  | 0, _ => hp
  | q + 1, h => by
    have ih := utS_lt (G := G) (N := N) (s := s) (b := b) (g := g) hp q (by omega)
    unfold utS
    split
    · split
      · split
        · omega
        · exact ih
      · split
        · omega
        · exact ih
    · exact ih
def hzS (G : GT) (p : Nat) : Nat → Bool
  | 0 => true
  | s + 1 => hzS G p s && (decide (G 51 s = 0) || decide (actZ G p s ≤ 0))
theorem hzS_down {G : GT} {p : Nat} : ∀ {n t : Nat}, t ≤ n → hzS G p n = true → hzS G p t = true
  | 0, t, h, hc => by rw [show t = 0 by omega]; rfl
  | n + 1, t, h, hc => by
    by_cases e : t = n + 1
    · rw [e]; exact hc
    · have : hzS G p n = true := by unfold hzS at hc; simp at hc; exact hc.1
      exact hzS_down (by omega) this
theorem actZ_in3 {G : GT} {p s : Nat} (h : ∀ s, s < 5 → 0 ≤ G 52 s ∧ G 52 s ≤ 3) (hs : s < 5) : -1 ≤ actZ G p s ∧ actZ G p s ≤ 2 := by
  have h1 := h s hs
  rcases actZ_in (p := p) h hs with h2 | h2 <;> omega
def haS (G : GT) (p : Nat) : Nat → Bool
  | 0 => true
  | s + 1 => haS G p s && decide (cmU G s p (G 61 s).toNat = 0)
theorem haS_down {G : GT} {p : Nat} : ∀ {n t : Nat}, t ≤ n → haS G p n = true → haS G p t = true
  | 0, t, h, hc => by rw [show t = 0 by omega]; rfl
  | n + 1, t, h, hc => by
    by_cases e : t = n + 1
    · rw [e]; exact hc
    · have : haS G p n = true := by unfold haS at hc; simp at hc; exact hc.1
      exact haS_down (by omega) this

set_option maxRecDepth 100000 in
set_option maxHeartbeats 4000000 in
theorem ct_M_agree (l : Launch) (D : va_G) (K : K5) (G : GT) (N P p q : Nat) (b : Int) (hb : b = 0 ∨ b = 1) (hp0 : p < P) (hq : q < P) (hP : P ≤ 243) (hmm : MM G N) : Ct l D K y_M_agree c_M_agree 5 (some .boolean) 1 24 [.ref 50, vi ((p : Int)), vi ((q : Int)), vi b] G (some (vi (bZ (agS G p q b N)))) G := by
  refine Ct.intro (by decide +kernel) (Nat.le_of_ble_eq_true rfl) ?_
  intro X hro hty hC hE
  obtain ⟨hn, hN5, hsh, hac, hpa, hwe, hth, hch⟩ := id hmm
  refine a_iconst (pc := 0) (c := 0) hC (by decide +kernel) ?_
  refine a_istore (pc := 1) (q := 0) (i := 4) (lv' := [(4, vi 0), (0, .ref 50), (1, vi ((p : Int))), (2, vi ((q : Int))), (3, vi b)]) hC (by decide +kernel) (by decide) rfl ?_
  have L3 : ∀ (fuel : Nat) (s : Nat), N - s < fuel → s ≤ N → agS G p q b s = true → AW X 5 0 0 3 [(4, vi ((s : Int))), (0, .ref 50), (1, vi ((p : Int))), (2, vi ((q : Int))), (3, vi b)] [] (hp K G) := by
    intro fuel
    induction fuel with
    | zero => intro s h; exact absurd h (Nat.not_lt_zero _)
    | succ fuel ih3 =>
      intro s hm hs ha
      refine a_iload (pc := 3) (i := 4) (x := (s : Int)) hC (by decide +kernel) 0 rfl ?_
      refine a_aload_n (pc := 5) (q := 0) (i := 0) (x := 50) hC (by decide +kernel) rfl 1 rfl ?_
      refine g_get (pc := 6) (idx := 72) (ci := 6) (v := vi (G 50 1)) hC 50 1 (by decide +kernel) rfl rfl rfl rfl wrM (by decide) rfl (by decide +kernel) ?_
      refine a_icmp_ge (pc := 9) (off := 39) hC 48 (by decide +kernel) (by decide) (by unfold inI; omega) (by unfold inI; omega) (fun c9 => ?_) (fun c9 => ?_)
      · skip
        refine a_iconst (pc := 48) (c := 1) hC (by decide +kernel) ?_
        exact g_zret (pc := 49) hC hE (by decide +kernel) (by omega) (by have hsN : s = N := (by omega); rw [hsN] at ha; rw [ha]; rfl) rfl
      · skip
        have h51 := hth s (by omega)
        refine a_aload_n (pc := 12) (q := 0) (i := 0) (x := 50) hC (by decide +kernel) rfl 1 rfl ?_
        refine g_get (pc := 13) (idx := 7) (ci := 6) (v := .ref 51) hC 50 2 (by decide +kernel) rfl rfl rfl rfl wrM (by decide) rfl (by decide +kernel) ?_
        refine a_iload (pc := 16) (i := 4) (x := (s : Int)) hC (by decide +kernel) 0 rfl ?_
        refine g_zald (pc := 18) (a := 51) (j := s) hC hty (by decide +kernel) rfl (by omega) (by first | decide | omega) ?_
        refine a_iload_n (pc := 19) (q := 3) (i := 3) (x := b) hC (by decide +kernel) rfl 4 rfl ?_
        refine a_icmp_ne (pc := 20) (off := 22) hC 42 (by decide +kernel) (by decide) (by unfold inI; omega) (by unfold inI; omega) (fun c20 => ?_) (fun c20 => ?_)
        · skip
          refine a_iinc (pc := 42) (i := 4) (c := 1) (x := (s : Int)) (lv' := [(4, vi (((s : Int)) + 1)), (0, .ref 50), (1, vi ((p : Int))), (2, vi ((q : Int))), (3, vi b)]) hC (by decide +kernel) 0 rfl (by decide) rfl ?_
          refine a_goto (pc := 45) (off := -42) hC 3 (by decide +kernel) (by decide) ?_
          refine a_sub (lv' := [(4, vi (((s + 1) : Int))), (0, .ref 50), (1, vi ((p : Int))), (2, vi ((q : Int))), (3, vi b)]) [0, 1, 2, 3, 4] rfl ?_
          exact ih3 (s + 1) (by omega) (by omega) (by unfold agS; rw [ha]; simp; first | exact Or.inl c20 | exact Or.inr c37)
        · skip
          have hz1 := actZ_in3 (p := p) hac (by omega : s < 5)
          have hz2 := actZ_in3 (p := q) hac (by omega : s < 5)
          refine a_aload_n (pc := 23) (q := 0) (i := 0) (x := 50) hC (by decide +kernel) rfl 1 rfl ?_
          refine a_iload_n (pc := 24) (q := 1) (i := 1) (x := (p : Int)) hC (by decide +kernel) rfl 2 rfl ?_
          refine a_iload (pc := 25) (i := 4) (x := (s : Int)) hC (by decide +kernel) 0 rfl ?_
          refine g_callV (pc := 27) (idx := 112) (i := 50) (av := [vi ((p : Int)), vi ((s : Int))]) (rest := []) (g := G) (v := vi (actZ G p s)) hC hro hty (by decide +kernel) rfl rfl k_M_actIn (by decide +kernel) (by decide +kernel) (by decide +kernel) (ct_M_actIn X.la X.dd K G p s (by omega) (by omega) hac) rfl rfl (by decide) (by first | decide | simp [Value.category]) ?_
          refine a_aload_n (pc := 30) (q := 0) (i := 0) (x := 50) hC (by decide +kernel) rfl 1 rfl ?_
          refine a_iload_n (pc := 31) (q := 2) (i := 2) (x := (q : Int)) hC (by decide +kernel) rfl 3 rfl ?_
          refine a_iload (pc := 32) (i := 4) (x := (s : Int)) hC (by decide +kernel) 0 rfl ?_
          refine g_callV (pc := 34) (idx := 112) (i := 50) (av := [vi ((q : Int)), vi ((s : Int))]) (rest := [vi (actZ G p s)]) (g := G) (v := vi (actZ G q s)) hC hro hty (by decide +kernel) rfl rfl k_M_actIn (by decide +kernel) (by decide +kernel) (by decide +kernel) (ct_M_actIn X.la X.dd K G q s (by omega) (by omega) hac) rfl rfl (by decide) (by first | decide | simp [Value.category]) ?_
          refine a_icmp_eq (pc := 37) (off := 5) hC 42 (by decide +kernel) (by decide) (by unfold inI; omega) (by unfold inI; omega) (fun c37 => ?_) (fun c37 => ?_)
          · skip
            refine a_iinc (pc := 42) (i := 4) (c := 1) (x := (s : Int)) (lv' := [(4, vi (((s : Int)) + 1)), (0, .ref 50), (1, vi ((p : Int))), (2, vi ((q : Int))), (3, vi b)]) hC (by decide +kernel) 0 rfl (by decide) rfl ?_
            refine a_goto (pc := 45) (off := -42) hC 3 (by decide +kernel) (by decide) ?_
            refine a_sub (lv' := [(4, vi (((s + 1) : Int))), (0, .ref 50), (1, vi ((p : Int))), (2, vi ((q : Int))), (3, vi b)]) [0, 1, 2, 3, 4] rfl ?_
            exact ih3 (s + 1) (by omega) (by omega) (by unfold agS; rw [ha]; simp; first | exact Or.inl c20 | exact Or.inr c37)
          · skip
            refine a_iconst (pc := 40) (c := 0) hC (by decide +kernel) ?_
            exact g_zret (pc := 41) hC hE (by decide +kernel) (by omega) (by
              have hx : agS G p q b N = false := by
                cases hh : agS G p q b N
                · rfl
                · have h7 := agS_down (t := s + 1) (by omega) hh
                  unfold agS at h7; rw [ha] at h7; simp at h7
                  exact absurd (h7.resolve_left (fun z => z c20)) c37
              rw [hx]; rfl) rfl
  refine a_sub (lv' := [(4, vi ((0 : Int))), (0, .ref 50), (1, vi ((p : Int))), (2, vi ((q : Int))), (3, vi b)]) [0, 1, 2, 3, 4] rfl ?_
  exact L3 _ 0 (Nat.lt_succ_self _) (by omega) rfl

set_option maxRecDepth 100000 in
set_option maxHeartbeats 4000000 in
theorem ct_M_utmost (l : Launch) (D : va_G) (K : K5) (G : GT) (N P s p : Nat) (b g : Int) (hb : b = 0 ∨ b = 1) (hg : g = 0 ∨ g = 1) (hs : s < N) (hp0 : p < P) (hPl : G 50 14 = (P : Int)) (hmm : MM G N) (hcm : CmOk G N P) : Ct l D K y_M_utmost c_M_utmost 8 (some .int) 2 48 [.ref 50, vi ((s : Int)), vi ((p : Int)), vi b, vi g] G (some (vi (((utS G N s p b g P : Nat) : Int)))) G := by
  refine Ct.intro (by decide +kernel) (Nat.le_of_ble_eq_true rfl) ?_
  intro X hro hty hC hE
  obtain ⟨hn, hN5, hsh, hac, hpa, hwe, hth, hch⟩ := id hmm
  have hP := hcm.1
  refine a_iload_n (pc := 0) (q := 2) (i := 2) (x := (p : Int)) hC (by decide +kernel) rfl 2 rfl ?_
  refine a_istore (pc := 1) (q := 0) (i := 5) (lv' := [(5, vi ((p : Int))), (0, .ref 50), (1, vi ((s : Int))), (2, vi ((p : Int))), (3, vi b), (4, vi g)]) hC (by decide +kernel) (by decide) rfl ?_
  refine a_iconst (pc := 3) (c := 0) hC (by decide +kernel) ?_
  refine a_istore (pc := 4) (q := 0) (i := 6) (lv' := [(6, vi 0), (5, vi ((p : Int))), (0, .ref 50), (1, vi ((s : Int))), (2, vi ((p : Int))), (3, vi b), (4, vi g)]) hC (by decide +kernel) (by decide) rfl ?_
  have L6 : ∀ (fuel : Nat) (q : Nat), P - q < fuel → q ≤ P → AW X 8 0 0 6 [(6, vi ((q : Int))), (5, vi (((utS G N s p b g q : Nat) : Int))), (0, .ref 50), (1, vi ((s : Int))), (2, vi ((p : Int))), (3, vi b), (4, vi g)] [] (hp K G) := by
    intro fuel
    induction fuel with
    | zero => intro q h; exact absurd h (Nat.not_lt_zero _)
    | succ fuel ih6 =>
      intro q hm hq
      refine a_iload (pc := 6) (i := 6) (x := (q : Int)) hC (by decide +kernel) 0 rfl ?_
      refine a_aload_n (pc := 8) (q := 0) (i := 0) (x := 50) hC (by decide +kernel) rfl 2 rfl ?_
      refine g_get (pc := 9) (idx := 109) (ci := 6) (v := vi (G 50 14)) hC 50 14 (by decide +kernel) rfl rfl rfl rfl wrM (by decide) rfl (by decide +kernel) ?_
      refine a_icmp_ge (pc := 12) (off := 65) hC 77 (by decide +kernel) (by decide) (by unfold inI; omega) (by unfold inI; omega) (fun c12 => ?_) (fun c12 => ?_)
      · skip
        refine a_iload (pc := 77) (i := 5) (x := ((utS G N s p b g q : Nat) : Int)) hC (by decide +kernel) 1 rfl ?_
        exact g_iret (pc := 79) hC hE (by decide +kernel) (by rw [show q = P by omega]) rfl
      · skip
        have hut := utS_lt (G := G) (N := N) (s := s) (b := b) (g := g) hp0 q (by omega)
        have hag01 := bZ_01 (agS G p q b N)
        have hcu := cmU_in G s q (utS G N s p b g q)
        refine a_aload_n (pc := 15) (q := 0) (i := 0) (x := 50) hC (by decide +kernel) rfl 2 rfl ?_
        refine a_iload_n (pc := 16) (q := 2) (i := 2) (x := (p : Int)) hC (by decide +kernel) rfl 4 rfl ?_
        refine a_iload (pc := 17) (i := 6) (x := (q : Int)) hC (by decide +kernel) 0 rfl ?_
        refine a_iload_n (pc := 19) (q := 3) (i := 3) (x := b) hC (by decide +kernel) rfl 5 rfl ?_
        refine g_callV (pc := 20) (idx := 123) (i := 50) (av := [vi ((p : Int)), vi ((q : Int)), vi b]) (rest := []) (g := G) (v := vi (bZ (agS G p q b N))) hC hro hty (by decide +kernel) rfl rfl k_M_agree (by decide +kernel) (by decide +kernel) (by decide +kernel) (ct_M_agree X.la X.dd K G N P p q b hb hp0 (by omega) (by omega) hmm) rfl rfl (by decide) (by first | decide | simp [Value.category]) ?_
        refine a_if_eq (pc := 23) (off := 48) hC 71 (by decide +kernel) (by decide) (by unfold inI; omega) (fun c23 => ?_) (fun c23 => ?_)
        · skip
          have hag : agS G p q b N = false := by
            cases hh : agS G p q b N
            · rfl
            · rw [hh] at c23; exact absurd c23 (by decide)
          have hst : (utS G N s p b g q) = utS G N s p b g (q + 1) := by show _ = (if _ then _ else _); rw [if_neg (by rw [hag]; decide)]
          refine a_iinc (pc := 71) (i := 6) (c := 1) (x := (q : Int)) (lv' := [(6, vi (((q : Int)) + 1)), (5, vi (((utS G N s p b g q : Nat) : Int))), (0, .ref 50), (1, vi ((s : Int))), (2, vi ((p : Int))), (3, vi b), (4, vi g)]) hC (by decide +kernel) 0 rfl (by decide) rfl ?_
          refine a_goto (pc := 74) (off := -68) hC 6 (by decide +kernel) (by decide) ?_
          refine a_sub (lv' := [(6, vi (((q + 1) : Int))), (5, vi (((utS G N s p b g (q + 1) : Nat) : Int))), (0, .ref 50), (1, vi ((s : Int))), (2, vi ((p : Int))), (3, vi b), (4, vi g)]) [0, 1, 2, 3, 4, 5, 6] (by rw [← hst]; rfl) ?_
          exact ih6 (q + 1) (by omega) (by omega)
        · skip
          have hag : agS G p q b N = true := by
            cases hh : agS G p q b N
            · rw [hh] at c23; exact absurd rfl c23
            · rfl
          refine a_aload_n (pc := 26) (q := 0) (i := 0) (x := 50) hC (by decide +kernel) rfl 2 rfl ?_
          refine a_iload_n (pc := 27) (q := 1) (i := 1) (x := (s : Int)) hC (by decide +kernel) rfl 3 rfl ?_
          refine a_iload (pc := 28) (i := 6) (x := (q : Int)) hC (by decide +kernel) 0 rfl ?_
          refine a_iload (pc := 30) (i := 5) (x := ((utS G N s p b g q : Nat) : Int)) hC (by decide +kernel) 1 rfl ?_
          refine g_callV (pc := 32) (idx := 127) (i := 50) (av := [vi ((s : Int)), vi ((q : Int)), vi (((utS G N s p b g q : Nat) : Int))]) (rest := []) (g := G) (v := vi (cmU G s q (utS G N s p b g q))) hC hro hty (by decide +kernel) rfl rfl k_M_compare (by decide +kernel) (by decide +kernel) (by decide +kernel) (ct_M_compare X.la X.dd K G N P s q (utS G N s p b g q) (by omega) (by omega) (by omega) (by omega) hcm) rfl rfl (by decide) (by first | decide | simp [Value.category]) ?_
          refine a_istore (pc := 35) (q := 0) (i := 7) (lv' := [(7, vi (cmU G s q (utS G N s p b g q))), (6, vi ((q : Int))), (5, vi (((utS G N s p b g q : Nat) : Int))), (0, .ref 50), (1, vi ((s : Int))), (2, vi ((p : Int))), (3, vi b), (4, vi g)]) hC (by decide +kernel) (by decide) rfl ?_
          refine a_iload (pc := 37) (i := 4) (x := g) hC (by decide +kernel) 7 rfl ?_
          refine a_if_eq (pc := 39) (off := 18) hC 57 (by decide +kernel) (by decide) (by unfold inI; omega) (fun c39 => ?_) (fun c39 => ?_)
          · skip
            refine a_iload (pc := 57) (i := 7) (x := cmU G s q (utS G N s p b g q)) hC (by decide +kernel) 0 rfl ?_
            refine a_if_ge (pc := 59) (off := 8) hC 67 (by decide +kernel) (by decide) (by unfold inI; omega) (fun c59 => ?_) (fun c59 => ?_)
            · skip
              have hst : (utS G N s p b g q) = utS G N s p b g (q + 1) := by show _ = (if _ then _ else _); rw [if_pos hag, if_pos (by omega), if_neg (by omega)]
              refine a_iload (pc := 67) (i := 5) (x := ((utS G N s p b g q : Nat) : Int)) hC (by decide +kernel) 2 rfl ?_
              refine a_istore (pc := 69) (q := 0) (i := 5) (lv' := [(5, vi (((utS G N s p b g q : Nat) : Int))), (7, vi (cmU G s q (utS G N s p b g q))), (6, vi ((q : Int))), (0, .ref 50), (1, vi ((s : Int))), (2, vi ((p : Int))), (3, vi b), (4, vi g)]) hC (by decide +kernel) (by decide) rfl ?_
              refine a_iinc (pc := 71) (i := 6) (c := 1) (x := (q : Int)) (lv' := [(6, vi (((q : Int)) + 1)), (5, vi (((utS G N s p b g q : Nat) : Int))), (7, vi (cmU G s q (utS G N s p b g q))), (0, .ref 50), (1, vi ((s : Int))), (2, vi ((p : Int))), (3, vi b), (4, vi g)]) hC (by decide +kernel) 2 rfl (by decide) rfl ?_
              refine a_goto (pc := 74) (off := -68) hC 6 (by decide +kernel) (by decide) ?_
              refine a_sub (lv' := [(6, vi (((q + 1) : Int))), (5, vi (((utS G N s p b g (q + 1) : Nat) : Int))), (0, .ref 50), (1, vi ((s : Int))), (2, vi ((p : Int))), (3, vi b), (4, vi g)]) [0, 1, 3, 4, 5, 6, 7] (by rw [← hst]; rfl) ?_
              exact ih6 (q + 1) (by omega) (by omega)
            · skip
              have hst : q = utS G N s p b g (q + 1) := by show _ = (if _ then _ else _); rw [if_pos hag, if_pos (by omega), if_pos (by omega)]
              refine a_iload (pc := 62) (i := 6) (x := (q : Int)) hC (by decide +kernel) 1 rfl ?_
              refine a_goto (pc := 64) (off := 5) hC 69 (by decide +kernel) (by decide) ?_
              refine a_istore (pc := 69) (q := 0) (i := 5) (lv' := [(5, vi ((q : Int))), (7, vi (cmU G s q (utS G N s p b g q))), (6, vi ((q : Int))), (0, .ref 50), (1, vi ((s : Int))), (2, vi ((p : Int))), (3, vi b), (4, vi g)]) hC (by decide +kernel) (by decide) rfl ?_
              refine a_iinc (pc := 71) (i := 6) (c := 1) (x := (q : Int)) (lv' := [(6, vi (((q : Int)) + 1)), (5, vi ((q : Int))), (7, vi (cmU G s q (utS G N s p b g q))), (0, .ref 50), (1, vi ((s : Int))), (2, vi ((p : Int))), (3, vi b), (4, vi g)]) hC (by decide +kernel) 2 rfl (by decide) rfl ?_
              refine a_goto (pc := 74) (off := -68) hC 6 (by decide +kernel) (by decide) ?_
              refine a_sub (lv' := [(6, vi (((q + 1) : Int))), (5, vi (((utS G N s p b g (q + 1) : Nat) : Int))), (0, .ref 50), (1, vi ((s : Int))), (2, vi ((p : Int))), (3, vi b), (4, vi g)]) [0, 1, 3, 4, 5, 6, 7] (by rw [← hst]; rfl) ?_
              exact ih6 (q + 1) (by omega) (by omega)
          · skip
            refine a_iload (pc := 42) (i := 7) (x := cmU G s q (utS G N s p b g q)) hC (by decide +kernel) 0 rfl ?_
            refine a_if_le (pc := 44) (off := 8) hC 52 (by decide +kernel) (by decide) (by unfold inI; omega) (fun c44 => ?_) (fun c44 => ?_)
            · skip
              have hst : (utS G N s p b g q) = utS G N s p b g (q + 1) := by show _ = (if _ then _ else _); rw [if_pos hag, if_neg (by omega), if_neg (by omega)]
              refine a_iload (pc := 52) (i := 5) (x := ((utS G N s p b g q : Nat) : Int)) hC (by decide +kernel) 2 rfl ?_
              refine a_goto (pc := 54) (off := 15) hC 69 (by decide +kernel) (by decide) ?_
              refine a_istore (pc := 69) (q := 0) (i := 5) (lv' := [(5, vi (((utS G N s p b g q : Nat) : Int))), (7, vi (cmU G s q (utS G N s p b g q))), (6, vi ((q : Int))), (0, .ref 50), (1, vi ((s : Int))), (2, vi ((p : Int))), (3, vi b), (4, vi g)]) hC (by decide +kernel) (by decide) rfl ?_
              refine a_iinc (pc := 71) (i := 6) (c := 1) (x := (q : Int)) (lv' := [(6, vi (((q : Int)) + 1)), (5, vi (((utS G N s p b g q : Nat) : Int))), (7, vi (cmU G s q (utS G N s p b g q))), (0, .ref 50), (1, vi ((s : Int))), (2, vi ((p : Int))), (3, vi b), (4, vi g)]) hC (by decide +kernel) 2 rfl (by decide) rfl ?_
              refine a_goto (pc := 74) (off := -68) hC 6 (by decide +kernel) (by decide) ?_
              refine a_sub (lv' := [(6, vi (((q + 1) : Int))), (5, vi (((utS G N s p b g (q + 1) : Nat) : Int))), (0, .ref 50), (1, vi ((s : Int))), (2, vi ((p : Int))), (3, vi b), (4, vi g)]) [0, 1, 3, 4, 5, 6, 7] (by rw [← hst]; rfl) ?_
              exact ih6 (q + 1) (by omega) (by omega)
            · skip
              have hst : q = utS G N s p b g (q + 1) := by show _ = (if _ then _ else _); rw [if_pos hag, if_neg (by omega), if_pos (by omega)]
              refine a_iload (pc := 47) (i := 6) (x := (q : Int)) hC (by decide +kernel) 1 rfl ?_
              refine a_goto (pc := 49) (off := 20) hC 69 (by decide +kernel) (by decide) ?_
              refine a_istore (pc := 69) (q := 0) (i := 5) (lv' := [(5, vi ((q : Int))), (7, vi (cmU G s q (utS G N s p b g q))), (6, vi ((q : Int))), (0, .ref 50), (1, vi ((s : Int))), (2, vi ((p : Int))), (3, vi b), (4, vi g)]) hC (by decide +kernel) (by decide) rfl ?_
              refine a_iinc (pc := 71) (i := 6) (c := 1) (x := (q : Int)) (lv' := [(6, vi (((q : Int)) + 1)), (5, vi ((q : Int))), (7, vi (cmU G s q (utS G N s p b g q))), (0, .ref 50), (1, vi ((s : Int))), (2, vi ((p : Int))), (3, vi b), (4, vi g)]) hC (by decide +kernel) 2 rfl (by decide) rfl ?_
              refine a_goto (pc := 74) (off := -68) hC 6 (by decide +kernel) (by decide) ?_
              refine a_sub (lv' := [(6, vi (((q + 1) : Int))), (5, vi (((utS G N s p b g (q + 1) : Nat) : Int))), (0, .ref 50), (1, vi ((s : Int))), (2, vi ((p : Int))), (3, vi b), (4, vi g)]) [0, 1, 3, 4, 5, 6, 7] (by rw [← hst]; rfl) ?_
              exact ih6 (q + 1) (by omega) (by omega)
  refine a_sub (lv' := [(6, vi ((0 : Int))), (5, vi (((utS G N s p b g 0 : Nat) : Int))), (0, .ref 50), (1, vi ((s : Int))), (2, vi ((p : Int))), (3, vi b), (4, vi g)]) [0, 1, 2, 3, 4, 5, 6] rfl ?_
  exact L6 _ 0 (Nat.lt_succ_self _) (by omega)

set_option maxRecDepth 100000 in
set_option maxHeartbeats 4000000 in
theorem ct_M_hasZeros (l : Launch) (D : va_G) (K : K5) (G : GT) (N P p : Nat) (hp0 : p < P) (hP : P ≤ 243) (hmm : MM G N) : Ct l D K y_M_hasZeros c_M_hasZeros 3 (some .boolean) 1 24 [.ref 50, vi ((p : Int))] G (some (vi (bZ (hzS G p N)))) G := by
  refine Ct.intro (by decide +kernel) (Nat.le_of_ble_eq_true rfl) ?_
  intro X hro hty hC hE
  obtain ⟨hn, hN5, hsh, hac, hpa, hwe, hth, hch⟩ := id hmm
  refine a_iconst (pc := 0) (c := 0) hC (by decide +kernel) ?_
  refine a_istore_n (pc := 1) (q := 2) (i := 2) (lv' := [(2, vi 0), (0, .ref 50), (1, vi ((p : Int)))]) hC (by decide +kernel) rfl (by decide) rfl ?_
  have L2 : ∀ (fuel : Nat) (s : Nat), N - s < fuel → s ≤ N → hzS G p s = true → AW X 3 0 0 2 [(2, vi ((s : Int))), (0, .ref 50), (1, vi ((p : Int)))] [] (hp K G) := by
    intro fuel
    induction fuel with
    | zero => intro s h; exact absurd h (Nat.not_lt_zero _)
    | succ fuel ih2 =>
      intro s hm hs ha
      refine a_iload_n (pc := 2) (q := 2) (i := 2) (x := (s : Int)) hC (by decide +kernel) rfl 0 rfl ?_
      refine a_aload_n (pc := 3) (q := 0) (i := 0) (x := 50) hC (by decide +kernel) rfl 1 rfl ?_
      refine g_get (pc := 4) (idx := 72) (ci := 6) (v := vi (G 50 1)) hC 50 1 (by decide +kernel) rfl rfl rfl rfl wrM (by decide) rfl (by decide +kernel) ?_
      refine a_icmp_ge (pc := 7) (off := 29) hC 36 (by decide +kernel) (by decide) (by unfold inI; omega) (by unfold inI; omega) (fun c7 => ?_) (fun c7 => ?_)
      · skip
        refine a_iconst (pc := 36) (c := 1) hC (by decide +kernel) ?_
        exact g_zret (pc := 37) hC hE (by decide +kernel) (by omega) (by have hsN : s = N := (by omega); rw [hsN] at ha; rw [ha]; rfl) rfl
      · skip
        have h51 := hth s (by omega)
        refine a_aload_n (pc := 10) (q := 0) (i := 0) (x := 50) hC (by decide +kernel) rfl 1 rfl ?_
        refine g_get (pc := 11) (idx := 7) (ci := 6) (v := .ref 51) hC 50 2 (by decide +kernel) rfl rfl rfl rfl wrM (by decide) rfl (by decide +kernel) ?_
        refine a_iload_n (pc := 14) (q := 2) (i := 2) (x := (s : Int)) hC (by decide +kernel) rfl 0 rfl ?_
        refine g_zald (pc := 15) (a := 51) (j := s) hC hty (by decide +kernel) rfl (by omega) (by first | decide | omega) ?_
        refine a_if_eq (pc := 16) (off := 14) hC 30 (by decide +kernel) (by decide) (by unfold inI; omega) (fun c16 => ?_) (fun c16 => ?_)
        · skip
          refine a_iinc (pc := 30) (i := 2) (c := 1) (x := (s : Int)) (lv' := [(2, vi (((s : Int)) + 1)), (0, .ref 50), (1, vi ((p : Int)))]) hC (by decide +kernel) 0 rfl (by decide) rfl ?_
          refine a_goto (pc := 33) (off := -31) hC 2 (by decide +kernel) (by decide) ?_
          refine a_sub (lv' := [(2, vi (((s + 1) : Int))), (0, .ref 50), (1, vi ((p : Int)))]) [0, 1, 2] rfl ?_
          exact ih2 (s + 1) (by omega) (by omega) (by unfold hzS; rw [ha]; simp; first | exact Or.inl c16 | exact Or.inr c25)
        · skip
          have hz1 := actZ_in3 (p := p) hac (by omega : s < 5)
          refine a_aload_n (pc := 19) (q := 0) (i := 0) (x := 50) hC (by decide +kernel) rfl 1 rfl ?_
          refine a_iload_n (pc := 20) (q := 1) (i := 1) (x := (p : Int)) hC (by decide +kernel) rfl 2 rfl ?_
          refine a_iload_n (pc := 21) (q := 2) (i := 2) (x := (s : Int)) hC (by decide +kernel) rfl 0 rfl ?_
          refine g_callV (pc := 22) (idx := 112) (i := 50) (av := [vi ((p : Int)), vi ((s : Int))]) (rest := []) (g := G) (v := vi (actZ G p s)) hC hro hty (by decide +kernel) rfl rfl k_M_actIn (by decide +kernel) (by decide +kernel) (by decide +kernel) (ct_M_actIn X.la X.dd K G p s (by omega) (by omega) hac) rfl rfl (by decide) (by first | decide | simp [Value.category]) ?_
          refine a_if_le (pc := 25) (off := 5) hC 30 (by decide +kernel) (by decide) (by unfold inI; omega) (fun c25 => ?_) (fun c25 => ?_)
          · skip
            refine a_iinc (pc := 30) (i := 2) (c := 1) (x := (s : Int)) (lv' := [(2, vi (((s : Int)) + 1)), (0, .ref 50), (1, vi ((p : Int)))]) hC (by decide +kernel) 0 rfl (by decide) rfl ?_
            refine a_goto (pc := 33) (off := -31) hC 2 (by decide +kernel) (by decide) ?_
            refine a_sub (lv' := [(2, vi (((s + 1) : Int))), (0, .ref 50), (1, vi ((p : Int)))]) [0, 1, 2] rfl ?_
            exact ih2 (s + 1) (by omega) (by omega) (by unfold hzS; rw [ha]; simp; first | exact Or.inl c16 | exact Or.inr c25)
          · skip
            refine a_iconst (pc := 28) (c := 0) hC (by decide +kernel) ?_
            exact g_zret (pc := 29) hC hE (by decide +kernel) (by omega) (by
              have hx : hzS G p N = false := by
                cases hh : hzS G p N
                · rfl
                · have h7 := hzS_down (t := s + 1) (by omega) hh
                  unfold hzS at h7; rw [ha] at h7; simp at h7
                  omega
              rw [hx]; rfl) rfl
  refine a_sub (lv' := [(2, vi ((0 : Int))), (0, .ref 50), (1, vi ((p : Int)))]) [0, 1, 2] rfl ?_
  exact L2 _ 0 (Nat.lt_succ_self _) (by omega) rfl

set_option maxRecDepth 100000 in
set_option maxHeartbeats 4000000 in
theorem ct_M_hasAllValues (l : Launch) (D : va_G) (K : K5) (G : GT) (N P p : Nat) (hp0 : p < P) (hmm : MM G N) (hcm : CmOk G N P) (hva : ∀ s, s < N → 0 ≤ G 61 s ∧ G 61 s < (P : Int)) : Ct l D K y_M_hasAllValues c_M_hasAllValues 3 (some .boolean) 1 27 [.ref 50, vi ((p : Int))] G (some (vi (bZ (haS G p N)))) G := by
  refine Ct.intro (by decide +kernel) (Nat.le_of_ble_eq_true rfl) ?_
  intro X hro hty hC hE
  obtain ⟨hn, hN5, hsh, hac, hpa, hwe, hth, hch⟩ := id hmm
  have hP := hcm.1
  refine a_iconst (pc := 0) (c := 0) hC (by decide +kernel) ?_
  refine a_istore_n (pc := 1) (q := 2) (i := 2) (lv' := [(2, vi 0), (0, .ref 50), (1, vi ((p : Int)))]) hC (by decide +kernel) rfl (by decide) rfl ?_
  have L2 : ∀ (fuel : Nat) (s : Nat), N - s < fuel → s ≤ N → haS G p s = true → AW X 3 0 0 2 [(2, vi ((s : Int))), (0, .ref 50), (1, vi ((p : Int)))] [] (hp K G) := by
    intro fuel
    induction fuel with
    | zero => intro s h; exact absurd h (Nat.not_lt_zero _)
    | succ fuel ih2 =>
      intro s hm hs ha
      refine a_iload_n (pc := 2) (q := 2) (i := 2) (x := (s : Int)) hC (by decide +kernel) rfl 0 rfl ?_
      refine a_aload_n (pc := 3) (q := 0) (i := 0) (x := 50) hC (by decide +kernel) rfl 1 rfl ?_
      refine g_get (pc := 4) (idx := 72) (ci := 6) (v := vi (G 50 1)) hC 50 1 (by decide +kernel) rfl rfl rfl rfl wrM (by decide) rfl (by decide +kernel) ?_
      refine a_icmp_ge (pc := 7) (off := 26) hC 33 (by decide +kernel) (by decide) (by unfold inI; omega) (by unfold inI; omega) (fun c7 => ?_) (fun c7 => ?_)
      · skip
        refine a_iconst (pc := 33) (c := 1) hC (by decide +kernel) ?_
        exact g_zret (pc := 34) hC hE (by decide +kernel) (by omega) (by have hsN : s = N := (by omega); rw [hsN] at ha; rw [ha]; rfl) rfl
      · skip
        obtain ⟨v, hv, hvP⟩ : ∃ v : Nat, G 61 s = (v : Int) ∧ v < P := ⟨(G 61 s).toNat, by have := hva s (by omega); omega, by have := hva s (by omega); omega⟩
        have hvn : (G 61 s).toNat = v := by omega
        have hcu := cmU_in G s p v
        refine a_aload_n (pc := 10) (q := 0) (i := 0) (x := 50) hC (by decide +kernel) rfl 1 rfl ?_
        refine a_iload_n (pc := 11) (q := 2) (i := 2) (x := (s : Int)) hC (by decide +kernel) rfl 0 rfl ?_
        refine a_iload_n (pc := 12) (q := 1) (i := 1) (x := (p : Int)) hC (by decide +kernel) rfl 2 rfl ?_
        refine a_aload_n (pc := 13) (q := 0) (i := 0) (x := 50) hC (by decide +kernel) rfl 1 rfl ?_
        refine g_get (pc := 14) (idx := 53) (ci := 6) (v := .ref 61) hC 50 17 (by decide +kernel) rfl rfl rfl rfl wrM (by decide) rfl (by decide +kernel) ?_
        refine a_iload_n (pc := 17) (q := 2) (i := 2) (x := (s : Int)) hC (by decide +kernel) rfl 0 rfl ?_
        refine g_iald (pc := 18) (a := 61) (j := s) hC hty (by decide +kernel) rfl (by omega) (by first | decide | omega) ?_
        refine g_top (y := (v : Int)) hv ?_
        refine g_callV (pc := 19) (idx := 127) (i := 50) (av := [vi ((s : Int)), vi ((p : Int)), vi ((v : Int))]) (rest := []) (g := G) (v := vi (cmU G s p v)) hC hro hty (by decide +kernel) rfl rfl k_M_compare (by decide +kernel) (by decide +kernel) (by decide +kernel) (ct_M_compare X.la X.dd K G N P s p v (by omega) (by omega) (by omega) (by omega) hcm) rfl rfl (by decide) (by first | decide | simp [Value.category]) ?_
        refine a_if_eq (pc := 22) (off := 5) hC 27 (by decide +kernel) (by decide) (by unfold inI; omega) (fun c22 => ?_) (fun c22 => ?_)
        · skip
          refine a_iinc (pc := 27) (i := 2) (c := 1) (x := (s : Int)) (lv' := [(2, vi (((s : Int)) + 1)), (0, .ref 50), (1, vi ((p : Int)))]) hC (by decide +kernel) 0 rfl (by decide) rfl ?_
          refine a_goto (pc := 30) (off := -28) hC 2 (by decide +kernel) (by decide) ?_
          refine a_sub (lv' := [(2, vi (((s + 1) : Int))), (0, .ref 50), (1, vi ((p : Int)))]) [0, 1, 2] rfl ?_
          exact ih2 (s + 1) (by omega) (by omega) (by unfold haS; rw [ha, hvn]; simp; exact c22)
        · skip
          refine a_iconst (pc := 25) (c := 0) hC (by decide +kernel) ?_
          exact g_zret (pc := 26) hC hE (by decide +kernel) (by omega) (by
            have hx : haS G p N = false := by
              cases hh : haS G p N
              · rfl
              · have h7 := haS_down (t := s + 1) (by omega) hh
                unfold haS at h7; rw [ha, hvn] at h7; simp at h7
                exact absurd h7 c22
            rw [hx]; rfl) rfl
  refine a_sub (lv' := [(2, vi ((0 : Int))), (0, .ref 50), (1, vi ((p : Int)))]) [0, 1, 2] rfl ?_
  exact L2 _ 0 (Nat.lt_succ_self _) (by omega) rfl
end
section
/-! the reference: layValues -/
theorem aiS_congr {G G' : GT} (h : G' 52 = G 52) (p : Nat) : ∀ t, aiS G' p t = aiS G p t
  | 0 => rfl
  | t + 1 => by unfold aiS; rw [aiS_congr h p t, h]
theorem actZ_congr {G G' : GT} (h : G' 52 = G 52) (p s : Nat) : actZ G' p s = actZ G p s := by unfold actZ; rw [aiS_congr h, h]
theorem agS_congr {G G' : GT} (h1 : G' 51 = G 51) (h2 : G' 52 = G 52) (p q : Nat) (b : Int) : ∀ n, agS G' p q b n = agS G p q b n
  | 0 => rfl
  | n + 1 => by unfold agS; rw [agS_congr h1 h2 p q b n, h1, actZ_congr h2, actZ_congr h2]
theorem hzS_congr {G G' : GT} (h1 : G' 51 = G 51) (h2 : G' 52 = G 52) (p : Nat) : ∀ n, hzS G' p n = hzS G p n
  | 0 => rfl
  | n + 1 => by unfold hzS; rw [hzS_congr h1 h2 p n, h1, actZ_congr h2]
theorem cmU_congr {G G' : GT} (h1 : G' 59 = G 59) (h2 : G' 60 = G 60) (s p q : Nat) : cmU G' s p q = cmU G s p q := by unfold cmU; rw [h1, h2]
theorem utS_congr {G G' : GT} (h : ∀ b, b ≤ 60 → G' b = G b) (N s p : Nat) (b g : Int) : ∀ q, utS G' N s p b g q = utS G N s p b g q
  | 0 => rfl
  | q + 1 => by unfold utS; rw [utS_congr h N s p b g q, agS_congr (h 51 (by omega)) (h 52 (by omega)), cmU_congr (h 59 (by omega)) (h 60 (by omega))]
theorem haS_congr {G G' : GT} (h1 : G' 59 = G 59) (h2 : G' 60 = G 60) (h3 : G' 61 = G 61) (p : Nat) : ∀ n, haS G' p n = haS G p n
  | 0 => rfl
  | n + 1 => by unfold haS; rw [haS_congr h1 h2 h3 p n, h3, cmU_congr h1 h2]
theorem CmOk.congr {G G' : GT} {N P : Nat} (h : CmOk G N P) (h1 : G' 59 = G 59) (h2 : G' 60 = G 60) : CmOk G' N P := ⟨h.1, fun s p q hs hp hq => by rw [h1, h2]; exact h.2 s p q hs hp hq⟩
def vaS (G : GT) (N P s : Nat) : Nat → Int
  | 0 => -1
  | p + 1 => if hzS G p N = true then (if vaS G N P s p = -1 ∨ 0 < cmU G s (utS G N s p 0 0 P) (vaS G N P s p).toNat then ((utS G N s p 0 0 P : Nat) : Int) else vaS G N P s p) else vaS G N P s p
theorem vaS_in {G : GT} {N P s : Nat} : ∀ p, p ≤ P → -1 ≤ vaS G N P s p ∧ vaS G N P s p < (P : Int)
  | 0, h => by unfold vaS; omega
  | p + 1, h => by
    have ih := vaS_in (G := G) (N := N) (P := P) (s := s) p (by omega)
    have hu := utS_lt (G := G) (N := N) (s := s) (b := 0) (g := 0) (by omega : p < P) P (Nat.le_refl _)
    unfold vaS
    split
    · split
      · omega
      · exact ih
    · exact ih
theorem aiS_0 {G : GT} : ∀ t, aiS G 0 t = 0
  | 0 => rfl
  | t + 1 => by unfold aiS; rw [aiS_0 t]; split; rfl; exact Int.zero_tdiv _
theorem hz_0 (G : GT) : ∀ n, hzS G 0 n = true
  | 0 => rfl
  | n + 1 => by
    have : actZ G 0 n ≤ 0 := by unfold actZ; rw [aiS_0]; split; decide; rw [Int.zero_tmod]; exact Int.le_refl _
    unfold hzS; rw [hz_0 G n]; simp; exact Or.inr this
theorem vaS_nn {G : GT} {N P s : Nat} : ∀ p, 1 ≤ p → 0 ≤ vaS G N P s p
  | 0, h => by omega
  | p + 1, _ => by
    by_cases hp : p = 0
    · subst hp
      unfold vaS
      have hm1 : vaS G N P s 0 = -1 ∨ 0 < cmU G s (utS G N s 0 0 0 P) (vaS G N P s 0).toNat := Or.inl rfl
      rw [if_pos (hz_0 G N), if_pos hm1]
      omega
    · have ih := vaS_nn (G := G) (N := N) (P := P) (s := s) p (by omega)
      unfold vaS
      split
      · split
        · omega
        · exact ih
      · exact ih
def vaF (G : GT) (N P i : Nat) : Nat → Int := fun z => if z < i then vaS G N P z P else G 61 z
theorem vaF_0 (G : GT) (N P : Nat) : vaF G N P 0 = G 61 := by funext j; exact if_neg (by omega)
theorem vaF_s (G : GT) (N P i : Nat) : up (vaF G N P i) i (vaS G N P i P) = vaF G N P (i + 1) := by
  funext j; unfold up vaF
  by_cases h : j = i
  · subst h; rw [if_pos rfl, if_pos (by omega)]
  · rw [if_neg h]
    by_cases h2 : j < i
    · rw [if_pos h2, if_pos (by omega)]
    · rw [if_neg h2, if_neg (by omega)]
def coS (G : GT) (N : Nat) : Nat → Int × Int
  | 0 => (-1, 0)
  | p + 1 => if haS G p N = true then ((p : Int), (coS G N p).2 + 1) else coS G N p
def coG (G : GT) (N p : Nat) : GT := uG G 50 (up (up (G 50) 18 (coS G N p).1) 19 (coS G N p).2)
theorem coG_n {G : GT} {N p b : Nat} (h : b ≠ 50) : coG G N p b = G b := uG_n _ _ h
theorem coG_k {G : GT} {N p k : Nat} (h : k ≠ 18) (h2 : k ≠ 19) : coG G N p 50 k = G 50 k := by unfold coG; rw [uG_s, up_n _ _ h2, up_n _ _ h]
theorem coG_18 (G : GT) (N p : Nat) : coG G N p 50 18 = (coS G N p).1 := by unfold coG; rw [uG_s, up_n _ _ (by decide), up_s]
theorem coG_19 (G : GT) (N p : Nat) : coG G N p 50 19 = (coS G N p).2 := by unfold coG; rw [uG_s, up_s]
/-- the plans laid, their count, the values' plans -/
def nPl (G : GT) (N : Nat) : Nat := (plS G N).toNat
def vaG (G : GT) (N : Nat) : GT := uG (layP G N) 61 (vaF (layP G N) N (nPl G N) N)
def layV (G : GT) (N : Nat) : GT := coG (vaG G N) N (nPl G N)

set_option maxRecDepth 100000 in
set_option maxHeartbeats 4000000 in
theorem ct_M_layValues (l : Launch) (D : va_G) (K : K5) (G : GT) (N : Nat) (hmm : MM G N) (hcm : CmOk (layP G N) N (nPl G N)) : Ct l D K y_M_layValues c_M_layValues 5 none 4 93 [.ref 50] G none (layV G N) := by
  refine Ct.intro (by decide +kernel) (Nat.le_of_ble_eq_true rfl) ?_
  intro X hro hty hC hE
  obtain ⟨hn, hN5, hsh, hac, hpa, hwe, hth, hch⟩ := id hmm
  have hP0 := plS_243 hac hN5
  obtain ⟨P, hPe⟩ : ∃ P : Nat, nPl G N = P := ⟨_, rfl⟩
  have hP : plS G N = (P : Int) := by unfold nPl at hPe; omega
  rw [hPe] at hcm
  have hP243 := hcm.1
  have hmH := hmm.lay
  have h14 : (layP G N) 50 14 = (P : Int) := by rw [layP_50, pl0_p]; exact hP
  refine a_aload_n (pc := 0) (q := 0) (i := 0) (x := 50) hC (by decide +kernel) rfl 0 rfl ?_
  refine g_callV0 (pc := 1) (idx := 130) (i := 50) (av := []) (rest := []) (g := layP G N) hC hro hty (by decide +kernel) rfl rfl k_M_layPlans (by decide +kernel) (by decide +kernel) (by decide +kernel) (ct_M_layPlans X.la X.dd K G N hmm) rfl rfl (by decide) (by first | decide | simp [Value.category]) ?_
  refine a_iconst (pc := 4) (c := 0) hC (by decide +kernel) ?_
  refine a_istore_n (pc := 5) (q := 1) (i := 1) (lv' := [(1, vi 0), (0, .ref 50)]) hC (by decide +kernel) rfl (by decide) rfl ?_
  have L6 : ∀ (fuel : Nat) (s : Nat), N - s < fuel → s ≤ N → AW X 5 0 0 6 [(1, vi ((s : Int))), (0, .ref 50)] [] (hp K (uG (layP G N) 61 (vaF (layP G N) N P s))) := by
    intro fuel
    induction fuel with
    | zero => intro s h; exact absurd h (Nat.not_lt_zero _)
    | succ fuel ih6 =>
      intro s hm hs
      refine a_iload_n (pc := 6) (q := 1) (i := 1) (x := (s : Int)) hC (by decide +kernel) rfl 0 rfl ?_
      refine a_aload_n (pc := 7) (q := 0) (i := 0) (x := 50) hC (by decide +kernel) rfl 1 rfl ?_
      refine g_get (pc := 8) (idx := 72) (ci := 6) (v := vi ((uG (layP G N) 61 (vaF (layP G N) N P s)) 50 1)) hC 50 1 (by decide +kernel) rfl rfl rfl rfl wrM (by decide) rfl (by decide +kernel) ?_
      refine g_top (y := (N : Int)) (by rw [uG_n _ _ (by decide)]; exact hmH.1) ?_
      refine a_icmp_ge (pc := 11) (off := 75) hC 86 (by decide +kernel) (by decide) (by unfold inI; omega) (by unfold inI; omega) (fun c11 => ?_) (fun c11 => ?_)
      · skip
        have hsN : s = N := by omega
        refine a_aload_n (pc := 86) (q := 0) (i := 0) (x := 50) hC (by decide +kernel) rfl 1 rfl ?_
        refine a_iconst (pc := 87) (c := -1) hC (by decide +kernel) ?_
        refine g_put (pc := 88) (idx := 140) (ci := 6) (x := -1) hC 50 18 (by decide +kernel) rfl rfl (congrArg (fun z => vi z) (up_s _ _ _)) rfl wrM (by decide) rfl (by decide +kernel) rfl (ok_int _) ?_
        refine a_aload_n (pc := 91) (q := 0) (i := 0) (x := 50) hC (by decide +kernel) rfl 1 rfl ?_
        refine a_iconst (pc := 92) (c := 0) hC (by decide +kernel) ?_
        refine g_put (pc := 93) (idx := 143) (ci := 6) (x := 0) hC 50 19 (by decide +kernel) rfl rfl (congrArg (fun z => vi z) (up_s _ _ _)) rfl wrM (by decide) rfl (by decide +kernel) rfl (ok_int _) ?_
        refine g_G (G' := coG (vaG G N) N 0) (by rw [hsN, ← hPe]; unfold coG; rw [uG_s, uG_uG]; rfl) ?_
        refine a_iconst (pc := 96) (c := 0) hC (by decide +kernel) ?_
        refine a_istore_n (pc := 97) (q := 1) (i := 1) (lv' := [(1, vi 0), (0, .ref 50)]) hC (by decide +kernel) rfl (by decide) rfl ?_
        have L98 : ∀ (fuel : Nat) (p : Nat), P - p < fuel → p ≤ P → AW X 5 0 0 98 [(1, vi ((p : Int))), (0, .ref 50)] [] (hp K (coG (vaG G N) N p)) := by
          intro fuel
          induction fuel with
          | zero => intro p h; exact absurd h (Nat.not_lt_zero _)
          | succ fuel ih98 =>
            intro p hm hp0
            have hvg : ∀ b, b ≤ 60 → (vaG G N) b = (layP G N) b := fun b hb => uG_n _ _ (by omega)
            refine a_iload_n (pc := 98) (q := 1) (i := 1) (x := (p : Int)) hC (by decide +kernel) rfl 0 rfl ?_
            refine a_aload_n (pc := 99) (q := 0) (i := 0) (x := 50) hC (by decide +kernel) rfl 1 rfl ?_
            refine g_get (pc := 100) (idx := 109) (ci := 6) (v := vi ((coG (vaG G N) N p) 50 14)) hC 50 14 (by decide +kernel) rfl rfl rfl rfl wrM (by decide) rfl (by decide +kernel) ?_
            refine g_top (y := (P : Int)) (by rw [coG_k (by decide) (by decide), hvg 50 (by omega)]; exact h14) ?_
            refine a_icmp_ge (pc := 103) (off := 32) hC 135 (by decide +kernel) (by decide) (by unfold inI; omega) (by unfold inI; omega) (fun c103 => ?_) (fun c103 => ?_)
            · skip
              exact g_vret (pc := 135) hC hE (by decide +kernel) (by rw [show p = P by omega]; unfold layV; rw [hPe])
            · skip
              have hcc : ∀ b, b ≠ 50 → coG (vaG G N) N p b = (vaG G N) b := fun b hb => coG_n hb
              have hmC : MM (coG (vaG G N) N p) N := (hmH.off (fun b hb => hvg b (by omega))).keep (fun a ha => hcc a (by omega)) (fun k hk => coG_k (by omega) (by omega))
              have hb3 := bZ_01 (haS (vaG G N) p N)
              refine a_aload_n (pc := 106) (q := 0) (i := 0) (x := 50) hC (by decide +kernel) rfl 1 rfl ?_
              refine a_iload_n (pc := 107) (q := 1) (i := 1) (x := (p : Int)) hC (by decide +kernel) rfl 0 rfl ?_
              refine g_callV (pc := 108) (idx := 146) (i := 50) (av := [vi ((p : Int))]) (rest := []) (g := coG (vaG G N) N p) (v := vi (bZ (haS (coG (vaG G N) N p) p N))) hC hro hty (by decide +kernel) rfl rfl k_M_hasAllValues (by decide +kernel) (by decide +kernel) (by decide +kernel) (ct_M_hasAllValues X.la X.dd K (coG (vaG G N) N p) N P p (by omega) hmC (hcm.congr (by rw [hcc 59 (by decide), hvg 59 (by decide)]) (by rw [hcc 60 (by decide), hvg 60 (by decide)])) (fun z hz => by rw [hcc 61 (by decide)]; unfold vaG; rw [uG_s]; unfold vaF; rw [if_pos hz, hPe]; exact ⟨vaS_nn P (by omega), (vaS_in P (Nat.le_refl _)).2⟩)) rfl rfl (by decide) (by first | decide | simp [Value.category]) ?_
              refine g_top (y := bZ (haS (vaG G N) p N)) (by rw [haS_congr (hcc 59 (by decide)) (hcc 60 (by decide)) (hcc 61 (by decide))]) ?_
              refine a_if_eq (pc := 111) (off := 18) hC 129 (by decide +kernel) (by decide) (by unfold inI; omega) (fun c111 => ?_) (fun c111 => ?_)
              · skip
                have hz : haS (vaG G N) p N = false := by
                  cases hh : haS (vaG G N) p N
                  · rfl
                  · rw [hh] at c111; exact absurd c111 (by decide)
                have hst : coS (vaG G N) N (p + 1) = coS (vaG G N) N p := by show (if _ then _ else _) = _; rw [if_neg (by rw [hz]; decide)]
                refine a_iinc (pc := 129) (i := 1) (c := 1) (x := (p : Int)) (lv' := [(1, vi (((p : Int)) + 1)), (0, .ref 50)]) hC (by decide +kernel) 0 rfl (by decide) rfl ?_
                refine a_goto (pc := 132) (off := -34) hC 98 (by decide +kernel) (by decide) ?_
                refine a_sub (lv' := [(1, vi (((p + 1) : Int))), (0, .ref 50)]) [0, 1] rfl ?_
                refine g_G (G' := coG (vaG G N) N (p + 1)) (by first | (unfold coG; rw [hst]; done) | (unfold coG; rw [hst, uG_s, uG_uG, uG_s, uG_uG]; congr 1; funext z; unfold up; split; rfl; split; rfl; rfl)) ?_
                exact ih98 (p + 1) (by omega) (by omega)
              · skip
                have hz : haS (vaG G N) p N = true := by
                  cases hh : haS (vaG G N) p N
                  · rw [hh] at c111; exact absurd rfl c111
                  · rfl
                have hst : coS (vaG G N) N (p + 1) = ((p : Int), (coS (vaG G N) N p).2 + 1) := by show (if _ then _ else _) = _; rw [if_pos hz]
                refine a_aload_n (pc := 114) (q := 0) (i := 0) (x := 50) hC (by decide +kernel) rfl 1 rfl ?_
                refine a_iload_n (pc := 115) (q := 1) (i := 1) (x := (p : Int)) hC (by decide +kernel) rfl 0 rfl ?_
                refine g_put (pc := 116) (idx := 140) (ci := 6) (x := (p : Int)) hC 50 18 (by decide +kernel) rfl rfl (congrArg (fun z => vi z) (up_s _ _ _)) rfl wrM (by decide) rfl (by decide +kernel) rfl (ok_int _) ?_
                refine a_aload_n (pc := 119) (q := 0) (i := 0) (x := 50) hC (by decide +kernel) rfl 1 rfl ?_
                refine a_dup (pc := 120) hC (by decide +kernel) rfl ?_
                refine g_get (pc := 121) (idx := 143) (ci := 6) (v := vi ((uG (coG (vaG G N) N p) 50 (up ((coG (vaG G N) N p) 50) 18 ((p : Int)))) 50 19)) hC 50 19 (by decide +kernel) rfl rfl rfl rfl wrM (by decide) rfl (by decide +kernel) ?_
                refine g_top (y := (coS (vaG G N) N p).2) (by rw [uG_s, up_n _ _ (by decide)]; exact coG_19 _ _ _) ?_
                refine a_iconst (pc := 124) (c := 1) hC (by decide +kernel) ?_
                refine a_iadd (pc := 125) hC (by decide +kernel) ?_
                refine g_put (pc := 126) (idx := 143) (ci := 6) (x := ((coS (vaG G N) N p).2) + 1) hC 50 19 (by decide +kernel) rfl rfl (congrArg (fun z => vi z) (up_s _ _ _)) rfl wrM (by decide) rfl (by decide +kernel) rfl (ok_int _) ?_
                refine a_iinc (pc := 129) (i := 1) (c := 1) (x := (p : Int)) (lv' := [(1, vi (((p : Int)) + 1)), (0, .ref 50)]) hC (by decide +kernel) 0 rfl (by decide) rfl ?_
                refine a_goto (pc := 132) (off := -34) hC 98 (by decide +kernel) (by decide) ?_
                refine a_sub (lv' := [(1, vi (((p + 1) : Int))), (0, .ref 50)]) [0, 1] rfl ?_
                refine g_G (G' := coG (vaG G N) N (p + 1)) (by first | (unfold coG; rw [hst]; done) | (unfold coG; rw [hst, uG_s, uG_uG, uG_s, uG_uG]; congr 1; funext z; unfold up; split; rfl; split; rfl; rfl)) ?_
                exact ih98 (p + 1) (by omega) (by omega)
        refine a_sub (lv' := [(1, vi ((0 : Int))), (0, .ref 50)]) [0, 1] rfl ?_
        exact L98 _ 0 (Nat.lt_succ_self _) (by omega)
      · skip
        have hcg : ∀ c, c ≤ 60 → uG (layP G N) 61 (vaF (layP G N) N P s) c = (layP G N) c := fun c hc => uG_n _ _ (by omega)
        have hmS : MM (uG (layP G N) 61 (vaF (layP G N) N P s)) N := hmH.off (fun b hb => hcg b (by omega))
        have hcS : CmOk (uG (layP G N) 61 (vaF (layP G N) N P s)) N P := hcm.congr (hcg 59 (by omega)) (hcg 60 (by omega))
        refine a_iconst (pc := 14) (c := -1) hC (by decide +kernel) ?_
        refine a_istore_n (pc := 15) (q := 2) (i := 2) (lv' := [(2, vi (-1)), (1, vi ((s : Int))), (0, .ref 50)]) hC (by decide +kernel) rfl (by decide) rfl ?_
        refine a_iconst (pc := 16) (c := 0) hC (by decide +kernel) ?_
        refine a_istore_n (pc := 17) (q := 3) (i := 3) (lv' := [(3, vi 0), (2, vi (-1)), (1, vi ((s : Int))), (0, .ref 50)]) hC (by decide +kernel) rfl (by decide) rfl ?_
        have L18 : ∀ (fuel : Nat) (p : Nat), P - p < fuel → p ≤ P → AW X 5 0 0 18 [(3, vi ((p : Int))), (2, vi (vaS (layP G N) N P s p)), (1, vi ((s : Int))), (0, .ref 50)] [] (hp K (uG (layP G N) 61 (vaF (layP G N) N P s))) := by
          intro fuel
          induction fuel with
          | zero => intro p h; exact absurd h (Nat.not_lt_zero _)
          | succ fuel ih18 =>
            intro p hm hp0
            have hvi := vaS_in (G := (layP G N)) (N := N) (s := s) p hp0
            refine a_iload_n (pc := 18) (q := 3) (i := 3) (x := (p : Int)) hC (by decide +kernel) rfl 0 rfl ?_
            refine a_aload_n (pc := 19) (q := 0) (i := 0) (x := 50) hC (by decide +kernel) rfl 3 rfl ?_
            refine g_get (pc := 20) (idx := 109) (ci := 6) (v := vi ((uG (layP G N) 61 (vaF (layP G N) N P s)) 50 14)) hC 50 14 (by decide +kernel) rfl rfl rfl rfl wrM (by decide) rfl (by decide +kernel) ?_
            refine g_top (y := (P : Int)) (by rw [hcg 50 (by omega)]; exact h14) ?_
            refine a_icmp_ge (pc := 23) (off := 50) hC 73 (by decide +kernel) (by decide) (by unfold inI; omega) (by unfold inI; omega) (fun c23 => ?_) (fun c23 => ?_)
            · skip
              have hpP : p = P := by omega
              refine a_aload_n (pc := 73) (q := 0) (i := 0) (x := 50) hC (by decide +kernel) rfl 3 rfl ?_
              refine g_get (pc := 74) (idx := 53) (ci := 6) (v := .ref 61) hC 50 17 (by decide +kernel) rfl rfl rfl rfl wrM (by decide) rfl (by decide +kernel) ?_
              refine a_iload_n (pc := 77) (q := 1) (i := 1) (x := (s : Int)) hC (by decide +kernel) rfl 2 rfl ?_
              refine a_iload_n (pc := 78) (q := 2) (i := 2) (x := vaS (layP G N) N P s p) hC (by decide +kernel) rfl 1 rfl ?_
              refine g_iast (pc := 79) (a := 61) (j := s) (x := vaS (layP G N) N P s p) hC hty (by decide +kernel) rfl (by omega) (by first | decide | omega) ?_
              refine a_iinc (pc := 80) (i := 1) (c := 1) (x := (s : Int)) (lv' := [(1, vi (((s : Int)) + 1)), (3, vi ((p : Int))), (2, vi (vaS (layP G N) N P s p)), (0, .ref 50)]) hC (by decide +kernel) 2 rfl (by decide) rfl ?_
              refine a_goto (pc := 83) (off := -77) hC 6 (by decide +kernel) (by decide) ?_
              refine a_sub (lv' := [(1, vi (((s + 1) : Int))), (0, .ref 50)]) [0, 3] rfl ?_
              refine g_G (G' := uG (layP G N) 61 (vaF (layP G N) N P (s + 1))) (by rw [uG_s, uG_uG, hpP, vaF_s]) ?_
              exact ih6 (s + 1) (by omega) (by omega)
            · skip
              have hlt : p < P := by omega
              have hb1 := bZ_01 (hzS (layP G N) p N)
              have hul := utS_lt (G := (layP G N)) (N := N) (s := s) (b := 0) (g := 0) hlt P (Nat.le_refl _)
              refine a_aload_n (pc := 26) (q := 0) (i := 0) (x := 50) hC (by decide +kernel) rfl 3 rfl ?_
              refine a_iload_n (pc := 27) (q := 3) (i := 3) (x := (p : Int)) hC (by decide +kernel) rfl 0 rfl ?_
              refine g_callV (pc := 28) (idx := 133) (i := 50) (av := [vi ((p : Int))]) (rest := []) (g := uG (layP G N) 61 (vaF (layP G N) N P s)) (v := vi (bZ (hzS (uG (layP G N) 61 (vaF (layP G N) N P s)) p N))) hC hro hty (by decide +kernel) rfl rfl k_M_hasZeros (by decide +kernel) (by decide +kernel) (by decide +kernel) (ct_M_hasZeros X.la X.dd K (uG (layP G N) 61 (vaF (layP G N) N P s)) N P p (by omega) (by omega) hmS) rfl rfl (by decide) (by first | decide | simp [Value.category]) ?_
              refine g_top (y := bZ (hzS (layP G N) p N)) (by rw [hzS_congr (hcg 51 (by omega)) (hcg 52 (by omega))]) ?_
              refine a_if_eq (pc := 31) (off := 36) hC 67 (by decide +kernel) (by decide) (by unfold inI; omega) (fun c31 => ?_) (fun c31 => ?_)
              · skip
                have hz : hzS (layP G N) p N = false := by
                  cases hh : hzS (layP G N) p N
                  · rfl
                  · rw [hh] at c31; exact absurd c31 (by decide)
                have hst : (vaS (layP G N) N P s p) = vaS (layP G N) N P s (p + 1) := by show _ = (if _ then _ else _); rw [if_neg (by rw [hz]; decide)]
                refine a_iinc (pc := 67) (i := 3) (c := 1) (x := (p : Int)) (lv' := [(3, vi (((p : Int)) + 1)), (2, vi (vaS (layP G N) N P s p)), (1, vi ((s : Int))), (0, .ref 50)]) hC (by decide +kernel) 0 rfl (by decide) rfl ?_
                refine a_goto (pc := 70) (off := -52) hC 18 (by decide +kernel) (by decide) ?_
                refine a_sub (lv' := [(3, vi (((p + 1) : Int))), (2, vi (vaS (layP G N) N P s (p + 1))), (1, vi ((s : Int))), (0, .ref 50)]) [0, 1, 2, 3] (by rw [← hst]; rfl) ?_
                exact ih18 (p + 1) (by omega) (by omega)
              · skip
                have hz : hzS (layP G N) p N = true := by
                  cases hh : hzS (layP G N) p N
                  · rw [hh] at c31; exact absurd rfl c31
                  · rfl
                refine a_aload_n (pc := 34) (q := 0) (i := 0) (x := 50) hC (by decide +kernel) rfl 3 rfl ?_
                refine a_iload_n (pc := 35) (q := 1) (i := 1) (x := (s : Int)) hC (by decide +kernel) rfl 2 rfl ?_
                refine a_iload_n (pc := 36) (q := 3) (i := 3) (x := (p : Int)) hC (by decide +kernel) rfl 0 rfl ?_
                refine a_iconst (pc := 37) (c := 0) hC (by decide +kernel) ?_
                refine a_iconst (pc := 38) (c := 0) hC (by decide +kernel) ?_
                refine g_callV (pc := 39) (idx := 136) (i := 50) (av := [vi ((s : Int)), vi ((p : Int)), vi 0, vi 0]) (rest := []) (g := uG (layP G N) 61 (vaF (layP G N) N P s)) (v := vi (((utS (uG (layP G N) 61 (vaF (layP G N) N P s)) N s p 0 0 P : Nat) : Int))) hC hro hty (by decide +kernel) rfl rfl k_M_utmost (by decide +kernel) (by decide +kernel) (by decide +kernel) (ct_M_utmost X.la X.dd K (uG (layP G N) 61 (vaF (layP G N) N P s)) N P s p 0 0 (Or.inl rfl) (Or.inl rfl) (by omega) hlt (by rw [hcg 50 (by omega)]; exact h14) hmS hcS) rfl rfl (by decide) (by first | decide | simp [Value.category]) ?_
                refine g_top (y := (((utS (layP G N) N s p 0 0 P) : Nat) : Int)) (by rw [utS_congr hcg]) ?_
                refine a_istore (pc := 42) (q := 0) (i := 4) (lv' := [(4, vi ((((utS (layP G N) N s p 0 0 P) : Nat) : Int))), (3, vi ((p : Int))), (2, vi (vaS (layP G N) N P s p)), (1, vi ((s : Int))), (0, .ref 50)]) hC (by decide +kernel) (by decide) rfl ?_
                refine a_iload_n (pc := 44) (q := 2) (i := 2) (x := vaS (layP G N) N P s p) hC (by decide +kernel) rfl 2 rfl ?_
                refine a_iconst (pc := 45) (c := -1) hC (by decide +kernel) ?_
                refine a_icmp_eq (pc := 46) (off := 14) hC 60 (by decide +kernel) (by decide) (by unfold inI; omega) (by unfold inI; omega) (fun c46 => ?_) (fun c46 => ?_)
                · skip
                  have hst : (((utS (layP G N) N s p 0 0 P) : Nat) : Int) = vaS (layP G N) N P s (p + 1) := by show _ = (if _ then _ else _); rw [if_pos hz, if_pos (Or.inl c46)]
                  refine a_iload (pc := 60) (i := 4) (x := (((utS (layP G N) N s p 0 0 P) : Nat) : Int)) hC (by decide +kernel) 0 rfl ?_
                  refine a_goto (pc := 62) (off := 4) hC 66 (by decide +kernel) (by decide) ?_
                  refine a_istore_n (pc := 66) (q := 2) (i := 2) (lv' := [(2, vi ((((utS (layP G N) N s p 0 0 P) : Nat) : Int))), (4, vi ((((utS (layP G N) N s p 0 0 P) : Nat) : Int))), (3, vi ((p : Int))), (1, vi ((s : Int))), (0, .ref 50)]) hC (by decide +kernel) rfl (by decide) rfl ?_
                  refine a_iinc (pc := 67) (i := 3) (c := 1) (x := (p : Int)) (lv' := [(3, vi (((p : Int)) + 1)), (2, vi ((((utS (layP G N) N s p 0 0 P) : Nat) : Int))), (4, vi ((((utS (layP G N) N s p 0 0 P) : Nat) : Int))), (1, vi ((s : Int))), (0, .ref 50)]) hC (by decide +kernel) 2 rfl (by decide) rfl ?_
                  refine a_goto (pc := 70) (off := -52) hC 18 (by decide +kernel) (by decide) ?_
                  refine a_sub (lv' := [(3, vi (((p + 1) : Int))), (2, vi (vaS (layP G N) N P s (p + 1))), (1, vi ((s : Int))), (0, .ref 50)]) [0, 1, 3, 4] (by rw [← hst]; rfl) ?_
                  exact ih18 (p + 1) (by omega) (by omega)
                · skip
                  obtain ⟨v, hv, hvP⟩ : ∃ v : Nat, (vaS (layP G N) N P s p) = (v : Int) ∧ v < P := ⟨(vaS (layP G N) N P s p).toNat, by omega, by omega⟩
                  have hvn : (vaS (layP G N) N P s p).toNat = v := by omega
                  have hcu := cmU_in (layP G N) s (utS (layP G N) N s p 0 0 P) v
                  refine a_aload_n (pc := 49) (q := 0) (i := 0) (x := 50) hC (by decide +kernel) rfl 4 rfl ?_
                  refine a_iload_n (pc := 50) (q := 1) (i := 1) (x := (s : Int)) hC (by decide +kernel) rfl 3 rfl ?_
                  refine a_iload (pc := 51) (i := 4) (x := (((utS (layP G N) N s p 0 0 P) : Nat) : Int)) hC (by decide +kernel) 0 rfl ?_
                  refine a_iload_n (pc := 53) (q := 2) (i := 2) (x := vaS (layP G N) N P s p) hC (by decide +kernel) rfl 2 rfl ?_
                  refine g_top (y := (v : Int)) hv ?_
                  refine g_callV (pc := 54) (idx := 127) (i := 50) (av := [vi ((s : Int)), vi ((((utS (layP G N) N s p 0 0 P) : Nat) : Int)), vi ((v : Int))]) (rest := []) (g := uG (layP G N) 61 (vaF (layP G N) N P s)) (v := vi (cmU (uG (layP G N) 61 (vaF (layP G N) N P s)) s ((utS (layP G N) N s p 0 0 P)) v)) hC hro hty (by decide +kernel) rfl rfl k_M_compare (by decide +kernel) (by decide +kernel) (by decide +kernel) (ct_M_compare X.la X.dd K (uG (layP G N) 61 (vaF (layP G N) N P s)) N P s ((utS (layP G N) N s p 0 0 P)) v (by omega) (by omega) (by omega) (by omega) hcS) rfl rfl (by decide) (by first | decide | simp [Value.category]) ?_
                  refine g_top (y := cmU (layP G N) s (utS (layP G N) N s p 0 0 P) v) (cmU_congr (hcg 59 (by omega)) (hcg 60 (by omega)) _ _ _) ?_
                  refine a_if_le (pc := 57) (off := 8) hC 65 (by decide +kernel) (by decide) (by unfold inI; omega) (fun c57 => ?_) (fun c57 => ?_)
                  · skip
                    have hst : (vaS (layP G N) N P s p) = vaS (layP G N) N P s (p + 1) := by show _ = (if _ then _ else _); rw [if_pos hz, if_neg (by rw [hvn]; omega)]
                    refine a_iload_n (pc := 65) (q := 2) (i := 2) (x := vaS (layP G N) N P s p) hC (by decide +kernel) rfl 2 rfl ?_
                    refine a_istore_n (pc := 66) (q := 2) (i := 2) (lv' := [(2, vi (vaS (layP G N) N P s p)), (4, vi ((((utS (layP G N) N s p 0 0 P) : Nat) : Int))), (3, vi ((p : Int))), (1, vi ((s : Int))), (0, .ref 50)]) hC (by decide +kernel) rfl (by decide) rfl ?_
                    refine a_iinc (pc := 67) (i := 3) (c := 1) (x := (p : Int)) (lv' := [(3, vi (((p : Int)) + 1)), (2, vi (vaS (layP G N) N P s p)), (4, vi ((((utS (layP G N) N s p 0 0 P) : Nat) : Int))), (1, vi ((s : Int))), (0, .ref 50)]) hC (by decide +kernel) 2 rfl (by decide) rfl ?_
                    refine a_goto (pc := 70) (off := -52) hC 18 (by decide +kernel) (by decide) ?_
                    refine a_sub (lv' := [(3, vi (((p + 1) : Int))), (2, vi (vaS (layP G N) N P s (p + 1))), (1, vi ((s : Int))), (0, .ref 50)]) [0, 1, 3, 4] (by rw [← hst]; rfl) ?_
                    exact ih18 (p + 1) (by omega) (by omega)
                  · skip
                    have hst : (((utS (layP G N) N s p 0 0 P) : Nat) : Int) = vaS (layP G N) N P s (p + 1) := by show _ = (if _ then _ else _); rw [if_pos hz, if_pos (Or.inr (by rw [hvn]; omega))]
                    refine a_iload (pc := 60) (i := 4) (x := (((utS (layP G N) N s p 0 0 P) : Nat) : Int)) hC (by decide +kernel) 0 rfl ?_
                    refine a_goto (pc := 62) (off := 4) hC 66 (by decide +kernel) (by decide) ?_
                    refine a_istore_n (pc := 66) (q := 2) (i := 2) (lv' := [(2, vi ((((utS (layP G N) N s p 0 0 P) : Nat) : Int))), (4, vi ((((utS (layP G N) N s p 0 0 P) : Nat) : Int))), (3, vi ((p : Int))), (1, vi ((s : Int))), (0, .ref 50)]) hC (by decide +kernel) rfl (by decide) rfl ?_
                    refine a_iinc (pc := 67) (i := 3) (c := 1) (x := (p : Int)) (lv' := [(3, vi (((p : Int)) + 1)), (2, vi ((((utS (layP G N) N s p 0 0 P) : Nat) : Int))), (4, vi ((((utS (layP G N) N s p 0 0 P) : Nat) : Int))), (1, vi ((s : Int))), (0, .ref 50)]) hC (by decide +kernel) 2 rfl (by decide) rfl ?_
                    refine a_goto (pc := 70) (off := -52) hC 18 (by decide +kernel) (by decide) ?_
                    refine a_sub (lv' := [(3, vi (((p + 1) : Int))), (2, vi (vaS (layP G N) N P s (p + 1))), (1, vi ((s : Int))), (0, .ref 50)]) [0, 1, 3, 4] (by rw [← hst]; rfl) ?_
                    exact ih18 (p + 1) (by omega) (by omega)
        refine a_sub (lv' := [(3, vi ((0 : Int))), (2, vi (vaS (layP G N) N P s 0)), (1, vi ((s : Int))), (0, .ref 50)]) [0, 1, 2, 3] rfl ?_
        exact L18 _ 0 (Nat.lt_succ_self _) (by omega)
  refine a_sub (lv' := [(1, vi ((0 : Int))), (0, .ref 50)]) [0, 1] rfl ?_
  refine g_G (G' := uG (layP G N) 61 (vaF (layP G N) N P 0)) (by rw [vaF_0, uG_self]) ?_
  exact L6 _ 0 (Nat.lt_succ_self _) (by omega)
end
section
/-! the reference: its public methods that calculate -/
/-- the plans' numbers are those of worths -/
def RNum (G : GT) (N P : Nat) : Prop := P ≤ 243 ∧ ∀ p, p < P → (1 ≤ G 60 p ∧ G 60 p ≤ 60466176) ∧ ∀ s, s < N → -18139852800 ≤ G 59 (5 * p + s) ∧ G 59 (5 * p + s) ≤ 18139852800
theorem RNum.cm {G : GT} {N P : Nat} (h : RNum G N P) : CmOk G N P := ⟨h.1, fun s p q hs hp hq => by
  have h1 := (h.2 p hp).2 s hs
  have h2 := (h.2 q hq).1
  have := mul_in (x := G 59 (5 * p + s)) (y := G 60 q) (A := 18139852800) (B := 60466176) h1 (by omega) (by decide)
  unfold inL; omega⟩
theorem RNum.congr {G G' : GT} {N P : Nat} (h : RNum G N P) (h1 : G' 59 = G 59) (h2 : G' 60 = G 60) : RNum G' N P := ⟨h.1, fun p hp => by rw [h1, h2]; exact h.2 p hp⟩
/-- what the arithmetic must give for the reference: all plans' numbers are in their ranges -/
def RefOk (G : GT) (N : Nat) : Prop := RNum (layP G N) N (nPl G N)
theorem layV_off {G : GT} {N b : Nat} (h : b ≠ 50) (h2 : b ≠ 61) : layV G N b = layP G N b := by unfold layV; rw [coG_n h]; exact uG_n _ _ h2
theorem layV_61 (G : GT) (N : Nat) : layV G N 61 = vaF (layP G N) N (nPl G N) N := by unfold layV; rw [coG_n (by decide)]; exact uG_s _ _ _
theorem layV_k {G : GT} {N k : Nat} (h : k ≠ 18) (h2 : k ≠ 19) (h3 : k ≠ 14) : layV G N 50 k = G 50 k := by
  unfold layV; rw [coG_k h h2]; show vaG G N 50 k = _; unfold vaG; rw [uG_n _ _ (by decide), layP_50, pl0_k h3]
theorem MM.layV {G : GT} {N : Nat} (h : MM G N) : MM (layV G N) N := h.keep (fun a ha => by rw [layV_off (by omega) (by omega), layP_off (by omega)]) (fun k hk => layV_k (by omega) (by omega) (by omega))
theorem layV_va {G : GT} {N s : Nat} (hP : 1 ≤ nPl G N) (hs : s < N) : 0 ≤ layV G N 61 s ∧ layV G N 61 s < (nPl G N : Int) := by
  rw [layV_61]; unfold vaF; rw [if_pos hs]; exact ⟨vaS_nn _ hP, (vaS_in _ (Nat.le_refl _)).2⟩
theorem nPl_in {G : GT} {N : Nat} (h : MM G N) : 1 ≤ nPl G N ∧ nPl G N ≤ 243 ∧ plS G N = (nPl G N : Int) := by
  have := plS_243 h.2.2.2.1 h.2.1
  unfold nPl; omega
/-- the told plan's number is a plan's -/
theorem tpS_in {G : GT} {s a : Int} (hac : ∀ t, t < 5 → 0 ≤ G 52 t ∧ G 52 t ≤ 3) (hch : ∀ t, t < 5 → 0 < G 52 t → 0 ≤ G 55 t ∧ G 55 t < G 52 t) (ha : ∀ t : Nat, t < 5 → (t : Int) = s → 0 < G 52 t → 0 ≤ a ∧ a < G 52 t) : ∀ t, t ≤ 5 → (tpS G s a t).2 = plS G t ∧ 0 ≤ (tpS G s a t).1 ∧ (tpS G s a t).1 < plS G t
  | 0, _ => ⟨rfl, by show (0 : Int) ≤ 0; decide, by show (0 : Int) < 1; decide⟩
  | t + 1, ht => by
    have ih := tpS_in hac hch ha t (by omega)
    have h1 := hac t (by omega)
    have h2 := plS_in hac t (by omega)
    unfold tpS plS
    by_cases h0 : 0 < G 52 t
    · rw [if_pos h0, if_neg (show ¬ G 52 t = 0 by omega)]
      have hx : 0 ≤ (if (t : Int) = s then a else G 55 t) ∧ (if (t : Int) = s then a else G 55 t) < G 52 t := by
        split
        · next e => exact ha t (by omega) e h0
        · exact hch t (by omega) h0
      generalize (if (t : Int) = s then a else G 55 t) = x at hx ⊢
      refine ⟨by show (tpS G s a t).2 * G 52 t = _; rw [ih.1], ?_, ?_⟩
      · show 0 ≤ (tpS G s a t).1 + (tpS G s a t).2 * x
        rw [ih.1]
        have := Int.mul_nonneg (by omega : 0 ≤ plS G t) hx.1
        omega
      · show (tpS G s a t).1 + (tpS G s a t).2 * x < plS G t * G 52 t
        rw [ih.1]
        have h3 : plS G t * x ≤ plS G t * (G 52 t - 1) := Int.mul_le_mul_of_nonneg_left (by omega) (by omega)
        rw [Int.mul_sub, Int.mul_one] at h3
        omega
    · rw [if_neg h0, if_pos (show G 52 t = 0 by omega)]
      exact ih
/-- the chosen acts are acts -/
def ChOk (G : GT) : Prop := ∀ t, t < 5 → 0 < G 52 t → 0 ≤ G 55 t ∧ G 55 t < G 52 t
def tpN (G : GT) (N : Nat) (s a : Int) : Nat := (tpS G s a N).1.toNat
theorem tpS_congr {G G' : GT} (h2 : G' 52 = G 52) (h5 : G' 55 = G 55) (s a : Int) : ∀ t, tpS G' s a t = tpS G s a t
  | 0 => rfl
  | t + 1 => by unfold tpS; rw [tpS_congr h2 h5 s a t, h2, h5]
theorem plS_congr {G G' : GT} (h : G' 52 = G 52) : ∀ n, plS G' n = plS G n
  | 0 => rfl
  | n + 1 => by unfold plS; rw [plS_congr h n, h]

set_option maxRecDepth 100000 in
set_option maxHeartbeats 4000000 in
theorem ct_M_answerWorth (l : Launch) (D : va_G) (K : K5) (G : GT) (N P s p : Nat) (hs : s < N) (hN5 : N ≤ 5) (hp0 : p < P) (hrn : RNum G N P) : Ct l D K y_M_answerWorth c_M_answerWorth 3 (some .int) 2 55 [.ref 50, vi ((s : Int)), vi ((p : Int))] G (some (vi 1)) (mansG G (G 59 (5 * p + s)) (G 60 p)) := by
  refine Ct.intro (by decide +kernel) (Nat.le_of_ble_eq_true rfl) ?_
  intro X hro hty hC hE
  have hP := hrn.1
  have hr := hrn.2 p hp0
  have hra := abs_in (hr.2 s hs) (by decide)
  refine a_aload_n (pc := 0) (q := 0) (i := 0) (x := 50) hC (by decide +kernel) rfl 0 rfl ?_
  refine a_aload_n (pc := 1) (q := 0) (i := 0) (x := 50) hC (by decide +kernel) rfl 0 rfl ?_
  refine g_get (pc := 2) (idx := 47) (ci := 6) (v := .ref 59) hC 50 15 (by decide +kernel) rfl rfl rfl rfl wrM (by decide) rfl (by decide +kernel) ?_
  refine a_iconst (pc := 5) (c := 5) hC (by decide +kernel) ?_
  refine a_iload_n (pc := 6) (q := 2) (i := 2) (x := (p : Int)) hC (by decide +kernel) rfl 2 rfl ?_
  refine a_imul (pc := 7) hC (by decide +kernel) ?_
  refine a_iload_n (pc := 8) (q := 1) (i := 1) (x := (s : Int)) hC (by decide +kernel) rfl 1 rfl ?_
  refine a_iadd (pc := 9) hC (by decide +kernel) ?_
  refine g_top (y := ((5 * p + s : Nat) : Int)) (by omega) ?_
  refine g_lald (pc := 10) (a := 59) (j := 5 * p + s) hC hty (by decide +kernel) rfl (by omega) (by first | decide | omega) ?_
  refine a_aload_n (pc := 11) (q := 0) (i := 0) (x := 50) hC (by decide +kernel) rfl 0 rfl ?_
  refine g_get (pc := 12) (idx := 50) (ci := 6) (v := .ref 60) hC 50 16 (by decide +kernel) rfl rfl rfl rfl wrM (by decide) rfl (by decide +kernel) ?_
  refine a_iload_n (pc := 15) (q := 2) (i := 2) (x := (p : Int)) hC (by decide +kernel) rfl 2 rfl ?_
  refine g_lald (pc := 16) (a := 60) (j := p) hC hty (by decide +kernel) rfl (by omega) (by first | decide | omega) ?_
  refine g_callV (pc := 17) (idx := 149) (i := 50) (av := [vl (G 59 (5 * p + s)), vl (G 60 p)]) (rest := []) (g := mansG G (G 59 (5 * p + s)) (G 60 p)) (v := vi 1) hC hro hty (by decide +kernel) rfl rfl k_M_answer (by decide +kernel) (by decide +kernel) (by decide +kernel) (ct_M_answer X.la X.dd K G (G 59 (5 * p + s)) (G 60 p) hra ⟨hr.1.1, by have := hr.1; unfold inL; omega⟩) rfl rfl (by decide) (by first | decide | simp [Value.category]) ?_
  exact g_iret (pc := 20) hC hE (by decide +kernel) rfl rfl

set_option maxRecDepth 100000 in
set_option maxHeartbeats 4000000 in
theorem ct_M_value_no (l : Launch) (D : va_G) (K : K5) (G : GT) (N : Nat) (s : Int)  (hsi : inI s) (hmm : MM G N) (hno : mS G s = 0) : Ct l D K y_M_value c_M_value 2 (some .int) 5 117 [.ref 50, vi s] G (some (vi (-1))) (m0 G) := by
  refine Ct.intro (by decide +kernel) (Nat.le_of_ble_eq_true rfl) ?_
  intro X hro hty hC hE
  obtain ⟨hn, hN5, hsh, hac, hpa, hwe, hth, hch⟩ := id hmm
  refine a_aload_n (pc := 0) (q := 0) (i := 0) (x := 50) hC (by decide +kernel) rfl 0 rfl ?_
  refine a_iconst (pc := 1) (c := 0) hC (by decide +kernel) ?_
  refine g_put (pc := 2) (idx := 62) (ci := 6) (x := 0) hC 50 0 (by decide +kernel) rfl rfl (congrArg (fun z => vi z) (up_s _ _ _)) rfl wrM (by decide) rfl (by decide +kernel) rfl (ok_int _) ?_
  refine g_G (G' := m0 G) rfl ?_
  refine a_aload_n (pc := 5) (q := 0) (i := 0) (x := 50) hC (by decide +kernel) rfl 0 rfl ?_
  refine a_iload_n (pc := 6) (q := 1) (i := 1) (x := s) hC (by decide +kernel) rfl 1 rfl ?_
  refine g_callV (pc := 7) (idx := 79) (i := 50) (av := [vi s]) (rest := []) (g := m0 G) (v := vi (mS (m0 G) s)) hC hro hty (by decide +kernel) rfl rfl k_M_isState (by decide +kernel) (by decide +kernel) (by decide +kernel) (ct_M_isState X.la X.dd K (m0 G) N s hsi hmm.m0) rfl rfl (by decide) (by first | decide | simp [Value.category]) ?_
  refine g_top (y := mS G s) (mS_m0 _ _) ?_
  refine a_if_ne (pc := 10) (off := 5) hC 15 (by decide +kernel) (by decide) (by unfold inI; omega) (fun c10 => ?_) (fun c10 => ?_)
  · skip
    exact absurd hno c10
  · skip
    refine a_iconst (pc := 13) (c := -1) hC (by decide +kernel) ?_
    exact g_iret (pc := 14) hC hE (by decide +kernel) rfl rfl

set_option maxRecDepth 100000 in
set_option maxHeartbeats 4000000 in
theorem ct_M_value (l : Launch) (D : va_G) (K : K5) (G : GT) (N s : Nat) (hs : s < N) (hmm : MM G N) (hro0 : RefOk (m0 G) N) : Ct l D K y_M_value c_M_value 2 (some .int) 5 117 [.ref 50, vi ((s : Int))] G (some (vi 1)) (mansG (layV (m0 G) N) ((layV (m0 G) N) 59 (5 * ((layV (m0 G) N) 61 s).toNat + s)) ((layV (m0 G) N) 60 ((layV (m0 G) N) 61 s).toNat)) := by
  refine Ct.intro (by decide +kernel) (Nat.le_of_ble_eq_true rfl) ?_
  intro X hro hty hC hE
  obtain ⟨hn, hN5, hsh, hac, hpa, hwe, hth, hch⟩ := id hmm
  have hm1 := hmm.m0
  obtain ⟨hP1, hP2, hP3⟩ := nPl_in hm1
  obtain ⟨P, hPe⟩ : ∃ P : Nat, nPl (m0 G) N = P := ⟨_, rfl⟩
  have hrnV : RNum (layV (m0 G) N) N (nPl (m0 G) N) := hro0.congr (layV_off (by decide) (by decide)) (layV_off (by decide) (by decide))
  rw [hPe] at hP1 hP2 hP3 hrnV
  obtain ⟨v, hv, hvP⟩ : ∃ v : Nat, (layV (m0 G) N) 61 s = (v : Int) ∧ v < P := ⟨((layV (m0 G) N) 61 s).toNat, by have := layV_va (G := m0 G) (by omega) hs; omega, by have := layV_va (G := m0 G) (by omega) hs; omega⟩
  have hvn : ((layV (m0 G) N) 61 s).toNat = v := by omega
  refine a_aload_n (pc := 0) (q := 0) (i := 0) (x := 50) hC (by decide +kernel) rfl 0 rfl ?_
  refine a_iconst (pc := 1) (c := 0) hC (by decide +kernel) ?_
  refine g_put (pc := 2) (idx := 62) (ci := 6) (x := 0) hC 50 0 (by decide +kernel) rfl rfl (congrArg (fun z => vi z) (up_s _ _ _)) rfl wrM (by decide) rfl (by decide +kernel) rfl (ok_int _) ?_
  refine g_G (G' := m0 G) rfl ?_
  refine a_aload_n (pc := 5) (q := 0) (i := 0) (x := 50) hC (by decide +kernel) rfl 0 rfl ?_
  refine a_iload_n (pc := 6) (q := 1) (i := 1) (x := (s : Int)) hC (by decide +kernel) rfl 1 rfl ?_
  refine g_callV (pc := 7) (idx := 79) (i := 50) (av := [vi ((s : Int))]) (rest := []) (g := m0 G) (v := vi (mS (m0 G) ((s : Int)))) hC hro hty (by decide +kernel) rfl rfl k_M_isState (by decide +kernel) (by decide +kernel) (by decide +kernel) (ct_M_isState X.la X.dd K (m0 G) N ((s : Int)) (by unfold inI; omega) hmm.m0) rfl rfl (by decide) (by first | decide | simp [Value.category]) ?_
  refine g_top (y := 1) (by rw [mS_m0]; exact mS_ok hmm hs) ?_
  refine a_if_ne (pc := 10) (off := 5) hC 15 (by decide +kernel) (by decide) (by unfold inI; omega) (fun c10 => ?_) (fun c10 => ?_)
  · skip
    refine a_aload_n (pc := 15) (q := 0) (i := 0) (x := 50) hC (by decide +kernel) rfl 0 rfl ?_
    refine g_callV0 (pc := 16) (idx := 153) (i := 50) (av := []) (rest := []) (g := layV (m0 G) N) hC hro hty (by decide +kernel) rfl rfl k_M_layValues (by decide +kernel) (by decide +kernel) (by decide +kernel) (ct_M_layValues X.la X.dd K (m0 G) N hm1 hro0.cm) rfl rfl (by decide) (by first | decide | simp [Value.category]) ?_
    refine a_aload_n (pc := 19) (q := 0) (i := 0) (x := 50) hC (by decide +kernel) rfl 0 rfl ?_
    refine a_iload_n (pc := 20) (q := 1) (i := 1) (x := (s : Int)) hC (by decide +kernel) rfl 1 rfl ?_
    refine a_aload_n (pc := 21) (q := 0) (i := 0) (x := 50) hC (by decide +kernel) rfl 0 rfl ?_
    refine g_get (pc := 22) (idx := 53) (ci := 6) (v := .ref 61) hC 50 17 (by decide +kernel) rfl rfl rfl rfl wrM (by decide) rfl (by decide +kernel) ?_
    refine a_iload_n (pc := 25) (q := 1) (i := 1) (x := (s : Int)) hC (by decide +kernel) rfl 1 rfl ?_
    refine g_iald (pc := 26) (a := 61) (j := s) hC hty (by decide +kernel) rfl (by omega) (by first | decide | omega) ?_
    refine g_top (y := (v : Int)) hv ?_
    refine g_callV (pc := 27) (idx := 156) (i := 50) (av := [vi ((s : Int)), vi ((v : Int))]) (rest := []) (g := mansG (layV (m0 G) N) ((layV (m0 G) N) 59 (5 * v + s)) ((layV (m0 G) N) 60 v)) (v := vi 1) hC hro hty (by decide +kernel) rfl rfl k_M_answerWorth (by decide +kernel) (by decide +kernel) (by decide +kernel) (ct_M_answerWorth X.la X.dd K (layV (m0 G) N) N P s v (by omega) (by omega) (by omega) hrnV) rfl rfl (by decide) (by first | decide | simp [Value.category]) ?_
    exact g_iret (pc := 30) hC hE (by decide +kernel) rfl (by rw [hvn])
  · skip
    exact absurd c10 (by decide)

set_option maxRecDepth 100000 in
set_option maxHeartbeats 4000000 in
theorem ct_M_worth_no (l : Launch) (D : va_G) (K : K5) (G : GT) (N : Nat) (s : Int)  (hsi : inI s) (hmm : MM G N) (hno : mS G s = 0) : Ct l D K y_M_worth c_M_worth 2 (some .int) 4 93 [.ref 50, vi s] G (some (vi (-1))) (m0 G) := by
  refine Ct.intro (by decide +kernel) (Nat.le_of_ble_eq_true rfl) ?_
  intro X hro hty hC hE
  obtain ⟨hn, hN5, hsh, hac, hpa, hwe, hth, hch⟩ := id hmm
  refine a_aload_n (pc := 0) (q := 0) (i := 0) (x := 50) hC (by decide +kernel) rfl 0 rfl ?_
  refine a_iconst (pc := 1) (c := 0) hC (by decide +kernel) ?_
  refine g_put (pc := 2) (idx := 62) (ci := 6) (x := 0) hC 50 0 (by decide +kernel) rfl rfl (congrArg (fun z => vi z) (up_s _ _ _)) rfl wrM (by decide) rfl (by decide +kernel) rfl (ok_int _) ?_
  refine g_G (G' := m0 G) rfl ?_
  refine a_aload_n (pc := 5) (q := 0) (i := 0) (x := 50) hC (by decide +kernel) rfl 0 rfl ?_
  refine a_iload_n (pc := 6) (q := 1) (i := 1) (x := s) hC (by decide +kernel) rfl 1 rfl ?_
  refine g_callV (pc := 7) (idx := 79) (i := 50) (av := [vi s]) (rest := []) (g := m0 G) (v := vi (mS (m0 G) s)) hC hro hty (by decide +kernel) rfl rfl k_M_isState (by decide +kernel) (by decide +kernel) (by decide +kernel) (ct_M_isState X.la X.dd K (m0 G) N s hsi hmm.m0) rfl rfl (by decide) (by first | decide | simp [Value.category]) ?_
  refine g_top (y := mS G s) (mS_m0 _ _) ?_
  refine a_if_ne (pc := 10) (off := 5) hC 15 (by decide +kernel) (by decide) (by unfold inI; omega) (fun c10 => ?_) (fun c10 => ?_)
  · skip
    exact absurd hno c10
  · skip
    refine a_iconst (pc := 13) (c := -1) hC (by decide +kernel) ?_
    exact g_iret (pc := 14) hC hE (by decide +kernel) rfl rfl

set_option maxRecDepth 100000 in
set_option maxHeartbeats 4000000 in
theorem ct_M_worth (l : Launch) (D : va_G) (K : K5) (G : GT) (N s : Nat) (hs : s < N) (hmm : MM G N) (hch2 : ChOk G) (hro0 : RefOk (m0 G) N) : Ct l D K y_M_worth c_M_worth 2 (some .int) 4 93 [.ref 50, vi ((s : Int))] G (some (vi 1)) (mansG (layP (m0 G) N) ((layP (m0 G) N) 59 (5 * tpN G N (-1) 0 + s)) ((layP (m0 G) N) 60 (tpN G N (-1) 0))) := by
  refine Ct.intro (by decide +kernel) (Nat.le_of_ble_eq_true rfl) ?_
  intro X hro hty hC hE
  obtain ⟨hn, hN5, hsh, hac, hpa, hwe, hth, hch⟩ := id hmm
  have hm1 := hmm.m0
  obtain ⟨hP1, hP2, hP3⟩ := nPl_in hm1
  obtain ⟨P, hPe⟩ : ∃ P : Nat, nPl (m0 G) N = P := ⟨_, rfl⟩
  have hrnP : RNum (layP (m0 G) N) N (nPl (m0 G) N) := hro0
  rw [hPe] at hP1 hP2 hP3 hrnP
  have hpl0 : plS G N = (P : Int) := by rw [← hP3]; exact (plS_congr (m0_n (by decide)) N).symm
  obtain ⟨t, ht, htP⟩ : ∃ t : Nat, (tpS G (-1) 0 N).1 = (t : Int) ∧ t < P := ⟨(tpS G (-1) 0 N).1.toNat, by have := (tpS_in (s := (-1)) (a := 0) hac hch2 (fun t _ e _ => by omega) N hN5).2; omega, by have := (tpS_in (s := (-1)) (a := 0) hac hch2 (fun t _ e _ => by omega) N hN5).2; omega⟩
  have htn : tpN G N (-1) 0 = t := by unfold tpN; omega
  refine a_aload_n (pc := 0) (q := 0) (i := 0) (x := 50) hC (by decide +kernel) rfl 0 rfl ?_
  refine a_iconst (pc := 1) (c := 0) hC (by decide +kernel) ?_
  refine g_put (pc := 2) (idx := 62) (ci := 6) (x := 0) hC 50 0 (by decide +kernel) rfl rfl (congrArg (fun z => vi z) (up_s _ _ _)) rfl wrM (by decide) rfl (by decide +kernel) rfl (ok_int _) ?_
  refine g_G (G' := m0 G) rfl ?_
  refine a_aload_n (pc := 5) (q := 0) (i := 0) (x := 50) hC (by decide +kernel) rfl 0 rfl ?_
  refine a_iload_n (pc := 6) (q := 1) (i := 1) (x := (s : Int)) hC (by decide +kernel) rfl 1 rfl ?_
  refine g_callV (pc := 7) (idx := 79) (i := 50) (av := [vi ((s : Int))]) (rest := []) (g := m0 G) (v := vi (mS (m0 G) ((s : Int)))) hC hro hty (by decide +kernel) rfl rfl k_M_isState (by decide +kernel) (by decide +kernel) (by decide +kernel) (ct_M_isState X.la X.dd K (m0 G) N ((s : Int)) (by unfold inI; omega) hmm.m0) rfl rfl (by decide) (by first | decide | simp [Value.category]) ?_
  refine g_top (y := 1) (by rw [mS_m0]; exact mS_ok hmm hs) ?_
  refine a_if_ne (pc := 10) (off := 5) hC 15 (by decide +kernel) (by decide) (by unfold inI; omega) (fun c10 => ?_) (fun c10 => ?_)
  · skip
    refine a_aload_n (pc := 15) (q := 0) (i := 0) (x := 50) hC (by decide +kernel) rfl 0 rfl ?_
    refine g_callV0 (pc := 16) (idx := 130) (i := 50) (av := []) (rest := []) (g := layP (m0 G) N) hC hro hty (by decide +kernel) rfl rfl k_M_layPlans (by decide +kernel) (by decide +kernel) (by decide +kernel) (ct_M_layPlans X.la X.dd K (m0 G) N hm1) rfl rfl (by decide) (by first | decide | simp [Value.category]) ?_
    refine a_aload_n (pc := 19) (q := 0) (i := 0) (x := 50) hC (by decide +kernel) rfl 0 rfl ?_
    refine a_iload_n (pc := 20) (q := 1) (i := 1) (x := (s : Int)) hC (by decide +kernel) rfl 1 rfl ?_
    refine a_aload_n (pc := 21) (q := 0) (i := 0) (x := 50) hC (by decide +kernel) rfl 0 rfl ?_
    refine a_iconst (pc := 22) (c := -1) hC (by decide +kernel) ?_
    refine a_iconst (pc := 23) (c := 0) hC (by decide +kernel) ?_
    refine g_callV (pc := 24) (idx := 168) (i := 50) (av := [vi (-1), vi 0]) (rest := [vi ((s : Int)), .ref 50]) (g := layP (m0 G) N) (v := vi ((tpS (layP (m0 G) N) (-1) 0 N).1)) hC hro hty (by decide +kernel) rfl rfl k_M_toldPlan (by decide +kernel) (by decide +kernel) (by decide +kernel) (ct_M_toldPlan X.la X.dd K (layP (m0 G) N) N (-1) 0 ⟨by decide, by decide⟩ hm1.lay) rfl rfl (by decide) (by first | decide | simp [Value.category]) ?_
    refine g_top (y := (t : Int)) (by rw [tpS_congr (by rw [layP_off (by omega), m0_n (by decide)]) (by rw [layP_off (by omega), m0_n (by decide)])]; exact ht) ?_
    refine g_callV (pc := 27) (idx := 156) (i := 50) (av := [vi ((s : Int)), vi ((t : Int))]) (rest := []) (g := mansG (layP (m0 G) N) ((layP (m0 G) N) 59 (5 * t + s)) ((layP (m0 G) N) 60 t)) (v := vi 1) hC hro hty (by decide +kernel) rfl rfl k_M_answerWorth (by decide +kernel) (by decide +kernel) (by decide +kernel) (ct_M_answerWorth X.la X.dd K (layP (m0 G) N) N P s t (by omega) (by omega) (by omega) hrnP) rfl rfl (by decide) (by first | decide | simp [Value.category]) ?_
    exact g_iret (pc := 30) hC hE (by decide +kernel) rfl (by rw [htn])
  · skip
    exact absurd c10 (by decide)

set_option maxRecDepth 100000 in
set_option maxHeartbeats 4000000 in
theorem ct_M_settled (l : Launch) (D : va_G) (K : K5) (G : GT) (N : Nat) (hmm : MM G N) (hch2 : ChOk G) (hro0 : RefOk (m0 G) N) : Ct l D K y_M_settled c_M_settled 1 (some .int) 5 117 [.ref 50] G (some (vi (bZ (haS (layV (m0 G) N) (tpN G N (-1) 0) N)))) (layV (m0 G) N) := by
  refine Ct.intro (by decide +kernel) (Nat.le_of_ble_eq_true rfl) ?_
  intro X hro hty hC hE
  obtain ⟨hn, hN5, hsh, hac, hpa, hwe, hth, hch⟩ := id hmm
  have hm1 := hmm.m0
  obtain ⟨hP1, hP2, hP3⟩ := nPl_in hm1
  obtain ⟨P, hPe⟩ : ∃ P : Nat, nPl (m0 G) N = P := ⟨_, rfl⟩
  have hrnV : RNum (layV (m0 G) N) N (nPl (m0 G) N) := hro0.congr (layV_off (by decide) (by decide)) (layV_off (by decide) (by decide))
  rw [hPe] at hP1 hP2 hP3 hrnV
  have hpl0 : plS G N = (P : Int) := by rw [← hP3]; exact (plS_congr (m0_n (by decide)) N).symm
  obtain ⟨t, ht, htP⟩ : ∃ t : Nat, (tpS G (-1) 0 N).1 = (t : Int) ∧ t < P := ⟨(tpS G (-1) 0 N).1.toNat, by have := (tpS_in (s := (-1)) (a := 0) hac hch2 (fun t _ e _ => by omega) N hN5).2; omega, by have := (tpS_in (s := (-1)) (a := 0) hac hch2 (fun t _ e _ => by omega) N hN5).2; omega⟩
  have htn : tpN G N (-1) 0 = t := by unfold tpN; omega
  have hb1 := bZ_01 (haS (layV (m0 G) N) t N)
  refine a_aload_n (pc := 0) (q := 0) (i := 0) (x := 50) hC (by decide +kernel) rfl 0 rfl ?_
  refine a_iconst (pc := 1) (c := 0) hC (by decide +kernel) ?_
  refine g_put (pc := 2) (idx := 62) (ci := 6) (x := 0) hC 50 0 (by decide +kernel) rfl rfl (congrArg (fun z => vi z) (up_s _ _ _)) rfl wrM (by decide) rfl (by decide +kernel) rfl (ok_int _) ?_
  refine g_G (G' := m0 G) rfl ?_
  refine a_aload_n (pc := 5) (q := 0) (i := 0) (x := 50) hC (by decide +kernel) rfl 0 rfl ?_
  refine g_callV0 (pc := 6) (idx := 153) (i := 50) (av := []) (rest := []) (g := layV (m0 G) N) hC hro hty (by decide +kernel) rfl rfl k_M_layValues (by decide +kernel) (by decide +kernel) (by decide +kernel) (ct_M_layValues X.la X.dd K (m0 G) N hm1 hro0.cm) rfl rfl (by decide) (by first | decide | simp [Value.category]) ?_
  refine a_aload_n (pc := 9) (q := 0) (i := 0) (x := 50) hC (by decide +kernel) rfl 0 rfl ?_
  refine a_aload_n (pc := 10) (q := 0) (i := 0) (x := 50) hC (by decide +kernel) rfl 0 rfl ?_
  refine a_iconst (pc := 11) (c := -1) hC (by decide +kernel) ?_
  refine a_iconst (pc := 12) (c := 0) hC (by decide +kernel) ?_
  refine g_callV (pc := 13) (idx := 168) (i := 50) (av := [vi (-1), vi 0]) (rest := [.ref 50]) (g := layV (m0 G) N) (v := vi ((tpS (layV (m0 G) N) (-1) 0 N).1)) hC hro hty (by decide +kernel) rfl rfl k_M_toldPlan (by decide +kernel) (by decide +kernel) (by decide +kernel) (ct_M_toldPlan X.la X.dd K (layV (m0 G) N) N (-1) 0 ⟨by decide, by decide⟩ hm1.layV) rfl rfl (by decide) (by first | decide | simp [Value.category]) ?_
  refine g_top (y := (t : Int)) (by rw [tpS_congr (by rw [layV_off (by decide) (by decide), layP_off (by omega), m0_n (by decide)]) (by rw [layV_off (by decide) (by decide), layP_off (by omega), m0_n (by decide)])]; exact ht) ?_
  refine g_callV (pc := 16) (idx := 146) (i := 50) (av := [vi ((t : Int))]) (rest := []) (g := layV (m0 G) N) (v := vi (bZ (haS (layV (m0 G) N) t N))) hC hro hty (by decide +kernel) rfl rfl k_M_hasAllValues (by decide +kernel) (by decide +kernel) (by decide +kernel) (ct_M_hasAllValues X.la X.dd K (layV (m0 G) N) N P t htP hm1.layV hrnV.cm (fun z hz => by rw [← hPe]; exact layV_va (by omega) hz)) rfl rfl (by decide) (by first | decide | simp [Value.category]) ?_
  refine a_if_eq (pc := 19) (off := 7) hC 26 (by decide +kernel) (by decide) (by unfold inI; omega) (fun c19 => ?_) (fun c19 => ?_)
  · skip
    refine a_iconst (pc := 26) (c := 0) hC (by decide +kernel) ?_
    exact g_iret (pc := 27) hC hE (by decide +kernel) (by rw [htn]; omega) rfl
  · skip
    refine a_iconst (pc := 22) (c := 1) hC (by decide +kernel) ?_
    refine a_goto (pc := 23) (off := 4) hC 27 (by decide +kernel) (by decide) ?_
    exact g_iret (pc := 27) hC hE (by decide +kernel) (by rw [htn]; omega) rfl

set_option maxRecDepth 100000 in
set_option maxHeartbeats 4000000 in
theorem ct_M_upper (l : Launch) (D : va_G) (K : K5) (G : GT)  : Ct l D K y_M_upper c_M_upper 1 (some .long) 0 0 [.ref 50] G (some (vl (G 50 9))) (m0 G) := by
  refine Ct.intro (by decide +kernel) (Nat.le_of_ble_eq_true rfl) ?_
  intro X hro hty hC hE
  refine a_aload_n (pc := 0) (q := 0) (i := 0) (x := 50) hC (by decide +kernel) rfl 0 rfl ?_
  refine a_iconst (pc := 1) (c := 0) hC (by decide +kernel) ?_
  refine g_put (pc := 2) (idx := 62) (ci := 6) (x := 0) hC 50 0 (by decide +kernel) rfl rfl (congrArg (fun z => vi z) (up_s _ _ _)) rfl wrM (by decide) rfl (by decide +kernel) rfl (ok_int _) ?_
  refine g_G (G' := m0 G) rfl ?_
  refine a_aload_n (pc := 5) (q := 0) (i := 0) (x := 50) hC (by decide +kernel) rfl 0 rfl ?_
  refine g_get (pc := 6) (idx := 69) (ci := 6) (v := vl ((m0 G) 50 9)) hC 50 9 (by decide +kernel) rfl rfl rfl rfl wrM (by decide) rfl (by decide +kernel) ?_
  refine g_topl (y := G 50 9) (m0_k (by decide)) ?_
  exact g_lret (pc := 9) hC hE (by decide +kernel) rfl rfl

set_option maxRecDepth 100000 in
set_option maxHeartbeats 4000000 in
theorem ct_M_lower (l : Launch) (D : va_G) (K : K5) (G : GT)  : Ct l D K y_M_lower c_M_lower 1 (some .long) 0 0 [.ref 50] G (some (vl (G 50 10))) (m0 G) := by
  refine Ct.intro (by decide +kernel) (Nat.le_of_ble_eq_true rfl) ?_
  intro X hro hty hC hE
  refine a_aload_n (pc := 0) (q := 0) (i := 0) (x := 50) hC (by decide +kernel) rfl 0 rfl ?_
  refine a_iconst (pc := 1) (c := 0) hC (by decide +kernel) ?_
  refine g_put (pc := 2) (idx := 62) (ci := 6) (x := 0) hC 50 0 (by decide +kernel) rfl rfl (congrArg (fun z => vi z) (up_s _ _ _)) rfl wrM (by decide) rfl (by decide +kernel) rfl (ok_int _) ?_
  refine g_G (G' := m0 G) rfl ?_
  refine a_aload_n (pc := 5) (q := 0) (i := 0) (x := 50) hC (by decide +kernel) rfl 0 rfl ?_
  refine g_get (pc := 6) (idx := 33) (ci := 6) (v := vl ((m0 G) 50 10)) hC 50 10 (by decide +kernel) rfl rfl rfl rfl wrM (by decide) rfl (by decide +kernel) ?_
  refine g_topl (y := G 50 10) (m0_k (by decide)) ?_
  exact g_lret (pc := 9) hC hE (by decide +kernel) rfl rfl
end
